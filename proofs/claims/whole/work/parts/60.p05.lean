section
variable {b0 N : Nat} {K S : cS} {rd : Nat} {t : Nat → Int32} {n p : Nat} {R : rS}
/-! Does a date begin here? -/
def dBj (t : Nat → Int32) (n p : Nat) : Nat → Nat → Bool
  | _, 0 => ch t n (p + 4) == 45
  | j, m + 1 => decide (0 ≤ dC (I 10) (pk t n (p + j))) && dBj t n p (j + 1) m
theorem dBc (hT : Tx t n) (hp : p ≤ n) (hC : CT b0 S rd t n p) : ∀ (m j k : Nat), j + m = 4 → m < k → x_R_dateBegins_2 N b0 K k rd (I j) S = some (if dBj t n p j m then 1 else 0) := by
  have hn := hT.1
  intro m
  induction m with
  | zero =>
    intro j k hj hk
    obtain ⟨k, rfl⟩ : ∃ i, k = i + 1 := ⟨k - 1, by omega⟩
    obtain rfl : j = 4 := by omega
    unfold x_R_dateBegins_2 x_R_dateBegins_2F dBj
    rw [if_pos (by decide)]
    simp only [hC.at_, hC.len, hC.txt, b1_some]
    rw [show I p + 4 = I (p + 4) from I_add p 4]
    by_cases hc : p + 4 < n
    · rw [if_neg (I_le0 hc (by omega)), hC.chr hn hc, ch_in hc]
      simp only [b1_some, beq_iff_eq]
      split <;> rfl
    · rw [if_pos (I_le1 (by omega) (by omega)), ch_out hc]; rfl
  | succ m ih =>
    intro j k hj hk
    obtain ⟨k, rfl⟩ : ∃ i, k = i + 1 := ⟨k - 1, by omega⟩
    unfold x_R_dateBegins_2 x_R_dateBegins_2F dBj
    rw [if_neg (show ¬ (4 : Int32) ≤ I j from I_le0 (a := 4) (by omega) (by omega))]
    simp only [hC.at_, hC.ifk, b1_some]
    rw [I_add, digitAt_eq hC hn (by omega)]
    simp only [b1_some]
    rw [show (10 : Int32) = I 10 from rfl]
    by_cases h : 0 ≤ dC (I 10) (pk t n (p + j))
    · rw [if_pos h, I_1, ih (j + 1) k (by omega) (by omega)]; simp [h]
    · rw [if_neg h]; simp [h]
theorem dBr (hT : Tx t n) (h4 : p + 4 < n) (hR : RT R t n p) : ∀ (m j k : Nat), j + m = 4 → m < k → m_isDate_21 N k 1 (I j) R = some (if dBj t n p j m then 1 else 0) := by
  have hn := hT.1
  intro m
  induction m with
  | zero =>
    intro j k hj hk
    obtain ⟨k, rfl⟩ : ∃ i, k = i + 1 := ⟨k - 1, by omega⟩
    obtain rfl : j = 4 := by omega
    unfold m_isDate_21 m_isDate_21F m_isDate_52 dBj
    rw [if_pos (by decide), if_neg (by decide), hR.2.1, show I p + 4 = I (p + 4) from I_add p 4, rL_eq (by show _ < 240; omega) (by omega), hR.2.2 _ h4, ch_in h4]
    simp only [b1_some, beq_iff_eq]
    split <;> rfl
  | succ m ih =>
    intro j k hj hk
    obtain ⟨k, rfl⟩ : ∃ i, k = i + 1 := ⟨k - 1, by omega⟩
    unfold m_isDate_21 m_isDate_21F dBj
    rw [if_neg (show ¬ (4 : Int32) ≤ I j from I_le0 (a := 4) (by omega) (by omega)), if_neg (by decide), hR.2.1, I_add, rL_eq (by show _ < 240; omega) (by omega), hR.2.2 _ (by omega)]
    simp only [b1_some]
    rw [← ch_in (t := t) (n := n) (show p + j < n by omega), isDigit_eq hT]
    simp only [b1_some]
    by_cases h : 0 ≤ dC (I 10) (pk t n (p + j))
    · rw [if_pos h, I_1, ih (j + 1) k (by omega) (by omega)]; simp [h]
    · rw [if_neg h, I_1]
      obtain ⟨k, rfl⟩ : ∃ i, k = i + 1 := ⟨k - 1, by omega⟩
      unfold m_isDate_21 m_isDate_21F m_isDate_52
      simp [h]
theorem pr_isDate (hT : Tx t n) (hN : 1000 ≤ N) (hp : p ≤ n) (hC : CT b0 S rd t n p) (hR : RT R t n p) :
    x_R_dateBegins N b0 K rd S = some (if dBj t n p 0 4 then 1 else 0) ∧ m_isDate N R = some (if dBj t n p 0 4 then 1 else 0) := by
  have hn := hT.1
  refine ⟨dBc hT hp hC 4 0 N rfl (by omega), ?_⟩
  unfold m_isDate m_isDate_18
  rw [hR.1, hR.2.1, show I p + 4 = I (p + 4) from I_add p 4]
  by_cases hc : p + 4 < n
  · rw [if_neg (I_le0 hc (by omega))]
    exact dBr hT hc hR 4 0 N rfl (by omega)
  · rw [if_pos (I_le1 (by omega) (by omega))]
    have e : dBj t n p 0 4 = false := by
      unfold dBj dBj dBj dBj dBj
      rw [ch_out hc]; simp
    rw [e]
    obtain ⟨k, rfl⟩ : ∃ i, N = i + 1 := ⟨N - 1, by omega⟩
    unfold m_isDate_21 m_isDate_21F m_isDate_52
    simp
theorem dB4 (h : dBj t n p 0 4 = true) (hT : Tx t n) : p + 4 < n ∧ t (p + 4) = 45 ∧ ∀ i, i < 4 → ∃ d, d < 10 ∧ dC (I 10) (pk t n (p + i)) = I d ∧ t (p + i) = I (48 + d) := by
  have hx : ∀ q, 0 ≤ dC (I 10) (pk t n q) → ∃ d, d < 10 ∧ dC (I 10) (pk t n q) = I d ∧ t q = I (48 + d) := by
    intro q hq
    rcases dig hT (b := 10) (.inl rfl) q with ⟨e, he, h1, h2, hpn⟩ | ⟨h1, h2⟩
    · exact ⟨e, he, h1, (digc hT he h1).2⟩
    · rw [h1] at hq; exact absurd hq m1nn
  unfold dBj dBj dBj dBj dBj at h
  simp only [Bool.and_eq_true, decide_eq_true_eq, beq_iff_eq] at h
  obtain ⟨h0, h1, h2, h3, h4⟩ := h
  have hc : p + 4 < n := by
    rcases Nat.lt_or_ge (p + 4) n with h | h
    · exact h
    · rw [ch_out (by omega)] at h4; exact absurd h4 (by decide)
  rw [ch_in hc] at h4
  refine ⟨hc, h4, fun i hi => ?_⟩
  have : i = 0 ∨ i = 1 ∨ i = 2 ∨ i = 3 := by omega
  rcases this with rfl | rfl | rfl | rfl
  · exact hx _ h0
  · exact hx _ h1
  · exact hx _ h2
  · exact hx _ h3
/-- The four digits of the year. -/
theorem pr_year (hT : Tx t n) {v sz : Nat} (hd : ∀ i, i < 4 → ∃ d, d < 10 ∧ dC (I 10) (pk t n (p + i)) = I d ∧ t (p + i) = I (48 + d)) (hp4 : p + 4 < n) : ∀ (m j k k' y : Nat) (S : cS) (R : rS), j + m = 4 → m < k → m < k' → y < 10 ^ j → CT b0 S rd t n (p + j) → RT R t n (p + j) →
    ∃ y', y' < 10000 ∧ x_R_readDate_4 N b0 K k rd (I y) (I j) sz S = x_R_readDate_4 N b0 K (k - m) rd (I y') (I 4) sz (sI S rd 6 (I (p + 4))) ∧ m_date_4 N k' (I v) (I y) (I j) R = m_date_4 N (k' - m) (I v) (I y') (I 4) (Rw R 3 (I (p + 4))) := by
  have hn := hT.1
  intro m
  induction m with
  | zero =>
    intro j k k' y S R hj hk hk' hy hC hR
    obtain rfl : j = 4 := by omega
    exact ⟨y, by simpa using hy, by rw [hC.stay]; rfl, by rw [hR.stay]; rfl⟩
  | succ m ih =>
    intro j k k' y S R hj hk hk' hy hC hR
    obtain ⟨k, rfl⟩ : ∃ i, k = i + 1 := ⟨k - 1, by omega⟩
    obtain ⟨k', rfl⟩ : ∃ i, k' = i + 1 := ⟨k' - 1, by omega⟩
    obtain ⟨d, h1, h2, h3⟩ := hd j (by omega)
    conv in x_R_readDate_4 _ _ _ (k + 1) _ _ _ _ _ => unfold x_R_readDate_4 x_R_readDate_4F
    conv in m_date_4 _ (k' + 1) _ _ _ _ => unfold m_date_4 m_date_4F
    have g4 : ¬ (4 : Int32) ≤ I j := I_le0 (a := 4) (by omega) (by omega)
    rw [if_neg g4, if_neg g4]
    simp only [hC.at_, hC.ifk, hC.put, b1_some, digitAt_eq (q := p + j) hC hn (by omega), here_eq hR hn (by omega), rP_eq, hR.2.1, I_1]
    rw [show dC 10 (pk t n (p + j)) = I d from h2, ch_in (by omega), h3]
    have e1 : 10 * I y + I d = I (10 * y + d) := by rw [show (10 : Int32) = I 10 from rfl, I_mul, I_add]
    have e2 : 10 * I y + I (48 + d) - 48 = I (10 * y + d) := by
      rw [show (10 : Int32) = I 10 from rfl, show (48 : Int32) = I 48 from rfl, I_mul, I_add, I_sub (by omega)]; congr 1; omega
    rw [e1, e2]
    have hy2 : 10 * y + d < 10 ^ (j + 1) := by rw [Nat.pow_succ]; omega
    obtain ⟨y', g1, g2, g3⟩ := ih (j + 1) k k' (10 * y + d) _ _ (by omega) (by omega) (by omega) hy2 (hC.mv (p + j + 1)) (hR.mv (p + j + 1))
    refine ⟨y', g1, ?_, ?_⟩
    · rw [g2, sI_twice]; congr 1; omega
    · rw [g3, Rw_twice]; congr 1; omega
theorem pr_date (hT : Tx t n) (hN : 1000 ≤ N) {v sz : Nat} (hv : v < 520) (hs : ownC b0 sz) (hB : dBj t n p 0 4 = true) (hC : CT b0 S rd t n p) (hR : RT R t n p) :
    Leaf S rd sz R v t n p (x_R_readDate N b0 K rd sz S) (m_date N (I v) R) := by
  have hn := hT.1
  obtain ⟨hp4, h45, hd⟩ := dB4 hB hT
  obtain ⟨y, hy, h1, h2⟩ := pr_year (N := N) (K := K) (v := v) (sz := sz) hT hd hp4 4 0 N N 0 S R rfl (by omega) (by omega) (by decide) hC hR
  unfold x_R_readDate m_date
  rw [show (0 : Int32) = I 0 from rfl, h1, h2]
  obtain ⟨k, hk⟩ : ∃ i, N - 4 = i + 1 := ⟨N - 5, by omega⟩
  rw [hk]
  have hC4 := hC.mv (p + 4)
  have hR4 := hR.mv (p + 4)
  unfold x_R_readDate_4 x_R_readDate_4F m_date_4 m_date_4F m_date_71 m_date_141 m_fail
  have g4 : (4 : Int32) ≤ I 4 := by decide
  rw [if_pos g4, if_pos g4]
  have hC5 := hC.mv (p + 5)
  have hR5 := hR.mv (p + 5)
  simp only [hC4.at_, hC4.put, b1_some, rP_eq, hR4.2.1, I_1, sI_twice, Rw_twice, hC5.ifk]
  rcases pr_two (N := N) (K := K) (M := 12) hT hN (by omega) (by omega) hC5 hR5 with ⟨x, hx, hx2, e1, e2⟩ | ⟨q, hq1, hq2, e1, e2⟩
  · rw [show (12 : Int32) = I 12 from rfl, e1, e2]
    simp only [b2_some]
    have hC7 := hC.mv (p + 7)
    have hR7 := hR.mv (p + 7)
    have em : I x ≠ -1 := ne_neg (by omega)
    rw [if_neg em]
    simp only [Rw_twice, sI_twice, hR7.2.1]
    by_cases g : x < 1 ∨ 12 < x
    · rw [if_pos g]
      simp only [b2_some, if_pos m1_neg]
      have a1 : I (p + 7) - 2 = I (p + 5) := by rw [show (2 : Int32) = I 2 from rfl, I_sub (by omega)]; congr 1
      refine .inr (.inl ⟨p + 7, p + 5, Rw (Rw R 3 (I (p + 5 + 2))) 4 (I (p + 5)), by omega, rfl, ?_, Rw_1 _ _ _, FrB.mk2 _ _ _⟩)
      rw [a1]
      by_cases gg : x < 1
      · rw [if_pos (show I x < (1 : Int32) from I_lt1 (b := 1) gg (by omega))]; rfl
      · rw [if_neg (show ¬ I x < (1 : Int32) from I_lt0 (b := 1) (by omega) (by omega)), if_neg (show ¬ I x ≤ I 12 from I_le0 (by omega) (by omega))]; rfl
    · rw [if_neg g]
      simp only [b2_some]
      rw [if_neg (I_nn (show x < 2147483648 by omega)), if_neg (show ¬ I x < (1 : Int32) from I_lt0 (b := 1) (by omega) (by omega)), if_pos (show I x ≤ I 12 from I_le1 (by omega) (by omega)), hC7.ifk, take_eq hC7 hn (by omega) _ (by decide), here_eq hR7 hn (by omega)]
      simp only [b1_some, sI_twice]
      by_cases h7 : ch t n (p + 7) = 45
      · rw [if_pos h7, if_pos h7]
        have hC8 := hC.mv (p + 8)
        have hR8 := hR.mv (p + 8)
        have h7n : p + 7 < n := by
          rcases Nat.lt_or_ge (p + 7) n with h | h
          · exact h
          · rw [ch_out (by omega)] at h7; exact absurd h7 (by decide)
        obtain ⟨dd, hdd, d1, d2⟩ := daysOf_eq (N := N) (b0 := b0) (K := K) (S := sI S rd 6 (I (p + 8))) (R := (Rw (Rw (Rw R 3 (I (p + 8))) 3 (I (p + 10))) 3 (I (p + 10)))) (y := y) (m := x) hy (by omega) (by omega)
        simp only [b2_some, if_neg (show ¬ (1 : Int32) = 0 by decide), I_1, hR7.2.1, Rw_twice]
        rw [show p + 7 + 1 = p + 8 by omega, d1]
        simp only [b1_some, hC8.ifk]
        rcases pr_two (N := N) (K := K) (M := dd) hT hN (by omega) (by omega) hC8 hR8 with ⟨z, hz, hz2, f1, f2⟩ | ⟨q, hq1, hq2, f1, f2⟩
        · rw [f1, f2]
          simp only [b2_some, sI_twice, Rw_twice]
          have hR10 := hR.mv (p + 10)
          rw [if_neg (show I z ≠ -1 from ne_neg (by omega))]
          have a1 : I (p + 8 + 2) - 2 = I (p + 8) := by rw [show (2 : Int32) = I 2 from rfl, I_sub (by omega)]; congr 1
          simp only [Rw_twice] at d2
          by_cases g : z < 1 ∨ dd < z
          · rw [if_pos g]
            simp only [b2_some, if_neg m1nn]
            refine .inr (.inl ⟨p + 10, p + 8, Rw (Rw R 3 (I (p + 8 + 2))) 4 (I (p + 8)), by omega, rfl, ?_, Rw_1 _ _ _, FrB.mk2 _ _ _⟩)
            rw [hR10.2.1, a1]
            by_cases gg : z < 1
            · rw [if_pos (show I z < (1 : Int32) from I_lt1 (b := 1) gg (by omega))]; rfl
            · rw [if_neg (show ¬ I z < (1 : Int32) from I_lt0 (b := 1) (by omega) (by omega)), d2]
              simp only [b1_some]
              rw [if_neg (show ¬ I z ≤ I dd from I_le0 (by omega) (by omega))]; rfl
          · rw [if_neg g]
            simp only [b2_some, if_pos (I_nn' (show z < 2147483648 by omega))]
            rw [init_nd hs, if_neg (show ¬ I z < (1 : Int32) from I_lt0 (b := 1) (by omega) (by omega)), d2]
            simp only [b1_some]
            have a3 : 10000 * I y + 100 * I x + I z = I (10000 * y + 100 * x + z) := by
              rw [show (10000 : Int32) = I 10000 from rfl, show (100 : Int32) = I 100 from rfl, I_mul, I_mul, I_add, I_add]
            rw [if_pos (show I z ≤ I dd from I_le1 (by omega) (by omega)), rT_eq (by show _ < 520; omega) (by omega)]
            simp only [b1_some]
            rw [rT_eq (by show _ < 520; omega) (by omega), a3]
            refine .inl ⟨p + 10, 4, I (10000 * y + 100 * x + z), by omega, by omega, .inr (.inr ⟨rfl, _, ?_, rfl⟩), rfl, rfl⟩
            omega
        · rw [f1, f2]
          simp only [b2_some, if_neg m1nn, if_true, sI_twice, Rw_twice]
          exact .inr (.inl ⟨q, q, _, by omega, rfl, rfl, Rw_1 _ _ _, FrB.mk2 _ _ _⟩)
      · rw [if_neg h7, if_neg h7]
        simp only [b2_some, if_true]
        exact .inr (.inl ⟨p + 7, p + 7, Rw (Rw R 3 (I (p + 5 + 2))) 4 (I (p + 7)), by omega, rfl, rfl, Rw_1 _ _ _, FrB.mk2 _ _ _⟩)
  · rw [show (12 : Int32) = I 12 from rfl, e1, e2]
    simp only [b2_some, if_pos m1_neg, if_true, sI_twice, Rw_twice]
    exact .inr (.inl ⟨q, q, _, by omega, rfl, rfl, Rw_1 _ _ _, FrB.mk2 _ _ _⟩)
end
