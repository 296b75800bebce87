section
variable {b0 N : Nat} {K S : cS} {rd : Nat} {t : Nat → Int32} {n p : Nat} {R : rS}
theorem ch_code (hT : Tx t n) (h : p < n) : ∃ k, k < 127 ∧ 10 ≤ k ∧ t p = I k := by
  rcases hT.2 p h with e | ⟨h1, h2⟩
  · exact ⟨10, by omega, by omega, e⟩
  · refine ⟨(t p).toNatClampNeg, ?_, ?_, of_nn (by omega)⟩
    · show (t p).toInt.toNat < _; omega
    · show _ ≤ (t p).toInt.toNat; omega
theorem take_eq (hC : CT b0 S rd t n p) (hn : n ≤ 240) (hp : p ≤ 1000) (c : Int32) (h0 : c ≠ 0) :
    x_R_take N b0 K rd c S = if ch t n p = c then some (1, sI S rd 6 (I (p + 1))) else some (0, sI S rd 7 (I p)) := by
  unfold x_R_take x_R_take_24
  rw [hC.skip hn hp]
  simp only [hC.at_, b1_some, hC.put, I_1]
  by_cases hc : p < n
  · rw [if_pos hc, ch_in hc]
  · rw [if_neg hc, ch_out hc, if_neg (fun e => h0 e.symm)]
/-! Letters of a bare key. -/
def bareI (c : Int32) : Int32 := if c < 97 then (if c < 65 then (if c < 48 then (if c = 95 then 1 else if c = 45 then 1 else 0) else if c ≤ 57 then 1 else (if c = 95 then 1 else if c = 45 then 1 else 0)) else if c ≤ 90 then 1 else (if c = 95 then 1 else if c = 45 then 1 else 0)) else if c ≤ 122 then 1 else 0
theorem bareC {c : Int32} (hc : ∃ k, k < 128 ∧ c = I k) : x_T_isBareLetter N b0 K c S = some (bareI c) ∧ m_isBare N c R = some (bareI c) := by
  obtain ⟨k, hk, rfl⟩ := hc
  unfold x_T_isBareLetter x_T_isBareLetter_12 x_T_isBareLetter_24 x_T_isBareLetter_36 m_isBare m_isBare_12 m_isBare_24 m_isDigit
  revert k
  decide +kernel
theorem bare0 : bareI 0 = 0 := by decide
theorem bareM : x_T_isBareLetter N b0 K (-1) S = some 0 := by
  unfold x_T_isBareLetter x_T_isBareLetter_12 x_T_isBareLetter_24 x_T_isBareLetter_36; decide
theorem bare01 (c : Int32) : bareI c = 0 ∨ bareI c = 1 := by unfold bareI; repeat' split
                                                             all_goals simp
/-! Digits. -/
def dC (b c : Int32) : Int32 := if c < 48 then (if b = 16 then (if c < 97 then -1 else if 102 < c then -1 else c - 97 + 10) else -1) else if 57 < c then (if b = 16 then (if c < 97 then -1 else if 102 < c then -1 else c - 97 + 10) else -1) else c - 48
def dR (c : Int32) : Int32 := if c < 48 then (if c < 97 then -1 else if 102 < c then -1 else c - 87) else if 57 < c then (if c < 97 then -1 else if 102 < c then -1 else c - 87) else c - 48
theorem dC_eq (b c : Int32) : x_R_digitAt_18 N b0 K b c S = some (dC b c) := by
  unfold x_R_digitAt_18 x_R_digitAt_36 dC; repeat' split
  all_goals first | rfl | contradiction
theorem dR_eq (c : Int32) : m_digitOf N c R = some (dR c) := by
  unfold m_digitOf m_isDigit dR
  by_cases h : c < 48
  · rw [if_pos h, if_pos h]; simp only [b1_some, if_true]; repeat' split
    all_goals rfl
  · rw [if_neg h, if_neg h]
    by_cases h2 : 57 < c
    · rw [if_pos h2, if_pos h2]; simp only [b1_some, if_true]; repeat' split
      all_goals rfl
    · rw [if_neg h2, if_neg h2]; simp only [b1_some]; rw [if_neg (by decide)]
theorem digitAt_eq (hC : CT b0 S rd t n p) (hn : n ≤ 240) {q : Nat} (hq : q ≤ 1000) (b : Int32) : x_R_digitAt N b0 K rd (I q) b S = some (dC b (pk t n q)) := by
  unfold x_R_digitAt
  rw [hC.len, hC.txt]
  simp only [b1_some]
  by_cases hc : q < n
  · rw [if_neg (I_le0 hc (by omega)), hC.chr hn hc, pkIn hc]; simp only [b1_some]; exact dC_eq _ _
  · rw [if_pos (I_le1 (by omega) (by omega)), pk_out hc]; exact dC_eq _ _
theorem dig10 : ∀ k, k < 127 → (∃ d, d < 10 ∧ dC 10 (I k) = I d ∧ dR (I k) = I d) ∨ (dC 10 (I k) = -1 ∧ (dR (I k) = -1 ∨ 10 ≤ dR (I k))) := by decide +kernel
theorem dig16 : ∀ k, k < 127 → (∃ d, d < 16 ∧ dC 16 (I k) = I d ∧ dR (I k) = I d) ∨ (dC 16 (I k) = -1 ∧ (dR (I k) = -1 ∨ 16 ≤ dR (I k))) := by decide +kernel
theorem dig (hT : Tx t n) {b : Nat} (hb : b = 10 ∨ b = 16) (q : Nat) :
    (∃ d, d < b ∧ dC (I b) (pk t n q) = I d ∧ dR (ch t n q) = I d ∧ q < n) ∨ (dC (I b) (pk t n q) = -1 ∧ (dR (ch t n q) = -1 ∨ I b ≤ dR (ch t n q))) := by
  by_cases hc : q < n
  · rw [pkIn hc, ch_in hc]
    obtain ⟨k, hk, -, e⟩ := ch_code hT hc
    rw [e]
    rcases hb with rfl | rfl
    · rcases dig10 k hk with ⟨d, h1, h2, h3⟩ | h
      · exact .inl ⟨d, h1, h2, h3, hc⟩
      · exact .inr h
    · rcases dig16 k hk with ⟨d, h1, h2, h3⟩ | h
      · exact .inl ⟨d, h1, h2, h3, hc⟩
      · exact .inr h
  · rw [pk_out hc, ch_out hc]
    rcases hb with rfl | rfl
    · exact .inr (by decide)
    · exact .inr (by decide)
theorem I_nn {d : Nat} (h : d < 2147483648) : ¬ I d < 0 := fun x => by
  have := (I_lt (b := 0) h (by omega)).1 x; omega
theorem I_nn' {d : Nat} (h : d < 2147483648) : (0 : Int32) ≤ I d := I_le1 (a := 0) (by omega) h
theorem m1_neg : (-1 : Int32) < 0 := by decide
/-- Digits of a number: both fail at the same place, or come to the same number. -/
theorem pr_digits_i (hT : Tx t n) {b M : Nat} (hb : b = 10 ∨ b = 16) (hM : M < 1000) (hBM : b ^ M ≤ 1000000000) : ∀ (k p d y : Nat) (S : cS) (R : rS), p ≤ n → d ≤ M → M - d + 1 < k → y < b ^ d → CT b0 S rd t n p → RT R t n p →
    (∃ q x, p < q ∧ q ≤ n ∧ x < 1000000000 ∧ x_R_readDigits_8 N b0 K k rd (I b) (I M) (I y) 1 (I d) S = some (I x, sI S rd 6 (I q)) ∧ m_digits_8 N k (I b) (I M) (I d) (I y) 1 R = some (I x, Rw R 3 (I q))) ∨
    (∃ q, p ≤ q ∧ q ≤ n ∧ x_R_readDigits_8 N b0 K k rd (I b) (I M) (I y) 1 (I d) S = some (-1, sI (sI S rd 6 (I q)) rd 7 (I q)) ∧ m_digits_8 N k (I b) (I M) (I d) (I y) 1 R = some (-1, Rw (Rw R 3 (I q)) 4 (I q))) := by
  intro k
  induction k with
  | zero => intro p d y S R _ _ h; omega
  | succ k ih =>
    intro p d y S R hp hd hk hy hC hR
    have hn := hT.1
    unfold x_R_readDigits_8 m_digits_8 x_R_readDigits_8F m_digits_8F x_R_readDigits_41 m_digits_40 x_R_wrong
    rw [if_neg (by decide), if_neg (I_lt0 hd (by omega)), if_neg (by decide), hC.at_, here_eq hR hn (by omega)]
    simp only [b1_some, hC.ifk, hC.put, I_1, rP_eq, hR.2.1, b2_some]
    rw [digitAt_eq hC hn (by omega), dR_eq]
    simp only [b1_some]
    rcases dig hT hb p with ⟨e, he, h1, h2, hpn⟩ | ⟨h1, h2⟩
    · have heb : e < 16 := by rcases hb with rfl | rfl <;> omega
      rw [h1, h2, if_neg (I_nn (by omega)), if_neg (ne_neg (by omega)), if_neg (I_le0 he (by rcases hb with rfl | rfl <;> omega))]
      by_cases hdM : d = M
      · rw [if_neg (I_lt0 (by omega) (by omega)), if_pos (by rw [hdM])]
        exact .inr ⟨p, by omega, hp, by rw [hC.stay], by rw [hR.stay]⟩
      · rw [if_pos (I_lt1 (by omega) (by omega)), if_neg (fun h => hdM ((I_inj (by omega) (by omega)).1 h))]
        have hC1 := hC.mv (p + 1)
        have hR1 := hR.mv (p + 1)
        have hy2 : b * y + e < b ^ (d + 1) := by
          rw [Nat.pow_succ]
          have : b * (y + 1) ≤ b * b ^ d := Nat.mul_le_mul_left _ hy
          rw [Nat.mul_comm (b ^ d) b]
          rw [Nat.mul_add] at this
          omega
        have hy3 : b ^ (d + 1) ≤ 1000000000 := Nat.le_trans (Nat.pow_le_pow_right (by rcases hb with rfl | rfl <;> omega) (by omega)) hBM
        have e1 : I y * I b + I e = I (b * y + e) := by rw [I_mul, I_add, Nat.mul_comm]
        have e2 : I b * I y + I e = I (b * y + e) := by rw [I_mul, I_add]
        rw [hC1.ifk, peek_eq hC1 hn (by omega), here_eq hR1 hn (by omega)]
        simp only [b1_some, e1, e2]
        by_cases h95 : ch t n (p + 1) = 95
        · have hp1 : p + 1 < n := by
            by_cases h : p + 1 < n
            · exact h
            · rw [ch_out h] at h95; exact absurd h95 (by decide)
          rw [if_pos ((pkEq 95 (by decide) (by decide)).2 h95), if_pos h95]
          unfold x_R_readDigits_90 x_R_readDigits_95 x_R_readDigits_116 m_digits_86 m_digits_103 m_digits_130 m_digits_135
          rw [hC1.ifk, peek_eq hC1 hn (by omega)]
          simp only [b1_some, hC1.at_, hC1.put, I_1, rP_eq, hR1.2.1]
          rw [if_pos ((pkEq 95 (by decide) (by decide)).2 h95), if_neg (by decide), sI_twice, Rw_twice, here_eq (hR.mv (p + 1 + 1)) hn (by omega)]
          simp only [b1_some, dR_eq]
          rw [if_neg (by decide)]
          rcases ih (p + 1 + 1) (d + 1) (b * y + e) _ _ (by omega) (by omega) (by omega) hy2 (hC.mv (p + 1 + 1)) (hR.mv (p + 1 + 1)) with ⟨q, x, g1, g2, g3, g4, g5⟩ | ⟨q, g1, g2, g4, g5⟩
          · exact .inl ⟨q, x, by omega, g2, g3, by rw [g4, sI_twice], by rw [g5, Rw_twice]⟩
          · exact .inr ⟨q, by omega, g2, by rw [g4, sI_twice], by rw [g5, Rw_twice]⟩
        · rw [if_neg (fun h => h95 ((pkEq 95 (by decide) (by decide)).1 h)), if_neg h95]
          unfold m_digits_86 m_digits_103 m_digits_130 m_digits_134 m_digits_135
          rw [if_pos rfl, here_eq hR1 hn (by omega)]
          simp only [b1_some, dR_eq, hC1.at_, hC1.ifk, if_true]
          rw [digitAt_eq hC1 hn (by omega)]
          simp only [b1_some]
          unfold x_R_readDigits_90 x_R_readDigits_95 x_R_readDigits_116
          rw [hC1.ifk, hC1.ifk, peek_eq hC1 hn (by omega)]
          simp only [b1_some]
          rw [if_neg (fun h => h95 ((pkEq 95 (by decide) (by decide)).1 h)), if_neg (fun h => h95 ((pkEq 95 (by decide) (by decide)).1 h))]
          rw [I_1]
          rcases dig hT hb (p + 1) with ⟨e', he', h1', h2', hpn'⟩ | ⟨h1', h2'⟩
          · have heb' : e' < 16 := by rcases hb with rfl | rfl <;> omega
            rw [h1', h2', if_neg (I_nn (by omega)), if_neg (ne_neg (by omega)), if_neg (I_le0 he' (by rcases hb with rfl | rfl <;> omega))]
            rcases ih (p + 1) (d + 1) (b * y + e) _ _ (by omega) (by omega) (by omega) hy2 hC1 hR1 with ⟨q, x, g1, g2, g3, g4, g5⟩ | ⟨q, g1, g2, g4, g5⟩
            · exact .inl ⟨q, x, by omega, g2, g3, by rw [g4, sI_twice], by rw [g5, Rw_twice]⟩
            · exact .inr ⟨q, by omega, g2, by rw [g4, sI_twice], by rw [g5, Rw_twice]⟩
          · rw [h1', if_pos m1_neg]
            obtain ⟨k2, rfl⟩ : ∃ j, k = j + 1 := ⟨k - 1, by omega⟩
            refine .inl ⟨p + 1, b * y + e, by omega, by omega, by omega, ?_, ?_⟩
            · unfold x_R_readDigits_8 x_R_readDigits_8F; rw [if_pos rfl]
            · have : (if dR (ch t n (p + 1)) = -1 then m_digits_8 N (k2 + 1) (I b) (I M) (I (d + 1)) (I (b * y + e)) 0 (Rw R 3 (I (p + 1))) else if I b ≤ dR (ch t n (p + 1)) then m_digits_8 N (k2 + 1) (I b) (I M) (I (d + 1)) (I (b * y + e)) 0 (Rw R 3 (I (p + 1))) else m_digits_8 N (k2 + 1) (I b) (I M) (I (d + 1)) (I (b * y + e)) 1 (Rw R 3 (I (p + 1)))) = m_digits_8 N (k2 + 1) (I b) (I M) (I (d + 1)) (I (b * y + e)) 0 (Rw R 3 (I (p + 1))) := by
                rcases h2' with h2' | h2'
                · rw [if_pos h2']
                · rw [if_pos h2']; simp only [ite_self]
              rw [this]
              unfold m_digits_8 m_digits_8F; rw [if_pos rfl]
    · rw [h1, if_pos m1_neg]
      refine .inr ⟨p, by omega, hp, by rw [hC.stay], ?_⟩
      rw [hR.stay]
      rcases h2 with h2 | h2
      · rw [if_pos h2]
      · rw [if_pos h2]; simp only [ite_self]
theorem pr_digits (hT : Tx t n) (hN : 1000 ≤ N) {b M : Nat} (hb : (b = 10 ∧ M = 9) ∨ (b = 16 ∧ M = 7)) (hp : p ≤ n) (hC : CT b0 S rd t n p) (hR : RT R t n p) :
    (∃ q x, p < q ∧ q ≤ n ∧ x < 1000000000 ∧ x_R_readDigits N b0 K rd (I b) (I M) S = some (I x, sI S rd 6 (I q)) ∧ m_digits N (I b) (I M) R = some (I x, Rw R 3 (I q))) ∨
    (∃ q, p ≤ q ∧ q ≤ n ∧ x_R_readDigits N b0 K rd (I b) (I M) S = some (-1, sI (sI S rd 6 (I q)) rd 7 (I q)) ∧ m_digits N (I b) (I M) R = some (-1, Rw (Rw R 3 (I q)) 4 (I q))) := by
  unfold x_R_readDigits m_digits
  have := pr_digits_i (N := N) (K := K) (b0 := b0) (rd := rd) hT (b := b) (M := M) (by omega) (by omega) (by rcases hb with ⟨rfl, rfl⟩ | ⟨rfl, rfl⟩ <;> decide) N p 0 0 S R hp (by omega) (by omega) (by rcases hb with ⟨rfl, rfl⟩ | ⟨rfl, rfl⟩ <;> decide) hC hR
  exact this
end
