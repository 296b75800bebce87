section
variable {b0 N : Nat} {K S : cS} {rd : Nat} {t : Nat → Int32} {n p : Nat} {R : rS}
theorem I_neg0 {a : Nat} : -(I a) = 0 - I a := by rw [Int32.zero_sub]
/-- The end of a number, in the class: a new value. -/
theorem num_end {sz : Nat} (hs : ownC b0 sz) {y : Nat} (hy : y < 1000000000) (neg : Int32) :
    x_R_readNumber_118 N b0 K neg (I y) sz S = some (some sz, nd S sz 1 (if neg = 0 then I y else -(I y)), 1, 8) := by
  unfold x_R_readNumber_118 x_R_readNumber_139
  rw [if_pos (I_nn' (by omega))]
  by_cases h : neg = 0
  · simp only [if_pos h]; rw [init_nd hs]; rfl
  · simp only [if_neg h]; rw [init_nd hs]; rfl
theorem num_endR {v : Nat} (hv : v < 520) (x sgn : Int32) : m_number_149 N (I v) sgn x R = some (if R.1 4 = -1 then 1 else 0, Ra (Ra R 3 v 1) 4 v (if sgn = 45 then -x else x)) := by
  unfold m_number_149 m_number_175
  rw [rT_eq (by show _ < 520; omega) (by omega)]
  simp only [b1_some]
  by_cases h : sgn = 45
  · simp only [if_pos h]
    rw [rT_eq (by show _ < 520; omega) (by omega)]
    simp only [b1_some, Ra_1]
    by_cases g : R.1 4 = -1
    · rw [if_pos g, if_pos g]
    · rw [if_neg g, if_neg g]
  · simp only [if_neg h]
    rw [rT_eq (by show _ < 520; omega) (by omega)]
    simp only [b1_some, Ra_1]
    by_cases g : R.1 4 = -1
    · rw [if_pos g, if_pos g]
    · rw [if_neg g, if_neg g]
/-- Behind the sign. -/
theorem pr_num53 (hT : Tx t n) (hN : 1000 ≤ N) {v sz : Nat} (hv : v < 520) (hs : ownC b0 sz) (sg neg sgn : Int32) (hsg : (neg = 0) ↔ ¬ sgn = 45) (hp : p ≤ n) (hbad : R.1 4 = -1) (hC : CT b0 S rd t n p) (hR : RT R t n p) :
    Leaf S rd sz R v t n p (x_R_readNumber_53 N b0 K rd sg neg sz S) (m_number_37 N (I v) sgn sg R) := by
  have hn := hT.1
  have hval : ∀ x : Int32, (if neg = 0 then x else -x) = if sgn = 45 then -x else x := by
    intro x
    by_cases h : sgn = 45
    · rw [if_pos h, if_neg (fun g => (hsg.1 g) h)]
    · rw [if_neg h, if_pos (hsg.2 h)]
  have hokl : ∀ y, y < 1000000000 → okl 1 (if sgn = 45 then -(I y) else I y) := by
    intro y hy
    refine .inl ⟨rfl, y, hy, ?_⟩
    split
    · exact .inr rfl
    · exact .inl rfl
  unfold x_R_readNumber_53 m_number_37
  simp only [hC.ifk, peek_eq hC hn (show p ≤ 1000 by omega), here_eq hR hn (show p ≤ 1000 by omega), b1_some, hC.at_, hC.put, I_1, rP_eq, hR.2.1]
  by_cases h48 : ch t n p = 48
  · have hpn : p < n := by
      rcases Nat.lt_or_ge p n with h | h
      · exact h
      · rw [ch_out (by omega)] at h48; exact absurd h48 (by decide)
    have hC1 := hC.mv (p + 1)
    have hR1 := hR.mv (p + 1)
    rw [if_pos ((pkEq 48 (by decide) (by decide)).2 h48), if_pos h48]
    -- the branch of a nought alone
    have h76 : Leaf S rd sz R v t n p (x_R_readNumber_118 N b0 K neg 0 sz (sI S rd 6 (I (p + 1)))) (m_number_76 N (I v) sgn 0 (Rw R 3 (I (p + 1)))) := by
      unfold m_number_76 m_number_77 m_number_127 m_number_136 m_fail
      have e0 : x_R_readNumber_118 N b0 K neg 0 sz (sI S rd 6 (I (p + 1))) = some (some sz, nd (sI S rd 6 (I (p + 1))) sz 1 (if neg = 0 then 0 else -0), 1, 8) := num_end hs (y := 0) (by decide) neg
      have hz : (if neg = 0 then (0 : Int32) else -0) = 0 := by split <;> decide
      have hz' : (if sgn = 45 then -(0 : Int32) else 0) = 0 := by split <;> decide
      rw [hz] at e0
      rw [if_pos rfl, e0]
      simp only [here_eq hR1 hn (show p + 1 ≤ 1000 by omega), b1_some, isDigit_eq hT, rP_eq, b2_some, hR1.2.1]
      rcases dig hT (b := 10) (.inl rfl) (p + 1) with ⟨e, he, h1, h2, hpn'⟩ | ⟨h1, h2⟩
      · rw [h1, if_pos (I_nn' (by omega)), if_neg (show ¬ (1 : Int32) = 0 by decide), if_pos (show True ∨ (0 : Int32) = 1 from .inl trivial)]
        obtain ⟨-, hc⟩ := digc hT he h1
        refine .inr (.inr ⟨p + 1, _, by omega, hpn', .inr ⟨e, he, hc⟩, rfl, rfl, Rw_1 _ _ _, FrB.mk2 _ _ _⟩)
      · rw [h1, if_neg m1nn, if_pos rfl]
        by_cases h95 : ch t n (p + 1) = 95
        · have hpn' : p + 1 < n := by
            rcases Nat.lt_or_ge (p + 1) n with h | h
            · exact h
            · rw [ch_out (by omega)] at h95; exact absurd h95 (by decide)
          rw [if_pos h95, if_pos (show True ∨ (0 : Int32) = 1 from .inl trivial)]
          rw [ch_in hpn'] at h95
          refine .inr (.inr ⟨p + 1, _, by omega, hpn', .inl h95, rfl, rfl, Rw_1 _ _ _, FrB.mk2 _ _ _⟩)
        · rw [if_neg h95, num_endR hv, Rw_1n _ _ (by decide), if_pos hbad, hz']
          exact .inl ⟨p + 1, 1, 0, by omega, by omega, .inl ⟨rfl, 0, by decide, .inl rfl⟩, rfl, rfl⟩
    by_cases hs0 : sg = 0
    · rw [if_pos hs0, if_pos hs0]
      simp only [hC1.ifk, peek_eq hC1 hn (show p + 1 ≤ 1000 by omega), here_eq hR1 hn (show p + 1 ≤ 1000 by omega), b1_some, hC1.at_, hC1.put, I_1, sI_twice]
      by_cases h120 : ch t n (p + 1) = 120
      · have hpn' : p + 1 < n := by
          rcases Nat.lt_or_ge (p + 1) n with h | h
          · exact h
          · rw [ch_out (by omega)] at h120; exact absurd h120 (by decide)
        rw [if_pos ((pkEq 120 (by decide) (by decide)).2 h120), if_pos h120]
        unfold m_number_77 m_number_136
        rw [if_neg (by decide)]
        have hC2 := hC.mv (p + 2)
        have hR2 := hR.mv (p + 2)
        simp only [rP_eq, b1_some, hR1.2.1, I_1, Rw_twice, hC2.ifk]
        rcases pr_digits (N := N) (K := K) (b := 16) (M := 7) hT hN (.inr ⟨rfl, rfl⟩) (show p + 2 ≤ n by omega) hC2 hR2 with ⟨q, x, h1, h2, h3, h4, h5⟩ | ⟨q, h1, h2, h4, h5⟩
        · rw [show (16 : Int32) = I 16 from rfl, show (7 : Int32) = I 7 from rfl, h4, h5]
          simp only [b2_some]
          rw [num_end hs h3, num_endR hv, Rw_twice, sI_twice, Rw_1n _ _ (by decide), if_pos hbad, hval]
          exact .inl ⟨q, 1, _, by omega, by omega, hokl x h3, rfl, rfl⟩
        · rw [show (16 : Int32) = I 16 from rfl, show (7 : Int32) = I 7 from rfl, h4, h5]
          simp only [b2_some]
          rw [num_endR hv, Rw_1, Rw_twice, sI_twice]
          unfold x_R_readNumber_118
          rw [if_neg m1nn, if_neg (ne_neg (by omega))]
          exact .inr (.inl ⟨q, q, _, by omega, rfl, rfl, by rw [Ra_1, Ra_1, Rw_1], FrB.mk4 _ _ _ _ _⟩)
      · rw [if_neg (fun g => h120 ((pkEq 120 (by decide) (by decide)).1 g)), if_neg h120]
        exact h76
    · rw [if_neg hs0, if_neg hs0]
      exact h76
  · rw [if_neg (fun g => h48 ((pkEq 48 (by decide) (by decide)).1 g)), if_neg h48]
    rcases pr_digits (N := N) (K := K) (b := 10) (M := 9) hT hN (.inl ⟨rfl, rfl⟩) hp hC hR with ⟨q, x, h1, h2, h3, h4, h5⟩ | ⟨q, h1, h2, h4, h5⟩
    · rw [show (10 : Int32) = I 10 from rfl, show (9 : Int32) = I 9 from rfl, h4, h5]
      simp only [b2_some]
      rw [num_end hs h3, num_endR hv, Rw_1n _ _ (by decide), if_pos hbad, hval]
      exact .inl ⟨q, 1, _, by omega, by omega, hokl x h3, rfl, rfl⟩
    · rw [show (10 : Int32) = I 10 from rfl, show (9 : Int32) = I 9 from rfl, h4, h5]
      simp only [b2_some]
      rw [num_endR hv, Rw_1]
      unfold x_R_readNumber_118
      rw [if_neg m1nn, if_neg (ne_neg (by omega))]
      exact .inr (.inl ⟨q, q, _, by omega, rfl, rfl, by rw [Ra_1, Ra_1, Rw_1], FrB.mk4 _ _ _ _ _⟩)
theorem Leaf.mono {sz v p' : Nat} {C : Option (Option Nat × cS × Nat × Nat)} {M : Option (Int32 × rS)} (hp : p' ≤ p) (h : Leaf (sI S rd 6 (I p)) rd sz (Rw R 3 (I p)) v t n p C M) : Leaf S rd sz R v t n p' C M := by
  have hF : ∀ R', FrB (Rw R 3 (I p)) R' v → FrB R R' v := by
    rintro R' ⟨h1, h2⟩
    exact ⟨fun k h3 h4 => by rw [h1 k h3 h4, Rw_1n _ _ h3], h2⟩
  rcases h with ⟨q, k, x, h1, h2, h3, h4, h5⟩ | ⟨q, w, R', h1, h2, h3, h4, h5⟩ | ⟨q, R', h1, h2, h3, h4, h5, h6, h7⟩
  · exact .inl ⟨q, k, x, by omega, h2, h3, by rw [h4, sI_twice], by rw [h5, Rw_twice]⟩
  · exact .inr (.inl ⟨q, w, R', h1, by rw [h2, sI_twice], h3, h4, hF _ h5⟩)
  · exact .inr (.inr ⟨q, R', by omega, h2, h3, by rw [h4, sI_twice], h5, h6, hF _ h7⟩)
theorem pr_number (hT : Tx t n) (hN : 1000 ≤ N) {v sz : Nat} (hv : v < 520) (hs : ownC b0 sz) (hp : p ≤ n) (hbad : R.1 4 = -1) (hC : CT b0 S rd t n p) (hR : RT R t n p) :
    Leaf S rd sz R v t n p (x_R_readNumber N b0 K rd sz S) (m_number N (I v) R) := by
  have hn := hT.1
  unfold x_R_readNumber m_number x_R_readNumber_18 x_R_readNumber_23 m_number_17 m_number_22 x_R_readNumber_38
  simp only [hC.ifk, peek_eq hC hn (show p ≤ 1000 by omega), here_eq hR hn (show p ≤ 1000 by omega), b1_some, hC.at_, hC.put, I_1, rP_eq, hR.2.1]
  have hC1 := hC.mv (p + 1)
  have hR1 := hR.mv (p + 1)
  by_cases h43 : ch t n p = 43
  · have hpn : p < n := by
      rcases Nat.lt_or_ge p n with h | h
      · exact h
      · rw [ch_out (by omega)] at h43; exact absurd h43 (by decide)
    have h45 : ¬ ch t n p = 45 := by rw [h43]; decide
    rw [if_pos ((pkEq 43 (by decide) (by decide)).2 h43), if_neg (fun g => h45 ((pkEq 45 (by decide) (by decide)).1 g)), if_pos h43, if_neg (by decide), if_neg (by decide)]
    exact Leaf.mono (by omega) (pr_num53 hT hN hv hs 1 0 (ch t n p) ⟨fun _ => h45, fun _ => rfl⟩ (show p + 1 ≤ n by omega) (by rw [Rw_1n _ _ (by decide)]; exact hbad) hC1 hR1)
  · rw [if_neg (fun g => h43 ((pkEq 43 (by decide) (by decide)).1 g)), if_neg h43]
    by_cases h45 : ch t n p = 45
    · have hpn : p < n := by
        rcases Nat.lt_or_ge p n with h | h
        · exact h
        · rw [ch_out (by omega)] at h45; exact absurd h45 (by decide)
      rw [if_pos ((pkEq 45 (by decide) (by decide)).2 h45), if_pos ((pkEq 45 (by decide) (by decide)).2 h45), if_pos h45, if_neg (by decide), if_neg (by decide)]
      exact Leaf.mono (by omega) (pr_num53 hT hN hv hs 1 1 (ch t n p) ⟨fun g => absurd g (by decide), fun g => absurd h45 g⟩ (show p + 1 ≤ n by omega) (by rw [Rw_1n _ _ (by decide)]; exact hbad) hC1 hR1)
    · have g := fun g => h45 ((pkEq 45 (by decide) (by decide)).1 g)
      rw [if_neg g, if_neg g, if_neg h45, if_pos trivial, if_pos trivial]
      exact pr_num53 hT hN hv hs 0 0 (ch t n p) ⟨fun _ => h45, fun _ => rfl⟩ hp hbad hC hR
end
