section
variable {b0 N : Nat} {K S : cS} {rd : Nat} {t : Nat → Int32} {n p : Nat} {R : rS}
def nd (S : cS) (sz : Nat) (k a : Int32) : cS := sI (sI (nO S 2 sz) sz 0 k) sz 1 a
theorem nO_k (S : cS) (z a : Nat) : (nO S z a).1 a = z := va_at_ _ _ _
theorem init_nd {α : Type} {sz : Nat} (h : ownC b0 sz) (k a : Int32) (f : cS → Option α) :
    (b1 (nOo b0 S 2 sz) (fun S1 => b1 (x_N_init N b0 K sz k a S1) f)) = f (nd S sz k a) := by
  rw [nOo_own h]
  simp only [b1_some]
  unfold x_N_init
  rw [pI_own h (nO_k _ _ _)]
  simp only [b1_some]
  rw [pI_own h (by exact nO_k _ _ _)]
  rfl
def Ra (R : rS) (j i : Nat) (x : Int32) : rS := (R.1, va_up R.2 j (upd (R.2 j) i x))
theorem rT_eq {j i : Nat} (h : i < rN j) (hb : i < 2147483648) (x : Int32) : rT R j (I i) x = some (Ra R j i x) := by
  unfold rT Ra; rw [I_toInt hb, I_nat hb, if_pos ⟨by omega, by omega⟩]
theorem rL_eq {j i : Nat} (h : i < rN j) (hb : i < 2147483648) : rL R j (I i) = some (R.2 j i) := by
  unfold rL; rw [I_toInt hb, I_nat hb, if_pos ⟨by omega, by omega⟩]
theorem Ra_1 (j i : Nat) (x : Int32) (k : Nat) : (Ra R j i x).1 k = R.1 k := id rfl
theorem Ra_at (j i : Nat) (x : Int32) : (Ra R j i x).2 j i = x := by
  show (va_up R.2 j (upd (R.2 j) i x)) j i = _; rw [va_at_]; unfold upd; rw [if_pos rfl]
theorem Ra_ne {j i : Nat} (x : Int32) {j' i' : Nat} (h : j' ≠ j ∨ i' ≠ i) : (Ra R j i x).2 j' i' = R.2 j' i' := by
  show (va_up R.2 j (upd (R.2 j) i x)) j' i' = _
  by_cases e : j' = j
  · subst e; rw [va_at_]; unfold upd; rw [if_neg (h.resolve_left (fun g => g rfl))]
  · rw [va_ne _ _ e]
def FrB (R R' : rS) (v : Nat) : Prop := (∀ k, k ≠ 3 → k ≠ 4 → R'.1 k = R.1 k) ∧ ∀ j i, (j ≠ 3 ∧ j ≠ 4) ∨ i ≠ v → R'.2 j i = R.2 j i
theorem FrB.mk2 (q w : Int32) (v : Nat) : FrB R (Rw (Rw R 3 q) 4 w) v :=
  ⟨fun k h3 h4 => by rw [Rw_1n _ _ h4, Rw_1n _ _ h3], fun _ _ _ => rfl⟩
theorem FrB.mk4 (q w x y : Int32) (v : Nat) : FrB R (Ra (Ra (Rw (Rw R 3 q) 4 w) 3 v x) 4 v y) v :=
  ⟨fun k h3 h4 => by rw [Ra_1, Ra_1, Rw_1n _ _ h4, Rw_1n _ _ h3], fun j i h => by
    rw [Ra_ne _ (by omega), Ra_ne _ (by omega)]; rfl⟩
def okl (k x : Int32) : Prop := (k = 1 ∧ ∃ y, y < 1000000000 ∧ (x = I y ∨ x = -(I y))) ∨ (k = 2 ∧ (x = 0 ∨ x = 1)) ∨ (k = 4 ∧ ∃ y, y < 100000000 ∧ x = I y)
def dgu (c : Int32) : Prop := c = 95 ∨ ∃ d, d < 10 ∧ c = I (48 + d)
/-- What comes of a leaf, in both: the same value; the same place of a fault; or the fault that the class tells a step later. -/
def Leaf (S : cS) (rd sz : Nat) (R : rS) (v : Nat) (t : Nat → Int32) (n p : Nat) (C : Option (Option Nat × cS × Nat × Nat)) (M : Option (Int32 × rS)) : Prop :=
  (∃ q k x, p < q ∧ q ≤ n ∧ okl k x ∧ C = some (some sz, nd (sI S rd 6 (I q)) sz k x, 1, 8) ∧ M = some (1, Ra (Ra (Rw R 3 (I q)) 3 v k) 4 v x)) ∨
  (∃ q w R', w ≤ n ∧ C = some (none, sI (sI S rd 6 (I q)) rd 7 (I w), 0, 0) ∧ M = some (0, R') ∧ R'.1 4 = I w ∧ FrB R R' v) ∨
  (∃ q R', p < q ∧ q < n ∧ dgu (t q) ∧ C = some (some sz, nd (sI S rd 6 (I q)) sz 1 0, 1, 8) ∧ M = some (0, R') ∧ R'.1 4 = I q ∧ FrB R R' v)
/-! Digits one by one. -/
theorem dig48 : ∀ k, k < 127 → ∀ d, d < 10 → dC 10 (I k) = I d → k = 48 + d := by decide +kernel
theorem dC48 : ∀ d, d < 10 → dC 10 (I (48 + d)) = I d := by decide +kernel
theorem digc (hT : Tx t n) {q d : Nat} (hd : d < 10) (h : dC (I 10) (pk t n q) = I d) : q < n ∧ t q = I (48 + d) := by
  by_cases hc : q < n
  · rw [pkIn hc] at h
    obtain ⟨k, hk, -, e⟩ := ch_code hT hc
    rw [e] at h ⊢
    exact ⟨hc, by rw [dig48 k hk d hd h]⟩
  · rw [pk_out hc] at h
    have : dC (I 10) (-1) = -1 := by decide
    rw [this] at h
    exact absurd h.symm (ne_neg (by omega))
theorem isDig : ∀ k, k < 127 → (if I k < 48 then (0 : Int32) else if 57 < I k then 0 else 1) = if 0 ≤ dC 10 (I k) then 1 else 0 := by decide +kernel
theorem isDigit_eq (hT : Tx t n) (q : Nat) : m_isDigit N (ch t n q) R = some (if 0 ≤ dC (I 10) (pk t n q) then 1 else 0) := by
  have h0 : m_isDigit N (ch t n q) R = some (if ch t n q < 48 then (0 : Int32) else if 57 < ch t n q then 0 else 1) := by
    unfold m_isDigit; repeat' split
    all_goals rfl
  rw [h0]
  by_cases hc : q < n
  · rw [pkIn hc, ch_in hc]
    obtain ⟨k, hk, -, e⟩ := ch_code hT hc
    rw [e]; exact congrArg some (isDig k hk)
  · rw [pk_out hc, ch_out hc]; decide
theorem m1nn : ¬ (0 : Int32) ≤ -1 := by decide
theorem pr_two_i (hT : Tx t n) (k : Nat) {M : Nat} (hM : M < 1000) (hp : p ≤ n) (hC : CT b0 S rd t n p) (hR : RT R t n p) :
    (∃ x, x < 100 ∧ p + 2 ≤ n ∧ x_R_readTwoDigits_10 N b0 K (k + 3) rd (I M) (I p) 0 0 S = (if x < 1 ∨ M < x then some (-1, sI (sI S rd 6 (I (p + 2))) rd 7 (I p)) else some (I x, sI S rd 6 (I (p + 2)))) ∧ m_two_4 N (k + 3) 0 0 R = some (I x, Rw R 3 (I (p + 2)))) ∨
    (∃ q, p ≤ q ∧ q ≤ n ∧ x_R_readTwoDigits_10 N b0 K (k + 3) rd (I M) (I p) 0 0 S = some (-1, sI (sI S rd 6 (I q)) rd 7 (I q)) ∧ m_two_4 N (k + 3) 0 0 R = some (-1, Rw (Rw R 3 (I q)) 4 (I q))) := by
  have hn := hT.1
  unfold x_R_readTwoDigits_10 m_two_4 x_R_readTwoDigits_10F m_two_4F x_R_wrong
  rw [if_neg (by decide), if_neg (by decide)]
  simp only [b1_some, hC.at_, hC.ifk, hC.put, I_1, rP_eq, hR.2.1, b2_some, digitAt_eq (q := p) hC hn (by omega), here_eq hR hn (by omega), isDigit_eq hT]
  rcases dig hT (b := 10) (.inl rfl) p with ⟨e, he, h1, h2, hpn⟩ | ⟨h1, h2⟩
  · rw [show (10 : Int32) = I 10 from rfl, h1, if_pos (I_nn' (by omega)), if_pos (I_nn' (by omega)), if_neg (by decide)]
    have hC1 := hC.mv (p + 1)
    have hR1 := hR.mv (p + 1)
    obtain ⟨-, hc1⟩ := digc hT he h1
    unfold x_R_readTwoDigits_10 m_two_4 x_R_readTwoDigits_10F m_two_4F x_R_wrong
    rw [if_neg (by decide), if_neg (by decide)]
    simp only [b1_some, hC1.at_, hC1.ifk, hC1.put, I_1, rP_eq, hR1.2.1, b2_some, digitAt_eq (q := p + 1) hC1 hn (by omega), here_eq hR1 hn (by omega), isDigit_eq hT]
    rcases dig hT (b := 10) (.inl rfl) (p + 1) with ⟨e', he', h1', h2', hpn'⟩ | ⟨h1', h2'⟩
    · rw [show (10 : Int32) = I 10 from rfl, h1', if_pos (I_nn' (by omega)), if_pos (I_nn' (by omega)), if_neg (by decide)]
      obtain ⟨-, hc2⟩ := digc hT he' h1'
      unfold x_R_readTwoDigits_10 m_two_4 x_R_readTwoDigits_10F m_two_4F x_R_readTwoDigits_78 x_R_wrong
      have hC2 := hC.mv (p + 1 + 1)
      have hR2 := hR.mv (p + 1 + 1)
      have g2 : (2 : Int32) ≤ 0 + 1 + 1 := by decide
      rw [if_pos g2, if_pos g2, sI_twice, Rw_twice]
      have a1 : I 10 * (I 10 * 0 + I e) + I e' = I (10 * e + e') := by
        rw [show (0 : Int32) = I 0 from rfl, I_mul, I_add, I_mul, I_add]; congr 1; omega
      have a2 : I 10 * (I 10 * 0 + ch t n p - 48) + ch t n (p + 1) - 48 = I (10 * e + e') := by
        rw [ch_in hpn, ch_in hpn', hc1, hc2, show (0 : Int32) = I 0 from rfl, show (48 : Int32) = I 48 from rfl, I_mul, I_add, I_sub (by omega), I_mul, I_add, I_sub (by omega)]; congr 1; omega
      rw [a1, a2]
      simp only [hC2.ifk, hC2.put, b1_some, b2_some]
      refine .inl ⟨10 * e + e', by omega, by omega, ?_, rfl⟩
      by_cases g1 : 10 * e + e' < 1
      · rw [if_pos (show I (10 * e + e') < (1 : Int32) from I_lt1 (b := 1) g1 (by omega)), if_pos (.inl g1)]
      · rw [if_neg (show ¬ I (10 * e + e') < (1 : Int32) from I_lt0 (b := 1) (by omega) (by omega))]
        by_cases g2 : M < 10 * e + e'
        · rw [if_neg (I_le0 g2 (by omega)), if_pos (.inr g2)]
        · rw [if_pos (I_le1 (by omega) (by omega)), if_neg (by omega)]
    · rw [show (10 : Int32) = I 10 from rfl, h1', if_neg m1nn, if_neg m1nn]
      exact .inr ⟨p + 1, by omega, by omega, rfl, rfl⟩
  · rw [show (10 : Int32) = I 10 from rfl, h1, if_neg m1nn, if_neg m1nn]
    exact .inr ⟨p, by omega, hp, by rw [hC.stay], by rw [hR.stay]; rfl⟩
theorem pr_two (hT : Tx t n) (hN : 1000 ≤ N) {M : Nat} (hM : M < 1000) (hp : p ≤ n) (hC : CT b0 S rd t n p) (hR : RT R t n p) :
    (∃ x, x < 100 ∧ p + 2 ≤ n ∧ x_R_readTwoDigits N b0 K rd (I M) S = (if x < 1 ∨ M < x then some (-1, sI (sI S rd 6 (I (p + 2))) rd 7 (I p)) else some (I x, sI S rd 6 (I (p + 2)))) ∧ m_two N R = some (I x, Rw R 3 (I (p + 2)))) ∨
    (∃ q, p ≤ q ∧ q ≤ n ∧ x_R_readTwoDigits N b0 K rd (I M) S = some (-1, sI (sI S rd 6 (I q)) rd 7 (I q)) ∧ m_two N R = some (-1, Rw (Rw R 3 (I q)) 4 (I q))) := by
  have h := pr_two_i (N := N) (K := K) hT (N - 3) hM hp hC hR
  rw [show N - 3 + 3 = N by omega] at h
  unfold x_R_readTwoDigits m_two
  rw [hC.at_]
  exact h
theorem leap4 (y : Nat) (h : y % 400 = 0) : y % 4 = 0 := by omega
theorem daysOf_eq {y m : Nat} (hy : y < 10000) (h1 : 1 ≤ m) (h2 : m ≤ 12) : ∃ d, d < 32 ∧ x_R_daysOf N b0 K (I y) (I m) S = some (I d) ∧ m_daysOf N (I y) (I m) R = some (I d) := by
  unfold x_R_daysOf m_daysOf
  rw [show (4 : Int32) = I 4 from rfl, show (100 : Int32) = I 100 from rfl, show (400 : Int32) = I 400 from rfl, I_mod (by omega) (by omega), I_mod (by omega) (by omega), I_mod (by omega) (by omega)]
  unfold x_R_daysOf_21 x_R_daysOf_25 x_R_daysOf_26 x_R_daysOf_39
  have e1 : (I (y % 4) = 0) ↔ y % 4 = 0 := I_inj (b := 0) (by omega) (by omega)
  have e2 : (I (y % 100) = 0) ↔ y % 100 = 0 := I_inj (b := 0) (by omega) (by omega)
  have e3 : (I (y % 400) = 0) ↔ y % 400 = 0 := I_inj (b := 0) (by omega) (by omega)
  simp only [e1, e2, e3]
  by_cases hm : m = 2
  · subst hm
    by_cases g4 : y % 400 = 0
    · refine ⟨29, by omega, ?_, ?_⟩
      · rw [if_pos (leap4 y g4), if_pos (by omega), if_pos g4]; decide
      · rw [if_pos (show I 2 = (2 : Int32) from rfl), if_pos g4]; rfl
    · by_cases g1 : y % 4 = 0
      · by_cases g2 : y % 100 = 0
        · refine ⟨28, by omega, ?_, ?_⟩
          · rw [if_pos g1, if_pos g2, if_neg g4]; decide
          · rw [if_pos (show I 2 = (2 : Int32) from rfl), if_neg g4, if_pos g1, if_pos g2]; rfl
        · refine ⟨29, by omega, ?_, ?_⟩
          · rw [if_pos g1, if_neg g2]; decide
          · rw [if_pos (show I 2 = (2 : Int32) from rfl), if_neg g4, if_pos g1, if_neg g2]; rfl
      · refine ⟨28, by omega, ?_, ?_⟩
        · rw [if_neg g1]; decide
        · rw [if_pos (show I 2 = (2 : Int32) from rfl), if_neg g4, if_neg g1]; rfl
  · have e4 : ¬ I m = 2 := fun h => hm ((I_inj (b := 2) (by omega) (by omega)).1 h)
    simp only [e4, if_false, ite_self]
    have : m = 1 ∨ m = 3 ∨ m = 4 ∨ m = 5 ∨ m = 6 ∨ m = 7 ∨ m = 8 ∨ m = 9 ∨ m = 10 ∨ m = 11 ∨ m = 12 := by omega
    rcases this with rfl | rfl | rfl | rfl | rfl | rfl | rfl | rfl | rfl | rfl | rfl
    all_goals first
      | exact ⟨31, by omega, by decide, by decide⟩
      | exact ⟨30, by omega, by decide, by decide⟩
      | omega
end
