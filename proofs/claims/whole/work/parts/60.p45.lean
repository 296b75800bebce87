section
variable {b0 N : Nat} {K S S' : cS} {rd sb al vb vb' sz sz' sz0 : Nat} {t : Nat → Int32} {n p q : Nat} {R R' : rS} {l : List Int32} {hb u0 u : Nat} {T T' : Ar} {ad : Nat → Nat} {m lo e : Nat} {kd : Nat → List Nat} {xs : List Nat} {S0 : cS} {R0 : rS}
/-- The class's state when a reading begins. -/
def rdS (S : cS) (b0 sz d n : Nat) : cS :=
  sI (sI (sI (sR (sR (nd (sR (sR (sI (nO (sR (sI (sR (nA (nO (sI (sR (nO S 4 sz) sz 0 (some (b0 + 1))) sz 1 (I n)) 7 (sz + 1)) 12 (sz + 2) 16) (sz + 1) 0 (some (sz + 2))) (sz + 1) 1 0) sz 2 (some (sz + 1))) 8 (sz + 3)) (sz + 3) 0 0) (sz + 3) 1 (some d)) sz 3 (some (sz + 3))) (sz + 4) 7 0) sz 4 (some (sz + 4))) sz 5 (some (sz + 4))) sz 6 0) sz 7 (-1)) b0 2 0
theorem rdS_old {d a : Nat} (h : a < sz) (hb : a ≠ b0) : Same S (rdS S b0 sz d n) a := by
  unfold rdS
  have h1 : a ≠ sz := by omega
  have h2 : a ≠ sz + 1 := by omega
  have h3 : a ≠ sz + 2 := by omega
  have h4 : a ≠ sz + 3 := by omega
  have h5 : a ≠ sz + 4 := by omega
  exact ((((((((((((((((((Same.nO h1).trans (Same.sR _ h1)).trans (Same.sI _ h1)).trans (Same.nO h2)).trans (Same.nA h3)).trans (Same.sR _ h2)).trans (Same.sI _ h2)).trans (Same.sR _ h1)).trans (Same.nO h4)).trans (Same.sI _ h4)).trans (Same.sR _ h4)).trans (Same.sR _ h1)).trans (Same.nd h5)).trans (Same.sR _ h1)).trans (Same.sR _ h1)).trans (Same.sI _ h1)).trans (Same.sI _ h1)).trans (Same.sI _ hb))
theorem rdS_k (d : Nat) (hb : b0 < sz) : (rdS S b0 sz d n).1 sz = 4 ∧ (rdS S b0 sz d n).1 (sz + 1) = 7 ∧ (rdS S b0 sz d n).1 (sz + 2) = 12 ∧ (rdS S b0 sz d n).1 (sz + 3) = 8 ∧ (rdS S b0 sz d n).1 (sz + 4) = 2 ∧ (rdS S b0 sz d n).1 b0 = S.1 b0 := by
  have h1 : b0 ≠ sz := by omega
  have h2 : b0 ≠ sz + 1 := by omega
  have h3 : b0 ≠ sz + 2 := by omega
  have h4 : b0 ≠ sz + 3 := by omega
  have h5 : b0 ≠ sz + 4 := by omega
  simp [rdS, nd, sI, sR, nO, nA, va_up, h1, h2, h3, h4, h5]
theorem rdS_n (d : Nat) : (rdS S b0 sz d n).2.1 (sz + 2) = 16 := by
  simp [rdS, nd, sI, sR, nO, nA, va_up]
theorem rdS_i (d : Nat) (hb : b0 < sz) : (rdS S b0 sz d n).2.2.1 sz 1 = I n ∧ (rdS S b0 sz d n).2.2.1 sz 6 = I 0 ∧ (rdS S b0 sz d n).2.2.1 (sz + 1) 1 = 0 ∧ (rdS S b0 sz d n).2.2.1 (sz + 1) 3 = I 0 ∧ (∀ j, (rdS S b0 sz d n).2.2.1 (sz + 2) j = 0) ∧ (rdS S b0 sz d n).2.2.1 (sz + 3) 2 = I 0 ∧ (rdS S b0 sz d n).2.2.1 (sz + 4) 0 = 7 ∧ (rdS S b0 sz d n).2.2.1 (sz + 4) 1 = 0 ∧ (rdS S b0 sz d n).2.2.1 b0 2 = I 0 := by
  have h1 : b0 ≠ sz := by omega
  have h2 : b0 ≠ sz + 1 := by omega
  have h3 : b0 ≠ sz + 2 := by omega
  have h4 : b0 ≠ sz + 3 := by omega
  have h5 : b0 ≠ sz + 4 := by omega
  simp [rdS, nd, sI, sR, nO, nA, up2, va_up, h1, h2, h3, h4, h5, h1.symm, h2.symm, h3.symm, h4.symm, h5.symm]
  rfl
theorem rdS_r (d : Nat) (hb : b0 < sz) : (rdS S b0 sz d n).2.2.2 sz 0 = some (b0 + 1) ∧ (rdS S b0 sz d n).2.2.2 sz 2 = some (sz + 1) ∧ (rdS S b0 sz d n).2.2.2 sz 3 = some (sz + 3) ∧ (rdS S b0 sz d n).2.2.2 sz 4 = some (sz + 4) ∧ (rdS S b0 sz d n).2.2.2 sz 5 = some (sz + 4) ∧ (rdS S b0 sz d n).2.2.2 (sz + 1) 0 = some (sz + 2) ∧ (rdS S b0 sz d n).2.2.2 (sz + 3) 1 = some d ∧ (∀ f, (rdS S b0 sz d n).2.2.2 (sz + 4) f = none) ∧ (∀ f, (rdS S b0 sz d n).2.2.2 b0 f = S.2.2.2 b0 f) := by
  have h1 : b0 ≠ sz := by omega
  have h2 : b0 ≠ sz + 1 := by omega
  have h3 : b0 ≠ sz + 2 := by omega
  have h4 : b0 ≠ sz + 3 := by omega
  have h5 : b0 ≠ sz + 4 := by omega
  simp [rdS, nd, sI, sR, nO, nA, up2, va_up, h1, h2, h3, h4, h5, h1.symm, h2.symm, h3.symm, h4.symm, h5.symm]
end
