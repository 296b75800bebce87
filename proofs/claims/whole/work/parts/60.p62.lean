section
variable {b0 N : Nat} {K S S' : cS} {t o : Nat → Int32} {R : rS}
theorem obA4 (b0 : Nat) : ownC b0 (b0 + 4) := .inr ⟨by omega, by omega⟩
/-- A new TableText: nothing typed, nothing read, nothing written. -/
theorem pr_new (h : S.1 b0 = 1) : ∃ S', x_T_init N b0 K b0 (b0 + 1) S = some (S', 4, 850) ∧ CS b0 S' (b0 + 26) t 0 o 0 ar0 (fun _ => []) (fun _ => b0 + 4) 1 0 := by
  unfold x_T_init x_P_init x_N_init
  rw [show (240 : Int32) = I 240 from rfl, show (600 : Int32) = I 600 from rfl, nAo_own (obA1 b0) (by omega), b1_some, pR_own (obA0 b0) (by show va_up _ _ _ _ = _; rw [va_ne _ _ (by omega)]; exact h), b1_some, show b0 + 1 + 1 = b0 + 2 from rfl, nOo_own (obA2 b0), b1_some, show b0 + 2 + 1 = b0 + 3 from rfl, nAo_own (obA3 b0) (by omega), b1_some, pR_own (obA2 b0) (by show va_up _ _ _ _ = _; rw [va_ne _ _ (by omega)]; exact va_at_ _ _ _), b1_some, pI_own (obA2 b0) (by show va_up _ _ _ _ = _; rw [va_ne _ _ (by omega)]; exact va_at_ _ _ _), b1_some]
  have e : ∀ (X : cS), wr3 1 (I 600).toNatClampNeg (some (X, 0, 0)) = some (X, 1, 600) := fun X => rfl
  rw [e, b3_some, show b0 + 3 + 1 = b0 + 4 from rfl]
  have kk : ∀ (X : cS), X.1 b0 = 1 → ∀ a, a ≠ b0 → ∀ z n, (nA X z a n).1 b0 = 1 ∧ (nO X z a).1 b0 = 1 := fun X hX a ha z n => ⟨by show va_up _ _ _ _ = _; rw [va_ne _ _ (Ne.symm ha)]; exact hX, by show va_up _ _ _ _ = _; rw [va_ne _ _ (Ne.symm ha)]; exact hX⟩
  have k1 := (kk S h (b0 + 1) (by omega) 11 240).1
  have k2 : (sR (nA S 11 (b0 + 1) 240) b0 0 (some (b0 + 1))).1 b0 = 1 := k1
  have k3 := (kk _ k2 (b0 + 2) (by omega) 5 0).2
  have k4 := (kk _ k3 (b0 + 3) (by omega) 11 600).1
  rw [pR_own (obA0 b0) (by exact k4), b1_some, pI_own (obA0 b0) (by exact k4), b1_some, nOo_own (obA4 b0), b1_some, pI_own (obA4 b0) (by exact va_at_ _ _ _), b1_some, pI_own (obA4 b0) (by exact va_at_ _ _ _), b1_some, b1_some]
  have k5 : ∀ (X : cS), X.1 b0 = 1 → (nO X 2 (b0 + 4)).1 b0 = 1 := fun X hX => (kk X hX (b0 + 4) (by omega) 2 0).2
  rw [pR_own (obA0 b0) (by exact k5 _ k4), b1_some, gR_own (obA0 b0) (by exact k5 _ k4), b1_some, pR_own (obA0 b0) (by exact k5 _ k4), b1_some]
  refine ⟨_, rfl, ?_⟩
  have n1 : b0 + 1 ≠ b0 := by omega
  have n2 : b0 + 2 ≠ b0 := by omega
  have n3 : b0 + 3 ≠ b0 := by omega
  have n4 : b0 + 4 ≠ b0 := by omega
  refine ⟨by omega, ?_, ?_, ?_, ?_, ?_, ?_, ?_, ?_, fun i hi => by omega, ?_, ?_, ?_, ?_, ?_, fun i hi => by omega, ⟨fun i hi => ?_, fun i j hi hj _ => by omega, fun i hi f j _ _ e => by cases e⟩, wf0, by omega, by omega, by decide, fun i hi => .inl rfl⟩
  case refine_14 =>
    have hx : (0 : Int32) = I 0 := rfl
    refine ⟨obA4 b0, by show b0 + 4 < b0 + 26; omega, ?_, ?_, ?_, fun f h4 h7 => ?_, ⟨fun _ => ?_, fun ls e => by cases e⟩, ⟨fun _ => ?_, fun ls e => by cases e⟩⟩
    all_goals simp [sI, sR, nA, nO, up2, va_up, h, ar0]
  all_goals first | (simp [sI, sR, nA, nO, up2, va_up, h]; done) | (simp [sI, sR, nA, nO, up2, va_up, h]; rfl)
/-- The reference as it is made. -/
theorem pr_newR (g1 : R.1 1 = 0) (g5 : R.1 5 = 0) (g18 : R.1 18 = 0) (g29 : R.1 29 = 0) (h3 : R.2 3 0 = 7) (h5 : R.2 5 0 = -1) (h6 : R.2 6 0 = -1) (h4 : R.2 4 0 = 0) (h9 : R.2 9 0 = 0) : RS R t 0 o 0 ar0 0 1 0 0 := by
  refine ⟨g1, fun i hi => by omega, g29, fun i hi => by omega, by omega, g5, g18, ⟨fun i hi => ?_, fun i hi f j _ _ e => by cases e⟩, by omega, by omega⟩
  have : i = 0 := by omega
  subst this
  exact ⟨h3, fun _ => h9, fun _ => h4, h5, h6, (fun j e => by cases e), fun g => absurd rfl g, (fun ls e => by cases e), (fun ls e => by cases e)⟩
end
