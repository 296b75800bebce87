/-! Class, reference and out in one heap. -/
theorem cCell_mid {dA : Nat → ClassId} {b0 a : Nat} {S : cS} (h1 : b0 + 5 ≤ a) (h2 : a < b0 + 26) : cCell dA b0 S a = none := by
  unfold cCell
  rw [if_pos (by unfold ck; rw [if_pos (by omega)])]
theorem cH_mid {dA : Nat → ClassId} {b0 a : Nat} {S : cS} {hp0 : aH} (h1 : b0 + 5 ≤ a) (h2 : a < b0 + 26) : cH dA b0 S hp0 a = hp0 a := by
  unfold cH; rw [cCell_mid h1 h2]
/-- The reference lies where the class has nothing. -/
theorem cH_rH {dA : Nat → ClassId} {b0 : Nat} {S : cS} {R : rS} {hp0 : aH} : cH dA b0 S (rH dA (b0 + 5) R hp0) = rH dA (b0 + 5) R (cH dA b0 S hp0) := by
  funext a
  by_cases h : b0 + 5 ≤ a ∧ a < b0 + 25
  · rw [cH_mid h.1 (by omega)]
    by_cases e : a = b0 + 5
    · simp only [rH, if_pos e]
    · simp only [rH, if_neg e, if_pos (show b0 + 5 < a ∧ a ≤ b0 + 5 + 19 by omega)]
  · have e1 : ¬ a = b0 + 5 := by omega
    have e2 : ¬ (b0 + 5 < a ∧ a ≤ b0 + 5 + 19) := by omega
    have r : ∀ hp : aH, rH dA (b0 + 5) R hp a = hp a := fun hp => by simp only [rH, if_neg e1, if_neg e2]
    rw [r]
    unfold cH
    cases cCell dA b0 S a with
    | none => exact r hp0
    | some _ => rfl
theorem oH_rH {dA : Nat → ClassId} {b0 : Nat} {R : rS} {hp0 : aH} {g : Nat → Int64} : oH dA b0 (rH dA (b0 + 5) R hp0) g = rH dA (b0 + 5) R (oH dA b0 hp0 g) := by
  funext a
  unfold oH
  by_cases e : a = b0 + 25
  · subst e
    rw [va_up_self]
    simp only [rH, if_neg (show ¬ b0 + 25 = b0 + 5 by omega), if_neg (show ¬ (b0 + 5 < b0 + 25 ∧ b0 + 25 ≤ b0 + 5 + 19) by omega), va_up_self]
  · rw [va_up_ne _ _ e]
    simp only [rH, va_up_ne _ _ e]
theorem oH_oH {dA : Nat → ClassId} {b0 : Nat} {hp0 : aH} {g g' : Nat → Int64} : oH dA b0 (oH dA b0 hp0 g) g' = oH dA b0 hp0 g' := by
  funext a
  unfold oH
  by_cases e : a = b0 + 25
  · subst e; rw [va_up_self, va_up_self]
  · rw [va_up_ne _ _ e, va_up_ne _ _ e, va_up_ne _ _ e]
/-- The heap between two calls of the law. -/
def lawH (dA : Nat → ClassId) (b0 : Nat) (S : cS) (R : rS) (g : Nat → Int64) (hp0 : aH) : aH := cH dA b0 S (rH dA (b0 + 5) R (oH dA b0 hp0 g))
theorem lawH_r {dA : Nat → ClassId} {b0 : Nat} {S : cS} {R : rS} {g : Nat → Int64} {hp0 : aH} : lawH dA b0 S R g hp0 = rH dA (b0 + 5) R (cH dA b0 S (oH dA b0 hp0 g)) := cH_rH
theorem lawH_o {dA : Nat → ClassId} {b0 : Nat} {S : cS} {R : rS} {g g' : Nat → Int64} {hp0 : aH} : cH dA b0 S (oH dA b0 (rH dA (b0 + 5) R (oH dA b0 hp0 g)) g') = lawH dA b0 S R g' hp0 := by
  unfold lawH
  rw [oH_rH, oH_oH]
theorem lawH_25 {dA : Nat → ClassId} {b0 : Nat} {R : rS} {g : Nat → Int64} {hp0 : aH} : rH dA (b0 + 5) R (oH dA b0 hp0 g) (b0 + 25) = some (.inl (dA 4, 1, .inr (.inl g))) := by
  rw [← oH_rH]; unfold oH; rw [va_up_self]
