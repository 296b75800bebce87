section
variable {b0 N : Nat} {K S S' : cS} {rd sb al vb vb' sz sz' sz0 : Nat} {t : Nat → Int32} {n p q : Nat} {R R' : rS} {l : List Int32} {hb u0 u : Nat} {T T' : Ar} {ad : Nat → Nat} {m lo e : Nat} {kd : Nat → List Nat} {xs : List Nat} {S0 : cS} {R0 : rS}
theorem lt79 {x : Int32} (h : x = 9 ∨ x = 10) : 7 < x := by rcases h with rfl | rfl <;> decide
/-- The dotted tables of a closed table are closed: the class goes along its list. -/
theorem close_C {v : Nat} {RV : Nat → Int32 → Nat → cS → Option (Option Nat × cS × Nat × Nat)} : ∀ (d i f : Nat) (S : cS) (T : Ar), i + d = xs.length → d < f → BC b0 K rd sb al t n sz0 S0 S vb e sz T kd ad m xs p → (∀ j x, i ≤ j → xs[j]? = some x → T.1 x = 9 ∨ T.1 x = 10) →
    ∃ S1 T1, x_R_readClosedTable_135 N b0 K RV f rd (ad v) (I i) sz S = some (some (ad v), S1, 0, 0) ∧ BC b0 K rd sb al t n sz0 S0 S1 vb e sz T1 kd ad m xs p ∧ T1.2 = T.2 ∧ (∀ x, (∃ j, i ≤ j ∧ xs[j]? = some x) → T1.1 x = 10) ∧ (∀ x, (¬ ∃ j, i ≤ j ∧ xs[j]? = some x) → T1.1 x = T.1 x) ∧ ∀ a, (∀ i, i < m → a ≠ ad i) → Same S S1 a := by
  intro d
  induction d with
  | zero =>
    intro i f S T hi hf hC h9
    obtain ⟨f, rfl⟩ : ∃ j, f = j + 1 := ⟨f - 1, by omega⟩
    refine ⟨S, T, ?_, hC, rfl, fun x ⟨j, h1, h2⟩ => ?_, fun _ _ => rfl, fun a _ => Same.refl S a⟩
    · unfold x_R_readClosedTable_135 x_R_readClosedTable_135F
      have hal := hC.2.2.1
      have hl : xs.length ≤ 240 := by have := hal.2.2.2.2.1; simpa using this
      rw [gR_own (.inl hC.ct.1) hC.kinds.1, hC.2.1, b1_some, b1_some, ifk_own hal.1 hal.2.1, hal.size, b1_some, List.length_map, if_pos (I_le1 (by omega) (by omega))]
    · have := glt h2; omega
  | succ d ih =>
    intro i f S T hi hf hC h9
    obtain ⟨f, rfl⟩ : ∃ j, f = j + 1 := ⟨f - 1, by omega⟩
    have hal := hC.2.2.1
    have hl : xs.length ≤ 240 := by have := hal.2.2.2.2.1; simpa using this
    obtain ⟨x, hx⟩ : ∃ x, xs[i]? = some x := ⟨_, List.getElem?_eq_getElem (by omega)⟩
    have hxm : x < m := hC.2.2.2.2.2.2.2.1 x (List.mem_of_getElem? hx)
    have nx := hC.rel.1 x hxm
    have hget : (xs.map ad)[i]? = some (ad x) := by rw [List.getElem?_map, hx]; rfl
    have k9 := h9 i x (Nat.le_refl _) hx
    have hC1 := hC.kind hxm (k := 10) (.inr (.inr (.inr rfl))) (lt79 k9)
    have t1 : ∀ z, (arK T x 10).1 z = if z = x then 10 else T.1 z := fun z => by show va_up _ _ _ _ = _; unfold va_up; rfl
    obtain ⟨S1, T1, f1, f2, f3, f4, f5, f6⟩ := ih (i + 1) f _ _ (by omega) (by omega) hC1 (fun j z hj hz => by
      rw [t1]
      by_cases ez : z = x
      · rw [if_pos ez]; exact .inr rfl
      · rw [if_neg ez]; exact h9 j z (by omega) hz)
    refine ⟨S1, T1, ?_, f2, f3, fun z ⟨j, h1, h2⟩ => ?_, fun z hz => ?_, fun a ha => (Same.sI _ (ha x hxm)).trans (f6 a ha)⟩
    · unfold x_R_readClosedTable_135 x_R_readClosedTable_135F
      rw [gR_own (.inl hC.ct.1) hC.kinds.1, hC.2.1, b1_some, b1_some, ifk_own hal.1 hal.2.1, hal.size, b1_some, List.length_map, if_neg (I_le0 (by omega) (by omega)), b1_some, b1_some, ifk_own hal.1 hal.2.1, hal.get hget, b1_some, b1_some, ifk_own nx.1 nx.2.2.1, pI_own nx.1 nx.2.2.1, b1_some, I_1]
      exact f1
    · by_cases hj : ∃ j, i + 1 ≤ j ∧ xs[j]? = some z
      · exact f4 z hj
      · rw [f5 z hj, t1]
        have : j = i := by
          rcases Nat.lt_or_ge i j with g | g
          · exact absurd ⟨j, by omega, h2⟩ hj
          · omega
        subst this
        rw [hx] at h2; cases h2
        rw [if_pos rfl]
    · rw [f5 z (fun ⟨j, h1, h2⟩ => hz ⟨j, by omega, h2⟩), t1, if_neg (fun g => hz ⟨i, Nat.le_refl _, by rw [g]; exact hx⟩)]
theorem Ra_same {j i : Nat} {x : Int32} (h : R.2 j i = x) : Ra R j i x = R := by
  unfold Ra
  have : va_up R.2 j (upd (R.2 j) i x) = R.2 := by
    apply va_same
    funext a; unfold upd; split
    · rename_i g; rw [g, h]
    · rfl
  rw [this]
/-- The reference goes along all its later values. -/
theorem close_R (hm : m ≤ 260) : ∀ (d k f : Nat) (R : rS) (T' : Ar), k + d = m → d < f → BR t n hb R0 R T' m u p →
    ∃ R1 T1', m_stepTable_54 N f (I (260 * hb + k)) R = some (1, R1) ∧ BR t n hb R0 R1 T1' m u p ∧ T1'.2 = T'.2 ∧ (∀ i, T1'.1 i = if k ≤ i ∧ i < m ∧ T'.1 i = 9 then 10 else T'.1 i) ∧ R1.1 = R.1 ∧ ∀ j i, j ≠ 3 → R1.2 j i = R.2 j i := by
  intro d
  induction d with
  | zero =>
    intro k f R T' hk hf hR
    obtain ⟨f, rfl⟩ : ∃ j, f = j + 1 := ⟨f - 1, by omega⟩
    have hb1 := hR.1.2.2.1
    refine ⟨R, T', ?_, hR, rfl, fun i => by rw [if_neg (by omega)], rfl, fun _ _ _ => rfl⟩
    unfold m_stepTable_54 m_stepTable_54F
    rw [hR.1.2.1, rL_eq (by show _ < 2; omega) (by omega), hR.2.1, b1_some, show (260 : Int32) * I hb + I m = I (260 * hb + m) by rw [show (260 : Int32) = I 260 from rfl, I_mul, I_add], if_pos (I_le1 (by omega) (by omega))]
  | succ d ih =>
    intro k f R T' hk hf hR
    obtain ⟨f, rfl⟩ : ∃ j, f = j + 1 := ⟨f - 1, by omega⟩
    have hb1 := hR.1.2.2.1
    have hkm : k < m := by omega
    have kR := (hR.2.2.2.1.1 k hkm).1
    have hhead : m_stepTable_54 N (f + 1) (I (260 * hb + k)) R = m_stepTable_54 N f (I (260 * hb + (k + 1))) (Ra R 3 (260 * hb + k) (if T'.1 k = 9 then 10 else T'.1 k)) := by
      conv => lhs; unfold m_stepTable_54 m_stepTable_54F m_stepTable_103
      rw [hR.1.2.1, rL_eq (by show _ < 2; omega) (by omega), hR.2.1, b1_some, show (260 : Int32) * I hb + I m = I (260 * hb + m) by rw [show (260 : Int32) = I 260 from rfl, I_mul, I_add], if_neg (I_le0 (by omega) (by omega)), rL_eq (by show _ < 520; omega) (by omega), kR, b1_some, b1_some]
      by_cases h9 : T'.1 k = 9
      · rw [if_pos h9, if_pos h9, rT_eq (by show _ < 520; omega) (by omega), b1_some, I_1]; rfl
      · rw [if_neg h9, if_neg h9, rT_eq (by show _ < 520; omega) (by omega), b1_some, I_1]; rfl
    rw [hhead]
    by_cases h9 : T'.1 k = 9
    · rw [if_pos h9]
      have hR1 := hR.kind hkm hm (k := 10) (by decide) (by rw [h9]; decide)
      obtain ⟨R1, T1', f1, f2, f3, f4, f5, f6⟩ := ih (k + 1) f _ _ (by omega) (by omega) hR1
      refine ⟨R1, T1', f1, f2, f3, fun i => ?_, f5, fun j i hj => by rw [f6 j i hj, Ra_ne _ (.inl hj)]⟩
      rw [f4]
      have t1 : (arK T' k 10).1 i = if i = k then 10 else T'.1 i := by show va_up _ _ _ _ = _; unfold va_up; rfl
      rw [t1]
      by_cases ei : i = k
      · subst ei
        rw [if_neg (by omega), if_pos rfl, if_pos ⟨Nat.le_refl _, hkm, h9⟩]
      · rw [if_neg ei]
        refine ite_iff ?_ _ _
        constructor
        · rintro ⟨a, b, c⟩; exact ⟨by omega, b, c⟩
        · rintro ⟨a, b, c⟩; exact ⟨by omega, b, c⟩
    · rw [if_neg h9, Ra_same kR]
      obtain ⟨R1, T1', f1, f2, f3, f4, f5, f6⟩ := ih (k + 1) f _ _ (by omega) (by omega) hR
      refine ⟨R1, T1', f1, f2, f3, fun i => ?_, f5, f6⟩
      rw [f4]
      by_cases ei : i = k
      · subst ei
        rw [if_neg (by omega), if_neg (by rintro ⟨_, _, g⟩; exact h9 g)]
      · refine ite_iff ?_ _ _
        constructor
        · rintro ⟨a, b, c⟩; exact ⟨by omega, b, c⟩
        · rintro ⟨a, b, c⟩; exact ⟨by omega, b, c⟩
end
