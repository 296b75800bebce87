section
variable {b0 N : Nat} {K S S' : cS} {sz : Nat} {t : Nat → Int32} {n : Nat} {R R' : rS} {u : Nat} {T T' : Ar} {ad : Nat → Nat} {m : Nat} {kd : Nat → List Nat} {o : Nat → Int32} {w c hf : Nat}
theorem I_gt {w i : Nat} (h : ¬ I w ≤ I i) (hi : i < 2147483648) : i < w := by
  rw [Int32.le_iff_toInt_le, I_toInt hi] at h
  have e : (I w).toInt = (w : Int).bmod 4294967296 := by
    show (Int32.ofNat w).toInt = _
    exact Int32.toInt_ofNat'
  rw [e] at h
  by_cases g : (w : Int) % 4294967296 < 2147483648
  · rw [show (w : Int).bmod 4294967296 = (w : Int) % 4294967296 by unfold Int.bmod; rw [if_pos (by omega)]; rfl] at h
    omega
  · rw [show (w : Int).bmod 4294967296 = (w : Int) % 4294967296 - 4294967296 by unfold Int.bmod; rw [if_neg (by omega)]; rfl] at h
    omega
/-- written. -/
theorem pr_written (p1 : Int32) (hC : CS b0 S sz t n o w T kd ad m c) (hR : RS R t n o w T hf m u c) :
    (∃ x R', x_T_written N b0 K b0 p1 S = some x ∧ m_written N p1 R = some (x, R') ∧ R'.1 0 = 0 ∧ RS R' t n o w T hf m u c) ∨
    (∃ x R', xt_T_written N b0 K b0 p1 S = some 2 ∧ m_written N p1 R = some (x, R') ∧ R'.1 0 = 1 ∧ RS R' t n o w T hf m u c) := by
  have hC' := hC
  have hR' := hR
  obtain ⟨c1, c2, c3, c4, c5, c6, c7, c8, c9, c10, c11, c12, c13, c14, c15, c16, c17, c18, c19, c20, c21, c22⟩ := hC'
  obtain ⟨h1, h2, h3, h4, h5, h6, h7, h8, h9, h10⟩ := hR'
  have hthrow : m_written_20 N p1 R = some (0, Rw R 0 1) := by
    unfold m_written_20 m_written_25
    rw [rP_eq, b1_some, Rw_1, if_neg (by decide)]
  unfold x_T_written xt_T_written m_written
  by_cases hneg : p1 < 0
  · rw [if_pos hneg, if_pos hneg, if_pos hneg, hthrow]
    exact .inr ⟨_, _, rfl, rfl, Rw_1 _ _ _, hR.th 1⟩
  · obtain ⟨i, hi, rfl⟩ := nneg hneg
    rw [if_neg hneg, if_neg hneg, if_neg hneg, gR_own (obA0 b0) c2, c4]
    simp only [b1_some]
    rw [gI_own (obA2 b0) c11, c13]
    simp only [b1_some]
    rw [h3]
    by_cases hw : I w ≤ I i
    · rw [if_pos hw, if_pos hw, if_pos hw, hthrow]
      exact .inr ⟨_, _, rfl, rfl, Rw_1 _ _ _, hR.th 1⟩
    · rw [if_neg hw, if_neg hw, if_neg hw]
      have hiw := I_gt hw hi
      by_cases h6' : i < 600
      · rw [if_pos (show I i < 600 from I_lt1 (b := 600) h6' (by omega)), if_pos (show I i < 600 from I_lt1 (b := 600) h6' (by omega)), if_pos (show I i < 600 from I_lt1 (b := 600) h6' (by omega)), gR_own (obA2 b0) c11, c12, b1_some, b1_some, aL_own (obA3 b0) c14 (by omega) hi, b1_some]
        unfold m_written_25
        rw [rP_eq, b1_some, if_pos (Rw_1 _ _ _), rL_eq (by show _ < 600; omega) hi, b1_some, Rw_2, h4 i hiw h6', c16 i hiw h6']
        exact .inl ⟨_, _, rfl, rfl, Rw_1 _ _ _, hR.th 0⟩
      · rw [if_neg (show ¬ I i < 600 from I_lt0 (b := 600) (by omega) hi), if_neg (show ¬ I i < 600 from I_lt0 (b := 600) (by omega) hi), if_neg (show ¬ I i < 600 from I_lt0 (b := 600) (by omega) hi), hthrow]
        exact .inr ⟨_, _, rfl, rfl, Rw_1 _ _ _, hR.th 1⟩
/-- letter. -/
theorem pr_letter (p1 : Int32) (hC : CS b0 S sz t n o w T kd ad m c) (hR : RS R t n o w T hf m u c) :
    (∃ x R', x_T_letter N b0 K b0 p1 S = some x ∧ m_letter N p1 R = some (x, R') ∧ R'.1 0 = 0 ∧ RS R' t n o w T hf m u c) ∨
    (∃ x R' e, xt_T_letter N b0 K b0 p1 S = some e ∧ (e = 1 ∨ e = 2) ∧ m_letter N p1 R = some (x, R') ∧ R'.1 0 = I e ∧ RS R' t n o w T hf m u c) := by
  have hC' := hC
  have hR' := hR
  obtain ⟨c1, c2, c3, c4, c5, c6, c7, c8, c9, c10, c11, c12, c13, c14, c15, c16, c17, c18, c19, c20, c21, c22⟩ := hC'
  obtain ⟨h1, h2, h3, h4, h5, h6, h7, h8, h9, h10⟩ := hR'
  have n0 := c17.1 c c20
  have r0 := h8.1 c c20
  have v0 := c18.2.2.2.2 c c20
  have ht1 : m_letter_40 N p1 1 R = some (0, Rw R 0 1) := by
    unfold m_letter_40
    rw [rP_eq, b1_some, Rw_1, if_neg (by decide)]
  have ht2 : m_letter_35 N p1 R = some (0, Rw R 0 2) := by
    unfold m_letter_35 m_letter_40
    rw [rP_eq, b1_some, Rw_1, if_neg (by decide)]
  unfold x_T_letter xt_T_letter m_letter
  rw [gR_own (obA0 b0) c2, c7, b1_some, b1_some, b1_some, b1_some, gR_own n0.1 n0.2.2.1, b1_some, b1_some, h7, rL_eq (by show _ < 520; omega) (by omega), r0.1, b1_some]
  cases hl : T.2.2.2.1 c with
  | none =>
    right
    have h3' : T.1 c ≠ 3 := by
      rcases v0 with ⟨g, _⟩ | ⟨_, ls, g, _⟩ | ⟨g, _⟩
      · intro e; rw [e] at g; rcases g with ⟨g, _⟩ | ⟨g, _⟩ | ⟨g, _⟩ <;> exact absurd g (by decide)
      · rw [hl] at g; cases g
      · intro e; rw [e] at g; rcases g with g | ⟨g, _⟩ | g | g | g | g <;> exact absurd g (by decide)
    rw [n0.2.2.2.2.2.2.1.1 hl, om_none, if_neg h3', ht1]
    exact ⟨_, _, 1, rfl, .inl rfl, rfl, Rw_1 _ _ _, hR.th 1⟩
  | some ls =>
    obtain ⟨s, e1, e2⟩ := n0.2.2.2.2.2.2.1.2 ls hl
    have hs : Str b0 K S s ls := e2.str
    have hks := hs.1
    obtain ⟨q1, ⟨f, q2, q3, q4, q5⟩, q6⟩ := r0.2.2.2.2.2.2.2.1 ls hl
    have hl1 := hs.2.2.1
    rw [e1, om_some, om_some, if_pos q1]
    by_cases hneg : p1 < 0
    · rw [if_pos hneg, if_pos hneg, if_pos hneg, ht2]
      exact .inr ⟨_, _, 2, rfl, .inr rfl, rfl, Rw_1 _ _ _, hR.th 2⟩
    · obtain ⟨i, hi, rfl⟩ := nneg hneg
      rw [if_neg hneg, if_neg hneg, if_neg hneg]
      simp only [ifk_kd hks]
      rw [hs.len]
      simp only [b1_some]
      rw [rL_eq (by show _ < 520; omega) (by omega), b1_some, r0.2.1 (.inl q1), q6]
      by_cases hil : i < ls.length
      · obtain ⟨x, hx⟩ : ∃ x, ls[i]? = some x := ⟨_, List.getElem?_eq_getElem hil⟩
        rw [if_pos (I_lt1 hil (by omega)), if_pos (I_lt1 hil (by omega)), if_pos (I_lt1 hil (by omega)), hs.at_ hx, b1_some]
        unfold m_letter_40
        rw [rP_eq, b1_some, if_pos (Rw_1 _ _ _), Rw_1n _ _ (by decide), h7, rL_eq (by show _ < 520; omega) (by omega), b1_some, Rw_2, q2, I_add, rL_eq (by show _ < 600; omega) (by omega), b1_some, Rw_2, q5 i x hx]
        exact .inl ⟨_, _, rfl, rfl, Rw_1 _ _ _, hR.th 0⟩
      · rw [if_neg (I_lt0 (by omega) hi), if_neg (I_lt0 (by omega) hi), if_neg (I_lt0 (by omega) hi), ht2]
        exact .inr ⟨_, _, 2, rfl, .inr rfl, rfl, Rw_1 _ _ _, hR.th 2⟩
/-- key. -/
theorem pr_key (p1 : Int32) (hC : CS b0 S sz t n o w T kd ad m c) (hR : RS R t n o w T hf m u c) :
    (∃ x R', x_T_key N b0 K b0 p1 S = some x ∧ m_key N p1 R = some (x, R') ∧ R'.1 0 = 0 ∧ RS R' t n o w T hf m u c) ∨
    (∃ x R', xt_T_key N b0 K b0 p1 S = some 1 ∧ m_key N p1 R = some (x, R') ∧ R'.1 0 = 1 ∧ RS R' t n o w T hf m u c) := by
  have hC' := hC
  have hR' := hR
  obtain ⟨c1, c2, c3, c4, c5, c6, c7, c8, c9, c10, c11, c12, c13, c14, c15, c16, c17, c18, c19, c20, c21, c22⟩ := hC'
  obtain ⟨h1, h2, h3, h4, h5, h6, h7, h8, h9, h10⟩ := hR'
  have n0 := c17.1 c c20
  have r0 := h8.1 c c20
  have w0 := c18.2.2.2.1 c c20
  have ht1 : m_key_33 N p1 1 R = some (0, Rw R 0 1) := by
    unfold m_key_33
    rw [rP_eq, b1_some, Rw_1, if_neg (by decide)]
  unfold x_T_key xt_T_key m_key
  rw [gR_own (obA0 b0) c2, c7, b1_some, b1_some, b1_some, b1_some, gR_own n0.1 n0.2.2.1, b1_some, b1_some, h7, rL_eq (by show _ < 520; omega) (by omega), r0.2.2.2.1, b1_some]
  cases hl : T.2.2.2.2 c with
  | none =>
    right
    rw [n0.2.2.2.2.2.2.2.1 hl, om_none]
    cases h4' : T.2.2.1 c 4 with
    | none =>
      rw [if_pos (show enc hf none = -1 from rfl), ht1]
      exact ⟨_, _, rfl, rfl, Rw_1 _ _ _, hR.th 1⟩
    | some h =>
      have hh := c17.2.2 c c20 4 h (by omega) (by omega) h4'
      have hnt : ¬ 6 < T.1 h := fun g => (w0.2 ⟨h, h4', g⟩) hl
      unfold m_isTable
      rw [if_neg (show ¬ enc hf (some h) = -1 from ne_neg (by omega)), show enc hf (some h) = I (260 * hf + h) from rfl, rL_eq (by show _ < 520; omega) (by omega), b1_some, (h8.1 h hh).1, if_pos (Int32.not_lt.1 hnt), b1_some, if_pos rfl, ht1]
      exact ⟨_, _, rfl, rfl, Rw_1 _ _ _, hR.th 1⟩
  | some ls =>
    left
    obtain ⟨s, e1, e2⟩ := n0.2.2.2.2.2.2.2.2 ls hl
    have hs : Str b0 K S s ls := e2.str
    have hks := hs.1
    obtain ⟨⟨f, q2, q3, q4, q5⟩, q6⟩ := r0.2.2.2.2.2.2.2.2 ls hl
    have hl1 := hs.2.2.1
    obtain ⟨h, h4', h6'⟩ := w0.1 (by rw [hl]; simp)
    have hh := c17.2.2 c c20 4 h (by omega) (by omega) h4'
    unfold m_isTable
    rw [e1, om_some, h4', if_neg (show ¬ enc hf (some h) = -1 from ne_neg (by omega)), show enc hf (some h) = I (260 * hf + h) from rfl, rL_eq (by show _ < 520; omega) (by omega), b1_some, (h8.1 h hh).1, if_neg (fun g => Int32.not_lt.2 g h6'), b1_some, if_neg (show ¬ (1 : Int32) = 0 by decide)]
    unfold m_key_33
    rw [rP_eq, b1_some, if_pos (Rw_1 _ _ _)]
    by_cases hneg : p1 < 0
    · rw [if_pos hneg, if_pos hneg]
      exact ⟨_, _, rfl, rfl, Rw_1 _ _ _, hR.th 0⟩
    · obtain ⟨i, hi, rfl⟩ := nneg hneg
      rw [if_neg hneg, if_neg hneg, ifk_kd hks, hs.len, b1_some, Rw_1n _ _ (by decide), h7, rL_eq (by show _ < 520; omega) (by omega), b1_some, Rw_2, q6]
      by_cases hil : i < ls.length
      · obtain ⟨x, hx⟩ : ∃ x, ls[i]? = some x := ⟨_, List.getElem?_eq_getElem hil⟩
        rw [if_neg (I_le0 hil (by omega)), if_pos (I_lt1 hil (by omega)), ifk_kd hks, hs.at_ hx, b1_some, rL_eq (by show _ < 520; omega) (by omega), b1_some, Rw_2, q2, I_add, rL_eq (by show _ < 600; omega) (by omega), b1_some, Rw_2, q5 i x hx]
        exact ⟨_, _, rfl, rfl, Rw_1 _ _ _, hR.th 0⟩
      · rw [if_pos (I_le1 (by omega) hi), if_neg (I_lt0 (by omega) hi)]
        exact ⟨_, _, rfl, rfl, Rw_1 _ _ _, hR.th 0⟩
end
