section
variable {b0 N : Nat} {K S S' : cS} {sz : Nat} {t : Nat → Int32} {n : Nat} {R R' : rS} {u : Nat} {T T' : Ar} {ad : Nat → Nat} {m : Nat} {kd : Nat → List Nat} {o : Nat → Int32} {w c hf : Nat} {s : Nat} {l : List Int32} {v f0 : Nat}
def eqL : List Int32 := [32, 61, 32]
/-- A key, in the reference. -/
def KyR (R : rS) (v f0 : Nat) (l : List Int32) : Prop := v < 520 ∧ R.2 10 v = I f0 ∧ R.2 11 v = I l.length ∧ LtR R f0 l
theorem KyR.rwL (h : KyR R v f0 l) (w : Nat) (q : List Int32) : KyR (rwl w q R) v f0 l := ⟨h.1, by rw [rwl_n _ _ _ (by decide)]; exact h.2.1, by rw [rwl_n _ _ _ (by decide)]; exact h.2.2.1, h.2.2.2.rwL w q⟩
theorem k122 (hR : R.1 29 = I w) (hw : w + 3 ≤ 1000000) : m_putKey_122 N R = some (rwl w eqL R) := by
  unfold m_putKey_122
  rw [pRw hR (by omega), b1_some, pRw (rw1_29 _ _ _) (by omega), b1_some, pRw (rw1_29 _ _ _) (by omega), b1_some]
  rfl
theorem k85_i : ∀ (d j f : Nat) (R : rS) (w : Nat), j + d = l.length → d < f → w + d + 3 ≤ 1000000 → R.1 29 = I w → KyR R v f0 l → m_putKey_85 N f (I v) 1 (I j) R = some (rwl w (l.drop j ++ eqL) R) := by
  intro d
  induction d with
  | zero =>
    intro j f R w hj hf hw hR h
    obtain ⟨h0, h1, h2, h3⟩ := h
    have hl := h3.1
    obtain ⟨f, rfl⟩ : ∃ x, f = x + 1 := ⟨f - 1, by omega⟩
    unfold m_putKey_85 m_putKey_85F
    rw [rL_eq (by show _ < 520; omega) (by omega), b1_some, h2, if_pos (I_le1 (by omega) (by omega)), k122 hR (by omega), List.drop_eq_nil_of_le (by omega)]
    rfl
  | succ d ih =>
    intro j f R w hj hf hw hR h
    have h' := h
    obtain ⟨h0, h1, h2, h3⟩ := h
    have hl := h3.1
    obtain ⟨f, rfl⟩ : ∃ x, f = x + 1 := ⟨f - 1, by omega⟩
    have hx : l[j]? = some l[j] := List.getElem?_eq_getElem (by omega)
    unfold m_putKey_85 m_putKey_85F
    rw [List.drop_eq_getElem_cons (show j < l.length by omega), rL_eq (by show _ < 520; omega) (by omega), b1_some, h2, if_neg (I_le0 (by omega) (by omega)), if_neg (show ¬ (1 : Int32) = 0 by decide), rL_eq (by show _ < 520; omega) (by omega), b1_some, h1, I_add, rL_eq (by show _ < 600; omega) (by omega), b1_some, h3.2 j _ hx, pRw hR (by omega), b1_some, I_1]
    exact ih (j + 1) f _ (w + 1) (by omega) (by omega) (by omega) (rw1_29 _ _ _) (h'.rwL w [l[j]])
def nmz (z : Int32) (l : List Int32) : List Int32 := if z = 0 then 34 :: qtl l else l
theorem nmz_len (z : Int32) (l : List Int32) : (nmz z l).length ≤ 2 * l.length + 2 := by
  unfold nmz
  split
  · rw [List.length_cons]; have := qtl_len l; omega
  · omega
theorem name_i (hK : KF b0 K) (hN : 200000 ≤ N) (hC : CS b0 S sz t n o w T kd ad m c) (hs : Str b0 K S s l) (hR : R.1 29 = I w) (hk : KyR R v f0 l) (hw : w + 2 * l.length + 10 ≤ 1000000) : ∀ (d j f f' : Nat) (y : Int32), (y = 0 ∨ y = 1) → j + d = l.length → d < f → d < f' →
    ∃ z, x_P_putName_15 N b0 K f (b0 + 2) s y (I j) S = some (cw b0 w (nmz z l) S) ∧ m_putKey_17 N f' (I v) y (I j) R = some (rwl w (nmz z l ++ eqL) R) := by
  obtain ⟨h0, h1, h2, h3⟩ := hk
  have hl := hs.2.2.1
  have hl6 := h3.1
  intro d
  induction d with
  | zero =>
    intro j f f' y hy hj hf hf'
    obtain ⟨f, rfl⟩ : ∃ x, f = x + 1 := ⟨f - 1, by omega⟩
    obtain ⟨f', rfl⟩ : ∃ x, f' = x + 1 := ⟨f' - 1, by omega⟩
    refine ⟨y, ?_, ?_⟩
    · unfold x_P_putName_15 x_P_putName_15F
      rw [ifk_kd hs.1, hs.len, b1_some, if_pos (I_le1 (by omega) (by omega))]
      unfold nmz
      by_cases hy0 : y = 0
      · rw [if_pos hy0, if_pos hy0, ifk_own (obA2 b0) hC.k5, quoC hK hN (by omega) hC hs, b1_some]
      · rw [if_neg hy0, if_neg hy0, ifk_own (obA2 b0) hC.k5, putAllS hN (by omega) hC hs, b1_some]
    · unfold m_putKey_17 m_putKey_17F
      rw [rL_eq (by show _ < 520; omega) (by omega), b1_some, h2, if_pos (I_le1 (by omega) (by omega))]
      unfold nmz
      by_cases hy0 : y = 0
      · rw [if_pos hy0, if_pos hy0, rL_eq (by show _ < 520; omega) (by omega), b1_some, h1, b1_some, quoR (by omega) (by omega) hR h3, b1_some, hy0]
        unfold m_putKey_83
        obtain ⟨N', hN'⟩ : ∃ x, N = x + 1 := ⟨N - 1, by omega⟩
        have hq := qtl_len l
        have hk' := KyR.rwL ⟨h0, h1, h2, h3⟩ w (34 :: qtl l)
        have e : m_putKey_85 N N (I v) 0 0 (rwl w (34 :: qtl l) R) = m_putKey_122 N (rwl w (34 :: qtl l) R) := by
          conv => lhs; arg 2; rw [hN']
          unfold m_putKey_85 m_putKey_85F
          rw [rL_eq (by show _ < 520; omega) (by omega), b1_some, if_pos (show (0 : Int32) = 0 from rfl), ite_self]
        rw [e, k122 (rwl_29 _ _ _ hR) (by rw [List.length_cons]; omega), rwl_app]
      · have hy1 : y = 1 := by rcases hy with g | g; exact absurd g hy0; exact g
        rw [if_neg hy0, if_neg hy0, hy1]
        unfold m_putKey_83
        exact k85_i l.length 0 N R w (by omega) (by omega) (by omega) hR ⟨h0, h1, h2, h3⟩
  | succ d ih =>
    intro j f f' y hy hj hf hf'
    obtain ⟨f, rfl⟩ : ∃ x, f = x + 1 := ⟨f - 1, by omega⟩
    obtain ⟨f', rfl⟩ : ∃ x, f' = x + 1 := ⟨f' - 1, by omega⟩
    have hx : l[j]? = some l[j] := List.getElem?_eq_getElem (by omega)
    have hxb := hs.2.2.2.1 j _ hx
    have hb := bareC (N := N) (b0 := b0) (K := K) (S := S) (R := R) (c := l[j]) ⟨l[j].toNatClampNeg, by show l[j].toInt.toNat < _; omega, of_nn hxb.1⟩
    unfold x_P_putName_15 x_P_putName_15F m_putKey_17 m_putKey_17F x_P_putName_42 m_putKey_55 x_P_putName_43 m_putKey_56
    rw [ifk_kd hs.1, hs.len, b1_some, if_neg (I_le0 (by omega) (by omega)), rL_eq (by show _ < 520; omega) (by omega), b1_some, h2, if_neg (I_le0 (by omega) (by omega))]
    by_cases hy0 : y = 0
    · rw [if_pos hy0, if_pos hy0, I_1]
      exact ih (j + 1) f f' 0 (.inl rfl) (by omega) (by omega) (by omega)
    · rw [if_neg hy0, if_neg hy0, ifk_kd hs.1, hs.at_ hx, b1_some, hb.1, b1_some, rL_eq (by show _ < 520; omega) (by omega), b1_some, h1, I_add, rL_eq (by show _ < 600; omega) (by omega), b1_some, h3.2 j _ hx, hb.2, b1_some, I_1]
      by_cases hb0 : bareI l[j] = 0
      · rw [if_pos hb0, if_pos hb0]
        exact ih (j + 1) f f' 0 (.inl rfl) (by omega) (by omega) (by omega)
      · rw [if_neg hb0, if_neg hb0]
        exact ih (j + 1) f f' 1 (.inr rfl) (by omega) (by omega) (by omega)
/-- A key and its sign, in both. -/
theorem pr_name (hK : KF b0 K) (hN : 200000 ≤ N) (hC : CS b0 S sz t n o w T kd ad m c) (hs : Str b0 K S s l) (hR : R.1 29 = I w) (hk : KyR R v f0 l) (hw : w + 2 * l.length + 10 ≤ 1000000) :
    ∃ q : List Int32, q.length ≤ 2 * l.length + 2 ∧ x_P_putName N b0 K (b0 + 2) (some s) S = some (cw b0 w q S) ∧ m_putKey N (I v) R = some (rwl w (q ++ eqL) R) := by
  have hl := hs.2.2.1
  have go : ∀ y, (y = 0 ∨ y = 1) → ∃ z, x_P_putName_15 N b0 K N (b0 + 2) s y 0 S = some (cw b0 w (nmz z l) S) ∧ m_putKey_17 N N (I v) y 0 R = some (rwl w (nmz z l ++ eqL) R) := fun y hy => name_i hK hN hC hs hR hk hw l.length 0 N N y hy (by omega) (by omega) (by omega)
  unfold x_P_putName m_putKey x_P_putName_12 m_putKey_14
  rw [b1_some, ifk_kd hs.1, hs.empty, b1_some, rL_eq hk.1 (by have := hk.1; omega), b1_some, hk.2.2.1]
  by_cases h0 : l.length = 0
  · rw [if_pos h0, if_neg (show ¬ (1 : Int32) = 0 by decide), if_pos (show I l.length ≤ 0 from I_le1 (b := 0) (by omega) (by omega))]
    obtain ⟨z, a, b⟩ := go 0 (.inl rfl)
    exact ⟨nmz z l, nmz_len z l, a, b⟩
  · rw [if_neg h0, if_pos rfl, if_neg (show ¬ I l.length ≤ 0 from I_le0 (b := 0) (by omega) (by omega))]
    obtain ⟨z, a, b⟩ := go 1 (.inr rfl)
    exact ⟨nmz z l, nmz_len z l, a, b⟩
end
