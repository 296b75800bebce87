section
variable {b0 N : Nat} {K S S' : cS}
theorem cw1_1 (w : Nat) (x : Int32) (S : cS) : (cw1 b0 w x S).1 = S.1 := by unfold cw1; split <;> rfl
theorem cw1_2 (w : Nat) (x : Int32) (S : cS) : (cw1 b0 w x S).2.1 = S.2.1 := by unfold cw1; split <;> rfl
theorem cw1_4 (w : Nat) (x : Int32) (S : cS) : (cw1 b0 w x S).2.2.2 = S.2.2.2 := by unfold cw1; split <;> rfl
theorem cw1_3 (w : Nat) (x : Int32) (S : cS) {a : Nat} (h1 : a ≠ b0 + 2) (h2 : a ≠ b0 + 3) : (cw1 b0 w x S).2.2.1 a = S.2.2.1 a := by
  unfold cw1
  split
  · exact ((Same.sI _ h2).trans (Same.sI _ h1)).2.2.1
  · exact (Same.sI _ h1).2.2.1
theorem kd_cw1 (w : Nat) (x : Int32) (S : cS) (a : Nat) : kd b0 K (cw1 b0 w x S) a = kd b0 K S a := by unfold kd ck; rw [cw1_1]
theorem eK_cw1 {w : Nat} {x : Int32} {S : cS} (k2 : kd b0 K S (b0 + 2) = 5) (k3 : kd b0 K S (b0 + 3) = 11) (a : Nat) (ha : kd b0 K S a = 6 ∨ kd b0 K S a = 12) : (eK b0 K (cw1 b0 w x S) a).2.2.1 a = (eK b0 K S a).2.2.1 a ∧ (eK b0 K (cw1 b0 w x S) a).2.2.2 a = (eK b0 K S a).2.2.2 a ∧ (eK b0 K (cw1 b0 w x S) a).2.1 a = (eK b0 K S a).2.1 a := by
  unfold eK
  by_cases hlt : a < b0
  · rw [if_pos hlt, if_pos hlt]; exact ⟨rfl, rfl, rfl⟩
  · rw [if_neg hlt, if_neg hlt]
    exact ⟨cw1_3 _ _ _ (fun g => by rw [g, k2] at ha; omega) (fun g => by rw [g, k3] at ha; omega), by rw [cw1_4], by rw [cw1_2]⟩
end
section
variable {b0 N : Nat} {K S S' : cS} {sz : Nat} {t : Nat → Int32} {n : Nat} {R R' : rS} {u : Nat} {T T' : Ar} {ad : Nat → Nat} {m : Nat} {kd : Nat → List Nat} {o : Nat → Int32} {w c hf : Nat} {s : Nat} {l : List Int32}
theorem Str.cwA (hC : CS b0 S sz t n o w T kd ad m c) (h : Str b0 K S s l) (x : Int32) : Str b0 K (cw1 b0 w x S) s l := by
  obtain ⟨h1, h2, h3, h4, v, h5, h6, h7, h8⟩ := h
  have he := eK_cw1 (K := K) (w := w) (x := x) (S := S) (b0 := b0) (by rw [kd_own (obA2 b0)]; exact hC.k5) (by rw [kd_own (obA3 b0)]; exact hC.2.2.2.2.2.2.2.2.2.2.2.2.2.1)
  obtain ⟨e1, e2, e3⟩ := he s (.inl h1)
  obtain ⟨e4, e5, e6⟩ := he v (.inr h6)
  exact ⟨by rw [kd_cw1]; exact h1, by rw [e1]; exact h2, h3, h4, v, by rw [e2]; exact h5, by rw [kd_cw1]; exact h6, by rw [e6]; exact h7, fun j c hj => by rw [e4]; exact h8 j c hj⟩
theorem Str.cwl : ∀ (q : List Int32) {S : cS} {o : Nat → Int32} {w : Nat}, CS b0 S sz t n o w T kd ad m c → Str b0 K S s l → Str b0 K (cw b0 w q S) s l := by
  intro q
  induction q with
  | nil => intro S o w _ h; exact h
  | cons x q ih => intro S o w hC h; exact ih (hC.cwA x) (h.cwA hC x)
theorem putAllS_i : ∀ (d j f : Nat) (S : cS) (o : Nat → Int32) (w : Nat), j + d = l.length → d < f → w + d ≤ 1000000 → CS b0 S sz t n o w T kd ad m c → Str b0 K S s l → x_P_putAll_2 N b0 K f (b0 + 2) (some s) (I j) S = some (cw b0 w (l.drop j) S) := by
  intro d
  induction d with
  | zero =>
    intro j f S o w hj hf hw hC h
    obtain ⟨f, rfl⟩ : ∃ x, f = x + 1 := ⟨f - 1, by omega⟩
    have h1 := h.2.2.1
    unfold x_P_putAll_2 x_P_putAll_2F
    rw [b1_some, ifk_kd h.1, h.len, b1_some, if_pos (I_le1 (by omega) (by omega)), List.drop_eq_nil_of_le (by omega)]
    rfl
  | succ d ih =>
    intro j f S o w hj hf hw hC h
    obtain ⟨f, rfl⟩ : ∃ x, f = x + 1 := ⟨f - 1, by omega⟩
    have h1 := h.2.2.1
    have hx : l[j]? = some l[j] := List.getElem?_eq_getElem (by omega)
    unfold x_P_putAll_2 x_P_putAll_2F
    rw [List.drop_eq_getElem_cons (show j < l.length by omega), b1_some, ifk_kd h.1, h.len, b1_some, if_neg (I_le0 (by omega) (by omega)), ifk_kd h.1, h.at_ hx, b1_some, ifk_own (obA2 b0) hC.k5, pC hC (by omega) (ch128 (h.2.2.2.1 j _ hx)), b1_some, I_1, ih (j + 1) f _ _ (w + 1) (by omega) (by omega) (by omega) (hC.cwA _) (h.cwA hC _)]
    rfl
theorem putAllS (hN : 200000 ≤ N) (hw : w + l.length ≤ 1000000) (hC : CS b0 S sz t n o w T kd ad m c) (h : Str b0 K S s l) : x_P_putAll N b0 K (b0 + 2) (some s) S = some (cw b0 w l S) := by
  have h1 := h.2.2.1
  exact putAllS_i (l := l) l.length 0 N S o w (by omega) (by omega) (by omega) hC h
/-- One letter within quotes. -/
def esc (x : Int32) : List Int32 := if x = 10 then [92, 110] else if x = 9 then [92, 116] else if x = 34 then [92, x] else if x = 92 then [92, x] else [x]
def qtl : List Int32 → List Int32
  | [] => [34]
  | x :: l => esc x ++ qtl l
theorem esc_len (x : Int32) : (esc x).length ≤ 2 := by
  unfold esc; split <;> (try split) <;> (try split) <;> (try split) <;> simp
theorem qtl_len : ∀ l, (qtl l).length ≤ 2 * l.length + 1
  | [] => by simp [qtl]
  | x :: l => by unfold qtl; rw [List.length_append, List.length_cons]; have := esc_len x; have := qtl_len l; omega
theorem k256 {k : Nat} (h : k < 256) : ∃ j, j < 256 ∧ I k = I j := ⟨k, h, rfl⟩
theorem quoC_i (hK : KF b0 K) (hN : 200000 ≤ N) : ∀ (d j f : Nat) (S : cS) (o : Nat → Int32) (w : Nat), j + d = l.length → d < f → w + 2 * d + 1 ≤ 1000000 → CS b0 S sz t n o w T kd ad m c → Str b0 K S s l → x_P_putQuoted_8 N b0 K f (b0 + 2) (some s) (I j) S = some (cw b0 w (qtl (l.drop j)) S) := by
  intro d
  induction d with
  | zero =>
    intro j f S o w hj hf hw hC h
    obtain ⟨f, rfl⟩ : ∃ x, f = x + 1 := ⟨f - 1, by omega⟩
    have h1 := h.2.2.1
    unfold x_P_putQuoted_8 x_P_putQuoted_8F
    rw [b1_some, ifk_kd h.1, h.len, b1_some, if_pos (I_le1 (by omega) (by omega)), List.drop_eq_nil_of_le (by omega), ifk_own (obA2 b0) hC.k5, pC (x := 34) hC (by omega) ⟨34, by omega, rfl⟩, b1_some]
    rfl
  | succ d ih =>
    intro j f S o w hj hf hw hC h
    obtain ⟨f, rfl⟩ : ∃ x, f = x + 1 := ⟨f - 1, by omega⟩
    have h1 := h.2.2.1
    have hx : l[j]? = some l[j] := List.getElem?_eq_getElem (by omega)
    have h256 := ch128 (h.2.2.2.1 j _ hx)
    have rec_ : ∀ (q : List Int32), q.length ≤ 2 → q = esc l[j] → x_P_putQuoted_75 N b0 K (x_P_putQuoted_8 N b0 K f) (b0 + 2) s (I j) (cw b0 w q S) = some (cw b0 w (esc l[j] ++ qtl (l.drop (j + 1))) S) := by
      intro q hq e
      unfold x_P_putQuoted_75
      rw [I_1, ih (j + 1) f _ _ (w + q.length) (by omega) (by omega) (by omega) (hC.cwL q) (h.cwl q hC), cw_app, e]
    unfold x_P_putQuoted_8 x_P_putQuoted_8F
    rw [List.drop_eq_getElem_cons (show j < l.length by omega), b1_some, ifk_kd h.1, h.len, b1_some, if_neg (I_le0 (by omega) (by omega)), ifk_kd h.1, h.at_ hx, b1_some, show qtl (l[j] :: l.drop (j + 1)) = esc l[j] ++ qtl (l.drop (j + 1)) from rfl]
    by_cases e10 : l[j] = 10
    · obtain ⟨a, ha, -, hst⟩ := hK.2.2.2.2.1
      rw [if_pos e10, show K.2.2.2 0 3 = some a from ha, b1_some, ifk_own (obA2 b0) hC.k5, putAllS hN (by show w + 2 ≤ _; omega) hC (hst S), b1_some]
      exact rec_ _ (by decide) (by unfold esc; rw [if_pos e10])
    · rw [if_neg e10]
      by_cases e9 : l[j] = 9
      · obtain ⟨a, ha, -, hst⟩ := hK.2.2.2.2.2.1
        rw [if_pos e9, show K.2.2.2 0 4 = some a from ha, b1_some, ifk_own (obA2 b0) hC.k5, putAllS hN (by show w + 2 ≤ _; omega) hC (hst S), b1_some]
        exact rec_ _ (by decide) (by unfold esc; rw [if_neg e10, if_pos e9])
      · rw [if_neg e9]
        have two : x_P_putQuoted_64 N b0 K (x_P_putQuoted_8 N b0 K f) (b0 + 2) s (I j) l[j] S = x_P_putQuoted_75 N b0 K (x_P_putQuoted_8 N b0 K f) (b0 + 2) s (I j) (cw b0 w [92, l[j]] S) := by
          unfold x_P_putQuoted_64 x_P_putQuoted_70
          rw [ifk_own (obA2 b0) hC.k5, pC (x := 92) hC (by omega) ⟨92, by omega, rfl⟩, b1_some, ifk_own (obA2 b0) (hC.cwA 92).k5, pC (hC.cwA 92) (by omega) h256, b1_some]
          rfl
        by_cases e34 : l[j] = 34
        · rw [if_pos e34, two]
          exact rec_ _ (by simp) (by unfold esc; rw [if_neg e10, if_neg e9, if_pos e34])
        · rw [if_neg e34]
          by_cases e92 : l[j] = 92
          · rw [if_pos e92, two]
            exact rec_ _ (by simp) (by unfold esc; rw [if_neg e10, if_neg e9, if_neg e34, if_pos e92])
          · rw [if_neg e92]
            unfold x_P_putQuoted_70
            rw [ifk_own (obA2 b0) hC.k5, pC hC (by omega) h256, b1_some]
            exact rec_ [l[j]] (by simp) (by unfold esc; rw [if_neg e10, if_neg e9, if_neg e34, if_neg e92])
theorem quoC (hK : KF b0 K) (hN : 200000 ≤ N) (hw : w + 2 * l.length + 2 ≤ 1000000) (hC : CS b0 S sz t n o w T kd ad m c) (h : Str b0 K S s l) : x_P_putQuoted N b0 K (b0 + 2) (some s) S = some (cw b0 w (34 :: qtl l) S) := by
  have h1 := h.2.2.1
  unfold x_P_putQuoted
  rw [ifk_own (obA2 b0) hC.k5, pC (x := 34) hC (by omega) ⟨34, by omega, rfl⟩, b1_some]
  exact quoC_i hK hN l.length 0 N _ _ (w + 1) (by omega) (by omega) (by omega) (hC.cwA _) (h.cwA hC _)
theorem rw1_29 (w : Nat) (x : Int32) (R : rS) : (rw1 w x R).1 29 = I (w + 1) := by unfold rw1; split <;> exact Rw_1 _ _ _
theorem rw1_n (w : Nat) (x : Int32) (R : rS) {j : Nat} (hj : j ≠ 19) : (rw1 w x R).2 j = R.2 j := by
  funext i
  unfold rw1
  split
  · rw [Rw_2, Ra_ne _ (.inl hj)]
  · rw [Rw_2]
theorem rwl_29 : ∀ (l : List Int32) (w : Nat) (R : rS), R.1 29 = I w → (rwl w l R).1 29 = I (w + l.length)
  | [], w, R, h => h
  | x :: l, w, R, h => by
    have := rwl_29 l (w + 1) (rw1 w x R) (rw1_29 _ _ _)
    rw [show w + 1 + l.length = w + (x :: l).length by rw [List.length_cons]; omega] at this
    exact this
theorem rwl_n : ∀ (l : List Int32) (w : Nat) (R : rS) {j : Nat}, j ≠ 19 → (rwl w l R).2 j = R.2 j
  | [], w, R, j, h => rfl
  | x :: l, w, R, j, h => by
    show (rwl (w + 1) l (rw1 w x R)).2 j = _
    rw [rwl_n l _ _ h, rw1_n _ _ _ h]
theorem rw1_m (w : Nat) (x : Int32) (R : rS) {k : Nat} (hk : k ≠ 29) : (rw1 w x R).1 k = R.1 k := by
  unfold rw1
  split
  · rw [Rw_1n _ _ hk, Ra_1]
  · rw [Rw_1n _ _ hk]
theorem rwl_m : ∀ (l : List Int32) (w : Nat) (R : rS) {k : Nat}, k ≠ 29 → (rwl w l R).1 k = R.1 k
  | [], w, R, j, h => rfl
  | x :: l, w, R, j, h => by
    show (rwl (w + 1) l (rw1 w x R)).1 j = _
    rw [rwl_m l _ _ h, rw1_m _ _ _ h]
/-- The letters of a string, in the reference. -/
def LtR (R : rS) (f : Nat) (l : List Int32) : Prop := f + l.length ≤ 600 ∧ ∀ (j : Nat) (x : Int32), l[j]? = some x → R.2 13 (f + j) = x
theorem LtR.rwA {f : Nat} (h : LtR R f l) (w : Nat) (x : Int32) : LtR (rw1 w x R) f l := ⟨h.1, fun j y hj => by rw [rw1_n _ _ _ (by decide)]; exact h.2 j y hj⟩
theorem LtR.rwL {f : Nat} (h : LtR R f l) (w : Nat) (q : List Int32) : LtR (rwl w q R) f l := ⟨h.1, fun j y hj => by rw [rwl_n _ _ _ (by decide)]; exact h.2 j y hj⟩
theorem quoR_i {f0 : Nat} : ∀ (d j f : Nat) (R : rS) (w : Nat), j + d = l.length → d < f → w + 2 * d + 1 ≤ 1000000 → R.1 29 = I w → LtR R f0 l → m_putQuoted_8 N f (I f0) (I l.length) (I j) R = some (rwl w (qtl (l.drop j)) R) := by
  intro d
  induction d with
  | zero =>
    intro j f R w hj hf hw hR h
    have h1 := h.1
    obtain ⟨f, rfl⟩ : ∃ x, f = x + 1 := ⟨f - 1, by omega⟩
    unfold m_putQuoted_8 m_putQuoted_8F
    rw [if_pos (I_le1 (by omega) (by omega)), List.drop_eq_nil_of_le (by omega), pRw hR (by omega), b1_some]
    rfl
  | succ d ih =>
    intro j f R w hj hf hw hR h
    have h1 := h.1
    obtain ⟨f, rfl⟩ : ∃ x, f = x + 1 := ⟨f - 1, by omega⟩
    have hx : l[j]? = some l[j] := List.getElem?_eq_getElem (by omega)
    have rec_ : ∀ (q : List Int32), q.length ≤ 2 → q = esc l[j] → m_putQuoted_8 N f (I f0) (I l.length) (I (j + 1)) (rwl w q R) = some (rwl w (esc l[j] ++ qtl (l.drop (j + 1))) R) := by
      intro q hq e
      rw [ih (j + 1) f _ (w + q.length) (by omega) (by omega) (by omega) (rwl_29 _ _ _ hR) (h.rwL w q), rwl_app, e]
    unfold m_putQuoted_8 m_putQuoted_8F
    rw [List.drop_eq_getElem_cons (show j < l.length by omega), if_neg (I_le0 (by omega) (by omega)), I_add, rL_eq (by show _ < 600; omega) (by omega), b1_some, h.2 j _ hx, show qtl (l[j] :: l.drop (j + 1)) = esc l[j] ++ qtl (l.drop (j + 1)) from rfl]
    have two : ∀ z, (m_putQuoted_57 N (m_putQuoted_8 N f) (I f0) (I l.length) (I j) l[j] (rw1 w 92 R) = m_putQuoted_84 N (m_putQuoted_8 N f) (I f0) (I l.length) (I j) z (rw1 w 92 R)) → m_putQuoted_51 N (m_putQuoted_8 N f) (I f0) (I l.length) (I j) l[j] R = m_putQuoted_8 N f (I f0) (I l.length) (I (j + 1)) (rwl w [92, z] R) := by
      intro z hz
      unfold m_putQuoted_51
      rw [pRw hR (by omega), b1_some, hz]
      unfold m_putQuoted_84
      rw [pRw (rw1_29 _ _ _) (by omega), b1_some, I_1]
      rfl
    by_cases e34 : l[j] = 34
    · rw [if_pos e34, two 34 (by unfold m_putQuoted_57; rw [e34, if_neg (by decide), if_neg (by decide)])]
      exact rec_ _ (by simp) (by unfold esc; rw [e34]; rfl)
    · rw [if_neg e34]
      by_cases e92 : l[j] = 92
      · rw [if_pos e92, two 92 (by unfold m_putQuoted_57; rw [e92, if_neg (by decide), if_neg (by decide)])]
        exact rec_ _ (by simp) (by unfold esc; rw [e92]; rfl)
      · rw [if_neg e92]
        by_cases e10 : l[j] = 10
        · rw [if_pos e10, two 110 (by unfold m_putQuoted_57; rw [if_pos e10])]
          exact rec_ _ (by simp) (by unfold esc; rw [if_pos e10])
        · rw [if_neg e10]
          by_cases e9 : l[j] = 9
          · rw [if_pos e9, two 116 (by unfold m_putQuoted_57; rw [if_neg e10, if_pos e9])]
            exact rec_ _ (by simp) (by unfold esc; rw [if_neg e10, if_pos e9])
          · rw [if_neg e9]
            unfold m_putQuoted_57 m_putQuoted_84
            rw [if_neg e10, if_neg e9, pRw hR (by omega), b1_some, I_1]
            exact rec_ [l[j]] (by simp) (by unfold esc; rw [if_neg e10, if_neg e9, if_neg e34, if_neg e92])
theorem quoR {f0 : Nat} (hN : 1000 ≤ N) (hw : w + 2 * l.length + 2 ≤ 1000000) (hR : R.1 29 = I w) (h : LtR R f0 l) : m_putQuoted N (I f0) (I l.length) R = some (rwl w (34 :: qtl l) R) := by
  have h1 := h.1
  unfold m_putQuoted
  rw [pRw hR (by omega), b1_some]
  exact quoR_i l.length 0 N _ (w + 1) (by omega) (by omega) (by omega) (rw1_29 _ _ _) (h.rwA w 34)
end
