section
variable {b0 N : Nat} {K S S' : cS} {sz : Nat} {t : Nat → Int32} {n : Nat} {R R' : rS} {u : Nat} {T T' : Ar} {ad : Nat → Nat} {m : Nat} {kd : Nat → List Nat} {o : Nat → Int32} {w c hf : Nat}
/-- What is written: on the page, in both. -/
def ow : (Nat → Int32) → Nat → List Int32 → Nat → Int32
  | o, _, [] => o
  | o, w, x :: l => ow (tup o w x) (w + 1) l
def cw1 (b0 w : Nat) (x : Int32) (S : cS) : cS := if w < 600 then sI (sI S (b0 + 3) w x) (b0 + 2) 1 (I (w + 1)) else sI S (b0 + 2) 1 (I (w + 1))
def rw1 (w : Nat) (x : Int32) (R : rS) : rS := if w < 600 then Rw (Ra R 19 w x) 29 (I (w + 1)) else Rw R 29 (I (w + 1))
def cw (b0 : Nat) : Nat → List Int32 → cS → cS
  | _, [], S => S
  | w, x :: l, S => cw b0 (w + 1) l (cw1 b0 w x S)
def rwl : Nat → List Int32 → rS → rS
  | _, [], R => R
  | w, x :: l, R => rwl (w + 1) l (rw1 w x R)
theorem CS.cwA (h : CS b0 S sz t n o w T kd ad m c) (x : Int32) : CS b0 (cw1 b0 w x S) sz t n (tup o w x) (w + 1) T kd ad m c := by
  obtain ⟨c1, c2, c3, c4, c5, c6, c7, c8, c9, c10, c11, c12, c13, c14, c15, c16, c17, c18, c19, c20, c21, c22⟩ := h
  have hsm : ∀ a, a ≠ b0 + 2 → a ≠ b0 + 3 → Same S (cw1 b0 w x S) a := fun a h1 h2 => by
    unfold cw1
    split
    · exact (Same.sI _ h2).trans (Same.sI _ h1)
    · exact Same.sI _ h1
  have s0 := hsm b0 (by omega) (by omega)
  have s1 := hsm (b0 + 1) (by omega) (by omega)
  have k1 : (cw1 b0 w x S).1 = S.1 := by unfold cw1; split <;> rfl
  have k2 : (cw1 b0 w x S).2.1 = S.2.1 := by unfold cw1; split <;> rfl
  have k3 : (cw1 b0 w x S).2.2.2 = S.2.2.2 := by unfold cw1; split <;> rfl
  have k4 : (cw1 b0 w x S).2.2.1 (b0 + 2) 1 = I (w + 1) := by unfold cw1; split <;> exact up2_at _ _ _ _
  refine ⟨c1, by rw [k1]; exact c2, by rw [k3]; exact c3, by rw [k3]; exact c4, by rw [s0.2.2.1]; exact c5, by rw [k3]; exact c6, by rw [k3]; exact c7, by rw [k1]; exact c8, by rw [k2]; exact c9, by rw [s1.2.2.1]; exact c10, by rw [k1]; exact c11, by rw [k3]; exact c12, k4, by rw [k1]; exact c14, by rw [k2]; exact c15, fun i hi h6 => ?_, c17.same (fun a ha hk => hsm a (fun g => by rw [g, c11] at hk; omega) (fun g => by rw [g, c14] at hk; omega)) (Nat.le_refl _), c18, c19, c20, c21, c22⟩
  unfold cw1 tup
  by_cases hiw : i = w
  · rw [if_pos (by omega), if_pos hiw]
    show up2 _ _ _ _ _ _ = _
    rw [up2_nn _ _ (.inl (by omega))]
    show up2 _ _ _ _ _ _ = _
    rw [hiw, up2_at]
  · rw [if_neg hiw]
    split
    · show up2 _ _ _ _ _ _ = _
      rw [up2_nn _ _ (.inl (by omega))]
      show up2 _ _ _ _ _ _ = _
      rw [up2_nn _ _ (.inr hiw)]
      exact c16 i (by omega) h6
    · show up2 _ _ _ _ _ _ = _
      rw [up2_nn _ _ (.inl (by omega))]
      exact c16 i (by omega) h6
theorem RS.rwA (h : RS R t n o w T hf m u c) (x : Int32) : RS (rw1 w x R) t n (tup o w x) (w + 1) T hf m u c := by
  obtain ⟨h1, h2, h3, h4, h5, h6, h7, h8, h9, h10⟩ := h
  have k1 : ∀ k, k ≠ 29 → (rw1 w x R).1 k = R.1 k := fun k hk => by
    unfold rw1
    split
    · rw [Rw_1n _ _ hk, Ra_1]
    · rw [Rw_1n _ _ hk]
  have k2 : ∀ j, j ≠ 19 → ∀ i, (rw1 w x R).2 j i = R.2 j i := fun j hj i => by
    unfold rw1
    split
    · rw [Rw_2, Ra_ne _ (.inl hj)]
    · rw [Rw_2]
  refine ⟨by rw [k1 1 (by decide)]; exact h1, fun i hi => by rw [k2 1 (by decide)]; exact h2 i hi, by unfold rw1; split <;> exact Rw_1 _ _ _, fun i hi h' => ?_, h5, by rw [k1 5 (by decide)]; exact h6, by rw [k1 18 (by decide)]; exact h7, h8.keep (fun j i _ _ _ => k2 j (by omega) _) (fun i _ _ => k2 13 (by decide) _) (Nat.le_refl _), h9, h10⟩
  unfold rw1 tup
  by_cases hiw : i = w
  · rw [if_pos (by omega), if_pos hiw, Rw_2, hiw, Ra_at]
  · rw [if_neg hiw]
    split
    · rw [Rw_2, Ra_ne _ (.inr hiw)]; exact h4 i (by omega) h'
    · rw [Rw_2]; exact h4 i (by omega) h'
theorem CS.cwL : ∀ (l : List Int32) {S : cS} {o : Nat → Int32} {w : Nat}, CS b0 S sz t n o w T kd ad m c → CS b0 (cw b0 w l S) sz t n (ow o w l) (w + l.length) T kd ad m c := by
  intro l
  induction l with
  | nil => intro S o w h; exact h
  | cons x l ih =>
    intro S o w h
    have := ih (h.cwA x)
    rw [show w + 1 + l.length = w + (x :: l).length by rw [List.length_cons]; omega] at this
    exact this
theorem RS.rwL : ∀ (l : List Int32) {R : rS} {o : Nat → Int32} {w : Nat}, RS R t n o w T hf m u c → RS (rwl w l R) t n (ow o w l) (w + l.length) T hf m u c := by
  intro l
  induction l with
  | nil => intro R o w h; exact h
  | cons x l ih =>
    intro R o w h
    have := ih (h.rwA x)
    rw [show w + 1 + l.length = w + (x :: l).length by rw [List.length_cons]; omega] at this
    exact this
theorem cw_app : ∀ (l l' : List Int32) (w : Nat) (S : cS), cw b0 w (l ++ l') S = cw b0 (w + l.length) l' (cw b0 w l S) := by
  intro l
  induction l with
  | nil => intro l' w S; rfl
  | cons x l ih =>
    intro l' w S
    show cw b0 (w + 1) (l ++ l') (cw1 b0 w x S) = cw b0 (w + (x :: l).length) l' (cw b0 (w + 1) l (cw1 b0 w x S))
    rw [ih, List.length_cons, show w + 1 + l.length = w + (l.length + 1) by omega]
theorem rwl_app : ∀ (l l' : List Int32) (w : Nat) (R : rS), rwl w (l ++ l') R = rwl (w + l.length) l' (rwl w l R) := by
  intro l
  induction l with
  | nil => intro l' w S; rfl
  | cons x l ih =>
    intro l' w S
    show rwl (w + 1) (l ++ l') (rw1 w x S) = rwl (w + (x :: l).length) l' (rwl (w + 1) l (rw1 w x S))
    rw [ih, List.length_cons, show w + 1 + l.length = w + (l.length + 1) by omega]
theorem rw1_0 (w : Nat) (x : Int32) (R : rS) : (rw1 w x R).1 0 = R.1 0 := by
  unfold rw1
  split
  · rw [Rw_1n _ _ (by decide), Ra_1]
  · rw [Rw_1n _ _ (by decide)]
theorem rwl_0 : ∀ (l : List Int32) (w : Nat) (R : rS), (rwl w l R).1 0 = R.1 0 := by
  intro l
  induction l with
  | nil => intro w R; rfl
  | cons x l ih => intro w R; show (rwl (w + 1) l (rw1 w x R)).1 0 = _; rw [ih, rw1_0]
theorem pC (hC : CS b0 S sz t n o w T kd ad m c) (hw : w < 1000000) {x : Int32} (hx : ∃ k, k < 256 ∧ x = I k) : x_P_put N b0 K (b0 + 2) x S = some (cw1 b0 w x S) := by
  obtain ⟨c1, c2, c3, c4, c5, c6, c7, c8, c9, c10, c11, c12, c13, c14, c15, c16, c17, c18, c19, c20, c21, c22⟩ := hC
  obtain ⟨k, hk, rfl⟩ := hx
  unfold x_P_put x_P_put_20 cw1
  rw [gI_own (obA2 b0) c11, c13, b1_some]
  by_cases h6 : w < 600
  · rw [if_neg (show ¬ (600 : Int32) ≤ I w from I_le0 (a := 600) h6 (by omega)), if_pos h6, gR_own (obA2 b0) c11, c12, b1_some, b1_some, b1_some, nar256' k hk, aT_own (obA3 b0) c14 (by omega) (by omega), b1_some, gI_own (obA2 b0) (by exact c11), b1_some, pI_own (obA2 b0) (by exact c11), b1_some]
    rw [show (sI S (b0 + 3) w (I k)).2.2.1 (b0 + 2) 1 = I w by show up2 _ _ _ _ _ _ = _; rw [up2_nn _ _ (.inl (by omega))]; exact c13, I_1]
  · rw [if_pos (show (600 : Int32) ≤ I w from I_le1 (a := 600) (by omega) (by omega)), if_neg h6, b1_some, pI_own (obA2 b0) c11, b1_some, I_1]
theorem pRw (hR : R.1 29 = I w) (hw : w < 1000000) (x : Int32) : m_put N x R = some (rw1 w x R) := by
  unfold m_put m_put_20 rw1
  rw [hR]
  by_cases h6 : w < 600
  · rw [if_neg (show ¬ (600 : Int32) ≤ I w from I_le0 (a := 600) h6 (by omega)), if_pos h6, rT_eq (by show _ < 600; omega) (by omega), b1_some, rP_eq, b1_some, Ra_1, hR, I_1]
  · rw [if_pos (show (600 : Int32) ≤ I w from I_le1 (a := 600) (by omega) (by omega)), if_neg h6, rP_eq, b1_some, I_1]
theorem ch128 {x : Int32} (h : 0 ≤ x.toInt ∧ x.toInt < 128) : ∃ k, k < 256 ∧ x = I k := ⟨x.toNatClampNeg, by show x.toInt.toNat < _; omega, of_nn h.1⟩
/-- A whole string, from a place on. -/
theorem putAll_i {s : Nat} {l : List Int32} : ∀ (d j f : Nat) (S : cS) (o : Nat → Int32) (w : Nat), j + d = l.length → d < f → w + d ≤ 1000000 → CS b0 S sz t n o w T kd ad m c → (∀ S o w, CS b0 S sz t n o w T kd ad m c → Str b0 K S s l) → x_P_putAll_2 N b0 K f (b0 + 2) (some s) (I j) S = some (cw b0 w (l.drop j) S) := by
  intro d
  induction d with
  | zero =>
    intro j f S o w hj hf hw hC hs
    obtain ⟨f, rfl⟩ : ∃ x, f = x + 1 := ⟨f - 1, by omega⟩
    have h := hs S o w hC
    have h1 := h.2.2.1
    unfold x_P_putAll_2 x_P_putAll_2F
    rw [b1_some, ifk_kd h.1, h.len, b1_some, if_pos (I_le1 (by omega) (by omega)), List.drop_eq_nil_of_le (by omega)]
    rfl
  | succ d ih =>
    intro j f S o w hj hf hw hC hs
    obtain ⟨f, rfl⟩ : ∃ x, f = x + 1 := ⟨f - 1, by omega⟩
    have h := hs S o w hC
    have h1 := h.2.2.1
    have hx : l[j]? = some l[j] := List.getElem?_eq_getElem (by omega)
    unfold x_P_putAll_2 x_P_putAll_2F
    rw [List.drop_eq_getElem_cons (show j < l.length by omega), b1_some, ifk_kd h.1, h.len, b1_some, if_neg (I_le0 (by omega) (by omega)), ifk_kd h.1, h.at_ hx, b1_some, ifk_own (obA2 b0) hC.2.2.2.2.2.2.2.2.2.2.1, pC hC (by omega) (ch128 (h.2.2.2.1 j _ hx)), b1_some, I_1, ih (j + 1) f _ _ (w + 1) (by omega) (by omega) (by omega) (hC.cwA _) hs]
    rfl
theorem putAll {s : Nat} {l : List Int32} (hN : 200000 ≤ N) (hw : w + l.length ≤ 1000000) (hC : CS b0 S sz t n o w T kd ad m c) (hs : ∀ S o w, CS b0 S sz t n o w T kd ad m c → Str b0 K S s l) : x_P_putAll N b0 K (b0 + 2) (some s) S = some (cw b0 w l S) := by
  have h1 := (hs S o w hC).2.2.1
  exact putAll_i (l := l) l.length 0 N S o w (by omega) (by omega) (by omega) hC hs
theorem CS.k5 (hC : CS b0 S sz t n o w T kd ad m c) : S.1 (b0 + 2) = 5 := hC.2.2.2.2.2.2.2.2.2.2.1
end
