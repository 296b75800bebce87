section
variable {b0 N : Nat} {K S S' : cS} {sz : Nat} {t : Nat → Int32} {n : Nat} {R R' : rS} {u : Nat} {T T' : Ar} {ad : Nat → Nat} {m : Nat} {kd : Nat → List Nat} {o : Nat → Int32} {w c hf : Nat}
theorem obA0 (b0 : Nat) : ownC b0 b0 := .inr ⟨by omega, by omega⟩
theorem obA1 (b0 : Nat) : ownC b0 (b0 + 1) := .inr ⟨by omega, by omega⟩
theorem obA2 (b0 : Nat) : ownC b0 (b0 + 2) := .inr ⟨by omega, by omega⟩
theorem obA3 (b0 : Nat) : ownC b0 (b0 + 3) := .inr ⟨by omega, by omega⟩
theorem RS.th (h : RS R t n o w T hf m u c) (x : Int32) : RS (Rw R 0 x) t n o w T hf m u c := by
  obtain ⟨h1, h2, h3, h4, h5, h6, h7, h8, h9, h10⟩ := h
  exact ⟨by rw [Rw_1n _ _ (by decide)]; exact h1, h2, by rw [Rw_1n _ _ (by decide)]; exact h3, h4, h5, by rw [Rw_1n _ _ (by decide)]; exact h6, by rw [Rw_1n _ _ (by decide)]; exact h7, h8.keep (fun _ _ _ _ _ => rfl) (fun _ _ _ => rfl) (Nat.le_refl _), h9, h10⟩
theorem RS.cu (h : RS R t n o w T hf m u c) (c' : Nat) : RS (Rw R 18 (I (260 * hf + c'))) t n o w T hf m u c' := by
  obtain ⟨h1, h2, h3, h4, h5, h6, h7, h8, h9, h10⟩ := h
  exact ⟨by rw [Rw_1n _ _ (by decide)]; exact h1, h2, by rw [Rw_1n _ _ (by decide)]; exact h3, h4, h5, by rw [Rw_1n _ _ (by decide)]; exact h6, Rw_1 _ _ _, h8.keep (fun _ _ _ _ _ => rfl) (fun _ _ _ => rfl) (Nat.le_refl _), h9, h10⟩
theorem CS.cu (h : CS b0 S sz t n o w T kd ad m c) {c' : Nat} (hc : c' < m) : CS b0 (sR S b0 4 (some (ad c'))) sz t n o w T kd ad m c' := by
  obtain ⟨c1, c2, c3, c4, c5, c6, c7, c8, c9, c10, c11, c12, c13, c14, c15, c16, c17, c18, c19, c20, c21, c22⟩ := h
  have s2 : Same S (sR S b0 4 (some (ad c'))) (b0 + 2) := Same.sR _ (by omega)
  have s3 : Same S (sR S b0 4 (some (ad c'))) (b0 + 3) := Same.sR _ (by omega)
  have s1 : Same S (sR S b0 4 (some (ad c'))) (b0 + 1) := Same.sR _ (by omega)
  have wr : ∀ f, f ≠ 4 → (sR S b0 4 (some (ad c'))).2.2.2 b0 f = S.2.2.2 b0 f := fun f hf => by show up2 _ _ _ _ _ _ = _; rw [up2_nn _ _ (.inr hf)]
  refine ⟨c1, c2, by rw [wr 0 (by decide)]; exact c3, by rw [wr 1 (by decide)]; exact c4, c5, by rw [wr 3 (by decide)]; exact c6, by show up2 _ _ _ _ _ _ = _; rw [up2_at], by rw [s1.1]; exact c8, by rw [s1.2.1]; exact c9, by rw [s1.2.2.1]; exact c10, by rw [s2.1]; exact c11, by rw [s2.2.2.2]; exact c12, by rw [s2.2.2.1]; exact c13, by rw [s3.1]; exact c14, by rw [s3.2.1]; exact c15, by rw [s3.2.2.1]; exact c16, c17.same (fun a ha hk => Same.sR _ (fun g => by rw [g, c2] at hk; omega)) (Nat.le_refl _), c18, c19, hc, c21, c22⟩
/-- top. -/
theorem pr_top (hC : CS b0 S sz t n o w T kd ad m c) (hR : RS R t n o w T hf m u c) : ∃ x S' R', x_T_top N b0 K b0 S = some (x, S') ∧ m_top N R = some (x, R') ∧ CS b0 S' sz t n o w T kd ad m 0 ∧ RS R' t n o w T hf m u 0 := by
  have hC' := hC
  have hR' := hR
  obtain ⟨c1, c2, c3, c4, c5, c6, c7, c8, c9, c10, c11, c12, c13, c14, c15, c16, c17, c18, c19, c20, c21, c22⟩ := hC'
  obtain ⟨h1, h2, h3, h4, h5, h6, h7, h8, h9, h10⟩ := hR'
  have n0 := c17.1 0 c19
  have r0 := h8.1 0 c19
  have hk0 : (sR S b0 4 (some (ad 0))).1 (ad 0) = 2 := n0.2.2.1
  unfold x_T_top m_top
  rw [gR_own (obA0 b0) c2, c6, b1_some, pR_own (obA0 b0) c2, b1_some, gR_own (obA0 b0) (by exact c2)]
  have e3 : (sR S b0 4 (some (ad 0))).2.2.2 b0 3 = some (ad 0) := by show up2 _ _ _ _ _ _ = _; rw [up2_nn _ _ (.inr (by decide))]; exact c6
  rw [e3, b1_some, b1_some, gI_own n0.1 hk0, b1_some, rP_eq, b1_some, rP_eq, b1_some, Rw_1, Rw_1n _ _ (by decide), h6, show (260 : Int32) * I hf = I (260 * hf + 0) by rw [show (260 : Int32) = I 260 from rfl, I_mul]; rfl, rL_eq (by show _ < 520; omega) (by omega), b1_some]
  refine ⟨_, _, _, rfl, ?_, hC.cu c19, (hR.th 0).cu 0⟩
  have e9 : (Rw (Rw R 0 0) 18 (I (260 * hf + 0))).2 9 (260 * hf + 0) = T.2.1 0 := r0.2.1 (.inr (lt64 c21))
  have e1 : (sR S b0 4 (some (ad 0))).2.2.1 (ad 0) 1 = T.2.1 0 := n0.2.2.2.2.1
  rw [e9, e1]
/-- kind and value. -/
theorem pr_kind (hC : CS b0 S sz t n o w T kd ad m c) (hR : RS R t n o w T hf m u c) : ∃ x, x_T_kind N b0 K b0 S = some x ∧ m_kind N R = some (x, Rw R 0 0) := by
  obtain ⟨c1, c2, c3, c4, c5, c6, c7, c8, c9, c10, c11, c12, c13, c14, c15, c16, c17, c18, c19, c20, c21, c22⟩ := hC
  obtain ⟨h1, h2, h3, h4, h5, h6, h7, h8, h9, h10⟩ := hR
  have n0 := c17.1 c c20
  have r0 := h8.1 c c20
  unfold x_T_kind m_kind
  rw [gR_own (obA0 b0) c2, c7, b1_some, b1_some, gI_own n0.1 n0.2.2.1, n0.2.2.2.1, b1_some, rP_eq, b1_some, Rw_1n _ _ (by decide), h7, rL_eq (by show _ < 520; omega) (by omega), b1_some]
  exact ⟨_, rfl, by rw [show (Rw R 0 0).2 3 (260 * hf + c) = T.1 c from r0.1]⟩
theorem le4 (x : Int32) : (x ≤ 4) ↔ ¬ 4 < x := by
  rw [Int32.not_lt]
theorem pr_value (hC : CS b0 S sz t n o w T kd ad m c) (hR : RS R t n o w T hf m u c) : ∃ x, x_T_value N b0 K b0 S = some x ∧ m_value N R = some (x, Rw R 0 0) := by
  obtain ⟨c1, c2, c3, c4, c5, c6, c7, c8, c9, c10, c11, c12, c13, c14, c15, c16, c17, c18, c19, c20, c21, c22⟩ := hC
  obtain ⟨h1, h2, h3, h4, h5, h6, h7, h8, h9, h10⟩ := hR
  have n0 := c17.1 c c20
  obtain ⟨r1, r2, r3, -⟩ := h8.1 c c20
  unfold x_T_value m_value m_value_29 m_holds
  rw [gR_own (obA0 b0) c2, c7, b1_some, b1_some, gI_own n0.1 n0.2.2.1, n0.2.2.2.2.1, b1_some, rP_eq, b1_some, Rw_1n _ _ (by decide), h7, rL_eq (by show _ < 520; omega) (by omega), b1_some, Rw_2, r1, rL_eq (by show _ < 520; omega) (by omega), Rw_2, b1_some, b1_some]
  refine ⟨_, rfl, ?_⟩
  by_cases g3 : T.1 c = 3
  · rw [if_pos g3, r2 (.inl g3)]
  · rw [if_neg g3]
    by_cases g4 : 4 < T.1 c
    · rw [if_neg (fun g => (le4 _).1 g g4), b1_some, if_neg (by decide), r2 (.inr g4)]
    · rw [if_pos ((le4 _).2 g4), b1_some, if_pos rfl, rL_eq (by show _ < 520; omega) (by omega), b1_some, Rw_2, r3 (by rintro (g | g) <;> contradiction)]
/-- up. -/
theorem pr_up (hC : CS b0 S sz t n o w T kd ad m c) (hR : RS R t n o w T hf m u c) :
    (∃ x S' R' c', x_T_up N b0 K b0 S = some (x, S') ∧ m_up N R = some (x, R') ∧ R'.1 0 = 0 ∧ CS b0 S' sz t n o w T kd ad m c' ∧ RS R' t n o w T hf m u c') ∨
    (∃ x R', xt_T_up N b0 K b0 S = some 1 ∧ m_up N R = some (x, R') ∧ R'.1 0 = 1 ∧ RS R' t n o w T hf m u c) := by
  have hC' := hC
  have hR' := hR
  obtain ⟨c1, c2, c3, c4, c5, c6, c7, c8, c9, c10, c11, c12, c13, c14, c15, c16, c17, c18, c19, c20, c21, c22⟩ := hC'
  obtain ⟨h1, h2, h3, h4, h5, h6, h7, h8, h9, h10⟩ := hR'
  have n0 := c17.1 c c20
  have r0 := h8.1 c c20
  unfold x_T_up xt_T_up m_up m_up_19
  rw [gR_own (obA0 b0) c2, c7, b1_some, b1_some, b1_some, b1_some, gR_own n0.1 n0.2.2.1, n0.2.2.2.2.2.1 4 (by omega) (by omega), b1_some, b1_some, h7, rL_eq (by show _ < 520; omega) (by omega), r0.2.2.2.1, b1_some]
  cases h4' : T.2.2.1 c 4 with
  | none =>
    right
    rw [if_pos (show enc hf none = -1 from rfl), rP_eq, b1_some, if_neg (by rw [Rw_1]; decide)]
    exact ⟨_, _, rfl, rfl, Rw_1 _ _ _, hR.th 1⟩
  | some h =>
    left
    have hh := c17.2.2 c c20 4 h (by omega) (by omega) h4'
    have nh := c17.1 h hh
    have rh := h8.1 h hh
    simp only [Option.map_some, om_some]
    rw [pR_own (obA0 b0) c2, b1_some, gR_own (obA0 b0) (by exact c2), b1_some]
    have e4 : (sR S b0 4 (some (ad h))).2.2.2 b0 4 = some (ad h) := up2_at _ _ _ _
    rw [e4, b1_some, gI_own nh.1 (by exact nh.2.2.1), b1_some, if_neg (show ¬ enc hf (some h) = -1 from ne_neg (by omega)), rP_eq, b1_some, if_pos (Rw_1 _ _ _), Rw_1n _ _ (by decide), h7, rL_eq (by show _ < 520; omega) (by omega), b1_some, Rw_2, r0.2.2.2.1, h4', rP_eq, b1_some, Rw_1, show enc hf (some h) = I (260 * hf + h) from rfl, rL_eq (by show _ < 520; omega) (by omega), b1_some]
    refine ⟨_, _, _, h, rfl, ?_, ?_, hC.cu hh, (hR.th 0).cu h⟩
    · have e1 : (sR S b0 4 (some (ad h))).2.2.1 (ad h) 0 = T.1 h := nh.2.2.2.1
      have e2 : (Rw (Rw R 0 0) 18 (I (260 * hf + h))).2 3 (260 * hf + h) = T.1 h := rh.1
      rw [e1, e2]
    · rw [Rw_1n _ _ (by decide), Rw_1]
end
