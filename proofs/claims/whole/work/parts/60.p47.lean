section
variable {b0 N : Nat} {K S S' : cS} {rd sb al vb vb' sz sz' sz0 : Nat} {t : Nat → Int32} {n p q : Nat} {R R' : rS} {l : List Int32} {hb u0 u : Nat} {T T' : Ar} {ad : Nat → Nat} {m lo e : Nat} {kd : Nat → List Nat} {xs : List Nat} {S0 : cS} {R0 : rS}
/-- read: both answer the same, and stand as they should. -/
theorem pr_read (hK : KF b0 K) (hT : Tx t n) (hN : 200000 ≤ N) {o : Nat → Int32} {w c hf : Nat} (hC : CS b0 S sz t n o w T kd ad m c) (hR : RS R t n o w T hf m u c) :
    ∃ x S' dc ds R' T' kd' ad' m' u' hf' c', x_T_read N b0 K b0 sz S = some (x, S', dc, ds) ∧ m_read N R = some (x, R') ∧ CS b0 S' (sz + dc) t 0 o w T' kd' ad' m' c' ∧ RS R' t 0 o w T' hf' m' u' c' ∧ dc ≤ 17 + 12 * n ∧ ds ≤ 539 + 500 * n := by
  have hn := hT.1
  obtain ⟨d, hd, hd2, hd3, hd4⟩ := hK.2.1
  have hB := bc_start hK hC hd
  have hX := cls_start (N := N) hK hC hd
  have hR' := hR
  obtain ⟨s1, s2, s3, s4, s5, s6, s7, s8, s9, s10⟩ := hR'
  obtain ⟨R1, e1, e2, e3, e4, e5, e6, e7, e8, e9, e10, e11, e12, e13⟩ := ref_start (N := N) (hb := 1 - hf) hR rfl
  have hC' := hC
  obtain ⟨c1, c2, c3, c4, c5, c6, c7, c8, c9, c10, c11, c12, c13, c14, c15, c16, c17, c18, c19, c20, c21, c22⟩ := hC'
  have hb0 : b0 < sz := by omega
  obtain ⟨k1, k2, k3, k4, k5, k6⟩ := rdS_k (S := S) (n := n) d hb0
  obtain ⟨i1, i2, i3, i4, i5, i6, i7, i8, i9⟩ := rdS_i (S := S) (n := n) d hb0
  obtain ⟨r1, r2, r3, r4, r5, r6, r7, r8, r9⟩ := rdS_r (S := S) (n := n) d hb0
  have hBR : BR t n (1 - hf) R1 R1 ar0 1 0 0 := ⟨⟨e2, e3, by omega, e4, by omega⟩, e5, e6, e7, GR.refl R1⟩
  have hD := pr_doc_i (N := N) (rd := sz) (sb := sz + 1) (al := sz + 3) (sz0 := sz) (hb := 1 - hf) (R0 := R1) hK hT hN n 0 N N 0 _ _ R1 (sz + 2) d (sz + 5) ar0 ar0 (fun _ => []) (fun _ => sz + 4) 1 0 0 [] (by omega) (by omega) (by omega) (by omega) (by omega) hB hBR (fun i _ _ => ⟨rfl, rfl, fun _ _ _ => rfl, rfl, fun _ => ⟨rfl, rfl⟩⟩) (by omega) (by decide) (by omega) (by decide) r4 r5 rfl rfl
  rw [show (I 0 : Int32) = 0 from rfl, show 260 * (1 - hf) + 0 = 260 * (1 - hf) by omega] at hD
  have eD : x_R_readDocument N b0 K sz (sz + 5) (rdS S b0 sz d n) = x_R_readDocument_4 N b0 K N sz 1 0 (sz + 5) (rdS S b0 sz d n) := rfl
  rw [hX, eD, e1]
  have ob : ownC b0 b0 := .inr ⟨by omega, by omega⟩
  rcases hD with ⟨q, S1, vb1, e1', dc, ds, T1, kd1, ad1, m1, xs1, R2, T1', u1, q2, tt, SS, g1, g2, g3, g4, g5, g6, g7, g8, g9, g9', g9'', g10, g10', g11, g12, g13, g14⟩ | ⟨S1, dc, ds, R2, g1, g2, g3, g4, g5⟩
  · rw [g1, b4_some, om_some, g12]
    have hlow : ∀ a, a < sz → Same (rdS S b0 sz d n) S1 a := fun a ha => (g4 a ha).trans (g3.2.2.2.2.2.2.2.2.1 a ha)
    have l0 := hlow b0 hb0
    rw [pR_own ob (by rw [l0.1, k6]; exact c2), b1_some, pR_own ob (by show S1.1 b0 = 1; rw [l0.1, k6]; exact c2), b1_some, wr4_some, wr4_some]
    have hb1 := g10.1.2.2.1
    have hmp := g3.mp
    unfold m_read_78
    rw [rP_eq, b1_some, if_neg (ne_neg (by omega)), rP_eq, b1_some, rP_eq, b1_some, Rw_1, Rw_1n _ _ (by decide), g10.1.2.1]
    generalize hS9 : sR (sR S1 b0 3 (some (sz + 4))) b0 4 (some (sz + 4)) = S9
    have hsame : ∀ a, a ≠ b0 → Same S1 S9 a := fun a ha => by rw [← hS9]; exact (Same.sR _ ha).trans (Same.sR _ ha)
    have hS9k : S9.1 = S1.1 := by rw [← hS9]; rfl
    have hS9i : S9.2.2.1 = S1.2.2.1 := by rw [← hS9]; rfl
    have hS9r : ∀ f, f ≠ 3 → f ≠ 4 → S9.2.2.2 b0 f = S1.2.2.2 b0 f := fun f a b => by rw [← hS9]; show up2 _ _ _ _ _ _ = _; rw [up2_nn _ _ (.inr b)]; show up2 _ _ _ _ _ _ = _; rw [up2_nn _ _ (.inr a)]
    have hold : ∀ a, a < sz → a ≠ b0 → Same S S9 a := fun a ha hab => ((rdS_old ha hab).trans (hlow a ha)).trans (hsame a hab)
    have o2 := hold (b0 + 2) (by omega) (by omega)
    have o3 := hold (b0 + 3) (by omega) (by omega)
    have o1 := hold (b0 + 1) (by omega) (by omega)
    have ez : sz + (5 + (dc + 0)) = sz + 5 + dc := by omega
    refine ⟨_, S9, _, _, _, T1, kd1, ad1, m1, u1, 1 - hf, 0, rfl, rfl, ⟨by omega, by rw [hS9k, l0.1, k6]; exact c2, by rw [hS9r 0 (by decide) (by decide), l0.2.2.2, r9]; exact c3, by rw [hS9r 1 (by decide) (by decide), l0.2.2.2, r9]; exact c4, by rw [hS9i, l0.2.2.1]; exact i9, ?_, ?_, by rw [o1.1]; exact c8, by rw [o1.2.1]; exact c9, fun i hi => by omega, by rw [o2.1]; exact c11, by rw [o2.2.2.2]; exact c12, by rw [o2.2.2.1]; exact c13, by rw [o3.1]; exact c14, by rw [o3.2.1]; exact c15, fun i a b => by rw [o3.2.2.1]; exact c16 i a b, ?_, g3.wf, g5, g5, g7, fun i hi => .inr ?_⟩, ⟨?_, fun i hi => by omega, ?_, fun i a b => ?_, by omega, ?_, ?_, ?_, by omega, ?_⟩, by omega, by omega⟩
    · rw [g6, ← hS9]; show up2 _ _ _ _ _ _ = _; rw [up2_nn _ _ (.inr (by decide))]; show up2 _ _ _ _ _ _ = _; rw [up2_at]
    · rw [g6, ← hS9]; show up2 _ _ _ _ _ _ = _; rw [up2_at]
    · rw [ez]
      refine (g3.rel.vb0).same (fun a ha hk => hsame a (fun g => ?_)) (Nat.le_refl _)
      rw [g, l0.1, k6, c2] at hk; omega
    · have := g3.2.2.2.2.2.2.2.2.2.2.2.2.2.2.2.2.1 i hi
      omega
    · rw [Rw_1n _ _ (by decide), Rw_1n _ _ (by decide), Rw_1]; rfl
    · rw [Rw_1n _ _ (by decide), Rw_1n _ _ (by decide), Rw_1n _ _ (by decide), g10.2.2.2.2.1 29 (by decide) (by decide) (by decide) (by decide) (by decide) (by decide), e10]; exact s3
    · rw [Rw_2, Rw_2, Rw_2, g10.2.2.2.2.2.2.1, e11]; exact s4 i a b
    · rw [Rw_1n _ _ (by decide), Rw_1]
    · rw [Rw_1, show (260 : Int32) = I 260 from rfl, I_mul]; rfl
    · have hrel : RelR R2 T1 (1 - hf) m1 u1 := by
        refine g10.2.2.2.1.agr g8 (by rw [g9, g9'']) ?_ g3.wf.lk
        rw [g9']
        cases hk0 : T1.2.2.2.2 0 with
        | none => rfl
        | some ls =>
          exfalso
          obtain ⟨hd', x1, -⟩ := (g3.wf.2.2.2.1 0 g5).1 (by rw [hk0]; simp)
          rw [g9''] at x1; cases x1
      exact hrel.keep (fun _ _ _ _ _ => rfl) (fun _ _ _ => rfl) (Nat.le_refl _)
    · have := g10.1.2.2.2.2
      omega
  · rw [g1, b4_some, om_none, g2]
    obtain ⟨w', b1', b2', b3', b4', b5', b6'⟩ := g3
    rw [gI_own (.inl c1) b2', b3', b1_some, wr4_some, wr4_some]
    unfold m_read_78
    rw [rP_eq, b1_some, if_pos rfl, Rw_1n _ _ (by decide), b4']
    have l0 := b5' b0 hb0
    have hold : ∀ a, a < sz → a ≠ b0 → Same S S1 a := fun a ha hab => (rdS_old ha hab).trans (b5' a ha)
    have o2 := hold (b0 + 2) (by omega) (by omega)
    have o3 := hold (b0 + 3) (by omega) (by omega)
    have o1 := hold (b0 + 1) (by omega) (by omega)
    have ez : sz + (5 + (dc + 0)) = sz + 5 + dc := by omega
    refine ⟨_, S1, _, _, _, T, kd, ad, m, u, hf, c, rfl, rfl, ⟨by omega, by rw [l0.1, k6]; exact c2, by rw [l0.2.2.2, r9]; exact c3, by rw [l0.2.2.2, r9]; exact c4, by rw [l0.2.2.1]; exact i9, by rw [l0.2.2.2, r9]; exact c6, by rw [l0.2.2.2, r9]; exact c7, by rw [o1.1]; exact c8, by rw [o1.2.1]; exact c9, fun i hi => by omega, by rw [o2.1]; exact c11, by rw [o2.2.2.2]; exact c12, by rw [o2.2.2.1]; exact c13, by rw [o3.1]; exact c14, by rw [o3.2.1]; exact c15, fun i a b => by rw [o3.2.2.1]; exact c16 i a b, ?_, c18, c19, c20, c21, c22⟩, ⟨?_, fun i hi => by omega, ?_, fun i a b => ?_, s5, ?_, ?_, ?_, s9, s10⟩, by omega, by omega⟩
    · refine c17.same (fun a ha hk => hold a ha (fun g => ?_)) (by omega)
      rw [g, c2] at hk; omega
    · rw [Rw_1]; rfl
    · rw [Rw_1n _ _ (by decide), b6'.1 29 (by decide) (by decide) (by decide) (by decide) (by decide) (by decide), e10]; exact s3
    · rw [Rw_2, b6'.2.2.1, e11]; exact s4 i a b
    · rw [Rw_1n _ _ (by decide), b6'.1 5 (by decide) (by decide) (by decide) (by decide) (by decide) (by decide), e8]; exact s6
    · rw [Rw_1n _ _ (by decide), b6'.1 18 (by decide) (by decide) (by decide) (by decide) (by decide) (by decide), e9]; exact s7
    · refine s8.keep (fun j i a b hi => ?_) (fun i a b => ?_) (Nat.le_refl _)
      · rw [Rw_2, b6'.2.2.2.2.1 j _ a b (by omega), e12 j _ a b (by omega)]
      · rw [Rw_2, b6'.2.2.2.2.2 i (by omega), e13]
end
