section
variable {b0 N : Nat} {K S S' : cS} {rd sb al vb vb' sz sz' sz0 : Nat} {t : Nat → Int32} {n p q : Nat} {R R' : rS} {l : List Int32} {hb u0 u : Nat} {T T' : Ar} {ad : Nat → Nat} {m lo e : Nat} {kd : Nat → List Nat} {xs : List Nat} {S0 : cS} {R0 : rS}
theorem BR.sub (h : BR t n hb R0 R T' m u p) (v : Int32) : BR t n hb R0 (Rw R 26 v) T' m u p := h.dep v
theorem Kinds0 {lo : Nat} {T1 : Ar} {m1 : Nat} {ys : List Nat} (h : KX lo T T1 m m1 ys) {i : Nat} (hi : i < m) (hk : 6 < T.1 i) : 6 < T1.1 i := by rw [h.1 i hi]; exact hk
/-- What comes of the lines of a document, in both. -/
def DOut (b0 N : Nat) (K : cS) (rd sb al : Nat) (t : Nat → Int32) (n sz0 : Nat) (S0 : cS) (hb : Nat) (R0 : rS) (sz : Nat) (ad : Nat → Nat) (p : Nat) (C : Option (Option Nat × cS × Nat × Nat)) (M : Option (Int32 × rS)) : Prop :=
  (∃ q S1 vb1 e1 dc ds T1 kd1 ad1 m1 xs1 R2 T1' u1 q2 tt SS, C = some (some (ad 0), S1, dc, ds) ∧ q ≤ n ∧ BC b0 K rd sb al t n sz0 SS S1 vb1 e1 (sz + dc) T1 kd1 ad1 m1 xs1 q ∧ (∀ a, a < sz0 → Same S0 SS a) ∧ 0 < m1 ∧ ad1 0 = ad 0 ∧ 6 < T1.1 0 ∧ Agr 0 T1 T1' m1 ∧ T1'.2.2.1 0 4 = none ∧ T1'.2.2.2.2 0 = none ∧ T1.2.2.1 0 4 = none ∧ BR t n hb R0 R2 T1' m1 u1 q2 ∧ q2 ≤ n + 1 ∧ tt < m1 ∧ M = m_read_78 N (I (260 * hb + tt)) R2 ∧ dc ≤ 12 * (n + 1 - p) ∧ ds ≤ 500 * (n + 1 - p)) ∨
  (∃ S1 dc ds R2, C = some (none, S1, dc, ds) ∧ M = m_read_78 N (-1) R2 ∧ Bad b0 rd n sz0 S0 S1 hb R0 R2 ∧ dc ≤ 12 * (n + 1 - p) ∧ ds ≤ 500 * (n + 1 - p))
theorem Bad.base {SS : cS} (h : Bad b0 rd n sz0 SS S hb R0 R) (hs : ∀ a, a < sz0 → Same S0 SS a) : Bad b0 rd n sz0 S0 S hb R0 R := by
  obtain ⟨w, h1, h2, h3, h4, h5, h6⟩ := h
  exact ⟨w, h1, h2, h3, h4, fun a ha => (hs a ha).trans (h5 a ha), h6⟩
theorem DOut.step {SS : cS} {dc ds p1 : Nat} {ad1 : Nat → Nat} {C : Option (Option Nat × cS × Nat × Nat)} {M : Option (Int32 × rS)} (h : DOut b0 N K rd sb al t n sz0 SS hb R0 (sz + dc) ad1 p1 C M) (hs : ∀ a, a < sz0 → Same S0 SS a) (had : ad1 0 = ad 0) (hp : p ≤ p1) (hp1 : p1 ≤ n + 1) (hdc : dc ≤ 12 * (p1 - p)) (hds : ds ≤ 500 * (p1 - p)) :
    DOut b0 N K rd sb al t n sz0 S0 hb R0 sz ad p (wr4 dc ds C) M := by
  rcases h with ⟨q, S1, vb1, e1, dc1, ds1, T1, kd1, ad2, m1, xs1, R2, T1', u1, q2, tt, SS', g1, g2, g3, g4, g5, g6, g7, g8, g9, g9', g9'', g10, g10', g11, g12, g13, g14⟩ | ⟨S1, dc1, ds1, R2, g1, g2, g3, g4, g5⟩
  · exact .inl ⟨q, S1, vb1, e1, dc + dc1, ds + ds1, T1, kd1, ad2, m1, xs1, R2, T1', u1, q2, tt, SS', by rw [g1, had]; rfl, g2, by rw [← Nat.add_assoc]; exact g3, fun a ha => (hs a ha).trans (g4 a ha), g5, by rw [g6, had], g7, g8, g9, g9', g9'', g10, g10', g11, g12, by omega, by omega⟩
  · exact .inr ⟨S1, dc + dc1, ds + ds1, R2, by rw [g1]; rfl, g2, g3.base hs, by omega, by omega⟩
/-- The end of a line. -/
theorem line_end (hT : Tx t n) (hN : 1000 ≤ N) (hp : p ≤ n) (hC : BC b0 K rd sb al t n sz0 S0 S vb e sz T kd ad m xs p) (hR : BR t n hb R0 R T' m u p) (y2 : Int32) (k ln : Nat) :
    (∃ q, p ≤ q ∧ q < n ∧ x_R_readDocument_65 N b0 K (x_R_readDocument_4 N b0 K k) rd (I ln) 1 sz S = x_R_readDocument_4 N b0 K k rd 1 (I (ln + 1)) sz (sI S rd 6 (I (q + 1))) ∧ m_line_74 N y2 R = some (y2, Rw R 3 (I (q + 1)))) ∨
    (x_R_readDocument_65 N b0 K (x_R_readDocument_4 N b0 K k) rd (I ln) 1 sz S = x_R_readDocument_4 N b0 K k rd 0 (I (ln + 1)) sz (sI S rd 6 (I n)) ∧ m_line_74 N y2 R = some (y2, Rw R 3 (I (n + 1)))) ∨
    (∃ S1 R1, x_R_readDocument_65 N b0 K (x_R_readDocument_4 N b0 K k) rd (I ln) 1 sz S = some (none, S1, 0, 0) ∧ m_line_74 N y2 R = some (-1, R1) ∧ Bad b0 rd n sz0 S0 S1 hb R0 R1) := by
  have hn := hT.1
  unfold x_R_readDocument_65 m_line_74
  rw [if_neg (show ¬ (1 : Int32) = 0 by decide), hC.ct.ifk]
  obtain ⟨q1, h1, h2, h3, h4, h5, h6, h7⟩ := pr_bl (N := N) hT hN hp hC hR
  rw [h4, b1_some, h5, b1_some, h6.ct.ifk]
  obtain ⟨q2, j1, j2, j3, j4, j5, j6⟩ := pr_comment (N := N) (K := K) hT hN h2 h6.ct h7.1.1
  rw [j5, b1_some, sI_twice]
  have hC2 := hC.mv (q := q2) (by omega)
  have hR2 := hR.mv (q := q2) (by omega)
  -- the reference's comment
  have hcm : (b1 (m_here N (Rw R 3 (I q1))) (fun x4 => if x4 = 35 then (b1 (m_comment N (Rw R 3 (I q1))) (fun S6 => m_line_91 N y2 S6)) else (m_line_91 N y2 (Rw R 3 (I q1))))) = m_line_91 N y2 (Rw R 3 (I q2)) := by
    rw [here_eq h7.1.1 hn (by omega), b1_some] at j6 ⊢
    by_cases g : ch t n q1 = 35
    · rw [if_pos g] at j6 ⊢
      cases hm : m_comment N (Rw R 3 (I q1)) with
      | none => rw [hm] at j6; cases j6
      | some S6 => rw [hm, b1_some] at j6; cases j6; rw [b1_some, Rw_twice]
    · rw [if_neg g] at j6 ⊢
      have := Option.some.inj j6
      rw [Rw_twice] at this
      rw [this]
  rw [hcm, hC2.ct.ifk, peek_eq hC2.ct hn (by omega), b1_some]
  unfold m_line_91 m_line_121
  rw [hR2.1.1.1, hR2.1.1.2.1]
  by_cases hq : q2 < n
  · have hne : ¬ pk t n q2 = -1 := by rw [pkIn hq]; exact hT.nem hq
    rw [if_neg hne, if_neg (I_le0 hq (by omega)), here_eq hR2.1.1 hn (by omega), b1_some]
    unfold x_R_readDocument_93 x_R_readDocument_109
    rw [if_neg (show ¬ (1 : Int32) = 0 by decide), hC2.ct.ifk, take_eq hC2.ct hn (by omega) _ (by decide)]
    by_cases h10 : ch t n q2 = 10
    · rw [if_pos h10, if_pos h10, b2_some, if_neg (show ¬ (1 : Int32) = 0 by decide), sI_twice, I_1, I_1, rP_eq, b1_some, Rw_twice]
      exact .inl ⟨q2, by omega, hq, rfl, rfl⟩
    · rw [if_neg h10, if_neg h10, b2_some, if_pos rfl, rP_eq, b1_some]
      exact .inr (.inr ⟨_, _, rfl, rfl, wr_bad hC2 hR2 (by omega)⟩)
  · have hqn : q2 = n := by omega
    subst hqn
    rw [if_pos (pk_out hq), if_pos (I_le1 (Nat.le_refl _) (by omega))]
    unfold x_R_readDocument_93 x_R_readDocument_109
    rw [if_pos rfl, I_1, I_1, rP_eq, b1_some, Rw_twice]
    exact .inr (.inl ⟨rfl, rfl⟩)
end
