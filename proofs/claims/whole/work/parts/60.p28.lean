section
variable {b0 N : Nat} {K S S' : cS} {rd sb al vb vb' sz sz' sz0 : Nat} {t : Nat → Int32} {n p q : Nat} {R R' : rS} {l : List Int32} {hb u0 u : Nat} {T T' : Ar} {ad : Nat → Nat} {m lo e : Nat} {kd : Nat → List Nat} {xs : List Nat} {S0 : cS} {R0 : rS}
/-- The opened table is put: the first state is taken anew. -/
theorem BC.op (h : BC b0 K rd sb al t n sz0 S0 S vb e sz T kd ad m xs p) (o : Option Nat) : BC b0 K rd sb al t n sz0 (sR S0 rd 5 o) (sR S rd 5 o) vb e sz T kd ad m xs p := by
  obtain ⟨⟨l, h1⟩, h2, h3, h4, h5, h6, h7, h8, h9, h10, h11, h12, h13, h14, h15, h16, h17, h18, h19, h20, h21⟩ := h
  obtain ⟨kr, ks, kv⟩ := h1.kinds
  obtain ⟨n1, n2, n3, n4, n5⟩ := h1.ne
  have kal := h3.2.1
  have w : ∀ f, f ≠ 5 → (sR S rd 5 o).2.2.2 rd f = S.2.2.2 rd f := fun f hf => by show up2 _ _ _ _ _ _ = _; rw [up2_nn _ _ (.inr hf)]
  have ke : Same S (sR S rd 5 o) e := Same.sR _ (fun g => by
    rcases h3.2.2.2.2.2 with ⟨_, _, g1, _⟩ | ⟨_, _, _, g1, _⟩
    · omega
    · rw [g, kr] at g1; omega)
  obtain ⟨⟨c1, c2, c3, c4, c5, c6, c7, c8⟩, q2, q3, q4⟩ := h1
  refine ⟨⟨l, ⟨c1, c2, by rw [w 0 (by decide)]; exact c3, c4, c5, c6, c7, c8⟩, by rw [w 2 (by decide)]; exact q2, q3.keep (Same.sR _ (fun g => n1 g.symm)) (Same.sR _ (fun g => n2 g.symm)), q4⟩, by rw [w 3 (by decide)]; exact h2, h3.keep (Same.sR _ (fun g => by rw [g, kr] at kal; omega)) ke (fun _ _ => rfl), h4, h5, h6.same (fun a ha hk => Same.sR _ (fun g => by rw [g, kr] at hk; omega)) (Nat.le_refl _), h7, h8, fun a ha => ?_, h10, h11, h12, h13, h14, h15, h16, h17, h18, h19, h20, ?_⟩
  · have g1 : a ≠ rd := by omega
    obtain ⟨x1, x2, x3, x4⟩ := h9 a ha
    refine ⟨x1, x2, x3, ?_⟩
    funext f
    show up2 _ _ _ _ _ _ = up2 _ _ _ _ _ _
    rw [up2_nn _ _ (.inl g1), up2_nn _ _ (.inl g1), x4]
  · funext f
    show up2 _ _ _ _ _ _ = up2 _ _ _ _ _ _
    by_cases hf : f = 5
    · subst hf; rw [up2_at, up2_at]
    · rw [up2_nn _ _ (.inr hf), up2_nn _ _ (.inr hf), h21]
theorem Bad.op {o : Option Nat} (h : Bad b0 rd n sz0 (sR S0 rd 5 o) S hb R0 R) (hz : sz0 ≤ rd) : Bad b0 rd n sz0 S0 S hb R0 R := by
  obtain ⟨w, h1, h2, h3, h4, h5, h6⟩ := h
  refine ⟨w, h1, h2, h3, h4, fun a ha => ?_, h6⟩
  obtain ⟨x1, x2, x3, x4⟩ := h5 a ha
  refine ⟨x1, x2, x3, x4.trans ?_⟩
  funext f; show up2 _ _ _ _ _ _ = _; rw [up2_nn _ _ (.inl (by omega))]
/-- A sign that must stand here: both take it, or both tell the place. -/
theorem pr_take (hT : Tx t n) (hp : p ≤ n) (hC : BC b0 K rd sb al t n sz0 S0 S vb e sz T kd ad m xs p) (hR : BR t n hb R0 R T' m u p) {c : Int32} (h0 : c ≠ 0) :
    (ch t n p = c ∧ p < n ∧ x_R_take N b0 K rd c S = some (1, sI S rd 6 (I (p + 1))) ∧ BC b0 K rd sb al t n sz0 S0 (sI S rd 6 (I (p + 1))) vb e sz T kd ad m xs (p + 1) ∧ BR t n hb R0 (Rw R 3 (I (p + 1))) T' m u (p + 1)) ∨
    (ch t n p ≠ c ∧ x_R_take N b0 K rd c S = some (0, sI S rd 7 (I p)) ∧ Bad b0 rd n sz0 S0 (sI S rd 7 (I p)) hb R0 (Rw R 4 (I p))) := by
  have hn := hT.1
  rw [take_eq hC.ct hn (by omega) c h0]
  by_cases hc : ch t n p = c
  · have hpn : p < n := by
      rcases Nat.lt_or_ge p n with g | g
      · exact g
      · rw [ch_out (by omega)] at hc; exact absurd hc.symm h0
    rw [if_pos hc]
    exact .inl ⟨hc, hpn, rfl, hC.mv (by omega), hR.mv (by omega)⟩
  · rw [if_neg hc]
    exact .inr ⟨hc, rfl, wr_bad hC hR hp⟩
theorem pr_bl (hT : Tx t n) (hN : 1000 ≤ N) (hp : p ≤ n) (hC : BC b0 K rd sb al t n sz0 S0 S vb e sz T kd ad m xs p) (hR : BR t n hb R0 R T' m u p) :
    ∃ q, p ≤ q ∧ q ≤ n ∧ ch t n q ≠ 32 ∧ x_R_skipBlanks N b0 K rd S = some (sI S rd 6 (I q)) ∧ m_blanks N R = some (Rw R 3 (I q)) ∧ BC b0 K rd sb al t n sz0 S0 (sI S rd 6 (I q)) vb e sz T kd ad m xs q ∧ BR t n hb R0 (Rw R 3 (I q)) T' m u q := by
  obtain ⟨q, h1, h2, h3, h4, h5⟩ := pr_blanks (N := N) (K := K) hT hN hp hC.ct hR.1.1
  exact ⟨q, h1, h2, h3, h4, h5, hC.mv h1, hR.mv h1⟩
/-- The path, with all that is round it. -/
def PB (b0 : Nat) (K : cS) (rd sb al : Nat) (t : Nat → Int32) (n sz0 : Nat) (S0 : cS) (hb : Nat) (R0 : rS) (e sz : Nat) (T T' : Ar) (kd : Nat → List Nat) (ad : Nat → Nat) (m : Nat) (xs : List Nat) (p : Nat) (R : rS) (S : cS) (vb : Nat) (C : Option (Option Nat × cS × Nat × Nat)) (M : Option (Int32 × rS)) : Prop :=
  (∃ q S' R' vb' dc ds as ps u', p < q ∧ q ≤ n ∧ ps ≠ [] ∧ p + 2 * ps.length ≤ q + 1 ∧ C = some (as[0]?, S', dc, ds) ∧ M = some (1, R') ∧ StpC b0 S' as ps (sz + dc) vb' ∧ R'.1 20 = I ps.length ∧ PartR R' hb u' ps ∧ BC b0 K rd sb al t n sz0 S0 S' vb' e (sz + dc) T kd ad m xs q ∧ BR t n hb R0 R' T' m u' q ∧ (∀ (i : Nat) (x : Nat × List Int32), ps[i]? = some x → x.1 ≤ n) ∧ R'.1 26 = R.1 26 ∧ (∀ i, R'.2 17 i = R.2 17 i) ∧ (∀ i, R'.2 18 i = R.2 18 i) ∧ Kp b0 S S' sz (sz + dc) vb vb' ∧ dc ≤ 4 * (q - p) ∧ ds ≤ 83 * (q - p)) ∨
  (∃ S' R' dc ds, C = some (none, S', dc, ds) ∧ M = some (0, R') ∧ Bad b0 rd n sz0 S0 S' hb R0 R' ∧ dc ≤ 4 * (n + 1 - p) ∧ ds ≤ 83 * (n + 1 - p))
theorem pr_pb (hT : Tx t n) (hN : 1000 ≤ N) (hp : p ≤ n) (hC : BC b0 K rd sb al t n sz0 S0 S vb e sz T kd ad m xs p) (hR : BR t n hb R0 R T' m u p) :
    PB b0 K rd sb al t n sz0 S0 hb R0 e sz T T' kd ad m xs p R S vb (x_R_readPath N b0 K rd sz S) (m_path N R) := by
  obtain ⟨l, hS⟩ := hC.1
  rcases pr_path (N := N) (K := K) hT hN hp hS hR.1 with ⟨q, l', S', R', vb', dc, ds, as, ps, u', g1, g2, g3, g4, gpl, g5, g6, g7, g8, g9, g10, g11, g12, g13, g14, g15, g16, g17, g18, g19⟩ | ⟨w, S', R', dc, ds, g1, g2, g3, g4, g5, g6, g7, g8, g9⟩
  · exact .inl ⟨q, S', R', vb', dc, ds, as, ps, u', g1, g2, g3, g4, g7, g8, g9, g10, g11, hC.keep g14 ⟨l', g12⟩ (by omega) g17 (by omega), hR.fp g15 g13 g5 g16, gpl, g15.1 26 (by decide) (by decide) (by decide) (by decide) (by decide), fun i => by rw [g15.2.1 17 (by decide) (by decide) (by decide) (by decide) (by decide)], fun i => by rw [g15.2.1 18 (by decide) (by decide) (by decide) (by decide) (by decide)], Kp.fr hS g14 (by omega) g17, g18, g19⟩
  · exact .inr ⟨S', R', dc, ds, g2, g3, hC.bad hR.2.2.2.2 g6 g7.gr g1 g4 g5, g8, g9⟩
/-- What comes of a header. -/
def HdOut (b0 : Nat) (K : cS) (rd sb al : Nat) (t : Nat → Int32) (n sz0 : Nat) (S0 : cS) (hb : Nat) (R0 : rS) (sz : Nat) (p : Nat) (xs : List Nat) (T T' : Ar) (ad : Nat → Nat) (m : Nat) (C : Option (Int32 × cS × Nat × Nat)) (M : Option (Int32 × rS)) : Prop :=
  (∃ q S1 R1 dc ds T1 T1' kd1 ad1 m1 tt e1 vb1 u1, p < q ∧ q ≤ n ∧ C = some (1, S1, dc, ds) ∧ M = some (I (260 * hb + tt), R1) ∧ BC b0 K rd sb al t n sz0 (sR S0 rd 5 (some (ad1 tt))) S1 vb1 e1 (sz + dc) T1 kd1 ad1 m1 xs q ∧ BR t n hb R0 R1 T1' m1 u1 q ∧ Agr 0 T1 T1' m1 ∧ tt < m1 ∧ 6 < T1.1 tt ∧ 0 < m1 ∧ dc ≤ 6 * (q - p) ∧ ds ≤ 100 * (q - p) ∧ (∀ i, i < m → 6 < T.1 i → 6 < T1.1 i) ∧ (∀ i, i < m → ad1 i = ad i) ∧ Blw 0 T' T1') ∨
  (∃ S1 R1 dc ds, C = some (0, S1, dc, ds) ∧ M = some (-1, R1) ∧ Bad b0 rd n sz0 S0 S1 hb R0 R1 ∧ dc ≤ 6 * (n + 1 - p) ∧ ds ≤ 100 * (n + 1 - p))
theorem hd_end (hT : Tx t n) (hp : p ≤ n) (hC : BC b0 K rd sb al t n sz0 S0 S vb e sz T kd ad m xs p) (hR : BR t n hb R0 R T' m u p) (hA : Agr 0 T T' m) {tt : Nat} (htt : tt < m) (hk : 6 < T.1 tt) {rows : Int32} (hrow : rows = 0 ∨ rows = 1) (f : Nat) (hf : 3 < f) :
    (∃ q S1 R1, p < q ∧ q ≤ n ∧ x_R_readHeader_62 N b0 K rd rows (some (ad tt)) sz S = some (1, S1, 0, 0) ∧ m_header_64 N f rows (I (260 * hb + tt)) 0 R = some (I (260 * hb + tt), R1) ∧ BC b0 K rd sb al t n sz0 (sR S0 rd 5 (some (ad tt))) S1 vb e sz T kd ad m xs q ∧ BR t n hb R0 R1 T' m u q) ∨
    (∃ S1 R1, x_R_readHeader_62 N b0 K rd rows (some (ad tt)) sz S = some (0, S1, 0, 0) ∧ m_header_64 N f rows (I (260 * hb + tt)) 0 R = some (-1, R1) ∧ Bad b0 rd n sz0 S0 S1 hb R0 R1) := by
  have hn := hT.1
  have hb1 := hR.1.2.2.1
  have hm1 := hC.mp
  have hz0 : sz0 ≤ rd := by obtain ⟨_, _, _, _, _, _, _, _, _, _, _, h, _⟩ := hC; exact h
  obtain ⟨f, rfl⟩ : ∃ i, f = i + 3 := ⟨f - 3, by omega⟩
  have hne : ¬ I (260 * hb + tt) = -1 := ne_neg (by omega)
  unfold x_R_readHeader_62
  rw [om_some, pR_own (.inl hC.ct.1) hC.kinds.1]
  simp only [b1_some]
  have hC1 := hC.op (some (ad tt))
  rw [hC1.ct.ifk]
  unfold m_header_64 m_header_64F m_header_74
  have hh := here_eq (N := N) hR.1.1 hn (show p ≤ 1000 by omega)
  rcases pr_take (N := N) (c := 93) hT hp hC1 hR (by decide) with ⟨h1, h2, h3, h4, h5⟩ | ⟨h1, h2, h3⟩
  · rw [h3, hh]
    simp only [b2_some, b1_some, rP_eq]
    rw [if_neg (show ¬ (1 : Int32) = 0 by decide), if_pos h1, hR.1.1.2.1, I_1]
    rcases hrow with rfl | rfl
    · rw [if_pos rfl, if_pos rfl, if_neg (show ¬ (1 : Int32) ≤ 0 by decide), if_neg hne]
      unfold m_header_64 m_header_64F m_header_74
      rw [if_pos rfl, if_pos (show (1 : Int32) ≤ 0 + 1 by decide)]
      exact .inl ⟨p + 1, _, _, by omega, by omega, rfl, rfl, h4, h5⟩
    · rw [if_neg (show ¬ (1 : Int32) = 0 by decide), if_neg (show ¬ (1 : Int32) = 0 by decide), if_neg (show ¬ (2 : Int32) ≤ 0 by decide), if_neg hne, h4.ct.ifk]
      unfold m_header_64 m_header_64F m_header_74
      rw [if_neg (show ¬ (1 : Int32) = 0 by decide), if_neg (show ¬ (2 : Int32) ≤ 0 + 1 by decide), if_neg hne]
      have hh2 := here_eq (N := N) h5.1.1 hn (show p + 1 ≤ 1000 by omega)
      rcases pr_take (N := N) (c := 93) hT (show p + 1 ≤ n by omega) h4 h5 (by decide) with ⟨k1, k2, k3, k4, k5⟩ | ⟨k1, k2, k3⟩
      · rw [k3, hh2]
        simp only [b2_some, b1_some, rP_eq]
        rw [if_neg (show ¬ (1 : Int32) = 0 by decide), if_pos k1, h5.1.1.2.1, I_1]
        unfold m_header_64 m_header_64F m_header_74
        rw [if_neg (show ¬ (1 : Int32) = 0 by decide), if_pos (show (2 : Int32) ≤ 0 + 1 + 1 by decide)]
        exact .inl ⟨p + 1 + 1, _, _, by omega, by omega, rfl, rfl, k4, k5⟩
      · rw [k2, hh2]
        simp only [b2_some, b1_some, rP_eq, if_true]
        rw [if_neg k1, h5.1.1.2.1]
        exact .inr ⟨_, _, rfl, rfl, k3.op hz0⟩
  · rw [h2, hh]
    simp only [b2_some, b1_some, rP_eq, if_true]
    rw [if_neg h1, if_neg hne, hR.1.1.2.1]
    refine .inr ⟨_, _, rfl, ?_, h3.op hz0⟩
    rcases hrow with rfl | rfl
    · rw [if_pos rfl, if_neg (show ¬ (1 : Int32) ≤ 0 by decide)]
    · rw [if_neg (show ¬ (1 : Int32) = 0 by decide), if_neg (show ¬ (2 : Int32) ≤ 0 by decide)]
end
