section
variable {b0 N : Nat} {K S S' : cS} {rd sb vb vb' sz sz' : Nat} {t : Nat → Int32} {n p q : Nat} {R R' : rS} {l : List Int32} {hb u0 u : Nat}
theorem wr4_wr4 {α : Type} (a b c d : Nat) (C : Option (α × cS × Nat × Nat)) : wr4 a b (wr4 c d C) = wr4 (a + c) (b + d) C := by
  rcases C with _ | ⟨x, y, z, w⟩
  · rfl
  · simp only [wr4]; rw [Nat.add_assoc, Nat.add_assoc]
theorem RB.ra (h : RB R t n p hb u) {j : Nat} (hj : j ≠ 1 ∧ j ≠ 12) (i : Nat) (v : Int32) : RB (Ra R j i v) t n p hb u :=
  ⟨⟨h.1.1, h.1.2.1, fun i hi => by rw [Ra_ne _ (.inl (by omega))]; exact h.1.2.2 i hi⟩, h.2.1, h.2.2.1, by rw [Ra_ne _ (.inl (by omega))]; exact h.2.2.2.1, h.2.2.2.2⟩
theorem RB.mv (h : RB R t n p hb u) {q : Nat} (hq : u ≤ q) : RB (Rw R 3 (I q)) t n q hb u :=
  ⟨h.1.mv q, by rw [Rw_1n _ _ (by decide)]; exact h.2.1, h.2.2.1, h.2.2.2.1, hq⟩
theorem RB.rw (h : RB R t n p hb u) {k : Nat} (hk : k ≠ 1 ∧ k ≠ 3 ∧ k ≠ 19) (v : Int32) : RB (Rw R k v) t n p hb u :=
  ⟨h.1.wr ⟨hk.1, hk.2.1⟩ v, by rw [Rw_1n _ _ (by omega)]; exact h.2.1, h.2.2.1, h.2.2.2.1, h.2.2.2.2⟩
theorem RQ.rb (h : RQ R t n p hb u l) : RB R t n p hb (u + l.length) := ⟨h.1, h.2.1, h.2.2.1, h.2.2.2.2.2.1, h.2.2.2.2.2.2.1⟩
theorem PartR.keep {ps : List (Nat × List Int32)} {u' : Nat} (h : PartR R hb u ps) (hF : ∀ (j i : Nat), (j = 14 ∨ j = 15 ∨ j = 16) → i < ps.length → R'.2 j i = R.2 j i) (hL : ∀ i, i < 300 * hb + u → R'.2 13 i = R.2 13 i) (hu : u ≤ u') : PartR R' hb u' ps := by
  intro i x hx
  obtain ⟨h1, f, h2, h3, h4, h5, h6⟩ := h i x hx
  have hi := glt hx
  refine ⟨by rw [hF 14 i (.inl rfl) hi, h1], f, by rw [hF 15 i (.inr (.inl rfl)) hi, h2], h3, by rw [hF 16 i (.inr (.inr rfl)) hi, h4], by omega, fun j c hj => ?_⟩
  have := lt_list hj
  rw [hL (f + j) (by omega)]; exact h6 j c hj
theorem pr_path_i (hT : Tx t n) (hN : 1000 ≤ N) {S0 : cS} {R0 : rS} {vb0 sz0 p0 : Nat} (hz0 : b0 + 26 ≤ sz0) : ∀ (k p : Nat) (S : cS) (R : rS) (ps : List (Nat × List Int32)) (as : List Nat) (vb dc ds : Nat) (l : List Int32) (u : Nat),
    p ≤ n → p0 ≤ p → n - p < k → p0 + 2 * ps.length ≤ p → (∀ (i : Nat) (x : Nat × List Int32), ps[i]? = some x → x.1 ≤ n) → StpC b0 S as ps (sz0 + dc) vb → (∀ a, a ∈ as → sz0 ≤ a) → SQ b0 S rd sb vb t n p l (sz0 + dc) → RB R t n p hb u → u0 ≤ u → PartR R hb u ps → R.1 20 = I ps.length → FrC S0 S rd sb vb0 sz0 → FP R0 R hb u0 → R.1 4 = R0.1 4 → (vb = vb0 ∨ sz0 ≤ vb) → dc ≤ 4 * (p - p0) → ds ≤ 83 * (p - p0) →
    POut b0 S0 rd sb vb0 sz0 t n p0 R0 hb u0 (wr4 dc ds (x_R_readPath_9 N b0 K k rd as[0]? as.getLast? 1 (I ps.length) (sz0 + dc) S)) (m_path_7 N k 1 R) := by
  have hn := hT.1
  intro k
  induction k with
  | zero => intro p S R ps as vb dc ds l u _ _ h; omega
  | succ k ih =>
    intro p S R ps as vb dc ds l u hp hp0 hk hps hplc hA hA0 hS hR hu hP h20 hF hFP h4 hv hdc hds
    unfold x_R_readPath_9 x_R_readPath_9F m_path_7 m_path_7F
    rw [if_neg (show ¬ (1 : Int32) = 0 by decide), if_neg (show ¬ (1 : Int32) = 0 by decide), if_neg (show ¬ (240 : Int32) ≤ I ps.length from I_le0 (a := 240) (by omega) (by omega)), hS.1.at_, h20, hR.1.2.1, rT_eq (by show _ < 130; omega) (by omega)]
    simp only [b1_some]
    have hR1 : RB (Ra R 14 ps.length (I p)) t n p hb u := hR.ra (by decide) _ _
    rw [hS.1.ifk, peek_eq hS.1 hn (by omega), here_eq hR1.1 hn (by omega)]
    simp only [b1_some]
    rw [hS.1.ifk, hS.1.ifk]
    -- what follows a part that was read
    have main : ∀ (C : Option (Option Nat × cS × Nat × Nat)) (M : Option (Int32 × rS)), SOut b0 S rd sb vb (sz0 + dc) t n p (Ra R 14 ps.length (I p)) hb u C M →
        POut b0 S0 rd sb vb0 sz0 t n p0 R0 hb u0 (wr4 dc ds (b4 C (fun q11 S12 c13 d14 => wr4 c13 d14 (x_R_readPath_47 N b0 K (x_R_readPath_9 N b0 K k) rd as[0]? as.getLast? (I ps.length) (I p) q11 (sz0 + dc + c13) S12)))) (b2 M (fun x9 S10 => if x9 = 0 then (some (0, S10)) else (m_path_52 N (m_path_7 N k) S10))) := by
      intro C M hO
      rcases hO with ⟨q1, l', S1, R1, vb1, s, dc1, ds1, g1, g2, rfl, rfl, g5, g6, g7, g8, g9, g10, g11, g12, g13, g14⟩ | ⟨w, S1, R1, dc1, ds1, g1, rfl, rfl, g4, g5, g6, g7, g8, g9⟩
      · simp only [b4_some, b2_some]
        rw [if_neg (show ¬ (1 : Int32) = 0 by decide)]
        unfold x_R_readPath_47 m_path_52
        rw [om_some]
        obtain ⟨kr, ks, kv⟩ := hS.kinds
        have hA1 : StpC b0 S1 as ps (sz0 + dc + dc1) vb1 := hA.keep g9 kr ks kv (by omega) g12
        have hz1 := g7.2.2.2.1
        obtain ⟨S2, e1, e2, e3⟩ := step_new (N := N) (K := K) hz1 hA1 (x := (p, l')) g5
        -- the reader's ownC cells stay
        have ksteps : ∀ a, a ∈ as → S1.1 a = 3 := by
          intro a ha
          obtain ⟨i, hi⟩ := List.getElem?_of_mem ha
          exact (hA1.2.2 i a _ hi (List.getElem?_eq_getElem (by rw [← hA1.1]; exact glt hi))).2.2.1
        obtain ⟨kr1, ks1, kv1⟩ := g7.kinds
        have hS2 : SQ b0 S2 rd sb vb1 t n q1 l' (sz0 + dc + dc1 + 1) := by
          refine g7.keepN (fun a ha hh => e3 a ha (fun hm => ?_)) (by omega)
          have := ksteps a hm
          rcases hh with rfl | rfl | rfl | rfl
          · omega
          · omega
          · omega
          · rw [g7.1.2.2.2.1] at this; omega
        have hF2 : FrC S0 S2 rd sb vb0 sz0 := by
          have hF1 : FrC S0 S1 rd sb vb0 sz0 := hF.trans g9 (by omega) hv
          have hrd : Same S1 S2 rd := e3 rd (by have := g7.2.2.2.2.1; omega) (fun hm => by have := ksteps rd hm; omega)
          refine ⟨fun a h1 h2 h3 h4 => (hF1.1 a h1 h2 h3 h4).trans (e3 a (by omega) (fun hm => by have := hA0 a hm; omega)), by rw [hrd.1, hF1.2.1], by rw [hrd.2.1, hF1.2.2.1], by rw [hrd.2.2.2, hF1.2.2.2.1], fun j h1 h2 => by rw [hrd.2.2.1, hF1.2.2.2.2 j h1 h2]⟩
        have hA0' : ∀ a, a ∈ as ++ [sz0 + dc + dc1] → sz0 ≤ a := by
          intro a ha
          rcases List.mem_append.1 ha with ha | ha
          · exact hA0 a ha
          · simp at ha; omega
        -- the reference's rows of the part
        have r20 : R1.1 20 = I ps.length := by rw [g10.1 20 (by decide) (by decide) (by decide) (by decide), Ra_1]; exact h20
        rw [r20, rT_eq (by show _ < 130; omega) (by omega)]
        simp only [b1_some, Ra_1, r20, rP_eq, I_1]
        rw [rT_eq (by show _ < 130; omega) (by omega)]
        simp only [b1_some, Ra_1, r20, rP_eq, I_1, g8.2.2.2.1, g8.2.2.2.2.1]
        generalize hR2 : Rw (Ra (Ra R1 15 ps.length (I (300 * hb + u))) 16 ps.length (I l'.length)) 20 (I (ps.length + 1)) = R2
        have hRB2 : RB R2 t n q1 hb (u + l'.length) := by
          rw [← hR2]; exact ((g8.rb.ra (by decide) _ _).ra (by decide) _ _).rw (by decide) _
        have hFP2 : FP R0 R2 hb u0 := by
          rw [← hR2]
          refine (((hFP.trans (FP.ra R (.inl rfl) _ _) (Nat.le_refl u0)).trans g10.fp hu).trans ?_ (Nat.le_refl u0))
          exact (((FP.ra R1 (.inr (.inl rfl)) _ _).trans (FP.ra _ (.inr (.inr rfl)) _ _) (Nat.le_refl u0)).trans (FP.rw _ (.inr (.inr (.inl rfl))) _) (Nat.le_refl u0))
        have h42 : R2.1 4 = R0.1 4 := by
          rw [← hR2, Rw_1n _ _ (by decide), Ra_1, Ra_1, g11, Ra_1, h4]
        have h202 : R2.1 20 = I (ps.length + 1) := by rw [← hR2, Rw_1]
        have hP2 : PartR R2 hb (u + l'.length) (ps ++ [(p, l')]) := by
          intro i x hx
          have hi := glt hx
          simp at hi
          have w13 : ∀ i, R2.2 13 i = R1.2 13 i := by
            intro i; rw [← hR2, Rw_2, Ra_ne _ (.inl (by decide)), Ra_ne _ (.inl (by decide))]
          by_cases hil : i < ps.length
          · rw [List.getElem?_append_left hil] at hx
            obtain ⟨a1, f, a2, a3, a4, a5, a6⟩ := hP i x hx
            have w14 : R2.2 14 i = R.2 14 i := by
              rw [← hR2, Rw_2, Ra_ne _ (.inl (by decide)), Ra_ne _ (.inl (by decide)), g10.2.1 14 (by decide) (by decide), Ra_ne _ (.inr (by omega))]
            have w15 : R2.2 15 i = R.2 15 i := by
              rw [← hR2, Rw_2, Ra_ne _ (.inl (by decide)), Ra_ne _ (.inr (by omega)), g10.2.1 15 (by decide) (by decide), Ra_ne _ (.inl (by decide))]
            have w16 : R2.2 16 i = R.2 16 i := by
              rw [← hR2, Rw_2, Ra_ne _ (.inr (by omega)), Ra_ne _ (.inl (by decide)), g10.2.1 16 (by decide) (by decide), Ra_ne _ (.inl (by decide))]
            refine ⟨by rw [w14, a1], f, by rw [w15, a2], a3, by rw [w16, a4], by omega, fun j c hj => ?_⟩
            have := lt_list hj
            rw [w13, g10.2.2.2 (f + j) (.inl (by omega)), Ra_ne _ (.inl (by decide))]; exact a6 j c hj
          · have : i = ps.length := by omega
            subst this
            simp at hx
            subst hx
            refine ⟨?_, 300 * hb + u, ?_, by omega, ?_, by simp; omega, fun j c hj => by rw [w13]; exact g8.2.2.2.2.2.2.2 j c hj⟩
            · rw [← hR2, Rw_2, Ra_ne _ (.inl (by decide)), Ra_ne _ (.inl (by decide)), g10.2.1 14 (by decide) (by decide), Ra_at]
            · rw [← hR2, Rw_2, Ra_ne _ (.inl (by decide)), Ra_at]
            · rw [← hR2, Rw_2, Ra_at]
        have hv2 : vb1 = vb0 ∨ sz0 ≤ vb1 := by omega
        have hplc2 : ∀ (i : Nat) (x : Nat × List Int32), (ps ++ [(p, l')])[i]? = some x → x.1 ≤ n := by
          intro i x hx
          have hi := glt hx
          simp at hi
          by_cases hil : i < ps.length
          · rw [List.getElem?_append_left hil] at hx; exact hplc i x hx
          · have : i = ps.length := by omega
            subst this
            simp at hx
            rw [← hx]; exact hp
        obtain ⟨q2, b1', b2', b3', b4', b5'⟩ := pr_blanks (N := N) (K := K) hT hN g2 hS2.1 hRB2.1
        have hu2 := hRB2.2.2.2.2
        have hS3 := hS2.mv q2
        have hR3 := hRB2.mv (q := q2) (by omega)
        have hF3 : FrC S0 (sI S2 rd 6 (I q2)) rd sb vb0 sz0 := hF2.trans (FrC.mv S2 (.inl rfl) _ (sz := sz0) (sb := sb) (vb := vb0)) (Nat.le_refl _) (.inl rfl)
        have hFP3 : FP R0 (Rw R2 3 (I q2)) hb u0 := hFP2.trans (FP.rw R2 (.inl rfl) _) (Nat.le_refl u0)
        -- the first step
        have hfst : (if as = [] then some (sz0 + dc + dc1) else as[0]?) = (as ++ [sz0 + dc + dc1])[0]? := by
          by_cases ha : as = []
          · subst ha; rfl
          · rw [if_neg ha, List.getElem?_append_left (List.length_pos_iff.2 ha)]
        have hlst : some (sz0 + dc + dc1) = (as ++ [sz0 + dc + dc1]).getLast? := by simp
        have hcl : (b1 (nOo b0 S1 3 (sz0 + dc + dc1)) fun S3 => b1 (x_S_init N b0 K (sz0 + dc + dc1) (some s) (I p) S3) fun S6 => om as.getLast? (x_R_readPath_85 N b0 K (x_R_readPath_9 N b0 K k) rd (some (sz0 + dc + dc1)) (I ps.length) (sz0 + dc + dc1) (sz0 + dc + dc1 + 1) S6) fun a8 => b1 (pR b0 S6 3 2 a8 (some (sz0 + dc + dc1))) fun S9 => x_R_readPath_85 N b0 K (x_R_readPath_9 N b0 K k) rd as[0]? (I ps.length) (sz0 + dc + dc1) (sz0 + dc + dc1 + 1) S9) = x_R_readPath_85 N b0 K (x_R_readPath_9 N b0 K k) rd (as ++ [sz0 + dc + dc1])[0]? (I ps.length) (sz0 + dc + dc1) (sz0 + dc + dc1 + 1) S2 := by
          have := e1 (x_R_readPath_85 N b0 K (x_R_readPath_9 N b0 K k) rd (some (sz0 + dc + dc1)) (I ps.length) (sz0 + dc + dc1) (sz0 + dc + dc1 + 1)) (x_R_readPath_85 N b0 K (x_R_readPath_9 N b0 K k) rd as[0]? (I ps.length) (sz0 + dc + dc1) (sz0 + dc + dc1 + 1))
          rw [← hfst]
          refine this.trans ?_
          by_cases ha : as = []
          · rw [if_pos ha, if_pos ha]
          · rw [if_neg ha, if_neg ha]
        rw [hcl]
        unfold x_R_readPath_85
        rw [hS2.1.ifk, b4', b5']
        simp only [b1_some]
        rw [hS3.1.ifk, peek_eq hS3.1 hn (by omega), here_eq hR3.1 hn (by omega)]
        simp only [b1_some]
        unfold x_R_readPath_106 x_R_readPath_125 m_path_106
        by_cases h46 : ch t n q2 = 46
        · have hq2n : q2 < n := by
            rcases Nat.lt_or_ge q2 n with g | g
            · exact g
            · rw [ch_out (by omega)] at h46; exact absurd h46 (by decide)
          rw [if_pos ((pkEq 46 (by decide) (by decide)).2 h46), if_pos h46, if_neg (show ¬ (1 : Int32) = 0 by decide), if_neg (show ¬ (1 : Int32) = 0 by decide), hS3.1.at_, hR3.1.2.1]
          simp only [b1_some, hS3.1.put, I_1, rP_eq, sI_twice, Rw_twice]
          have hS4 := hS2.mv (q2 + 1)
          have hR4 := hRB2.mv (q := q2 + 1) (by omega)
          rw [hS4.1.ifk]
          obtain ⟨q3, c1', c2', c3', c4', c5'⟩ := pr_blanks (N := N) (K := K) hT hN (show q2 + 1 ≤ n by omega) hS4.1 hR4.1
          rw [c4', c5']
          simp only [b1_some, sI_twice, Rw_twice]
          have hS5 := hS2.mv q3
          have hR5 := hRB2.mv (q := q3) (by omega)
          have hrec := ih q3 (sI S2 rd 6 (I q3)) (Rw R2 3 (I q3)) (ps ++ [(p, l')]) (as ++ [sz0 + dc + dc1]) vb1 (dc + dc1 + 1) (ds + ds1 + 3) l' (u + l'.length) (by omega) (by omega) (by omega) (by simp; omega) hplc2
            (by
              have := e2.keep (S' := sI S2 rd 6 (I q3)) (rd := rd) (sb := sb) (FrC.mv S2 (.inl rfl) _) hS2.kinds.1 hS2.kinds.2.1 hS2.kinds.2.2 (Nat.le_refl _) (.inl rfl)
              rw [show sz0 + (dc + dc1 + 1) = sz0 + dc + dc1 + 1 by omega]; exact this)
            hA0' (by rw [show sz0 + (dc + dc1 + 1) = sz0 + dc + dc1 + 1 by omega]; exact hS5) hR5 (by omega)
            (hP2.keep (fun j i _ _ => rfl) (fun i _ => rfl) (Nat.le_refl _)) (by rw [Rw_1n _ _ (by decide), h202]; simp)
            (hF2.trans (FrC.mv S2 (.inl rfl) _ (sz := sz0) (sb := sb) (vb := vb0)) (Nat.le_refl _) (.inl rfl)) (hFP2.trans (FP.rw R2 (.inl rfl) _) (Nat.le_refl u0)) (by rw [Rw_1n _ _ (by decide), h42]) hv2 (by omega) (by omega)
          rw [wr4_wr4, wr4_wr4, hlst, show sz0 + dc + dc1 + 1 = sz0 + (dc + dc1 + 1) by omega]
          have e9 : (ps ++ [(p, l')]).length = ps.length + 1 := by simp
          rw [e9] at hrec
          exact hrec
        · rw [if_neg (fun g => h46 ((pkEq 46 (by decide) (by decide)).1 g)), if_neg h46, if_pos rfl, if_pos rfl]
          obtain ⟨k, rfl⟩ : ∃ j, k = j + 1 := ⟨k - 1, by omega⟩
          unfold x_R_readPath_9 x_R_readPath_9F m_path_7 m_path_7F
          rw [if_pos rfl, if_pos rfl, wr4_wr4, wr4_wr4]
          refine .inl ⟨q2, l', sI S2 rd 6 (I q2), Rw R2 3 (I q2), vb1, dc + (dc1 + 1), ds + (ds1 + 3), as ++ [sz0 + dc + dc1], ps ++ [(p, l')], u + l'.length, by omega, b2', by simp, by simp; omega, hplc2, by omega, b3', rfl, rfl, ?_, by rw [Rw_1n _ _ (by decide), h202]; simp, hP2.keep (fun j i _ _ => rfl) (fun i _ => rfl) (Nat.le_refl _), ?_, hR3, hF3, hFP3, by rw [Rw_1n _ _ (by decide), h42], hv2, by omega, by omega⟩
          · have := e2.keep (S' := sI S2 rd 6 (I q2)) (rd := rd) (sb := sb) (FrC.mv S2 (.inl rfl) _) hS2.kinds.1 hS2.kinds.2.1 hS2.kinds.2.2 (Nat.le_refl _) (.inl rfl)
            rw [show sz0 + (dc + (dc1 + 1)) = sz0 + dc + dc1 + 1 by omega]; exact this
          · rw [show sz0 + (dc + (dc1 + 1)) = sz0 + dc + dc1 + 1 by omega]; exact hS3
      · simp only [b4_some, b2_some]
        rw [if_pos trivial]
        unfold x_R_readPath_47
        rw [om_none, wr4_some, wr4_some]
        exact .inr ⟨w, S1, R1, _, _, g1, rfl, rfl, g4, g5, hF.trans g6 (by omega) hv, (hFP.trans (FP.ra R (.inl rfl) _ _) (Nat.le_refl u0)).trans g7.fp hu, by omega, by omega⟩
    by_cases h34 : ch t n p = 34
    · rw [if_pos ((pkEq 34 (by decide) (by decide)).2 h34), if_pos h34]
      exact main _ _ (pr_quoted hT hN hp h34 hS hR1)
    · rw [if_neg (fun g => h34 ((pkEq 34 (by decide) (by decide)).1 g)), if_neg h34]
      exact main _ _ (pr_bare hT hN hp hS hR1)
theorem pr_path (hT : Tx t n) (hN : 1000 ≤ N) (hp : p ≤ n) (hS : SQ b0 S rd sb vb t n p l sz) (hR : RB R t n p hb u0) :
    POut b0 S rd sb vb sz t n p R hb u0 (x_R_readPath N b0 K rd sz S) (m_path N R) := by
  unfold x_R_readPath m_path
  rw [rP_eq]
  simp only [b1_some]
  have := pr_path_i (N := N) (K := K) (p0 := p) (S0 := S) (R0 := R) (vb0 := vb) (sz0 := sz) (u0 := u0) hT hN hS.2.2.2.1 N p S (Rw R 20 0) [] [] vb 0 0 l u0 hp (Nat.le_refl _) (by have := hT.1; omega) (by simp) (by intro i x h; cases h) ⟨rfl, (by intro i j a b _ h; cases h), (by intro i st x h; cases h)⟩ (by intro a h; cases h) hS (hR.rw (by decide) _) (Nat.le_refl _) (by intro i x h; cases h) (Rw_1 _ _ _) (FrC.refl S) (FP.rw R (.inr (.inr (.inl rfl))) _) (Rw_1n _ _ (by decide)) (.inl rfl) (by omega) (by omega)
  rw [wr4_0] at this
  exact this
end
