section
variable {b0 N : Nat} {K S S' : cS} {rd sb al vb vb' sz sz' sz0 : Nat} {t : Nat → Int32} {n p q : Nat} {R R' : rS} {l : List Int32} {hb u0 u : Nat} {T T' : Ar} {ad : Nat → Nat} {m lo e : Nat} {kd : Nat → List Nat} {xs : List Nat} {S0 : cS} {R0 : rS}
theorem arK_E {hd : Nat} {k k' x : Int32} {s y : Option (List Int32)} : arK (arE T m hd k x s y) m k' = arE T m hd k' x s y := by
  unfold arK arE arL arY arM
  simp only []
  rw [va_twice]
/-- The end of opening a table, of either sort, in both. -/
theorem pr_opTail (hT : Tx t n) (hN : 200000 ≤ N) {as : List Nat} {ps : List (Nat × List Int32)} (hps : ps.length ≤ 130) (hp : p ≤ n) (hpl : ∀ (i : Nat) (x : Nat × List Int32), ps[i]? = some x → x.1 ≤ n) (hC : BC b0 K rd sb al t n sz0 S0 S vb e sz T kd ad m xs p) (hR : BR t n hb R0 R T' m u p) (hA : Agr 0 T T' m) {tt : Nat} (htt : tt < m) (hk : 6 < T.1 tt) (hm : m + 2 ≤ p + 2) {rows : Int32} (hrow : rows = 0 ∨ (rows = 1 ∧ m + 2 ≤ p + 1)) (hA' : StpC b0 S as ps sz vb) (hP : PartR R hb u ps) (h20 : R.1 20 = I ps.length) {j a2 : Nat} {x : Nat × List Int32} (hj : j + 1 = ps.length) (ha2 : as[j]? = some a2) (hx : ps[j]? = some x) :
    HOut b0 K rd sb al t n sz0 S0 hb R0 vb sz u p 2 m xs R T T' ad (opT N b0 K rd rows (ad tt) a2 sz S)
      (b1 (m_entryOf N (I (260 * hb + tt)) (I j) R) (fun x5 => if rows = 0 then (if x5 = (-1) then (b2 (m_make N 7 (I (260 * hb + tt)) R) (fun x15 S16 => b2 (m_named N x15 (I j) S16) (fun x18 S19 => some (x18, S19)))) else (b1 (rL R 3 x5) (fun x6 => if x6 = 8 then (b1 (rT R 3 x5 7) (fun S8 => some (x5, S8))) else (b1 (rL R 14 (I j)) (fun x10 => b1 (rP R 4 x10) (fun S12 => some ((-1), S12))))))) else (if x5 = (-1) then (m_opened_61 N (I (260 * hb + tt)) (I j) x5 R) else (b1 (rL R 3 x5) (fun x20 => if x20 = 6 then (m_opened_61 N (I (260 * hb + tt)) (I j) x5 R) else (b1 (rL R 14 (I j)) (fun x22 => b1 (rP R 4 x22) (fun S24 => some ((-1), S24)))))))) ) := by
  have hn := hT.1
  obtain ⟨s1, s2, s3, s4, s5, s, s6, s7⟩ := hA'.2.2 j a2 x ha2 hx
  have ntt := hC.rel.1 tt htt
  have hb1 := hR.1.2.2.1
  obtain ⟨o, e1, e2, e3⟩ := find_eq (N := N) hN hC hR hT hp hA (by omega) htt hk s7 hP hps hx
  have k4' : 4 < T'.1 tt := by rw [hA.kind (by omega) htt]; exact lt64 hk
  have h56' : T'.2.2.1 tt 5 = none ↔ T'.2.2.1 tt 6 = none := by
    rw [(hA tt (by omega) htt).2.2.1 5 (by omega) (by omega), (hA tt (by omega) htt).2.2.1 6 (by omega) (by omega)]; exact hC.wf.e56 htt
  rw [e2]
  simp only [b1_some]
  -- a fault at the step's place
  have bad : ∀ (C : Option (Option Nat × cS × Nat × Nat)), C = some (none, sI S rd 7 (I x.1), 0, 0) → HOut b0 K rd sb al t n sz0 S0 hb R0 vb sz u p 2 m xs R T T' ad C (b1 (rL R 14 (I j)) (fun x10 => b1 (rP R 4 x10) (fun S12 => some ((-1), S12)))) := by
    intro C hC'
    rw [rL_eq (by show _ < 130; omega) (by omega), (hP j x hx).1]
    simp only [b1_some, rP_eq]
    exact .inr ⟨sI S rd 7 (I x.1), Rw R 4 (I x.1), 0, 0, hC', rfl, wr_bad hC hR (hpl j x hx), by omega, by omega⟩
  unfold opT x_R_openTable_38
  rw [om_some]
  by_cases h0 : rows = 0
  · rw [if_pos h0, if_pos h0, hC.ct.ifk]
    unfold x_R_toldTable
    simp only [b1_some]
    rw [gR_own (.inl s1) s3, s6]
    simp only [b1_some]
    rw [ifk_own ntt.1 ntt.2.2.1]
    cases o with
    | none =>
      obtain ⟨S1, f1, f2, f3⟩ := eon_none (N := N) (k := 8) hC htt hk s7 (.inr (.inl rfl)) (by omega) e1
      obtain ⟨R1, r1, r2, r3, r4, r5, -⟩ := hR.ent (N := N) (by omega) hp hn htt k4' h56' 7 hP hps hx
      have ea : va_up ad m sz m = sz := va_at_ _ _ _
      obtain ⟨w1, w2, w3, w4, -⟩ := f2.rel.1 m (by omega)
      rw [ea] at w1 w3 w4
      have e8 : (arE T m tt 8 0 none (some x.2)).1 m = 8 := by rw [arE_1, if_pos rfl]
      rw [f1, if_pos (show enc hb none = -1 from rfl), r1]
      simp only [b4_some, b1_some]
      rw [gI_own w1 w3, w4, e8]
      simp only [b1_some, if_true]
      rw [pI_own w1 w3]
      simp only [b1_some, wr4_some, b4_some]
      have f4 := f2.kind (v := m) (by omega) (k := 7) (.inl rfl) (by rw [e8]; decide)
      rw [arK_E, ea] at f4
      refine .inl ⟨_, R1, 1, 8, _, _, _, va_up ad m sz, m + 1, m, e, by rw [ea], rfl, f4, r2, agr_ent hA hC.wf htt (by omega) _ _ _ _, by omega, by rw [arE_1, if_pos rfl]; decide, by omega, by omega, r4, by omega, by omega, fun i hi g => by rw [arE_1, if_neg (by omega)]; exact g, fun i hi => va_ne _ _ (by omega), blw_ent' hA hC.wf htt (by omega) _ _ _ _⟩
    | some v =>
      obtain ⟨v1, v2, v3, v4⟩ := e3 v rfl
      have nv := hC.rel.1 v v1
      have kR := (hR.2.2.2.1.1 v v1).1
      rw [hA.kind (by omega) v1] at kR
      have hm1 := hC.mp
      rw [eon_some (k := 8) hC htt e1, if_neg (show ¬ enc hb (some v) = -1 from ne_neg (by omega))]
      simp only [b4_some, b1_some]
      have e0 : enc hb (some v) = I (260 * hb + v) := rfl
      rw [wr4_00, e0, rL_eq (by show _ < 520; omega) (by omega), kR, gI_own nv.1 nv.2.2.1, nv.2.2.2.1]
      simp only [b1_some]
      by_cases h8 : T.1 v = 8
      · rw [if_pos h8, if_pos h8, pI_own nv.1 nv.2.2.1, rT_eq (by show _ < 520; omega) (by omega)]
        simp only [b1_some, b4_some, wr4_00]
        have f4 := hC.kind v1 (k := 7) (.inl rfl) (by rw [h8]; decide)
        have r2 := hR.kind v1 (by omega) (k := 7) (by decide) (by rw [hA.kind (by omega) v1, h8]; decide)
        have kind7 : ∀ i, i < m → 6 < T.1 i → 6 < (arK T v 7).1 i := by
          intro i hi g
          show 6 < va_up T.1 v 7 i
          by_cases e1 : i = v
          · rw [e1, va_at_]; decide
          · rw [va_ne _ _ e1]; exact g
        exact .inl ⟨_, _, 0, 0, _, _, kd, ad, m, v, e, rfl, rfl, f4, r2, agr_kind hA v 7, v1, by show 6 < va_up _ _ _ _; rw [va_at_]; decide, by omega, by omega, rfl, by omega, by omega, kind7, fun _ _ => rfl, ⟨fun i hi => by omega, by show va_up T'.1 v 7 0 = _; rw [va_ne _ _ (by omega)], rfl, rfl, rfl⟩⟩
      · rw [if_neg h8, if_neg h8, gI_own (.inl s1) s3, s4]
        simp only [b1_some, hC.ct.ifk]
        unfold x_R_wrong
        rw [hC.ct.put]
        exact bad _ rfl
  · have h1 : rows = 1 ∧ m + 2 ≤ p + 1 := hrow.resolve_left h0
    rw [if_neg h0, if_neg h0, hC.ct.ifk]
    unfold x_R_newRow
    simp only [b1_some]
    rw [gR_own (.inl s1) s3, s6]
    simp only [b1_some]
    rw [ifk_own ntt.1 ntt.2.2.1]
    have H := hC
    obtain ⟨⟨l, h1'⟩, h2, h3, h4, h5, h6, h7, h8, h9, h10, h11, h12, h13, h14, h15, h16, h17, h18, h19, h20', h21⟩ := hC
    cases o with
    | none =>
      rw [if_pos (show enc hb none = -1 from rfl)]
      unfold m_opened_61 m_opened_87
      rw [if_pos (show enc hb none = -1 from rfl)]
      obtain ⟨S1, f1, f2, f3⟩ := cls_new (N := N) (K := K) h6 (by omega) htt s7 6
      have heon : x_N_entryOrNew N b0 K (ad tt) (some s) 6 sz S = some (some sz, S1, 1, 8) := by
        unfold x_N_entryOrNew
        rw [ifk_own ntt.1 ntt.2.2.1, e1]
        simp only [b1_some, Option.map_none, om_none]
        rw [f1]; rfl
      obtain ⟨R1, r1, r2, r3, r4, r5, -⟩ := hR.ent (N := N) (by omega) hp hn htt k4' h56' 6 hP hps hx
      rw [r1, heon]
      simp only [b4_some, b1_some]
      have ea : va_up ad m sz m = sz := va_at_ _ _ _
      obtain ⟨w1, w2, w3, w4, -⟩ := f2.1 m (by omega)
      rw [ea] at w1 w3 w4
      have e6 : (arE T m tt 6 0 none (some x.2)).1 m = 6 := by rw [arE_1, if_pos rfl]
      have e6' : (arE T' m tt 6 0 none (some x.2)).1 m = 6 := by rw [arE_1, if_pos rfl]
      rw [gI_own w1 w3, w4, e6]
      simp only [b1_some, if_true]
      have hw1 := h7.ent (hd := tt) (k := 6) (x := 0) (s := none) (y := some x.2) htt (lt64 hk) (.inr (.inr ⟨⟨.inr (.inl rfl), rfl⟩, rfl⟩)) ⟨fun _ => hk, fun _ => by simp⟩ (fun g => by rw [g] at hk; exact absurd hk (by decide))
      obtain ⟨S2, g1, g2, g3⟩ := cls_row (N := N) (K := K) f2 (by omega) (hd := m) (by omega) 7
      rw [ea] at g1
      rw [g1]
      have h56m : (arE T' m tt 6 0 none (some x.2)).2.2.1 m 5 = none ↔ (arE T' m tt 6 0 none (some x.2)).2.2.1 m 6 = none := by
        have := agr_ent hA h7 htt (Nat.zero_le tt) 6 0 none (some x.2) m (by omega) (by omega)
        rw [this.2.2.1 5 (by omega) (by omega), this.2.2.1 6 (by omega) (by omega)]
        exact hw1.e56 (by omega)
      obtain ⟨R2, q1, q2, q3, q4, -⟩ := r2.row (N := N) (by omega) (hd := m) (by omega) (by rw [e6']; decide) h56m 7
      rw [q1]
      simp only [b2_some, wr4_some, b4_some]
      have hw2 := hw1.ent (hd := m) (k := 7) (x := 0) (s := none) (y := none) (by omega) (by rw [e6]; decide) (.inr (.inr ⟨⟨.inr (.inr (.inl rfl)), rfl⟩, rfl⟩)) ⟨fun g => absurd rfl g, fun g => by rw [e6] at g; exact absurd g (by decide)⟩ (fun _ => rfl)
      have ea2 : va_up (va_up ad m sz) (m + 1) (sz + 1) (m + 1) = sz + 1 := va_at_ _ _ _
      refine .inl ⟨S2, R2, 2, 16, _, _, kE (kE kd m tt) (m + 1) m, va_up (va_up ad m sz) (m + 1) (sz + 1), m + 2, m + 1, e, by rw [ea2], rfl, ?_, q2, agr_ent (agr_ent hA h7 htt (by omega) _ _ _ _) hw1 (by omega) (by omega) _ _ _ _, by omega, by rw [arE_1, if_pos rfl]; decide, by omega, by omega, by rw [q3, r4], by omega, by omega, fun i hi g => by rw [arE_1, if_neg (by omega), arE_1, if_neg (by omega)]; exact g, fun i hi => by rw [va_ne _ _ (by omega), va_ne _ _ (by omega)], (blw_ent' hA h7 htt (by omega) _ _ _ _).trans (blw_ent' (agr_ent hA h7 htt (by omega) _ _ _ _) hw1 (by omega) (by omega) _ _ _ _)⟩
      refine H.chg (fun a ha hne => (f3 a ha hne).trans (g3 a (by omega) (fun i hi => ?_))) g2 hw2 (by omega) (by omega) (by omega) (fun i hi => by rw [va_ne _ _ (by omega), va_ne _ _ (by omega)]) (fun i hi => ?_) (fun i hi g => ?_)
      · by_cases ei : i = m
        · rw [ei, ea]; omega
        · rw [va_ne _ _ ei]; exact hne i (by omega)
      · by_cases ei : i = m + 1
        · rw [ei, ea2]; omega
        · rw [va_ne _ _ ei]
          by_cases ej : i = m
          · rw [ej, ea]; omega
          · rw [va_ne _ _ ej]; exact h17 i (by omega)
      · rw [arE_1] at g
        unfold kE
        by_cases ei : i = m
        · rw [ei, va_at_]; simp
        · rw [va_ne _ _ ei]
          by_cases ej : i = m + 1
          · rw [if_pos ej] at g; exact absurd g (by decide)
          · rw [if_neg ej, arE_1, if_neg ei] at g
            rw [va_ne _ _ ej]
            by_cases et : i = tt
            · rw [et, va_at_]; simp
            · rw [va_ne _ _ et, va_ne _ _ ei]; exact h20' i (by omega) g
    | some v =>
      obtain ⟨v1, v2, v3, v4⟩ := e3 v rfl
      have nv := h6.1 v v1
      have kR := (hR.2.2.2.1.1 v v1).1
      rw [hA.kind (by omega) v1] at kR
      rw [eon_some (k := 6) H htt e1, if_neg (show ¬ enc hb (some v) = -1 from ne_neg (by omega))]
      simp only [b4_some, b1_some]
      have e0 : enc hb (some v) = I (260 * hb + v) := rfl
      rw [wr4_00, e0, rL_eq (by show _ < 520; omega) (by omega), kR, gI_own nv.1 nv.2.2.1, nv.2.2.2.1]
      simp only [b1_some]
      by_cases h6v : T.1 v = 6
      · rw [if_pos h6v, if_pos h6v]
        unfold m_opened_61 m_opened_87
        rw [if_neg (ne_neg (by omega))]
        obtain ⟨S2, g1, g2, g3⟩ := cls_row (N := N) (K := K) h6 (by omega) (hd := v) v1 7
        rw [show sz + 0 = sz by omega, g1]
        have h56v : T'.2.2.1 v 5 = none ↔ T'.2.2.1 v 6 = none := by
          rw [(hA v (by omega) v1).2.2.1 5 (by omega) (by omega), (hA v (by omega) v1).2.2.1 6 (by omega) (by omega)]; exact h7.e56 v1
        obtain ⟨R2, q1, q2, q3, q4, -⟩ := hR.row (N := N) (by omega) (hd := v) v1 (by rw [hA.kind (by omega) v1, h6v]; decide) h56v 7
        rw [q1]
        simp only [b2_some, wr4_some, b4_some]
        have hw2 := h7.ent (hd := v) (k := 7) (x := 0) (s := none) (y := none) v1 (by rw [h6v]; decide) (.inr (.inr ⟨⟨.inr (.inr (.inl rfl)), rfl⟩, rfl⟩)) ⟨fun g => absurd rfl g, fun g => by rw [h6v] at g; exact absurd g (by decide)⟩ (fun _ => rfl)
        have ea2 : va_up ad m sz m = sz := va_at_ _ _ _
        refine .inl ⟨S2, R2, 1, 8, _, _, kE kd m v, va_up ad m sz, m + 1, m, e, by rw [ea2], rfl, ?_, q2, agr_ent hA h7 v1 (by omega) _ _ _ _, by omega, by rw [arE_1, if_pos rfl]; decide, by omega, by omega, q3, by omega, by omega, fun i hi g => by rw [arE_1, if_neg (by omega)]; exact g, fun i hi => va_ne _ _ (by omega), blw_ent' hA h7 v1 (by omega) _ _ _ _⟩
        refine H.chg g3 g2 hw2 (by omega) (by omega) (by omega) (fun i hi => va_ne _ _ (by omega)) (fun i hi => ?_) (rws_ent h20' v1 (by decide))
        by_cases ei : i = m
        · rw [ei, ea2]; omega
        · rw [va_ne _ _ ei]; exact h17 i (by omega)
      · rw [if_neg h6v, if_neg h6v, gI_own (.inl s1) s3, s4]
        simp only [b1_some, H.ct.ifk]
        unfold x_R_wrong
        rw [H.ct.put]
        exact bad _ rfl
/-- A header's table, opened by both. -/
theorem pr_open (hT : Tx t n) (hN : 200000 ≤ N) {as : List Nat} {ps : List (Nat × List Int32)} (hps : ps.length ≤ 130) (hne : ps ≠ []) (hp : p ≤ n) (hpl : ∀ (i : Nat) (x : Nat × List Int32), ps[i]? = some x → x.1 ≤ n) (hC : BC b0 K rd sb al t n sz0 S0 S vb e sz T kd ad m xs p) (hR : BR t n hb R0 R T' m u p) (hA : Agr 0 T T' m) (hdoc : S.2.2.2 rd 4 = some (ad 0)) (h0 : 0 < m) (hk : 6 < T.1 0) {rows : Int32} (hrow : (rows = 0 ∧ m + ps.length ≤ p + 1) ∨ (rows = 1 ∧ m + ps.length + 1 ≤ p + 1)) (hA' : StpC b0 S as ps sz vb) (hP : PartR R hb u ps) (h20 : R.1 20 = I ps.length) :
    HOut b0 K rd sb al t n sz0 S0 hb R0 vb sz u p (ps.length + 1) m xs R T T' ad (x_R_openTable N b0 K rd as[0]? rows sz S) (m_opened N rows R) := by
  have hn := hT.1
  have hpos : 0 < ps.length := List.length_pos_iff.2 hne
  unfold x_R_openTable m_opened m_leadHeader
  obtain ⟨kr, hrd⟩ := hC.kinds
  rw [gR_own (.inl hC.ct.1) kr, hdoc, hR.1.2.1, show (260 : Int32) * I hb = I (260 * hb + 0) by rw [show (260 : Int32) = I 260 from rfl, I_mul]; rfl]
  simp only [b1_some]
  have hL := pr_leadH (N := N) (rows := rows) (as := as) hT hN hps hp hpl (ps.length - 1) 0 N N S R e sz T T' kd ad m 0 (by omega) (by omega) (by omega) hC hR hA h0 hk (by omega) hA' hP h20
  rw [show (I 0 : Int32) = 0 from rfl] at hL
  rcases hL with ⟨S1, R1, dc, ds, T1, T1', kd1, ad1, m1, tt, a2, e1, g1, g2, g3, g4, g5, g6, g7, g8, g9, g10, g11, g12, g13, g14, g15, g16, g17, g18⟩ | ⟨S1, R1, dc, ds, g1, g2, g3, g4, g5⟩
  · rw [g1, g2]
    simp only [b2_some]
    have hb1 := g4.1.2.2.1
    have hm1 := g3.mp
    obtain ⟨x, hx⟩ : ∃ x, ps[ps.length - 1]? = some x := ⟨_, List.getElem?_eq_getElem (by omega)⟩
    have e20 : R1.1 20 - 1 = I (ps.length - 1) := by rw [g10, h20, show (1 : Int32) = I 1 from rfl, I_sub (by omega)]
    rw [if_neg (ne_neg (by omega)), e20]
    have hO := pr_opTail (N := N) (rows := rows) (as := as) (j := ps.length - 1) hT hN hps hp hpl g3 g4 g5 g6 g7 (by omega) (hrow.imp (fun g => g.1) (fun g => ⟨g.1, by omega⟩)) g11 g12 (by rw [g10]; exact h20) (by omega) g13 hx
    rcases hO with ⟨S3, R3, dc3, ds3, T3, T3', kd3, ad3, m3, tt3, e3, k1, k2, k3, k4, k5, k6, k7, k8, k9, k10, k11, k12, k13, k14, k15⟩ | ⟨S3, R3, dc3, ds3, k1, k2, k3, k4, k5⟩
    · rw [k1]
      refine .inl ⟨S3, R3, dc + dc3, ds + ds3, T3, T3', kd3, ad3, m3, tt3, e3, rfl, k2, by rw [← Nat.add_assoc]; exact k3, k4, k5, k6, k7, by omega, by omega, by rw [k10, g10], by omega, by omega, fun i hi g => k13 i (by omega) (g16 i hi g), fun i hi => by rw [k14 i (by omega), g17 i hi], g18.trans k15⟩
    · rw [k1]
      exact .inr ⟨S3, R3, dc + dc3, ds + ds3, rfl, k2, k3, by omega, by omega⟩
  · rw [g1, g2]
    simp only [b2_some, if_true]
    exact .inr ⟨S1, R1, dc, ds, rfl, rfl, g3, by omega, by omega⟩
end
