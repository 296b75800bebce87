section
variable {b0 N : Nat} {K S S' : cS} {rd sb al vb vb' sz sz' sz0 : Nat} {t : Nat → Int32} {n p q : Nat} {R R' : rS} {l : List Int32} {hb u0 u : Nat} {T T' : Ar} {ad : Nat → Nat} {m lo e : Nat} {kd : Nat → List Nat} {xs : List Nat} {S0 : cS} {R0 : rS}
/-- A list or closed table as a value: what its loop gives. -/
theorem cont_out (hC : BC b0 K rd sb al t n sz0 S0 S vb e sz T kd ad m xs p) (hR : BR t n hb R0 R T' m u p) (hA : Agr lo T T' m) {hd dd : Nat} (hlo : lo ≤ hd) (hh : hd < m) (hpn : p < n) {y : Option (List Int32)} {kc : Int32} (hkc : kc = 5 ∨ kc = 10) {R2 : rS} {M : Option (Int32 × rS)} (hM : M = some (1, R2)) (h26 : R.1 26 = I dd)
    (h1718 : ∀ i, i < dd → R2.2 17 i = R.2 17 i ∧ R2.2 18 i = R.2 18 i) {C : Option (Option Nat × cS × Nat × Nat)}
    (h : COut b0 N K rd sb al t n sz0 S0 (nd (sI S rd 6 (I (p + 1))) sz kc 0) hb R0 R2 vb (sz + 1) (arM T m kc 0 none) (arE T' m hd kc 0 none y) (va_up kd m []) (va_up ad m sz) (m + 1) xs (p + 1) m dd C (fun f => m_finishValue_2 N f 1 R2)) :
    VOut b0 N K rd sb al t n sz0 S0 S hb R0 R vb sz T T' kd ad m xs p lo hd dd y (wr4 1 8 C) M := by
  have hmp := hC.mp
  rcases h with ⟨q, S1, vb1, e1, dc, ds, T1, kd1, ad1, m1, ys, k, R3, T1', u1, g1, g2, g3, g4, g5, g6, g7, g8, g9, g10, g11, g12, g13, g14, g15, g16, g17, g18, g19⟩ | ⟨S1, dc, ds, k, R3, g1, g2, g3, g4, g5, g6⟩
  · have ez : sz + (1 + dc) = sz + 1 + dc := by omega
    have ead : ∀ i, i < m → ad1 i = ad i := fun i hi => by rw [g6 i (by omega), va_ne _ _ (by omega)]
    have eTi : ∀ i, i < m → T1.1 i = T.1 i ∧ T1.2.1 i = T.2.1 i ∧ T1.2.2.1 i = T.2.2.1 i ∧ T1.2.2.2.1 i = T.2.2.2.1 i ∧ T1.2.2.2.2 i = T.2.2.2.2 i ∧ kd1 i = kd i := by
      intro i hi
      obtain ⟨c1, c2, c3, c4, c5⟩ := g7.1 i hi
      exact ⟨c1.trans (va_ne _ _ (by omega)), c2.trans (va_ne _ _ (by omega)), c3.trans (va_ne _ _ (by omega)), c4.trans (va_ne _ _ (by omega)), c5.trans (va_ne _ _ (by omega)), (g8 i hi).trans (va_ne _ _ (by omega))⟩
    have em4 : T1.2.2.1 m 4 = none := by
      rw [g7.2.2.1]; show (va_up T.2.2.1 m (fun _ => (none : Option Nat))) m 4 = none; rw [va_at_]
    have em7 : T1.2.2.1 m 7 = none := by
      rw [g7.2.2.2.1]; show (va_up T.2.2.1 m (fun _ => (none : Option Nat))) m 7 = none; rw [va_at_]
    have emk : T1.2.2.2.2 m = none := by
      rw [g7.2.2.2.2]; show va_up T.2.2.2.2 m none m = none; rw [va_at_]
    have ekm : T1.1 m = kc := by rw [g7.2.1]; exact va_at_ _ _ _
    obtain ⟨lS, hS⟩ := hC.1
    refine .inl ⟨q, S1, vb1, e1, 1 + dc, 8 + ds, T1, kd1, ad1, m1, ys, k, R3, T1', u1, ⟨by rw [g1, g6 m (by omega)]; rfl, by omega, g3, by rw [ez]; exact g4, by omega, ead, eTi, em4, emk, fun x hx => ?_, fun i a b c => ?_, ?_, by omega, by omega⟩, ⟨R2, hM, fun f hf => g13 f hf⟩, by omega, g15, ?_, ?_, by rw [g18, h26], fun i hi => ⟨(g19 i hi).1.trans (h1718 i hi).1, (g19 i hi).2.trans (h1718 i hi).2⟩⟩
    · obtain ⟨b1', b2', b3'⟩ := g9.2.1 x hx
      exact ⟨by omega, b2', b3'⟩
    · by_cases ei : i = m
      · subst ei; rw [ekm] at c
        rcases hkc with g | g <;> rw [g] at c <;> exact absurd c (by decide)
      · exact g9.2.2 i (by omega) b c
    · have kp1 : Kp b0 S (sI S rd 6 (I (p + 1))) sz sz vb vb := Kp.fr hS (FrC.mv S (.inl rfl) _) (Nat.le_refl _) (.inl rfl)
      have kp2 : Kp b0 (sI S rd 6 (I (p + 1))) (nd (sI S rd 6 (I (p + 1))) sz kc 0) sz (sz + 1) vb vb := Kp.of (fun a ha _ => Same.nd (by omega)) (by omega)
      rw [ez]
      exact (kp1.trans kp2 (Nat.le_refl _)).trans g10 (by omega)
    · -- the class links the value, the reference has done so: below, at, and above the value
      intro i h1 h2
      have hlT : ∀ f, lnk T1.2.2.1 hd m i f = lnk (if i < m then T.2.2.1 else T1.2.2.1) hd m i f := by
        intro f
        rw [lnk_get, lnk_get]
        by_cases him : i < m
        · rw [if_pos him]
          rw [(eTi hd hh).2.2.1, (eTi i him).2.2.1]
        · rw [if_neg him]
      by_cases him : i < m
      · -- below: both are the old arenas, linked
        obtain ⟨d1, d2, d3, d4, d5⟩ := agr_ent hA hC.wf hh hlo kc 0 none y i h1 (by omega)
        obtain ⟨c1, c2, c3, c4, c5⟩ := g17.1 i him
        obtain ⟨t1, t2, t3, t4, t5, -⟩ := eTi i him
        obtain ⟨s1, s2, s3, s4, s5, -⟩ := eTi hd hh
        have tl : ∀ f, (arL (arY T1 m y) hd m).2.2.1 i f = (arE T m hd kc 0 none y).2.2.1 i f := by
          intro f
          show lnk T1.2.2.1 hd m i f = lnk (va_up T.2.2.1 m (fun _ => (none : Option Nat))) hd m i f
          rw [lnk_get, lnk_get, s3, t3, va_ne _ _ (by omega), va_ne _ _ (by omega)]
        refine ⟨?_, ?_, fun f b c => ?_, ?_, fun g => ⟨?_, ?_⟩⟩
        · rw [c1, d1, arE_1, if_neg (by omega)]; exact t1.symm
        · rw [c2, d2]
          show va_up (va_up T.2.1 m 0) hd _ i = va_up T1.2.1 hd _ i
          by_cases e1 : i = hd
          · subst e1; rw [va_at_, va_at_]; show va_up T.2.1 m 0 i + 1 = T1.2.1 i + 1; rw [va_ne _ _ (by omega), t2]
          · rw [va_ne _ _ e1, va_ne _ _ e1, va_ne _ _ (by omega), t2]
        · rw [c3, d3 f b c]; exact (tl f).symm
        · rw [c4, d4]; show va_up T.2.2.2.1 m none i = T1.2.2.2.1 i; rw [va_ne _ _ (by omega), t4]
        · rw [c3, (d5 g).1]; exact (tl 4).symm
        · rw [c5, (d5 g).2]; show va_up (va_up T.2.2.2.2 m none) m y i = va_up T1.2.2.2.2 m y i; rw [va_ne _ _ (by omega), va_ne _ _ (by omega), va_ne _ _ (by omega), t5]
      · -- from the value on
        obtain ⟨d1, d2, d3, d4, d5⟩ := g16 i (by omega) h2
        have hla : ∀ a, T1.2.2.1 hd 6 = some a → a < m := by
          intro a ha
          rw [(eTi hd hh).2.2.1] at ha
          obtain ⟨x1, x2, x3, -⟩ := hC.wf.1 hd hh
          rw [x2] at ha
          obtain ⟨j, hj⟩ := List.getElem?_of_mem (List.mem_of_getLast? ha)
          exact (x3 j a hj).2.2.2
        have tl : ∀ f, f ≠ 4 ∨ i ≠ m → lnk T1.2.2.1 hd m i f = T1.2.2.1 i f := by
          intro f hf
          rw [lnk_get, if_neg (by omega)]
          cases h6 : T1.2.2.1 hd 6 with
          | none => simp only []; rw [if_neg (by omega), if_neg (by omega)]
          | some a => have := hla a h6; simp only []; rw [if_neg (by omega), if_neg (by omega)]
        refine ⟨d1, ?_, fun f b c => ?_, d4, fun g => ?_⟩
        · rw [d2]; show _ = va_up T1.2.1 hd _ i; rw [va_ne _ _ (by omega)]
        · rw [d3 f b c]; exact (tl f (.inl (by omega))).symm
        · by_cases e1 : i = m
          · subst e1
            refine ⟨?_, ?_⟩
            · rw [g17.2.2.1]
              show (arE T' i hd kc 0 none y).2.2.1 i 4 = lnk T1.2.2.1 hd i i 4
              have w1 : (arE T' i hd kc 0 none y).2.2.1 i 4 = some hd := by
                show lnk (va_up T'.2.2.1 i (fun _ => (none : Option Nat))) hd i i 4 = some hd
                rw [lnk_get, if_neg (by omega)]
                cases (va_up T'.2.2.1 i (fun _ => (none : Option Nat))) hd 6 with
                | none => simp only []; rw [if_neg (by omega), if_pos ⟨trivial, trivial⟩]
                | some a => simp only []; rw [if_neg (by omega), if_pos ⟨trivial, trivial⟩]
              have w2 : lnk T1.2.2.1 hd i i 4 = some hd := by
                rw [lnk_get, if_neg (by omega)]
                cases T1.2.2.1 hd 6 with
                | none => simp only []; rw [if_neg (by omega), if_pos ⟨trivial, trivial⟩]
                | some a => simp only []; rw [if_neg (by omega), if_pos ⟨trivial, trivial⟩]
              rw [w1, w2]
            · rw [g17.2.2.2.2]
              show va_up (va_up T'.2.2.2.2 i none) i y i = va_up T1.2.2.2.2 i y i
              rw [va_at_, va_at_]
          · obtain ⟨d6, d7⟩ := d5 (by omega)
            refine ⟨by rw [d6]; exact (tl 4 (.inr e1)).symm, ?_⟩
            rw [d7]; show _ = va_up T1.2.2.2.2 m y i; rw [va_ne _ _ e1]
    · -- the reference's arena below
      have hB0 := blw_ent' hA hC.wf hh hlo kc 0 none y
      refine hB0.trans ⟨fun i hi => g17.1 i (by omega), ?_, ?_, ?_, ?_⟩
      · exact (g17.1 lo (by omega)).1
      · rw [(g17.1 lo (by omega)).2.2.1]
      · rw [(g17.1 lo (by omega)).2.2.1]
      · exact (g17.1 lo (by omega)).2.2.2.2
  · exact .inr (.inl ⟨S1, 1 + dc, 8 + ds, k, R3, by rw [g1]; rfl, .inr ⟨R2, hM, fun f hf => g2 f hf⟩, by omega, g4, by omega, by omega⟩)
theorem agr_self {hd : Nat} (hA : Agr lo T T' m) (hh : hd < m) (kc : Int32) (y : Option (List Int32)) (hla : ∀ a, T'.2.2.1 hd 6 = some a → a < m) : Agr m (arM T m kc 0 none) (arE T' m hd kc 0 none y) (m + 1) := by
  intro i h1 h2
  have : i = m := by omega
  subst this
  refine ⟨by rw [arE_1, if_pos rfl]; exact (va_at_ _ _ _).symm, ?_, fun f b c => ?_, (by show va_up T'.2.2.2.1 i none i = va_up T.2.2.2.1 i none i; rw [va_at_, va_at_]), fun g => absurd g (Nat.lt_irrefl _)⟩
  · show va_up (va_up T'.2.1 i 0) hd _ i = va_up T.2.1 i 0 i
    rw [va_ne _ _ (by omega), va_at_, va_at_]
  · show lnk (va_up T'.2.2.1 i (fun _ => (none : Option Nat))) hd i i f = (va_up T.2.2.1 i (fun _ => (none : Option Nat))) i f
    rw [va_at_, lnk_get, if_neg (by omega), va_ne _ _ (by omega), va_at_]
    cases h6 : T'.2.2.1 hd 6 with
    | none => simp only []; rw [if_neg (by omega), if_neg (by omega)]
    | some a => have := hla a h6; simp only []; rw [if_neg (by omega), if_neg (by omega)]
/-- A value, at every depth. -/
theorem val_all (hK : KF b0 K) (hT : Tx t n) (hN : 200000 ≤ N) : ∀ (d dd : Nat), d + dd = 8 → dd ≤ 6 → ValP b0 N K rd sb al t n sz0 S0 hb R0 (x_R_readValue N b0 K d) dd := by
  have hn := hT.1
  intro d
  induction d with
  | zero => intro dd h1 h2; omega
  | succ d ih =>
    intro dd h1 h2 S R vb e sz T T' kd ad m u xs p lo hd part y hC hR hA hp hlo hh hk hdd hy
    show VOut b0 N K rd sb al t n sz0 S0 S hb R0 R vb sz T T' kd ad m xs p lo hd dd y (x_R_readValueF N b0 K (x_R_readValue N b0 K d) rd (I dd) sz S) _
    by_cases hc : ch t n p = 91 ∨ ch t n p = 123
    case neg => exact val_leaf hK hT (by omega) hC hR hA hp hlo hh hk hy (fun g => hc (.inl g)) (fun g => hc (.inr g))
    have hmp := hC.mp
    have hb1 := hR.1.2.2.1
    have hpn : p < n := by
      rcases Nat.lt_or_ge p n with g | g
      · exact g
      · rw [ch_out (by omega)] at hc; rcases hc with hc | hc <;> exact absurd hc (by decide)
    have k4' : 4 < T'.1 hd := by rw [hA.kind hlo hh]; exact hk
    have h56' : T'.2.2.1 hd 5 = none ↔ T'.2.2.1 hd 6 = none := by
      rw [(hA hd hlo hh).2.2.1 5 (by omega) (by omega), (hA hd hlo hh).2.2.1 6 (by omega) (by omega)]; exact hC.wf.e56 hh
    have hla' : ∀ a, T'.2.2.1 hd 6 = some a → a < m := by
      intro a ha
      rw [(hA hd hlo hh).2.2.1 6 (by omega) (by omega)] at ha
      exact hC.wf.lk hd hh 6 a (by omega) (by omega) ha
    obtain ⟨kc, hkc⟩ : ∃ kc : Int32, (ch t n p = 91 ∧ kc = 5) ∨ (ch t n p = 123 ∧ kc = 10) := by
      rcases hc with hc | hc
      · exact ⟨5, .inl ⟨hc, rfl⟩⟩
      · exact ⟨10, .inr ⟨hc, rfl⟩⟩
    obtain ⟨o6, o5⟩ := bv_open (N := N) (dd := dd) hT hR (by omega) hpn hh k4' h56' hy hdd hkc
    unfold x_R_readValueF x_R_readValueF_17
    rw [hC.ct.ifk, peek_eq hC.ct hn (by omega), b1_some]
    by_cases hd6 : dd = 6
    · rw [o6 hd6]
      subst hd6
      rw [if_neg (show ¬ I 6 < (6 : Int32) by decide), hC.ct.at_, b1_some, hC.ct.ifk]
      unfold x_R_wrong
      rw [hC.ct.put, b1_some, b2_some]
      have hfail : VOut b0 N K rd sb al t n sz0 S0 S hb R0 R vb sz T T' kd ad m xs p lo hd 6 y (some (none, sI S rd 7 (I p), 0, 0)) (some (0, Rw R 4 (I p))) :=
        .inr (.inl ⟨_, 0, 0, 0, _, rfl, .inl rfl, by omega, wr_bad hC hR hp, by omega, by omega⟩)
      rcases hc with hc | hc
      · rw [if_pos ((pkEq 91 (by decide) (by decide)).2 hc)]; exact hfail
      · rw [if_neg (fun g => by have := (pkEq (t := t) (n := n) (p := p) 91 (by decide) (by decide)).1 g; rw [hc] at this; exact absurd this (by decide)), if_pos ((pkEq 123 (by decide) (by decide)).2 hc)]; exact hfail
    · have hdd6 : dd < 6 := by omega
      obtain ⟨R2, q1, q2, q3, q4, q5, q6⟩ := o5 hdd6
      have hV := ih (dd + 1) (by omega) (by omega)
      have hrd : rd ≠ sz := by have := hC.kinds.2; omega
      have hz : ownC b0 sz := .inl hC.szs
      rw [if_pos (show I dd < (6 : Int32) from I_lt1 (b := 6) hdd6 (by omega)), I_1, hC.ct.ifk, wr_id, hC.ct.ifk, wr_id]
      rcases hkc with ⟨hc, rfl⟩ | ⟨hc, rfl⟩
      · -- a list
        have hC1 := (hC.mv (q := p + 1) (by omega)).new (k := 5) (x := 0) (.inr ⟨.inl rfl, rfl⟩) (by omega)
        have hL := pr_list_i (N := N) (v := m) hT (by omega) hdd6 hV (n - (p + 1)) (p + 1) N 0 _ R2 vb e (sz + 1) _ _ _ _ (m + 1) u xs (by omega) (by omega) (by omega) (by omega) hC1 q2 (agr_self hA hh 5 y hla') (by omega) (va_at_ _ _ _) q3 q4 q5
        have hO := cont_out hC hR hA hlo hh hpn (.inl rfl) q1 hdd q6 hL
        rw [if_pos ((pkEq 91 (by decide) (by decide)).2 hc), (pkEq 91 (by decide) (by decide)).2 hc, if_pos rfl]
        unfold x_R_readList x_R_readList_38
        rw [init_nd hz]
        have ea : va_up ad m sz m = sz := va_at_ _ _ _
        rw [ea] at hO
        unfold lsH at hO
        have hat : gI b0 K (nd S sz 5 0) 4 6 rd = some (I p) := by
          have s1 : Same S (nd S sz 5 0) rd := Same.nd hrd
          rw [gI_own (.inl hC.ct.1) (by rw [s1.1]; exact hC.kinds.1), s1.2.2.1, hC.ct.2.2.2.2.2.2.1]
        have hpu : pI b0 (nd S sz 5 0) 4 6 rd (I (p + 1)) = some (nd (sI S rd 6 (I (p + 1))) sz 5 0) := by
          have s1 : Same S (nd S sz 5 0) rd := Same.nd hrd
          rw [pI_own (.inl hC.ct.1) (by rw [s1.1]; exact hC.kinds.1), nd_comm hrd]
        rw [hat, b1_some, I_1, hpu, b1_some]
        exact hO
      · -- a closed table
        have hC1 := (hC.mv (q := p + 1) (by omega)).new (k := 10) (x := 0) (.inr ⟨.inr (.inr (.inr (.inr rfl))), rfl⟩) (by omega)
        obtain ⟨q7, n1, n2, n3, n4, n5, n6, n7⟩ := pr_bl (N := N) hT (by omega) (show p + 1 ≤ n by omega) hC1 q2
        have kR := (q2.2.2.2.1.1 m (by omega)).1
        have eT : (arE T' m hd 10 0 none y).1 m = 10 := by rw [arE_1, if_pos rfl]
        rw [eT] at kR
        have ea : va_up ad m sz m = sz := va_at_ _ _ _
        obtain ⟨lS, hS⟩ := hC1.1
        have hacc : ∀ (R4 : rS), (∀ i, i < dd → R4.2 17 i = R2.2 17 i ∧ R4.2 18 i = R2.2 18 i) → TAcc b0 N m dd (nd (sI S rd 6 (I (p + 1))) sz 10 0) (sI (nd (sI S rd 6 (I (p + 1))) sz 10 0) rd 6 (I q7)) R2 R4 vb vb (sz + 1) 0 0 (arM T m 10 0 none) (arE T' m hd 10 0 none y) (arM T m 10 0 none) (arE T' m hd 10 0 none y) (va_up kd m []) (va_up kd m []) (va_up ad m sz) (va_up ad m sz) (m + 1) (p + 1) q7 [] := by
          intro R4 h4
          refine ⟨by omega, by omega, fun _ _ => rfl, Blw.refl _ _, Blw.refl _ _, fun _ _ => rfl, Kp.fr hS (FrC.mv _ (.inl rfl) _) (Nat.le_refl _) (.inl rfl), by omega, by omega, h4, (by intro x hx; cases hx), fun i g1 g2 => by omega⟩
        have hA1 := agr_self hA hh 10 y hla'
        have h10 : (arM T m 10 0 none).1 m = 10 := va_at_ _ _ _
        have hst : ∀ f, m_finishValue_2 N (f + 1) 1 R2 = b2 (m_stepTable N (I dd) R2) (fun x9 S10 => m_finishValue_2 N f x9 S10) := fun f => fin_tab q3 hdd6 q4 (by omega) kR
        have hO : COut b0 N K rd sb al t n sz0 S0 (nd (sI S rd 6 (I (p + 1))) sz 10 0) hb R0 R2 vb (sz + 1) (arM T m 10 0 none) (arE T' m hd 10 0 none y) (va_up kd m []) (va_up ad m sz) (m + 1) xs (p + 1) m dd (if pk t n q7 = 125 then x_R_readClosedTable_47 N b0 K (x_R_readValue N b0 K d) rd (I (dd + 1)) (va_up ad m sz m) (I xs.length) 0 (sz + 1) (sI (nd (sI S rd 6 (I (p + 1))) sz 10 0) rd 6 (I q7)) else x_R_readClosedTable_47 N b0 K (x_R_readValue N b0 K d) rd (I (dd + 1)) (va_up ad m sz m) (I xs.length) 1 (sz + 1) (sI (nd (sI S rd 6 (I (p + 1))) sz 10 0) rd 6 (I q7))) (fun f => m_finishValue_2 N f 1 R2) := by
          unfold x_R_readClosedTable_47
          by_cases h125 : ch t n q7 = 125
          · have hq7 : q7 < n := by
              rcases Nat.lt_or_ge q7 n with g | g
              · exact g
              · rw [ch_out (by omega)] at h125; exact absurd h125 (by decide)
            rw [if_pos ((pkEq 125 (by decide) (by decide)).2 h125)]
            obtain ⟨N', hN'⟩ : ∃ j, N = j + 1 := ⟨N - 1, by omega⟩
            have e52 : x_R_readClosedTable_52 N b0 K (x_R_readValue N b0 K d) N rd (I (dd + 1)) (va_up ad m sz m) (I xs.length) 0 0 (sz + 1) (sI (nd (sI S rd 6 (I (p + 1))) sz 10 0) rd 6 (I q7)) = x_R_readClosedTable_121 N b0 K (x_R_readValue N b0 K d) rd (va_up ad m sz m) (I xs.length) (sz + 1) (sI (nd (sI S rd 6 (I (p + 1))) sz 10 0) rd 6 (I q7)) := by
              conv => lhs; arg 5; rw [hN']
              unfold x_R_readClosedTable_52 x_R_readClosedTable_52F
              rw [if_pos rfl]
            rw [e52]
            have := tab_end (N := N) (RV := x_R_readValue N b0 K d) (k := 1) (dc := 0) (ds := 0) (xs := xs) (zs := []) (Fs := fun f => m_finishValue_2 N f 1 R2) hT (by omega) hdd6 (by rw [List.append_nil]; exact n6) n7 hA1 h10 (hacc (Rw R2 3 (I q7)) (fun i _ => ⟨rfl, rfl⟩)) h125 hq7 (by rw [Rw_1n _ _ (by decide)]; exact q3) (fun f hf => ?_) (by omega)
            · rw [wr4_00] at this; exact this
            · obtain ⟨f, rfl⟩ : ∃ j, f = j + 1 := ⟨f - 1, by omega⟩
              show m_finishValue_2 N (f + 1) 1 R2 = _
              rw [hst]
              have hst2 : m_stepTable N (I dd) R2 = b1 (rP (Rw R2 3 (I q7)) 3 ((Rw R2 3 (I q7)).1 3 + 1)) (fun S9 => b1 (rP S9 26 (S9.1 26 - 1)) (fun S11 => m_stepTable_54 N N (I (260 * hb + m) + 1) S11)) := by
                unfold m_stepTable
                rw [rL_eq (by show _ < 6; omega) (by omega), q4, b1_some, n5, b1_some, here_eq n7.1.1 hn (by omega), b1_some, h125, if_pos rfl, rL_eq (by show _ < 6; omega) (by omega), Rw_2, q5, b1_some, if_neg (show ¬ (2 : Int32) ≤ 0 by decide)]
              rw [hst2]; rfl
          · rw [if_neg (fun g => h125 ((pkEq 125 (by decide) (by decide)).1 g))]
            have := pr_tab_i (N := N) (xs := xs) (v := m) (Fs := fun f => m_finishValue_2 N f 1 R2) hK hT hN hdd6 hV q2.2.2.2.2 (n - q7) q7 N 0 1 0 0 _ (Rw R2 3 (I q7)) vb e _ _ _ _ (m + 1) u [] (by omega) (by omega) n2 (by omega) (by rw [List.append_nil]; exact n6) n7 hA1 h10 (by rw [Rw_1n _ _ (by decide)]; exact q3) q4 (hacc (Rw R2 3 (I q7)) (fun i _ => ⟨rfl, rfl⟩)) (fun f hf => ?_) (by omega)
            · rw [wr4_00] at this; exact this
            · obtain ⟨f, rfl⟩ : ∃ j, f = j + 1 := ⟨f - 1, by omega⟩
              show m_finishValue_2 N (f + 1) 1 R2 = _
              rw [hst]
              have hst3 : m_stepTable N (I dd) R2 = b2 (m_entry N (I (260 * hb + m)) (Ra (Rw R2 3 (I q7)) 18 dd 1)) (fun x6 S7 => if x6 = 0 ∨ x6 = 1 then (some (x6, S7)) else none) := by
                unfold m_stepTable m_stepTable_112
                rw [rL_eq (by show _ < 6; omega) (by omega), q4, b1_some, n5, b1_some, here_eq n7.1.1 hn (by omega), b1_some, if_neg h125, rL_eq (by show _ < 6; omega) (by omega), Rw_2, q5, b1_some, if_neg (show ¬ (0 : Int32) = 1 by decide), rT_eq (by show _ < 6; omega) (by omega), b1_some]
              rw [hst3]; rfl
        have hO2 := cont_out hC hR hA hlo hh hpn (.inr rfl) q1 hdd q6 hO
        have g91 : ¬ pk t n p = 91 := fun g => by have := (pkEq (t := t) (n := n) (p := p) 91 (by decide) (by decide)).1 g; rw [hc] at this; exact absurd this (by decide)
        rw [if_neg g91, if_pos ((pkEq 123 (by decide) (by decide)).2 hc), if_neg g91]
        unfold x_R_readClosedTable
        rw [init_nd hz]
        have s1 : Same S (nd S sz 10 0) rd := Same.nd hrd
        have kr1 : (nd S sz 10 0).1 rd = 4 := by rw [s1.1]; exact hC.kinds.1
        have hal := hC.2.2.1
        have hall := hC.2.2.2.1
        have s2 : Same S (nd S sz 10 0) al := Same.nd (by omega)
        have hsz : x_AL_size N b0 K al (nd S sz 10 0) = some (I xs.length) := by
          unfold x_AL_size
          rw [gI_own hal.1 (by rw [s2.1]; exact hal.2.1), s2.2.2.1, hal.2.2.1, List.length_map]; rfl
        have hat : gI b0 K (nd S sz 10 0) 4 6 rd = some (I p) := by
          rw [gI_own (.inl hC.ct.1) kr1, s1.2.2.1, hC.ct.2.2.2.2.2.2.1]
        have hpu : pI b0 (nd S sz 10 0) 4 6 rd (I (p + 1)) = some (nd (sI S rd 6 (I (p + 1))) sz 10 0) := by
          rw [pI_own (.inl hC.ct.1) kr1, nd_comm hrd]
        rw [gR_own (.inl hC.ct.1) kr1, s1.2.2.2, hC.2.1, b1_some, b1_some, ifk_own hal.1 (by rw [s2.1]; exact hal.2.1), hsz, b1_some, hat, b1_some, I_1, hpu, b1_some, hC1.ct.ifk, n4, b1_some, n6.ct.ifk, peek_eq n6.ct hn (by omega), b1_some]
        rw [ea] at hO2
        exact hO2
end
