section
variable {b0 N : Nat} {K S S' : cS} {rd sb al vb vb' sz sz' sz0 : Nat} {t : Nat → Int32} {n p q : Nat} {R R' : rS} {l : List Int32} {hb u0 u : Nat} {T T' : Ar} {ad : Nat → Nat} {m lo e : Nat} {kd : Nat → List Nat} {xs : List Nat} {S0 : cS} {R0 : rS}
/-- The head of a list's loop in the class: room, and the look for the end. -/
def lsH (N b0 : Nat) (K : cS) (RV : Nat → Int32 → Nat → cS → Option (Option Nat × cS × Nat × Nat)) (k : Nat) (rd : Nat) (dp : Int32) (v : Nat) (cnt : Int32) (sz : Nat) (S : cS) : Option (Option Nat × cS × Nat × Nat) :=
  ifk b0 K S 4 rd (b1 (x_R_skipBlanksLinesAndComments N b0 K rd S) (fun S6 => ifk b0 K S6 4 rd (b1 (x_R_peek N b0 K rd S6) (fun x8 => if x8 = 93 then x_R_readList_42 N b0 K RV k rd dp v 0 cnt sz S6 else x_R_readList_42 N b0 K RV k rd dp v 1 cnt sz S6))))
theorem COut.step {S1 : cS} {R1 : rS} {vb1 dc ds : Nat} {T1 T1' : Ar} {kd1 : Nat → List Nat} {ad1 : Nat → Nat} {m1 : Nat} {ys : List Nat} {p1 v dd k1 : Nat} {C : Option (Option Nat × cS × Nat × Nat)} {F F1 : Nat → Option (Int32 × rS)}
    (h : COut b0 N K rd sb al t n sz0 S0 S1 hb R0 R1 vb1 (sz + dc) T1 T1' kd1 ad1 m1 (xs ++ ys) p1 v dd C F1) (hp : p < p1) (hm : m ≤ m1) (had : ∀ i, i < m → ad1 i = ad i) (hv : v < m) (hB : Blw v T T1) (hB' : Blw v T' T1') (hkd : ∀ i, i < v → kd1 i = kd i) (hX : KX v T T1 m m1 ys) (hKp : Kp b0 S S1 sz (sz + dc) vb vb1) (hdc : dc ≤ 12 * (p1 - p)) (hds : ds ≤ 500 * (p1 - p)) (hp1 : p1 ≤ n + 1)
    (hF : ∀ f, k1 < f → F f = F1 (f - k1)) (hk1 : k1 ≤ p1 - p) (h1718 : ∀ i, i < dd → R1.2 17 i = R.2 17 i ∧ R1.2 18 i = R.2 18 i) :
    COut b0 N K rd sb al t n sz0 S0 S hb R0 R vb sz T T' kd ad m xs p v dd (wr4 dc ds C) F := by
  rcases h with ⟨q, S2, vb2, e2, dc2, ds2, T2, kd2, ad2, m2, ys2, k, R2, T2', u2, g1, g2, g3, g4, g5, g6, g7, g8, g9, g10, g11, g12, g13, g14, g15, g16, g17, g18, g19⟩ | ⟨S2, dc2, ds2, k, R2, g1, g2, g3, g4, g5, g6⟩
  · have ez : sz + (dc + dc2) = sz + dc + dc2 := by omega
    refine .inl ⟨q, S2, vb2, e2, dc + dc2, ds + ds2, T2, kd2, ad2, m2, ys ++ ys2, k1 + k, R2, T2', u2, by rw [g1, had v hv]; rfl, by omega, g3, by rw [ez, ← List.append_assoc]; exact g4, by omega, fun i hi => by rw [g6 i (by omega), had i hi], hB.trans g7, fun i hi => by rw [g8 i hi, hkd i hi], hX.trans g9 hm g5, by rw [ez]; exact hKp.trans g10 (by omega), by omega, by omega, fun f hf => ?_, by omega, g15, g16, hB'.trans g17, g18, fun i hi => ⟨(g19 i hi).1.trans (h1718 i hi).1, (g19 i hi).2.trans (h1718 i hi).2⟩⟩
    rw [hF f (by omega), g13 (f - k1) (by omega)]; congr 1; omega
  · refine .inr ⟨S2, dc + dc2, ds + ds2, k1 + k, R2, by rw [g1]; rfl, fun f hf => ?_, by omega, g4, by omega, by omega⟩
    rw [hF f (by omega), g2 (f - k1) (by omega)]
theorem pr_list_i (hT : Tx t n) (hN : 1000 ≤ N) {RV : Nat → Int32 → Nat → cS → Option (Option Nat × cS × Nat × Nat)} {v dd : Nat} (hd6 : dd < 6) (hV : ValP b0 N K rd sb al t n sz0 S0 hb R0 RV (dd + 1)) :
    ∀ (d p k' cnt : Nat) (S : cS) (R : rS) (vb e sz : Nat) (T T' : Ar) (kd : Nat → List Nat) (ad : Nat → Nat) (m u : Nat) (xs : List Nat), n - p ≤ d → n - p + 1 < k' → p ≤ n → cnt + 1 ≤ p → BC b0 K rd sb al t n sz0 S0 S vb e sz T kd ad m xs p → BR t n hb R0 R T' m u p → Agr v T T' m → v < m → T.1 v = 5 → R.1 26 = I (dd + 1) → R.2 17 dd = I (260 * hb + v) → R.2 18 dd = 0 →
    COut b0 N K rd sb al t n sz0 S0 S hb R0 R vb sz T T' kd ad m xs p v dd (lsH N b0 K RV k' rd (I (dd + 1)) (ad v) (I cnt) sz S) (fun f => m_finishValue_2 N f 1 R) := by
  have hn := hT.1
  intro d
  induction d with
  | zero =>
    intro p k' cnt S R vb e sz T T' kd ad m u xs hd hk' hp hcnt hC hR hA hvm hk5 hdd h17 h18
    have hpn : p = n := by omega
    subst hpn
    obtain ⟨q, h1, h2, h3, h4, h5, h6, h7⟩ := pr_rm (N := N) hT hN hp hC hR
    have hq : q = p := by omega
    subst hq
    have hch : ch t q q = 0 := ch_out (by omega)
    have hmp := hC.mp
    have hb1 := hR.1.2.2.1
    have kR := (hR.2.2.2.1.1 v hvm).1
    rw [hA.kind (Nat.le_refl _) hvm, hk5] at kR
    unfold lsH
    rw [hC.ct.ifk, h4, b1_some, h6.ct.ifk, peek_eq h6.ct hn (by omega), b1_some, if_neg (fun g => by have := (pkEq 93 (by decide) (by decide)).1 g; rw [hch] at this; exact absurd this (by decide))]
    obtain ⟨k', rfl⟩ : ∃ j, k' = j + 1 := ⟨k' - 1, by omega⟩
    unfold x_R_readList_42 x_R_readList_42F
    rw [if_neg (show ¬ (1 : Int32) = 0 by decide), if_neg (show ¬ (240 : Int32) ≤ I cnt from I_le0 (a := 240) (by omega) (by omega)), h6.ct.ifk]
    -- the value fails: nothing is left
    have hk5' : 4 < T.1 v := by rw [hk5]; decide
    have hO := hV _ (Ra (Rw R 3 (I q)) 18 dd 1) vb e sz T T' kd ad m u xs q v v (-1) none h6 (h7.stk (.inr rfl) dd 1) hA (by omega) (Nat.le_refl _) hvm hk5' (by rw [Ra_1, Rw_1n _ _ (by decide)]; exact hdd) (.inl ⟨rfl, rfl⟩)
    have hst : m_stepList N (I dd) R = b2 (m_beginValue N (I (260 * hb + v)) (-1) (Ra (Rw R 3 (I q)) 18 dd 1)) (fun x12 S13 => if x12 = 0 ∨ x12 = 1 then (some (x12, S13)) else none) := by
      unfold m_stepList
      rw [rL_eq (by show _ < 6; omega) (by omega), h17, b1_some, h5, b1_some, here_eq h7.1.1 hn (by omega), b1_some, hch, if_neg (by decide), rL_eq (by show _ < 6; omega) (by omega), Rw_2, h18, b1_some, if_neg (by decide), rT_eq (by show _ < 6; omega) (by omega), b1_some]
    rcases hO with ⟨q2, S1, vb1, e1, dc, ds, T1, kd1, ad1, m1, ys, k, R2, T1', u1, ⟨w1, w2, w3, -⟩, -⟩ | ⟨S1, dc, ds, k, R2, w1, w2, w3, w4, w5, w6⟩ | ⟨q2, S1, vb1, e1, dc, ds, T1, kd1, ad1, m1, ys, k, R2, ⟨w1, w2, w3, -⟩, w4, -⟩
    · omega
    · rw [w1, b4_some, om_none, wr4_some]
      refine .inr ⟨S1, _, _, k + 1, R2, rfl, fun f hf => ?_, by omega, w4, by omega, by omega⟩
      obtain ⟨f, rfl⟩ : ∃ j, f = j + 1 := ⟨f - 1, by omega⟩
      show m_finishValue_2 N (f + 1) 1 R = _
      rw [fin_list hdd hd6 h17 (by omega) kR, hst]
      rcases w2 with w2 | ⟨R1, w2, w2'⟩
      · rw [w2, b2_some, if_pos (.inl rfl), b2_some]
        obtain ⟨f, rfl⟩ : ∃ j, f = j + 1 := ⟨f - 1, by omega⟩
        exact fin_no f
      · rw [w2, b2_some, if_pos (.inr rfl), b2_some]
        exact w2' f (by omega)
    · omega
  | succ d ih =>
    intro p k' cnt S R vb e sz T T' kd ad m u xs hd hk' hp hcnt hC hR hA hvm hk5 hdd h17 h18
    obtain ⟨q, h1, h2, h3, h4, h5, h6, h7⟩ := pr_rm (N := N) hT hN hp hC hR
    have hmp := hC.mp
    have hb1 := hR.1.2.2.1
    have kR := (hR.2.2.2.1.1 v hvm).1
    rw [hA.kind (Nat.le_refl _) hvm, hk5] at kR
    obtain ⟨lS, hS⟩ := hC.1
    have kp6 : Kp b0 S (sI S rd 6 (I q)) sz sz vb vb := Kp.fr hS (FrC.mv S (.inl rfl) _) (Nat.le_refl _) (.inl rfl)
    unfold lsH
    rw [hC.ct.ifk, h4, b1_some, h6.ct.ifk, peek_eq h6.ct hn (by omega), b1_some]
    obtain ⟨k', rfl⟩ : ∃ j, k' = j + 1 := ⟨k' - 1, by omega⟩
    by_cases h93 : ch t n q = 93
    · -- the end of the list
      have hqn : q < n := by
        rcases Nat.lt_or_ge q n with g | g
        · exact g
        · rw [ch_out (by omega)] at h93; exact absurd h93 (by decide)
      rw [if_pos ((pkEq 93 (by decide) (by decide)).2 h93)]
      unfold x_R_readList_42 x_R_readList_42F x_R_readList_132
      rw [if_pos rfl, h6.ct.ifk, take_eq h6.ct hn (by omega) _ (by decide), if_pos h93, b2_some, if_neg (show ¬ (1 : Int32) = 0 by decide), sI_twice]
      have hst : m_stepList N (I dd) R = some (1, Rw (Rw R 3 (I (q + 1))) 26 (I dd)) := by
        unfold m_stepList
        rw [rL_eq (by show _ < 6; omega) (by omega), h17, b1_some, h5, b1_some, here_eq h7.1.1 hn (by omega), b1_some, h93, if_pos rfl, rP_eq, b1_some, h7.1.1.2.1, I_1, rP_eq, b1_some, Rw_twice, Rw_1n _ _ (by decide), hdd]
        have e1 : I (dd + 1) - 1 = I dd := by rw [show (1 : Int32) = I 1 from rfl, I_sub (by omega)]; congr 1
        rw [e1]
      have kp7 : Kp b0 S (sI S rd 6 (I (q + 1))) sz (sz + 0) vb vb := Kp.fr hS (FrC.mv S (.inl rfl) _) (Nat.le_refl _) (.inl rfl)
      refine .inl ⟨q + 1, _, vb, e, 0, 0, T, kd, ad, m, [], 1, _, T', u, rfl, by omega, by omega, by rw [List.append_nil]; exact hC.mv (by omega), Nat.le_refl _, fun _ _ => rfl, Blw.refl _ _, fun _ _ => rfl, KX.refl _ _ _, kp7, by omega, by omega, fun f hf => ?_, by omega, (hR.mv (q := q + 1) (by omega)).dep (I dd), hA, Blw.refl _ _, Rw_1 _ _ _, fun i hi => ⟨rfl, rfl⟩⟩
      obtain ⟨f, rfl⟩ : ∃ j, f = j + 1 := ⟨f - 1, by omega⟩
      show m_finishValue_2 N (f + 1) 1 R = _
      rw [fin_list hdd hd6 h17 (by omega) kR, hst, b2_some]; rfl
    · rw [if_neg (fun g => h93 ((pkEq 93 (by decide) (by decide)).1 g))]
      unfold x_R_readList_42 x_R_readList_42F
      rw [if_neg (show ¬ (1 : Int32) = 0 by decide), if_neg (show ¬ (240 : Int32) ≤ I cnt from I_le0 (a := 240) (by omega) (by omega)), h6.ct.ifk]
      have hk5' : 4 < T.1 v := by rw [hk5]; decide
      have hO := hV _ (Ra (Rw R 3 (I q)) 18 dd 1) vb e sz T T' kd ad m u xs q v v (-1) none h6 (h7.stk (.inr rfl) dd 1) hA (by omega) (Nat.le_refl _) hvm hk5' (by rw [Ra_1, Rw_1n _ _ (by decide)]; exact hdd) (.inl ⟨rfl, rfl⟩)
      have hst : m_stepList N (I dd) R = b2 (m_beginValue N (I (260 * hb + v)) (-1) (Ra (Rw R 3 (I q)) 18 dd 1)) (fun x12 S13 => if x12 = 0 ∨ x12 = 1 then (some (x12, S13)) else none) := by
        unfold m_stepList
        rw [rL_eq (by show _ < 6; omega) (by omega), h17, b1_some, h5, b1_some, here_eq h7.1.1 hn (by omega), b1_some, if_neg h93, rL_eq (by show _ < 6; omega) (by omega), Rw_2, h18, b1_some, if_neg (by decide), rT_eq (by show _ < 6; omega) (by omega), b1_some]
      -- the reference's turn that begins the value
      have turn : ∀ f, 0 < f → m_finishValue_2 N f 1 R = b2 (b2 (m_beginValue N (I (260 * hb + v)) (-1) (Ra (Rw R 3 (I q)) 18 dd 1)) (fun x12 S13 => if x12 = 0 ∨ x12 = 1 then (some (x12, S13)) else none)) (fun x9 S10 => m_finishValue_2 N (f - 1) x9 S10) := by
        intro f hf
        obtain ⟨f, rfl⟩ : ∃ j, f = j + 1 := ⟨f - 1, by omega⟩
        rw [fin_list hdd hd6 h17 (by omega) kR, hst]; rfl
      -- where the reference has stopped
      have stop : ∀ (k : Nat) (R2 : rS), RF N (m_beginValue N (I (260 * hb + v)) (-1) (Ra (Rw R 3 (I q)) 18 dd 1)) k R2 → ∀ f, k + 1 < f → m_finishValue_2 N f 1 R = some (0, R2) := by
        intro k R2 w2 f hf
        rw [turn f (by omega)]
        rcases w2 with w2 | ⟨R1, w2, w2'⟩
        · rw [w2, b2_some, if_pos (.inl rfl), b2_some]
          obtain ⟨f, rfl⟩ : ∃ j, f = j + 2 := ⟨f - 2, by omega⟩
          exact fin_no f
        · rw [w2, b2_some, if_pos (.inr rfl), b2_some]
          exact w2' (f - 1) (by omega)
      -- the class links the value: what the list then is
      have link : ∀ (q2 : Nat) (S1 : cS) (vb1 e1 dc ds : Nat) (T1 : Ar) (kd1 : Nat → List Nat) (ad1 : Nat → Nat) (m1 : Nat) (ys : List Nat) (C : Option (Option Nat × cS × Nat × Nat)), VC b0 K rd sb al t n sz0 S0 (sI S rd 6 (I q)) vb sz T kd ad m xs q q2 S1 vb1 e1 dc ds T1 kd1 ad1 m1 ys C →
          ∃ S2, x_N_add N b0 K (ad v) (some (ad1 m)) S1 = some S2 ∧ ifk b0 K S1 2 (ad v) (x_N_add N b0 K (ad v) (some (ad1 m)) S1) = some S2 ∧ BC b0 K rd sb al t n sz0 S0 S2 vb1 e1 (sz + dc) (arL (arY T1 m none) v m) (va_up kd1 v (kd1 v ++ [m])) ad1 m1 (xs ++ ys) q2 ∧ Kp b0 S S2 sz (sz + dc) vb vb1 ∧ Blw v T (arL (arY T1 m none) v m) ∧ KX v T (arL (arY T1 m none) v m) m m1 ys ∧ (∀ i, i < v → va_up kd1 v (kd1 v ++ [m]) i = kd i) ∧ (arL (arY T1 m none) v m).1 v = 5 := by
        rintro q2 S1 vb1 e1 dc ds T1 kd1 ad1 m1 ys C ⟨w1, w2, w3, w4, w5, w6, w7, w8, w9, w10, w11, w12, w13, w14⟩
        obtain ⟨a1, a2, a3, a4, a5, a6⟩ := w7 v hvm
        have hlast : ∀ a, a ∈ kd1 v → a < m := by
          intro a ha
          rw [a6] at ha
          obtain ⟨j, hj⟩ := List.getElem?_of_mem ha
          exact ((hC.wf.1 v hvm).2.2.1 j a hj).2.2.2
        obtain ⟨S2, f1, f2, f3⟩ := w4.lnk (N := N) (S' := S1) (hd := v) (v := m) (y := none) hvm w5 (by rw [a1]; exact hk5') w8 hlast ⟨fun g => absurd rfl g, fun g => by rw [a1, hk5] at g; exact absurd g (by decide)⟩ (fun g => by rw [a1, hk5] at g; exact absurd g (by decide)) (.inl ⟨rfl, w9, rfl⟩)
        have eav : ad1 v = ad v := w6 v hvm
        rw [eav] at f1
        have nv := w4.rel.1 v (by omega)
        have o1 := nv.1
        have k1 := nv.2.2.1
        rw [eav] at o1 k1
        refine ⟨S2, f1, by rw [ifk_own o1 k1, f1], f2, kp6.trans (w12.trans (Kp.nodes w4 f3) (by omega)) (Nat.le_refl _), ?_, ?_, fun i hi => by rw [va_ne _ _ (by omega)]; exact (w7 i (by omega)).2.2.2.2.2, by show T1.1 v = 5; rw [a1]; exact hk5⟩
        · have hB1 : Blw v T T1 := ⟨fun i hi => by
            obtain ⟨c1, c2, c3, c4, c5, c6⟩ := w7 i (by omega)
            exact ⟨c1, c2, c3, c4, c5⟩, a1, by rw [a3], by rw [a3], a5⟩
          refine hB1.trans (blw_link T1 (Nat.le_refl _) hvm (fun a ha => ?_) none)
          rw [a3] at ha
          exact last_lo hC.wf hvm (Nat.le_refl _) a ha
        · refine ⟨fun i hi => (w7 i hi).1, fun x hx => ?_, w11⟩
          obtain ⟨b1', b2', b3'⟩ := w10 x hx
          exact ⟨by omega, b2', b3'⟩
      rcases hO with ⟨q2, S1, vb1, e1, dc, ds, T1, kd1, ad1, m1, ys, k, R2, T1', u1, hVC, r1, r2, r3, r4, r5, r6, r7⟩ | ⟨S1, dc, ds, k, R2, w1, w2, w3, w4, w5, w6⟩ | ⟨q2, S1, vb1, e1, dc, ds, T1, kd1, ad1, m1, ys, k, R2, hVC, w4, w5, w6, w7, w8, w9⟩
      · -- a value
        obtain ⟨S2, l1, l2, l3, l4, l5, l6, l7, l8⟩ := link q2 S1 vb1 e1 dc ds T1 kd1 ad1 m1 ys _ hVC
        obtain ⟨w1, w2, w3, w4, w5, w6, -, -, -, -, -, -, w13, w14⟩ := hVC
        obtain ⟨o1, -, o3, -⟩ := w4.rel.1 v (by omega)
        rw [w6 v hvm] at o1 o3
        rw [w1, b4_some, om_some, ifk_own o1 o3, l1, b1_some, l3.ct.ifk]
        obtain ⟨q3, j1, j2, j3, j4, j5, j6, j7⟩ := pr_rm (N := N) hT hN w3 l3 r3
        rw [j4, b1_some, j6.ct.ifk, peek_eq j6.ct hn (by omega), b1_some]
        have hd2 : R2.1 26 = I (dd + 1) := by rw [r6, Ra_1, Rw_1n _ _ (by decide)]; exact hdd
        have hr7 := r7 dd (by omega)
        have h172 : R2.2 17 dd = I (260 * hb + v) := by rw [hr7.1, Ra_ne _ (.inl (by decide)), Rw_2]; exact h17
        have h182 : R2.2 18 dd = 1 := by rw [hr7.2, Ra_at]
        have hlow : ∀ i, i < dd → R2.2 17 i = R.2 17 i ∧ R2.2 18 i = R.2 18 i := fun i hi => by
          obtain ⟨c1, c2⟩ := r7 i (by omega)
          exact ⟨by rw [c1, Ra_ne _ (.inl (by decide)), Rw_2], by rw [c2, Ra_ne _ (.inr (by omega)), Rw_2]⟩
        have hmp1 := l3.mp
        have kR2 := (r3.2.2.2.1.1 v (by omega)).1
        rw [r4.kind (Nat.le_refl _) (by omega), l8] at kR2
        -- the reference's turns so far
        have sofar : ∀ f, k + 1 < f → m_finishValue_2 N f 1 R = m_finishValue_2 N (f - (k + 1)) 1 R2 := by
          intro f hf
          obtain ⟨R1, c1, c2⟩ := r1
          rw [turn f (by omega), c1, b2_some, if_pos (.inr rfl), b2_some, c2 (f - 1) (by omega)]
          congr 1; omega
        have hlS := l3.1
        obtain ⟨lS3, hS3⟩ := hlS
        by_cases h44 : ch t n q3 = 44
        · -- a comma
          have hq3n : q3 < n := by
            rcases Nat.lt_or_ge q3 n with g | g
            · exact g
            · rw [ch_out (by omega)] at h44; exact absurd h44 (by decide)
          rw [if_pos ((pkEq 44 (by decide) (by decide)).2 h44)]
          unfold x_R_readList_92 x_R_readList_125 x_R_readList_126
          rw [if_neg (show ¬ (1 : Int32) = 0 by decide), j6.ct.at_, b1_some, j6.ct.put, b1_some, I_1, I_1, sI_twice]
          have hst2 : m_stepList N (I dd) R2 = some (1, Ra (Rw R2 3 (I (q3 + 1))) 18 dd 0) := by
            unfold m_stepList
            rw [rL_eq (by show _ < 6; omega) (by omega), h172, b1_some, j5, b1_some, here_eq j7.1.1 hn (by omega), b1_some, if_neg (by rw [h44]; decide), rL_eq (by show _ < 6; omega) (by omega), Rw_2, h182, b1_some, if_pos rfl, b1_some, if_pos h44, rP_eq, b1_some, j7.1.1.2.1, I_1, Rw_twice, rT_eq (by show _ < 6; omega) (by omega), b1_some]
          have hC4 := l3.mv (q := q3 + 1) (by omega)
          have hR4 := (r3.mv (q := q3 + 1) (by omega)).stk (.inr rfl) dd 0
          have hrec := ih (q3 + 1) k' (cnt + 1) (sI S2 rd 6 (I (q3 + 1))) (Ra (Rw R2 3 (I (q3 + 1))) 18 dd 0) vb1 e1 (sz + dc) _ T1' _ ad1 m1 u1 (xs ++ ys) (by omega) (by omega) (by omega) (by omega) hC4 hR4 r4 (by omega) l8 (by rw [Ra_1, Rw_1n _ _ (by decide)]; exact hd2) (by rw [Ra_ne _ (.inl (by decide)), Rw_2]; exact h172) (Ra_at _ _ _)
          rw [w6 v hvm] at hrec
          have kp4 : Kp b0 S (sI S2 rd 6 (I (q3 + 1))) sz (sz + dc) vb vb1 := l4.trans (Kp.fr hS3 (FrC.mv S2 (.inl rfl) _) (Nat.le_refl _) (.inl rfl)) (by omega)
          unfold lsH at hrec
          refine COut.step (k1 := k + 2) (dc := dc) (ds := ds) (F1 := fun f => m_finishValue_2 N f 1 (Ra (Rw R2 3 (I (q3 + 1))) 18 dd 0)) hrec (by omega) (by omega) w6 hvm l5 r5 l7 l6 kp4 (by omega) (by omega) (by omega) (fun f hf => ?_) (by omega) (fun i hi => ?_)
          · show m_finishValue_2 N f 1 R = m_finishValue_2 N (f - (k + 2)) 1 _
            rw [sofar f (by omega)]
            obtain ⟨f', hf'⟩ : ∃ j, f - (k + 1) = j + 1 := ⟨f - (k + 1) - 1, by omega⟩
            rw [hf', fin_list hd2 hd6 h172 (by omega) kR2, hst2, b2_some]; congr 1; omega
          · obtain ⟨c1, c2⟩ := hlow i hi
            exact ⟨by rw [Ra_ne _ (.inl (by decide)), Rw_2]; exact c1, by rw [Ra_ne _ (.inr (by omega)), Rw_2]; exact c2⟩
        · rw [if_neg (fun g => h44 ((pkEq 44 (by decide) (by decide)).1 g))]
          unfold x_R_readList_92 x_R_readList_126
          rw [if_pos rfl]
          obtain ⟨k', rfl⟩ : ∃ j, k' = j + 1 := ⟨k' - 1, by omega⟩
          unfold x_R_readList_42 x_R_readList_42F x_R_readList_132
          rw [if_pos rfl, j6.ct.ifk, take_eq j6.ct hn (by omega) _ (by decide)]
          by_cases h93b : ch t n q3 = 93
          · -- the end behind a value
            have hq3n : q3 < n := by
              rcases Nat.lt_or_ge q3 n with g | g
              · exact g
              · rw [ch_out (by omega)] at h93b; exact absurd h93b (by decide)
            rw [if_pos h93b, b2_some, if_neg (show ¬ (1 : Int32) = 0 by decide), sI_twice, wr4_some]
            have hst2 : m_stepList N (I dd) R2 = some (1, Rw (Rw R2 3 (I (q3 + 1))) 26 (I dd)) := by
              unfold m_stepList
              rw [rL_eq (by show _ < 6; omega) (by omega), h172, b1_some, j5, b1_some, here_eq j7.1.1 hn (by omega), b1_some, h93b, if_pos rfl, rP_eq, b1_some, j7.1.1.2.1, I_1, rP_eq, b1_some, Rw_twice, Rw_1n _ _ (by decide), hd2]
              have e1 : I (dd + 1) - 1 = I dd := by rw [show (1 : Int32) = I 1 from rfl, I_sub (by omega)]; congr 1
              rw [e1]
            have kp4 : Kp b0 S (sI S2 rd 6 (I (q3 + 1))) sz (sz + dc) vb vb1 := l4.trans (Kp.fr hS3 (FrC.mv S2 (.inl rfl) _) (Nat.le_refl _) (.inl rfl)) (by omega)
            refine .inl ⟨q3 + 1, _, vb1, e1, dc + 0, ds + 0, _, _, ad1, m1, ys, k + 2, _, T1', u1, rfl, by omega, by omega, l3.mv (by omega), by omega, w6, l5, l7, l6, kp4, by omega, by omega, fun f hf => ?_, by omega, (r3.mv (q := q3 + 1) (by omega)).dep (I dd), r4, r5, Rw_1 _ _ _, hlow⟩
            show m_finishValue_2 N f 1 R = _
            rw [sofar f (by omega)]
            obtain ⟨f', hf'⟩ : ∃ j, f - (k + 1) = j + 1 := ⟨f - (k + 1) - 1, by omega⟩
            rw [hf', fin_list hd2 hd6 h172 (by omega) kR2, hst2, b2_some]; congr 1; omega
          · rw [if_neg h93b, b2_some, if_pos rfl, wr4_some]
            have hst2 : m_stepList N (I dd) R2 = some (0, Rw (Rw R2 3 (I q3)) 4 (I q3)) := by
              unfold m_stepList m_fail
              rw [rL_eq (by show _ < 6; omega) (by omega), h172, b1_some, j5, b1_some, here_eq j7.1.1 hn (by omega), b1_some, if_neg h93b, rL_eq (by show _ < 6; omega) (by omega), Rw_2, h182, b1_some, if_pos rfl, b1_some, if_neg h44, rP_eq, b1_some, b2_some, if_pos (.inl rfl), j7.1.1.2.1]
            refine .inr ⟨_, dc + 0, ds + 0, k + 2, _, rfl, fun f hf => ?_, by omega, wr_bad j6 j7 j2, by omega, by omega⟩
            show m_finishValue_2 N f 1 R = _
            rw [sofar f (by omega)]
            obtain ⟨f', hf'⟩ : ∃ j, f - (k + 1) = j + 2 := ⟨f - (k + 1) - 2, by omega⟩
            rw [hf', fin_list hd2 hd6 h172 (by omega) kR2, hst2, b2_some]
            exact fin_no f'
      · -- a fault within
        rw [w1, b4_some, om_none, wr4_some]
        exact .inr ⟨S1, _, _, k + 1, R2, rfl, fun f hf => stop k R2 w2 f (by omega), by omega, w4, by omega, by omega⟩
      · -- a fault that the class tells now
        obtain ⟨S2, l1, l2, l3, l4, l5, l6, l7, l8⟩ := link q2 S1 vb1 e1 dc ds T1 kd1 ad1 m1 ys _ hVC
        obtain ⟨w1, w2', w3, w4', w5', w6', -, -, -, -, -, -, w13, w14⟩ := hVC
        obtain ⟨o1, -, o3, -⟩ := w4'.rel.1 v (by omega)
        rw [w6' v hvm] at o1 o3
        rw [w1, b4_some, om_some, ifk_own o1 o3, l1, b1_some, l3.ct.ifk, room_dgu hT hN l3.ct w4 w5, b1_some, l3.ct.ifk, peek_eq l3.ct hn (by omega), b1_some, pkIn w4, if_neg (show ¬ t q2 = (44 : Int32) from dgu_ne (k := 44) w5 (by omega) (by omega))]
        unfold x_R_readList_92 x_R_readList_126
        rw [if_pos rfl]
        obtain ⟨k', rfl⟩ : ∃ j, k' = j + 1 := ⟨k' - 1, by omega⟩
        unfold x_R_readList_42 x_R_readList_42F x_R_readList_132
        rw [if_pos rfl, l3.ct.ifk, take_eq l3.ct hn (by omega) _ (by decide), ch_in w4, if_neg (show ¬ t q2 = (93 : Int32) from dgu_ne (k := 93) w5 (by omega) (by omega)), b2_some, if_pos rfl, wr4_some]
        refine .inr ⟨_, dc + 0, ds + 0, k + 1, R2, rfl, fun f hf => stop k R2 w6 f (by omega), by omega, ?_, by omega, by omega⟩
        have hBad := l3.bad (S' := sI S2 rd 7 (I q2)) (R := R2) (R' := R2) w9 (FrC.mv S2 (.inr rfl) _) (GR.refl R2) (w := q2) (by omega) (by show up2 _ _ _ _ _ _ = _; rw [up2_at]) w8
        exact hBad
end
