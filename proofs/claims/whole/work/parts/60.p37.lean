section
variable {b0 N : Nat} {K S S' : cS} {rd sb al vb vb' sz sz' sz0 : Nat} {t : Nat → Int32} {n p q : Nat} {R R' : rS} {l : List Int32} {hb u0 u : Nat} {T T' : Ar} {ad : Nat → Nat} {m lo e : Nat} {kd : Nat → List Nat} {xs : List Nat} {S0 : cS} {R0 : rS}
/-- What comes of an entry, in both. -/
def EOut (b0 N : Nat) (K : cS) (rd sb al : Nat) (t : Nat → Int32) (n sz0 : Nat) (S0 S : cS) (hb : Nat) (R0 R : rS) (vb sz : Nat) (T T' : Ar) (kd : Nat → List Nat) (ad : Nat → Nat) (m : Nat) (xs : List Nat) (p lo dd : Nat) (C : Option (Int32 × cS × Nat × Nat)) (M : Option (Int32 × rS)) : Prop :=
  (∃ q S1 vb1 e1 dc ds T1 kd1 ad1 m1 ys k R2 T1' u1, C = some (1, S1, dc, ds) ∧ p < q ∧ q ≤ n ∧ BC b0 K rd sb al t n sz0 S0 S1 vb1 e1 (sz + dc) T1 kd1 ad1 m1 (xs ++ ys) q ∧ m ≤ m1 ∧ (∀ i, i < m → ad1 i = ad i) ∧ Blw lo T T1 ∧ (∀ i, i < lo → kd1 i = kd i) ∧ KX lo T T1 m m1 ys ∧ Kp b0 S S1 sz (sz + dc) vb vb1 ∧ dc ≤ 12 * (q - p) ∧ ds ≤ 500 * (q - p) ∧
    RG N M k R2 ∧ k + 1 ≤ q - p ∧ BR t n hb R0 R2 T1' m1 u1 q ∧ Agr lo T1 T1' m1 ∧ Blw lo T' T1' ∧ R2.1 26 = R.1 26 ∧ ∀ i, i < dd → R2.2 17 i = R.2 17 i ∧ R2.2 18 i = R.2 18 i) ∨
  (∃ S1 dc ds k R2, C = some (0, S1, dc, ds) ∧ RF N M k R2 ∧ k ≤ n + 1 - p ∧ Bad b0 rd n sz0 S0 S1 hb R0 R2 ∧ dc ≤ 12 * (n + 1 - p) ∧ ds ≤ 500 * (n + 1 - p)) ∨
  (∃ q S1 vb1 e1 dc ds T1 kd1 ad1 m1 zs k R2, C = some (1, S1, dc, ds) ∧ p < q ∧ q < n ∧ dgu (t q) ∧ BC b0 K rd sb al t n sz0 S0 S1 vb1 e1 (sz + dc) T1 kd1 ad1 m1 zs q ∧ RF N M k R2 ∧ k ≤ n + 1 - p ∧ R2.1 4 = I q ∧ GR R0 R2 hb ∧ dc ≤ 12 * (q - p) ∧ ds ≤ 500 * (q - p))
theorem PartR.mv {ps : List (Nat × List Int32)} (h : PartR R hb u ps) (hF : R'.2 = R.2) : PartR R' hb u ps := h.keep (fun j i _ _ => by rw [hF]) (fun i _ => by rw [hF]) (Nat.le_refl _)
theorem pr_entry (hK : KF b0 K) (hT : Tx t n) (hN : 200000 ≤ N) {RV : Nat → Int32 → Nat → cS → Option (Option Nat × cS × Nat × Nat)} {dd : Nat} (hV : ValP b0 N K rd sb al t n sz0 S0 hb R0 RV dd) (hp : p ≤ n) (hC : BC b0 K rd sb al t n sz0 S0 S vb e sz T kd ad m xs p) (hR : BR t n hb R0 R T' m u p) (hA : Agr lo T T' m) {tt : Nat} (hlo : lo ≤ tt) (htt : tt < m) (hk : 6 < T.1 tt) (hdd : R.1 26 = I dd) :
    EOut b0 N K rd sb al t n sz0 S0 S hb R0 R vb sz T T' kd ad m xs p lo dd (x_R_readEntry N b0 K RV rd (some (ad tt)) (I dd) sz S) (m_entry N (I (260 * hb + tt)) R) := by
  have hn := hT.1
  have hmp := hC.mp
  have hxl : xs.length ≤ p := hC.2.2.2.2.2.2.2.2.2.2.2.2.2.2.2.2.2.2.1
  unfold x_R_readEntry m_entry
  rw [hC.ct.ifk]
  obtain ⟨lS, hS⟩ := hC.1
  rcases pr_pb (N := N) hT (by omega) hp hC hR with ⟨q, S1, R1, vb1, dc, ds, as, ps, u1, g1, g2, g3, g4, g5, g6, g7, g8, g9, g10, g11, g12, g13, g13', g13'', kpP, g14, g15⟩ | ⟨S1, R1, dc, ds, g1, g2, g3, g4, g5⟩
  case inr =>
    rw [g1, g2, b4_some, b2_some, if_pos rfl]
    obtain ⟨N', hN'⟩ : ∃ j, N = j + 1 := ⟨N - 1, by omega⟩
    have : x_R_readEntry_8 N b0 K RV N rd (I dd) none (some (ad tt)) (sz + dc) S1 = some (0, S1, 0, 0) := by
      conv => lhs; arg 5; rw [hN']
      unfold x_R_readEntry_8 x_R_readEntry_8F x_R_readEntry_41
      rw [om_none, om_none]
    rw [this, wr4_some]
    exact .inr (.inl ⟨S1, _, _, 0, R1, rfl, .inl rfl, by omega, g3, by omega, by omega⟩)
  case inl =>
    rw [g5, g6, b4_some, b2_some, if_neg (show ¬ (1 : Int32) = 0 by decide)]
    have hpos : 0 < ps.length := List.length_pos_iff.2 g3
    have hL := pr_lead (N := N) (RV := RV) (dp := I dd) (as := as) hK hT hN (by omega) g2 g12 (ps.length - 1) 0 N N S1 R1 e (sz + dc) T T' kd ad m xs tt (by omega) (by omega) (by omega) g10 g11 hA hlo htt hk (by omega) (by omega) g7 g9 g8
    rw [show (I 0 : Int32) = 0 from rfl] at hL
    unfold m_leadEntry
    rcases hL with ⟨S2, R2, e2, dc2, ds2, T2, T2', kd2, ad2, m2, xs2, t2, a2, s, x, l1, l2, l3, l4, l5, l6, l7, l8, l9, l10, l11, l12, l13, ⟨ys, l14, l14'⟩, l15, l16, l16', l17, l18, l19, l20, l21, l22, l23, l24, l25, l26, l27⟩ | ⟨S2, R2, dc2, ds2, l1, l2, l3, l4, l5⟩
    case inr =>
      rw [l1, l2, b2_some, if_pos rfl, wr4_some]
      exact .inr (.inl ⟨S2, _, _, 0, R2, rfl, .inl rfl, by omega, l3, by omega, by omega⟩)
    case inl =>
      have hb1 := l4.1.2.2.1
      have hm2 := l3.mp
      rw [l1, l2, b2_some, if_neg (ne_neg (by omega)), wr4_wr4]
      have kp2 : Kp b0 S S2 sz (sz + dc + dc2) vb vb1 := kpP.trans l27 (by omega)
      unfold entT
      rw [l3.ct.ifk, here_eq l4.1.1 hn (by omega), b1_some]
      rcases pr_take (N := N) (c := 61) hT g2 l3 l4 (by decide) with ⟨h1, h2, h3, h4, h5⟩ | ⟨h1, h2, h3⟩
      case inr =>
        unfold m_fail
        rw [h2, b2_some, if_pos rfl, if_neg h1, rP_eq, b1_some, b2_some, if_pos (.inl rfl), l4.1.1.2.1, wr4_some]
        exact .inr (.inl ⟨_, _, _, 0, _, rfl, .inl rfl, by omega, h3, by omega, by omega⟩)
      case inl =>
        rw [h3, b2_some, if_neg (show ¬ (1 : Int32) = 0 by decide), if_pos h1, rP_eq, b1_some, l4.1.1.2.1, I_1, h4.ct.ifk]
        obtain ⟨q3, b1', b2', b3', b4', b5', b6', b7'⟩ := pr_bl (N := N) hT (by omega) (show q + 1 ≤ n by omega) h4 h5
        rw [b4', b1_some, b5', b1_some, b6'.ct.ifk]
        -- the value's place in the path
        have e20 : (Rw (Rw R2 3 (I (q + 1))) 3 (I q3)).1 20 - 1 = I (ps.length - 1) := by
          rw [Rw_1n _ _ (by decide), Rw_1n _ _ (by decide), l16, g8, show (1 : Int32) = I 1 from rfl, I_sub (by omega)]
        rw [e20]
        have hPY : PY (Rw (Rw R2 3 (I (q + 1))) 3 (I q3)) hb u1 (I (ps.length - 1)) (some x.2) := .inr ⟨ps.length - 1, x, ps, rfl, rfl, l15.mv rfl, by omega, l17⟩
        have hd2 : (Rw (Rw R2 3 (I (q + 1))) 3 (I q3)).1 26 = I dd := by
          rw [Rw_1n _ _ (by decide), Rw_1n _ _ (by decide), l16, g13]; exact hdd
        have hO := hV _ _ vb1 e2 (sz + dc + dc2) T2 T2' kd2 ad2 m2 u1 xs2 q3 lo t2 (I (ps.length - 1)) (some x.2) b6' b7' l5 b2' l8 l9 (lt64 l10) hd2 hPY
        have h1718 : ∀ i, (Rw (Rw R2 3 (I (q + 1))) 3 (I q3)).2 17 i = R.2 17 i ∧ (Rw (Rw R2 3 (I (q + 1))) 3 (I q3)).2 18 i = R.2 18 i := by
          intro i
          exact ⟨(l16' 17 i (by decide)).trans (g13' i), (l16' 18 i (by decide)).trans (g13'' i)⟩
        have h26 : (Rw (Rw R2 3 (I (q + 1))) 3 (I q3)).1 26 = R.1 26 := by rw [hd2, hdd]
        -- the reference's entry is the value's beginning
        have two : ∀ {M : Option (Int32 × rS)} {k : Nat} {R9 : rS}, RG N M k R9 ∨ RF N M k R9 → (b2 M (fun x14 S15 => if x14 = 0 ∨ x14 = 1 then (some (x14, S15)) else none)) = M := by
          intro M k R9 h
          apply two_id
          intro x R' e
          rcases h with ⟨R1', h, -⟩ | h | ⟨R1', h, -⟩
          · rw [h] at e; cases e; exact .inr rfl
          · rw [h] at e; cases e; exact .inl rfl
          · rw [h] at e; cases e; exact .inr rfl
        obtain ⟨lS3, hS3⟩ := l3.1
        have kp3 : Kp b0 S (sI (sI S2 rd 6 (I (q + 1))) rd 6 (I q3)) sz (sz + dc + dc2) vb vb1 := kp2.trans (Kp.fr hS3 ((FrC.mv S2 (.inl rfl) _).trans (FrC.mv _ (.inl rfl) _) (Nat.le_refl _) (.inl rfl)) (Nat.le_refl _) (.inl rfl)) (by omega)
        -- the step and its name, behind the value
        have kpV : Kp b0 S2 (sI (sI S2 rd 6 (I (q + 1))) rd 6 (I q3)) (sz + dc + dc2) (sz + dc + dc2) vb1 vb1 := Kp.fr hS3 ((FrC.mv S2 (.inl rfl) _).trans (FrC.mv _ (.inl rfl) _) (Nat.le_refl _) (.inl rfl)) (Nat.le_refl _) (.inl rfl)
        -- the class links the value
        have link : ∀ (q4 : Nat) (S4 : cS) (vb4 e4 dc4 ds4 : Nat) (T4 : Ar) (kd4 : Nat → List Nat) (ad4 : Nat → Nat) (m4 : Nat) (ys4 : List Nat) (C : Option (Option Nat × cS × Nat × Nat)), VC b0 K rd sb al t n sz0 S0 (sI (sI S2 rd 6 (I (q + 1))) rd 6 (I q3)) vb1 (sz + dc + dc2) T2 kd2 ad2 m2 xs2 q3 q4 S4 vb4 e4 dc4 ds4 T4 kd4 ad4 m4 ys4 C →
            ∃ S5, (b1 (gR b0 K S4 3 0 a2) (fun q23 => b1 (pR b0 S4 2 3 (ad4 m2) q23) (fun S25 => ifk b0 K S25 2 (ad2 t2) (b1 (x_N_add N b0 K (ad2 t2) (some (ad4 m2)) S25) (fun S28 => some ((1 : Int32), S28, (0 : Nat), (0 : Nat))))))) = some (1, S5, 0, 0) ∧ BC b0 K rd sb al t n sz0 S0 S5 vb4 e4 (sz + dc + dc2 + dc4) (arL (arY T4 m2 (some x.2)) t2 m2) (va_up kd4 t2 (kd4 t2 ++ [m2])) ad4 m4 (xs2 ++ ys4) q4 ∧ Kp b0 S S5 sz (sz + dc + dc2 + dc4) vb vb4 ∧ Blw lo T2 (arL (arY T4 m2 (some x.2)) t2 m2) ∧ KX lo T2 (arL (arY T4 m2 (some x.2)) t2 m2) m2 m4 ys4 ∧ (∀ i, i < lo → va_up kd4 t2 (kd4 t2 ++ [m2]) i = kd2 i) := by
          rintro q4 S4 vb4 e4 dc4 ds4 T4 kd4 ad4 m4 ys4 C ⟨w1, w2, w3, w4, w5, w6, w7, w8, w9, w10, w11, w12, w13, w14⟩
          obtain ⟨a1, a2', a3, a4, a5, a6⟩ := w7 t2 l9
          have ks := (kpV.trans w12 (Nat.le_refl _)).1 a2 l20 l18
          have hstr := (kpV.trans w12 (Nat.le_refl _)).2 s x.2 l22
          have nm := w4.rel.1 m2 (by omega)
          rw [gR_own (.inl l19) (by rw [ks.1]; exact l18), ks.2.2.2, l21, b1_some, pR_own nm.1 nm.2.2.1, b1_some]
          have hlast : ∀ a, a ∈ kd4 t2 → a < m2 := by
            intro a ha
            rw [a6] at ha
            obtain ⟨j, hj⟩ := List.getElem?_of_mem ha
            exact ((l3.wf.1 t2 l9).2.2.1 j a hj).2.2.2
          obtain ⟨S5, f1, f2, f3⟩ := w4.lnk (N := N) (S' := sR S4 (ad4 m2) 3 (some s)) (hd := t2) (v := m2) (y := some x.2) l9 w5 (by rw [a1]; exact lt64 l10) w8 hlast ⟨fun _ => by rw [a1]; exact l10, fun _ => by simp⟩ (fun g => by rw [a1] at g; rw [g] at l10; exact absurd l10 (by decide)) (.inr ⟨s, x.2, rfl, hstr, rfl⟩)
          have eav : ad4 t2 = ad2 t2 := w6 t2 l9
          rw [eav] at f1
          obtain ⟨o1, -, o3, -⟩ := w4.rel.1 t2 (by omega)
          rw [eav] at o1 o3
          rw [ifk_own o1 (by exact o3), f1, b1_some]
          refine ⟨S5, rfl, f2, kp3.trans (w12.trans (Kp.nodes w4 f3) (by omega)) (by omega), ?_, ?_, fun i hi => by rw [va_ne _ _ (by omega)]; exact (w7 i (by omega)).2.2.2.2.2⟩
          · obtain ⟨c1, c2, c3, c4, c5, c6⟩ := w7 lo (by omega)
            have hB1 : Blw lo T2 T4 := ⟨fun i hi => by
              obtain ⟨c1, c2, c3, c4, c5, c6⟩ := w7 i (by omega)
              exact ⟨c1, c2, c3, c4, c5⟩, c1, by rw [c3], by rw [c3], c5⟩
            refine hB1.trans (blw_link T4 l8 l9 (fun a ha => ?_) (some x.2))
            rw [a3] at ha
            exact last_lo l3.wf l9 l8 a ha
          · refine ⟨fun i hi => (w7 i hi).1, fun z hz => ?_, w11⟩
            obtain ⟨b1', b2', b3'⟩ := w10 z hz
            exact ⟨by omega, b2', b3'⟩
        rcases hO with ⟨q4, S4, vb4, e4, dc4, ds4, T4, kd4, ad4, m4, ys4, k, R4, T4', u4, hVC, r1, r2, r3, r4, r5, r6, r7⟩ | ⟨S4, dc4, ds4, k, R4, w1, w2, w3, w4, w5, w6⟩ | ⟨q4, S4, vb4, e4, dc4, ds4, T4, kd4, ad4, m4, ys4, k, R4, hVC, w4, w5, w6, w7, w8, w9⟩
        · obtain ⟨S5, j1, j2, j3, j4, j5, j6⟩ := link q4 S4 vb4 e4 dc4 ds4 T4 kd4 ad4 m4 ys4 _ hVC
          obtain ⟨w1, w2, w3, w4, w5, w6, -, -, -, -, -, -, w13, w14⟩ := hVC
          rw [w1, b4_some, om_some, j1, wr4_some, wr4_some, two (.inl r1)]
          have ez : sz + (dc + dc2 + (dc4 + 0)) = sz + dc + dc2 + dc4 := by omega
          refine .inl ⟨q4, S5, vb4, e4, dc + dc2 + (dc4 + 0), ds + ds2 + (ds4 + 0), _, _, ad4, m4, ys ++ ys4, k, R4, T4', u4, rfl, by omega, w3, by rw [ez, ← List.append_assoc, ← l14]; exact j2, by omega, fun i hi => by rw [w6 i (by omega), l26 i hi], l6.trans j4, fun i hi => by rw [j6 i hi, l25 i hi], l14'.trans j5 l11 (by omega), by rw [ez]; exact j3, by omega, by omega, r1, by omega, r3, r4, l7.trans r5, r6.trans h26, fun i hi => ⟨(r7 i hi).1.trans (h1718 i).1, (r7 i hi).2.trans (h1718 i).2⟩⟩
        · rw [w1, b4_some, om_none, wr4_some, wr4_some, two (.inr w2)]
          exact .inr (.inl ⟨S4, _, _, k, R4, rfl, w2, by omega, w4, by omega, by omega⟩)
        · obtain ⟨S5, j1, j2, j3, j4, j5, j6⟩ := link q4 S4 vb4 e4 dc4 ds4 T4 kd4 ad4 m4 ys4 _ hVC
          obtain ⟨w1, w2, w3, w4', w5', w6', -, -, -, -, -, -, w13, w14⟩ := hVC
          rw [w1, b4_some, om_some, j1, wr4_some, wr4_some, two (.inr w6)]
          have ez : sz + (dc + dc2 + (dc4 + 0)) = sz + dc + dc2 + dc4 := by omega
          exact .inr (.inr ⟨q4, S5, vb4, e4, dc + dc2 + (dc4 + 0), ds + ds2 + (ds4 + 0), _, _, ad4, m4, xs2 ++ ys4, k, R4, rfl, by omega, w4, w5, by rw [ez]; exact j2, w6, by omega, w8, w9, by omega, by omega⟩)
end
