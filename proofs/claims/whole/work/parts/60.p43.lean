section
variable {b0 N : Nat} {K S S' : cS} {rd sb al vb vb' sz sz' sz0 : Nat} {t : Nat → Int32} {n p q : Nat} {R R' : rS} {l : List Int32} {hb u0 u : Nat} {T T' : Ar} {ad : Nat → Nat} {m lo e : Nat} {kd : Nat → List Nat} {xs : List Nat} {S0 : cS} {R0 : rS}
theorem WF.root (h : WF T kd m) (h0 : 0 < m) : T.2.2.1 0 4 = none := by
  cases h4 : T.2.2.1 0 4 with
  | none => rfl
  | some hd =>
    obtain ⟨a, b⟩ := h.2.2.1 0 hd h0 h4
    obtain ⟨j, hj⟩ := List.getElem?_of_mem b
    have := ((h.1 hd a).2.2.1 j 0 hj).2.2.1
    omega
/-- The document's field is read: the end. -/
theorem doc_end (hC : BC b0 K rd sb al t n sz0 S0 S vb e sz T kd ad m xs p) (hdoc : S0.2.2.2 rd 4 = some (ad 0)) (k ln : Nat) : x_R_readDocument_4 N b0 K (k + 1) rd 0 (I ln) sz S = some (some (ad 0), S, 0, 0) := by
  unfold x_R_readDocument_4 x_R_readDocument_4F x_R_readDocument_115
  have h21 := hC.2.2.2.2.2.2.2.2.2.2.2.2.2.2.2.2.2.2.2.2
  rw [if_pos rfl, gR_own (.inl hC.ct.1) hC.kinds.1, h21, hdoc, b1_some]
theorem pr_doc_i (hK : KF b0 K) (hT : Tx t n) (hN : 200000 ≤ N) :
    ∀ (d p k f ln : Nat) (S0 S : cS) (R : rS) (vb e sz : Nat) (T T' : Ar) (kd : Nat → List Nat) (ad : Nat → Nat) (m u tt : Nat) (xs : List Nat), n - p ≤ d → n - p + 2 < k → n - p + 1 < f → p ≤ n → ln ≤ p → BC b0 K rd sb al t n sz0 S0 S vb e sz T kd ad m xs p → BR t n hb R0 R T' m u p → Agr 0 T T' m → tt < m → 6 < T.1 tt → 0 < m → 6 < T.1 0 → S0.2.2.2 rd 4 = some (ad 0) → S0.2.2.2 rd 5 = some (ad tt) → T'.2.2.1 0 4 = none → T'.2.2.2.2 0 = none →
    DOut b0 N K rd sb al t n sz0 S0 hb R0 sz ad p (x_R_readDocument_4 N b0 K k rd 1 (I ln) sz S) (m_read_53 N f (I (260 * hb + tt)) R) := by
  have hn := hT.1
  intro d
  induction d with
  | zero =>
    intro p k f ln S0 S R vb e sz T T' kd ad m u tt xs hd hk hf hp hln hC hR hA htt hktt h0 hk0 hdoc hop hr1 hr2
    have hpn : p = n := by omega
    subst hpn
    obtain ⟨k, rfl⟩ : ∃ j, k = j + 2 := ⟨k - 2, by omega⟩
    obtain ⟨f, rfl⟩ : ∃ j, f = j + 1 := ⟨f - 1, by omega⟩
    have href : m_read_53 N (f + 1) (I (260 * hb + tt)) R = m_read_78 N (I (260 * hb + tt)) R := by
      unfold m_read_53 m_read_53F
      rw [hR.1.1.1, hR.1.1.2.1, if_pos (I_le1 (Nat.le_refl _) (by omega))]
    rw [href]
    obtain ⟨q1, h1, h2, h3, h4, h5, h6, h7⟩ := pr_bl (N := N) hT (by omega) hp hC hR
    have hq1 : q1 = p := by omega
    subst hq1
    have hS1 : sI S rd 6 (I q1) = S := hC.ct.stay
    rw [hS1] at h4
    unfold x_R_readDocument_4 x_R_readDocument_4F
    rw [if_neg (show ¬ (1 : Int32) = 0 by decide), if_neg (show ¬ (240 : Int32) < I ln from I_lt0 (a := 240) (by omega) (by omega)), hC.ct.ifk, h4, b1_some, hC.ct.ifk, peek_eq hC.ct hn (by omega), b1_some, pk_out (Nat.lt_irrefl _)]
    unfold x_R_saysNothing x_R_readDocument_60
    rw [if_pos rfl, b1_some, if_neg (show ¬ (1 : Int32) = 0 by decide)]
    rcases line_end (N := N) hT (by omega) hp hC hR (I (260 * hb + tt)) (k + 1) ln with ⟨q, g1, g2, -⟩ | ⟨g1, g2⟩ | ⟨S1, R1, g1, g2, g3⟩
    · omega
    · rw [g1, hS1, doc_end hC hdoc k (ln + 1)]
      exact .inl ⟨q1, S, vb, e, 0, 0, T, kd, ad, m, xs, R, T', u, q1, tt, S0, rfl, by omega, hC, fun a _ => Same.refl S0 a, h0, rfl, hk0, hA, hr1, hr2, hC.wf.root h0, hR, by omega, htt, rfl, by omega, by omega⟩
    · -- nothing is left: no fault
      exfalso
      unfold m_line_74 at g2
      rw [h5, b1_some] at g2
      have hh := here_eq (N := N) h7.1.1 hn (show q1 ≤ 1000 by omega)
      rw [hh, b1_some, ch_out (Nat.lt_irrefl _), if_neg (by decide)] at g2
      unfold m_line_91 m_line_121 at g2
      rw [h7.1.1.1, h7.1.1.2.1, if_pos (I_le1 (Nat.le_refl _) (by omega)), rP_eq, b1_some] at g2
      have := congrArg (fun o => o.map Prod.fst) g2
      simp only [Option.map_some, Option.some.injEq] at this
      have hb1 := hR.1.2.2.1
      have hmp := hC.mp
      exact ne_neg (by omega) this
  | succ d ih =>
    intro p k f ln S0 S R vb e sz T T' kd ad m u tt xs hd hk hf hp hln hC hR hA htt hktt h0 hk0 hdoc hop hr1 hr2
    by_cases hpn : p < n
    case neg => exact ih p k f ln S0 S R vb e sz T T' kd ad m u tt xs (by omega) hk hf hp hln hC hR hA htt hktt h0 hk0 hdoc hop hr1 hr2
    obtain ⟨k, rfl⟩ : ∃ j, k = j + 3 := ⟨k - 3, by omega⟩
    obtain ⟨f, rfl⟩ : ∃ j, f = j + 1 := ⟨f - 1, by omega⟩
    have hb1 := hR.1.2.2.1
    have hmp := hC.mp
    have htn : ¬ I (260 * hb + tt) = -1 := ne_neg (by omega)
    have href : m_read_53 N (f + 1) (I (260 * hb + tt)) R = b2 (m_line N (I (260 * hb + tt)) R) (fun x2 S3 => m_read_53 N f x2 S3) := by
      conv => lhs; unfold m_read_53 m_read_53F
      rw [hR.1.1.1, hR.1.1.2.1, if_neg (I_le0 hpn (by omega)), if_neg htn]
    rw [href]
    -- a line that failed
    have hstop : ∀ (R1 : rS), m_read_53 N f (-1) R1 = m_read_78 N (-1) R1 := by
      intro R1
      obtain ⟨f, rfl⟩ : ∃ j, f = j + 1 := ⟨f - 1, by omega⟩
      unfold m_read_53 m_read_53F
      by_cases g : R1.1 1 ≤ R1.1 3
      · rw [if_pos g]
      · rw [if_neg g, if_pos rfl]
    obtain ⟨q1, h1, h2, h3, h4, h5, h6, h7⟩ := pr_bl (N := N) hT (by omega) hp hC hR
    unfold x_R_readDocument_4 x_R_readDocument_4F m_line
    rw [h5, b1_some, here_eq h7.1.1 hn (by omega), b1_some, if_neg (show ¬ (1 : Int32) = 0 by decide), if_neg (show ¬ (240 : Int32) < I ln from I_lt0 (a := 240) (by omega) (by omega)), hC.ct.ifk, h4, b1_some, h6.ct.ifk, peek_eq h6.ct hn (by omega), b1_some]
    -- what follows a line's content
    have tail : ∀ (S0' S1 : cS) (R1 : rS) (vb1 e1 dc ds : Nat) (T1 T1' : Ar) (kd1 : Nat → List Nat) (ad1 : Nat → Nat) (m1 u1 tt1 : Nat) (xs1 : List Nat) (q : Nat), p ≤ q → q ≤ n → BC b0 K rd sb al t n sz0 S0' S1 vb1 e1 (sz + dc) T1 kd1 ad1 m1 xs1 q → BR t n hb R0 R1 T1' m1 u1 q → Agr 0 T1 T1' m1 → tt1 < m1 → 6 < T1.1 tt1 → 0 < m1 → 6 < T1.1 0 → S0'.2.2.2 rd 4 = some (ad1 0) → S0'.2.2.2 rd 5 = some (ad1 tt1) → T1'.2.2.1 0 4 = none → T1'.2.2.2.2 0 = none → ad1 0 = ad 0 → (∀ a, a < sz0 → Same S0 S0' a) → dc ≤ 12 * (q - p) → ds ≤ 500 * (q - p) →
        DOut b0 N K rd sb al t n sz0 S0 hb R0 sz ad p (wr4 dc ds (x_R_readDocument_65 N b0 K (x_R_readDocument_4 N b0 K (k + 2)) rd (I ln) 1 (sz + dc) S1)) (b2 (m_line_74 N (I (260 * hb + tt1)) R1) (fun x2 S3 => m_read_53 N f x2 S3)) := by
      intro S0' S1 R1 vb1 e1 dc ds T1 T1' kd1 ad1 m1 u1 tt1 xs1 q hq hqn c1 c2 c3 c4 c5 c6 c7 c8 c9 c10 c11 c12 c13 c14 c15
      rcases line_end (N := N) hT (by omega) hqn c1 c2 (I (260 * hb + tt1)) (k + 2) ln with ⟨q2, g1, g2, g3, g4⟩ | ⟨g1, g2⟩ | ⟨S2, R2, g1, g2, g3⟩
      · rw [g3, g4, b2_some]
        have hrec := ih (q2 + 1) (k + 2) f (ln + 1) S0' _ _ vb1 e1 (sz + dc) T1 T1' kd1 ad1 m1 u1 tt1 xs1 (by omega) (by omega) (by omega) (by omega) (by omega) (c1.mv (q := q2 + 1) (by omega)) (c2.mv (q := q2 + 1) (by omega)) c3 c4 c5 c6 c7 c8 c9 c10 c11
        exact DOut.step hrec c13 c12 (by omega) (by omega) (by omega) (by omega)
      · rw [g1, g2, b2_some]
        obtain ⟨f, rfl⟩ : ∃ j, f = j + 1 := ⟨f - 1, by omega⟩
        have hCn := c1.mv (q := n) hqn
        have hRn := c2.mv (q := n + 1) (by omega)
        have href2 : m_read_53 N (f + 1) (I (260 * hb + tt1)) (Rw R1 3 (I (n + 1))) = m_read_78 N (I (260 * hb + tt1)) (Rw R1 3 (I (n + 1))) := by
          unfold m_read_53 m_read_53F
          rw [hRn.1.1.1, hRn.1.1.2.1, if_pos (I_le1 (by omega) (by omega))]
        rw [href2, doc_end hCn c8 (k + 1) (ln + 1), wr4_some]
        exact .inl ⟨n, _, vb1, e1, dc + 0, ds + 0, T1, kd1, ad1, m1, xs1, _, T1', u1, n + 1, tt1, S0', by rw [c12], Nat.le_refl _, hCn, c13, c6, c12, c7, c3, c10, c11, c1.wf.root c6, hRn, by omega, c4, rfl, by omega, by omega⟩
      · rw [g1, g2, b2_some, hstop, wr4_some]
        exact .inr ⟨S2, _, _, R2, rfl, rfl, g3.base c13, by omega, by omega⟩
    have h21 := h6.2.2.2.2.2.2.2.2.2.2.2.2.2.2.2.2.2.2.2.2
    unfold x_R_saysNothing x_R_readDocument_60 x_R_readDocument_64
    by_cases h91 : ch t n q1 = 91
    · -- a header
      have hq1n : q1 < n := by
        rcases Nat.lt_or_ge q1 n with g | g
        · exact g
        · rw [ch_out (by omega)] at h91; exact absurd h91 (by decide)
      have e91 := (pkEq (t := t) (n := n) (p := q1) 91 (by decide) (by decide)).2 h91
      rw [e91, h91, if_neg (show ¬ (91 : Int32) = -1 by decide), if_neg (show ¬ (91 : Int32) = 10 by decide), if_neg (show ¬ (91 : Int32) = 35 by decide), b1_some, if_pos rfl, h6.ct.ifk, b1_some, if_pos rfl, if_pos rfl, h6.ct.ifk]
      rcases pr_header (N := N) hT hN hq1n h6 h7 hA hdoc h0 hk0 with ⟨q, S1, R1, dc, ds, T1, T1', kd1, ad1, m1, tt1, e1, vb1, u1, g1, g2, g3, g4, g5, g6, g7, g8, g9, g10, g11, g12, g13, g14, g15⟩ | ⟨S1, R1, dc, ds, g1, g2, g3, g4, g5⟩
      · rw [g3, g4, b4_some, b2_some, if_neg (show ¬ (1 : Int32) = 0 by decide), if_neg (ne_neg (by have := g5.mp; omega))]
        have e0 := g14 0 h0
        refine tail _ S1 R1 vb1 e1 dc ds T1 T1' kd1 ad1 m1 u1 tt1 xs q (by omega) g2 g5 g6 g7 g8 g9 g10 (g13 0 h0 hk0) ?_ ?_ ?_ ?_ e0 (fun a ha => Same.sR _ ?_) (by omega) (by omega)
        · show up2 _ _ _ _ _ _ = _; rw [up2_nn _ _ (.inr (by decide)), e0]; exact hdoc
        · show up2 _ _ _ _ _ _ = _; rw [up2_at]
        · rw [g15.2.2.1]; exact hr1
        · rw [g15.2.2.2.2]; exact hr2
        · have : sz0 ≤ rd := by obtain ⟨_, _, _, _, _, _, _, _, _, _, _, h, _⟩ := hC; exact h
          omega
      · rw [g1, g2, b4_some, b2_some, if_pos rfl, if_pos rfl, b2_some, hstop]
        unfold x_R_readDocument_65
        rw [if_pos rfl, wr4_some]
        exact .inr ⟨S1, _, _, R1, rfl, rfl, g3, by omega, by omega⟩
    · have g91 := fun g => h91 ((pkEq (t := t) (n := n) (p := q1) 91 (by decide) (by decide)).1 g)
      rw [if_neg h91]
      by_cases hno : ¬ q1 < n ∨ ch t n q1 = 10 ∨ ch t n q1 = 35
      · -- nothing is said
        have hc : (if pk t n q1 = -1 then some (1 : Int32) else if pk t n q1 = 10 then some 1 else if pk t n q1 = 35 then some 1 else some 0) = some 1 := by
          rcases hno with g | g | g
          · rw [if_pos (pk_out g)]
          · rw [(pkEq 10 (by decide) (by decide)).2 g]; decide
          · rw [(pkEq 35 (by decide) (by decide)).2 g]; decide
        have hr : ∀ (A B : Option (Int32 × rS)), (if (Rw R 3 (I q1)).1 1 ≤ (Rw R 3 (I q1)).1 3 then A else if ch t n q1 = 10 then A else if ch t n q1 = 35 then A else B) = A := by
          intro A B
          rw [h7.1.1.1, h7.1.1.2.1]
          rcases hno with g | g | g
          · rw [if_pos (I_le1 (by omega) (by omega))]
          · rw [if_pos g, ite_self]
          · rw [if_pos g, ite_self, ite_self]
        rw [hc, b1_some, if_neg (show ¬ (1 : Int32) = 0 by decide), hr]
        have := tail S0 _ _ vb e 0 0 T T' kd ad m u tt xs q1 h1 h2 h6 h7 hA htt hktt h0 hk0 hdoc hop hr1 hr2 rfl (fun a _ => Same.refl S0 a) (by omega) (by omega)
        rw [wr4_00] at this
        exact this
      · -- an entry
        have hq1n : q1 < n := by
          rcases Nat.lt_or_ge q1 n with g | g
          · exact g
          · exact absurd (.inl (by omega)) hno
        have h10 : ¬ ch t n q1 = 10 := fun g => hno (.inr (.inl g))
        have h35 : ¬ ch t n q1 = 35 := fun g => hno (.inr (.inr g))
        have hc : (if pk t n q1 = -1 then some (1 : Int32) else if pk t n q1 = 10 then some 1 else if pk t n q1 = 35 then some 1 else some 0) = some 0 := by
          rw [if_neg (by rw [pkIn hq1n]; exact hT.nem hq1n), if_neg (fun g => h10 ((pkEq 10 (by decide) (by decide)).1 g)), if_neg (fun g => h35 ((pkEq 35 (by decide) (by decide)).1 g))]
        rw [hc, b1_some, if_pos rfl, h6.ct.ifk, b1_some, if_neg g91, gR_own (.inl h6.ct.1) h6.kinds.1, h21, hop, b1_some, h6.ct.ifk, h7.1.1.1, h7.1.1.2.1, if_neg (I_le0 hq1n (by omega)), if_neg h10, if_neg h35, rP_eq, b1_some]
        have hV := val_all (N := N) (rd := rd) (sb := sb) (al := al) (sz0 := sz0) (S0 := S0) (hb := hb) (R0 := R0) hK hT hN 8 0 rfl (by omega)
        have hR0' := h7.dep (0 : Int32)
        have hO := pr_entry (N := N) hK hT hN hV h2 h6 hR0' hA (Nat.zero_le tt) htt hktt (Rw_1 _ _ _)
        rw [show (I 0 : Int32) = 0 from rfl] at hO
        -- the reference behind the entry
        rcases hO with ⟨q, S1, vb1, e1, dc, ds, T1, kd1, ad1, m1, ys, kk, R2, T1', u1, o1, o2, o3, o4, o5, o6, o7, o8, o9, o10, o11, o12, r1, r2, r3, r4, r5, r6, r7⟩ | ⟨S1, dc, ds, kk, R2, o1, o2, o3, o4, o5, o6⟩ | ⟨q, S1, vb1, e1, dc, ds, T1, kd1, ad1, m1, zs', kk, R2, o1, o2, o3, o4, o5, o6, o7, o8, o9, o10, o11⟩
        · rw [o1, b4_some, if_neg (show ¬ (1 : Int32) = 0 by decide)]
          obtain ⟨R1, c1, c2⟩ := r1
          have hfin : m_finishValue N R1 = some (1, R2) := by
            unfold m_finishValue
            rw [c2 N (by omega)]
            obtain ⟨N', hN'⟩ : ∃ j, N - kk = j + 1 := ⟨N - kk - 1, by omega⟩
            rw [hN']
            unfold m_finishValue_2 m_finishValue_2F
            rw [r6, Rw_1, if_pos (by decide), if_pos (.inr rfl)]
          rw [c1, b2_some, if_neg (show ¬ (1 : Int32) = 0 by decide), hfin, b2_some, if_neg (show ¬ (1 : Int32) = 0 by decide)]
          have e0 := o6 0 h0
          exact tail S0 S1 R2 vb1 e1 dc ds T1 T1' kd1 ad1 m1 u1 tt (xs ++ ys) q (by omega) o3 o4 r3 r4 (by omega) (by rw [o9.1 tt htt]; exact hktt) (by omega) (by rw [o9.1 0 h0]; exact hk0) (by rw [e0]; exact hdoc) (by rw [o6 tt htt]; exact hop) (by rw [r5.2.2.1]; exact hr1) (by rw [r5.2.2.2.2]; exact hr2) e0 (fun a _ => Same.refl S0 a) (by omega) (by omega)
        · rw [o1, b4_some, if_pos rfl]
          unfold x_R_readDocument_65
          rw [if_pos rfl, wr4_some]
          have hline : (b2 (m_entry N (I (260 * hb + tt)) (Rw (Rw R 3 (I q1)) 26 0)) (fun x8 S9 => if x8 = 0 then (some ((-1 : Int32), S9)) else (b2 (m_finishValue N S9) (fun x11 S12 => if x11 = 0 then (some ((-1), S12)) else (m_line_74 N (I (260 * hb + tt)) S12))))) = some (-1, R2) := by
            rcases o2 with o2 | ⟨R1, o2, o2'⟩
            · rw [o2, b2_some, if_pos rfl]
            · rw [o2, b2_some, if_neg (show ¬ (1 : Int32) = 0 by decide)]
              unfold m_finishValue
              rw [o2' N (by omega), b2_some, if_pos rfl]
          rw [hline, b2_some, hstop]
          exact .inr ⟨S1, _, _, R2, rfl, rfl, o4, by omega, by omega⟩
        · rw [o1, b4_some, if_neg (show ¬ (1 : Int32) = 0 by decide)]
          have hline : (b2 (m_entry N (I (260 * hb + tt)) (Rw (Rw R 3 (I q1)) 26 0)) (fun x8 S9 => if x8 = 0 then (some ((-1 : Int32), S9)) else (b2 (m_finishValue N S9) (fun x11 S12 => if x11 = 0 then (some ((-1), S12)) else (m_line_74 N (I (260 * hb + tt)) S12))))) = some (-1, R2) := by
            rcases o6 with o2 | ⟨R1, o2, o2'⟩
            · rw [o2, b2_some, if_pos rfl]
            · rw [o2, b2_some, if_neg (show ¬ (1 : Int32) = 0 by decide)]
              unfold m_finishValue
              rw [o2' N (by omega), b2_some, if_pos rfl]
          rw [hline, b2_some, hstop]
          -- the class stops at the line's end
          unfold x_R_readDocument_65
          rw [if_neg (show ¬ (1 : Int32) = 0 by decide), o5.ct.ifk, bl_dgu hT (by omega) o5.ct o3 o4, b1_some, o5.ct.ifk]
          have hsc : x_R_skipComment N b0 K rd S1 = some S1 := by
            unfold x_R_skipComment
            rw [o5.ct.ifk, peek_eq o5.ct hn (by omega), b1_some, pkIn o3, if_neg (show ¬ t q = (35 : Int32) from dgu_ne (k := 35) o4 (by omega) (by omega))]
          rw [hsc, b1_some, o5.ct.ifk, peek_eq o5.ct hn (by omega), b1_some, pkIn o3, if_neg (hT.nem o3)]
          unfold x_R_readDocument_93
          rw [if_neg (show ¬ (1 : Int32) = 0 by decide), o5.ct.ifk, take_eq o5.ct hn (by omega) _ (by decide), ch_in o3, if_neg (show ¬ t q = (10 : Int32) from dgu_ne (k := 10) o4 (by omega) (by omega)), b2_some, if_pos rfl, wr4_some]
          refine .inr ⟨_, _, _, R2, rfl, rfl, ?_, by omega, by omega⟩
          exact o5.bad (S' := sI S1 rd 7 (I q)) (R := R2) (R' := R2) o9 (FrC.mv S1 (.inr rfl) _) (GR.refl R2) (w := q) (by omega) (by show up2 _ _ _ _ _ _ = _; rw [up2_at]) o8
end
