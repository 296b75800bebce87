section
variable {b0 N : Nat} {K S S' : cS} {rd sb al vb vb' sz sz' sz0 : Nat} {t : Nat → Int32} {n p q : Nat} {R R' : rS} {l : List Int32} {hb u0 u : Nat} {T T' : Ar} {ad : Nat → Nat} {m lo e : Nat} {kd : Nat → List Nat} {xs : List Nat} {S0 : cS} {R0 : rS}
theorem isTabC (hC : BC b0 K rd sb al t n sz0 S0 S vb e sz T kd ad m xs p) {v : Nat} (hv : v < m) : x_N_isTable N b0 K (ad v) S = some (if T.1 v < 7 then 0 else 1) := by
  have nv := hC.rel.1 v hv
  unfold x_N_isTable
  rw [gI_own nv.1 nv.2.2.1, nv.2.2.2.1]
  simp only [b1_some]
  split <;> rfl
theorem le67 (x : Int32) : (x ≤ 6) ↔ x < 7 := by
  rw [Int32.le_iff_toInt_le, Int32.lt_iff_toInt_lt]
  have e7 : (7 : Int32).toInt = 7 := by decide
  have e6 : (6 : Int32).toInt = 6 := by decide
  omega
theorem nlt7 {x : Int32} (h : ¬ x < 7) : 6 < x := by
  rw [Int32.lt_iff_toInt_lt] at h ⊢
  have e7 : (7 : Int32).toInt = 7 := by decide
  have e6 : (6 : Int32).toInt = 6 := by decide
  omega
/-- A kind is changed in both. -/
theorem BR.kind (h : BR t n hb R0 R T' m u p) {v : Nat} (hv : v < m) (hm : m ≤ 260) {k : Int32} (hk : 4 < k) (ho : 4 < T'.1 v) : BR t n hb R0 (Ra R 3 (260 * hb + v) k) (arK T' v k) m u p := by
  obtain ⟨r1, r2, r3, r4, r5⟩ := h
  have hb1 := r1.2.2.1
  refine ⟨r1.ra (by decide) _ _, by rw [Ra_ne _ (.inl (by decide))]; exact r2, r3, ⟨fun i hi => ?_, r4.2⟩, r5.trans (GR.ra R (.inl (by omega)) _)⟩
  have h13 : ∀ i, (Ra R 3 (260 * hb + v) k).2 13 i = R.2 13 i := fun i => Ra_ne _ (.inl (by decide))
  by_cases e : i = v
  · subst e
    obtain ⟨a1, a2, a3, a4, a5, a6, a7, a8, a9⟩ := r4.1 i hi
    have w : ∀ g, g ≠ 3 → (Ra R 3 (260 * hb + i) k).2 g (260 * hb + i) = R.2 g (260 * hb + i) := fun g hg => Ra_ne _ (.inl hg)
    have t1 : (arK T' i k).1 i = k := va_at_ _ _ _
    refine ⟨by rw [Ra_at]; exact t1.symm, fun _ => by rw [w 9 (by decide)]; exact a2 (.inr ho), fun g => absurd (.inr (by rw [t1]; exact hk)) g, by rw [w 5 (by decide)]; exact a4, by rw [w 6 (by decide)]; exact a5, fun j e => by rw [w 7 (by decide)]; exact a6 j e, by rw [w 8 (by decide)]; exact a7, fun ls e => ?_, fun ls e => ?_⟩
    · have := (a8 ls e).1
      rw [this] at ho; exact absurd ho (by decide)
    · obtain ⟨b1', b2'⟩ := a9 ls e
      exact ⟨by rw [w 10 (by decide)]; exact b1'.keep (fun i _ _ => h13 i) (Nat.le_refl _), by rw [w 11 (by decide)]; exact b2'⟩
  · obtain ⟨a1, a2, a3, a4, a5, a6, a7, a8, a9⟩ := (r4.1 i hi).keep (R' := Ra R 3 (260 * hb + v) k) (u' := u) (fun g _ _ => Ra_ne _ (.inr (by omega))) (fun i _ _ => h13 i) (Nat.le_refl _)
    have t1 : (arK T' v k).1 i = T'.1 i := va_ne _ _ e
    refine ⟨a1.trans t1.symm, fun g => a2 (by rw [t1] at g; exact g), fun g => a3 (by rw [t1] at g; exact g), a4, a5, a6, a7, fun ls e => ?_, a9⟩
    obtain ⟨b1', b2', b3'⟩ := a8 ls e
    exact ⟨t1.trans b1', b2', b3'⟩
theorem lt7_4 {x : Int32} (h : 7 < x) : 4 < x := by
  rw [Int32.lt_iff_toInt_lt] at h ⊢
  have e7 : (7 : Int32).toInt = 7 := by decide
  have e4 : (4 : Int32).toInt = 4 := by decide
  omega
theorem BC.kind (h : BC b0 K rd sb al t n sz0 S0 S vb e sz T kd ad m xs p) {v : Nat} (hv : v < m) {k : Int32} (hk : k = 7 ∨ k = 8 ∨ k = 9 ∨ k = 10) (ho : 7 < T.1 v) : BC b0 K rd sb al t n sz0 S0 (sI S (ad v) 0 k) vb e sz (arK T v k) kd ad m xs p := by
  have H := h
  obtain ⟨⟨l, h1⟩, h2, h3, h4, h5, h6, h7, h8, h9, h10, h11, h12, h13, h14, h15, h16, h17, h18, h19, h20, h21⟩ := h
  refine H.chg (fun a ha hne => Same.sI _ (hne v hv)) (h6.putK hv k) (h7.kind hv hk ho) (Nat.le_refl _) h18 (Nat.le_refl _) (fun _ _ => rfl) h17 (fun i hi g => ?_)
  have g' : va_up T.1 v k i = 6 := g
  by_cases e : i = v
  · rw [e, va_at_] at g'; rcases hk with rfl | rfl | rfl | rfl <;> exact absurd g' (by decide)
  · rw [va_ne _ _ e] at g'; exact h20 i hi g'
theorem agr_kind (hA : Agr lo T T' m) (v : Nat) (k : Int32) : Agr lo (arK T v k) (arK T' v k) m := by
  intro i h1 h2
  obtain ⟨a1, a2, a3, a4, a5⟩ := hA i h1 h2
  refine ⟨?_, a2, a3, a4, a5⟩
  show va_up _ _ _ _ = va_up _ _ _ _
  by_cases e : i = v
  · rw [e, va_at_, va_at_]
  · rw [va_ne _ _ e, va_ne _ _ e, a1]
/-- What comes of a header's path. -/
def HOut (b0 : Nat) (K : cS) (rd sb al : Nat) (t : Nat → Int32) (n sz0 : Nat) (S0 : cS) (hb : Nat) (R0 : rS) (vb sz : Nat) (u p r m : Nat) (xs : List Nat) (R : rS) (T T' : Ar) (ad : Nat → Nat) (C : Option (Option Nat × cS × Nat × Nat)) (M : Option (Int32 × rS)) : Prop :=
  (∃ S1 R1 dc ds T1 T1' kd1 ad1 m1 tt e1, C = some (some (ad1 tt), S1, dc, ds) ∧ M = some (I (260 * hb + tt), R1) ∧ BC b0 K rd sb al t n sz0 S0 S1 vb e1 (sz + dc) T1 kd1 ad1 m1 xs p ∧ BR t n hb R0 R1 T1' m1 u p ∧ Agr 0 T1 T1' m1 ∧ tt < m1 ∧ 6 < T1.1 tt ∧ m ≤ m1 ∧ m1 ≤ m + r ∧ R1.1 = R.1 ∧ dc ≤ r ∧ ds ≤ 8 * r ∧ (∀ i, i < m → 6 < T.1 i → 6 < T1.1 i) ∧ (∀ i, i < m → ad1 i = ad i) ∧ Blw 0 T' T1') ∨
  (∃ S1 R1 dc ds, C = some (none, S1, dc, ds) ∧ M = some (-1, R1) ∧ Bad b0 rd n sz0 S0 S1 hb R0 R1 ∧ dc ≤ r ∧ ds ≤ 8 * r)
/-- The rest of a header's table: after the way to it. -/
def opT (N b0 : Nat) (K : cS) (rd : Nat) (rows : Int32) (a2 a1 : Nat) (sz : Nat) (S : cS) : Option (Option Nat × cS × Nat × Nat) := x_R_openTable_38 N b0 K rd rows (some a2) a1 sz S
def HLOut (b0 N : Nat) (K : cS) (rd sb al : Nat) (t : Nat → Int32) (n sz0 : Nat) (S0 : cS) (hb : Nat) (R0 : rS) (vb sz : Nat) (u p : Nat) (as : List Nat) (ps : List (Nat × List Int32)) (rows : Int32) (r m : Nat) (xs : List Nat) (R : rS) (T T' : Ar) (ad : Nat → Nat) (C : Option (Option Nat × cS × Nat × Nat)) (M : Option (Int32 × rS)) : Prop :=
  (∃ S1 R1 dc ds T1 T1' kd1 ad1 m1 tt a2 e1, C = wr4 dc ds (opT N b0 K rd rows (ad1 tt) a2 (sz + dc) S1) ∧ M = some (I (260 * hb + tt), R1) ∧ BC b0 K rd sb al t n sz0 S0 S1 vb e1 (sz + dc) T1 kd1 ad1 m1 xs p ∧ BR t n hb R0 R1 T1' m1 u p ∧ Agr 0 T1 T1' m1 ∧ tt < m1 ∧ 6 < T1.1 tt ∧ m ≤ m1 ∧ m1 ≤ m + r ∧ R1.1 = R.1 ∧ StpC b0 S1 as ps (sz + dc) vb ∧ PartR R1 hb u ps ∧ as[ps.length - 1]? = some a2 ∧ dc ≤ r ∧ ds ≤ 8 * r ∧ (∀ i, i < m → 6 < T.1 i → 6 < T1.1 i) ∧ (∀ i, i < m → ad1 i = ad i) ∧ Blw 0 T' T1') ∨
  (∃ S1 R1 dc ds, C = some (none, S1, dc, ds) ∧ M = some (-1, R1) ∧ Bad b0 rd n sz0 S0 S1 hb R0 R1 ∧ dc ≤ r ∧ ds ≤ 8 * r)
theorem pr_leadH (hT : Tx t n) (hN : 200000 ≤ N) {rows : Int32} {as : List Nat} {ps : List (Nat × List Int32)} (hps : ps.length ≤ 130) (hp : p ≤ n) (hpl : ∀ (i : Nat) (x : Nat × List Int32), ps[i]? = some x → x.1 ≤ n) :
    ∀ (r j f f' : Nat) (S : cS) (R : rS) (e sz : Nat) (T T' : Ar) (kd : Nat → List Nat) (ad : Nat → Nat) (m : Nat) (tt : Nat), j + r + 1 = ps.length → r + 1 < f → r + 1 < f' → BC b0 K rd sb al t n sz0 S0 S vb e sz T kd ad m xs p → BR t n hb R0 R T' m u p → Agr 0 T T' m → tt < m → 6 < T.1 tt → m + r ≤ p + 1 → StpC b0 S as ps sz vb → PartR R hb u ps → R.1 20 = I ps.length →
    HLOut b0 N K rd sb al t n sz0 S0 hb R0 vb sz u p as ps rows r m xs R T T' ad (x_R_openTable_8 N b0 K f rd rows (some (ad tt)) as[j]? sz S) (m_leadHeader_11 N f' (I (260 * hb + tt)) (I j) R) := by
  have hn := hT.1
  intro r
  induction r with
  | zero =>
    intro j f f' S R e sz T T' kd ad m tt hj hf hf' hC hR hA htt hk hm hA' hP h20
    obtain ⟨f, rfl⟩ : ∃ i, f = i + 1 := ⟨f - 1, by omega⟩
    obtain ⟨f', rfl⟩ : ∃ i, f' = i + 1 := ⟨f' - 1, by omega⟩
    have hjl : j < ps.length := by omega
    obtain ⟨x, hx⟩ : ∃ x, ps[j]? = some x := ⟨_, List.getElem?_eq_getElem hjl⟩
    obtain ⟨a2, ha2⟩ : ∃ a, as[j]? = some a := ⟨_, List.getElem?_eq_getElem (by rw [hA'.1]; exact hjl)⟩
    obtain ⟨s1, s2, s3, s4, s5, s, s6, s7⟩ := hA'.2.2 j a2 x ha2 hx
    have nx : as[j + 1]? = none := List.getElem?_eq_none (by rw [hA'.1]; omega)
    rw [nx] at s5
    unfold x_R_openTable_8 x_R_openTable_8F m_leadHeader_11 m_leadHeader_11F
    rw [ha2]
    simp only [b1_some]
    rw [gR_own (.inl s1) s3, s5, h20]
    simp only [b1_some, om_none]
    have epl : I ps.length - 1 = I j := by rw [show (1 : Int32) = I 1 from rfl, I_sub (by omega)]; congr 1; omega
    rw [epl, if_pos (show I j ≤ I j from I_le1 (Nat.le_refl _) (by omega))]
    refine .inl ⟨S, R, 0, 0, T, T', kd, ad, m, tt, a2, e, by rw [wr4_00]; rfl, rfl, hC, hR, hA, htt, hk, by omega, by omega, rfl, hA', hP, by rw [show ps.length - 1 = j by omega]; exact ha2, by omega, by omega, fun _ _ g => g, fun _ _ => rfl, Blw.refl _ _⟩
  | succ r ih =>
    intro j f f' S R e sz T T' kd ad m tt hj hf hf' hC hR hA htt hk hm hA' hP h20
    obtain ⟨f, rfl⟩ : ∃ i, f = i + 1 := ⟨f - 1, by omega⟩
    obtain ⟨f', rfl⟩ : ∃ i, f' = i + 1 := ⟨f' - 1, by omega⟩
    have hjl : j < ps.length := by omega
    obtain ⟨x, hx⟩ : ∃ x, ps[j]? = some x := ⟨_, List.getElem?_eq_getElem hjl⟩
    obtain ⟨a2, ha2⟩ : ∃ a, as[j]? = some a := ⟨_, List.getElem?_eq_getElem (by rw [hA'.1]; exact hjl)⟩
    obtain ⟨a3, ha3⟩ : ∃ a, as[j + 1]? = some a := ⟨_, List.getElem?_eq_getElem (by rw [hA'.1]; omega)⟩
    obtain ⟨s1, s2, s3, s4, s5, s, s6, s7⟩ := hA'.2.2 j a2 x ha2 hx
    rw [ha3] at s5
    have ntt := hC.rel.1 tt htt
    have hb1 := hR.1.2.2.1
    have hm1 := hC.mp
    obtain ⟨o, e1, e2, e3⟩ := find_eq (N := N) hN hC hR hT hp hA (by omega) htt hk s7 hP hps hx
    unfold x_R_openTable_8 x_R_openTable_8F m_leadHeader_11 m_leadHeader_11F x_R_throughTable
    rw [ha2]
    simp only [b1_some]
    rw [gR_own (.inl s1) s3, s5, h20]
    simp only [b1_some, om_some]
    have epl : I ps.length - 1 = I (ps.length - 1) := by rw [show (1 : Int32) = I 1 from rfl, I_sub (by omega)]
    rw [epl, if_neg (show ¬ I (ps.length - 1) ≤ I j from I_le0 (by omega) (by omega)), e2, hC.ct.ifk, gR_own (.inl s1) s3, s6]
    simp only [b1_some]
    rw [ifk_own ntt.1 ntt.2.2.1]
    -- the rest of the loop, from a state that has the table
    have go : ∀ (S1 : cS) (R1 : rS) (e1 dc ds : Nat) (T1 T1' : Ar) (kd1 : Nat → List Nat) (ad1 : Nat → Nat) (m1 : Nat) (v : Nat), BC b0 K rd sb al t n sz0 S0 S1 vb e1 (sz + dc) T1 kd1 ad1 m1 xs p → BR t n hb R0 R1 T1' m1 u p → Agr 0 T1 T1' m1 → v < m1 → 6 < T1.1 v → m ≤ m1 → m1 ≤ m + 1 → (∀ a, a < sz → (∀ i, i < m → a ≠ ad i) → Same S S1 a) → PartR R1 hb u ps → R1.1 = R.1 → dc ≤ 1 → ds ≤ 8 → (∀ i, i < m → 6 < T.1 i → 6 < T1.1 i) → (∀ i, i < m → ad1 i = ad i) → Blw 0 T' T1' →
        HLOut b0 N K rd sb al t n sz0 S0 hb R0 vb sz u p as ps rows (r + 1) m xs R T T' ad (wr4 dc ds (b1 (gR b0 K S1 3 2 a2) (fun q15 => x_R_openTable_8 N b0 K f rd rows (some (ad1 v)) q15 (sz + dc) S1))) (m_leadHeader_11 N f' (I (260 * hb + v)) (I (j + 1)) R1) := by
      intro S1 R1 e1 dc ds T1 T1' kd1 ad1 m1 v c1 c2 c3 c7 c8 c9 c10 c12 c13 c14 c15 c16 c17 c18 c19
      have ks : Same S S1 a2 := c12 a2 s2 (fun i hi g => by have := (hC.rel.1 i hi).2.2.1; rw [← g, s3] at this; omega)
      rw [gR_own (.inl s1) (by rw [ks.1]; exact s3), ks.2.2.2, s5]
      simp only [b1_some]
      have hA2 : StpC b0 S1 as ps (sz + dc) vb := hA'.same (fun a ha hk => c12 a ha (fun i hi g => by have := (hC.rel.1 i hi).2.2.1; rw [g, this] at hk; omega)) (by omega)
      have hrec := ih (j + 1) f f' S1 R1 e1 (sz + dc) T1 T1' kd1 ad1 m1 v (by omega) (by omega) (by omega) c1 c2 c3 c7 c8 (by omega) hA2 c13 (by rw [c14]; exact h20)
      rw [ha3] at hrec
      rcases hrec with ⟨S3, R3, dc3, ds3, T3, T3', kd3, ad3, m3, tt3, a23, e3, g1, g2, g3, g4, g5, g6, g7, g8, g9, g10, g11, g12, g13, g14, g15, g16, g17, g18⟩ | ⟨S3, R3, dc3, ds3, g1, g2, g3, g4, g5⟩
      · have ez : sz + (dc + dc3) = sz + dc + dc3 := by omega
        exact .inl ⟨S3, R3, dc + dc3, ds + ds3, T3, T3', kd3, ad3, m3, tt3, a23, e3, by rw [g1, wr4_wr4, ez], g2, by rw [ez]; exact g3, g4, g5, g6, g7, by omega, by omega, by rw [g10, c14], by rw [ez]; exact g11, g12, g13, by omega, by omega, fun i hi g => g16 i (by omega) (c17 i hi g), fun i hi => by rw [g17 i (by omega), c18 i hi], c19.trans g18⟩
      · exact .inr ⟨S3, R3, dc + dc3, ds + ds3, by rw [g1]; rfl, g2, g3, by omega, by omega⟩
    cases o with
    | none =>
      obtain ⟨S1, f1, f2, f3⟩ := eon_none (N := N) (k := 8) hC htt hk s7 (.inr (.inl rfl)) (by omega) e1
      rw [f1, if_pos (show enc hb none = -1 from rfl)]
      simp only [b4_some, b1_some]
      unfold m_leadHeader_106
      have k4' : 4 < T'.1 tt := by rw [hA.kind (by omega) htt]; exact lt64 hk
      have h56' : T'.2.2.1 tt 5 = none ↔ T'.2.2.1 tt 6 = none := by
        rw [(hA tt (by omega) htt).2.2.1 5 (by omega) (by omega), (hA tt (by omega) htt).2.2.1 6 (by omega) (by omega)]; exact hC.wf.e56 htt
      obtain ⟨R1, r1, r2, r3, r4, r5, -⟩ := hR.ent (N := N) (by omega) hp hn htt k4' h56' 8 hP hps hx
      rw [r1]
      have := go S1 R1 e 1 8 (arE T m tt 8 0 none (some x.2)) (arE T' m tt 8 0 none (some x.2)) (kE kd m tt) (va_up ad m sz) (m + 1) m f2 r2 (agr_ent hA hC.wf htt (by omega) _ _ _ _) (by omega) (by rw [arE_1, if_pos rfl]; decide) (by omega) (by omega) f3 r3 r4 (by omega) (by omega) (fun i hi g => by rw [arE_1, if_neg (by omega)]; exact g) (fun i hi => va_ne _ _ (by omega)) (blw_ent' hA hC.wf htt (by omega) _ _ _ _)
      rw [show va_up ad m sz m = sz from va_at_ _ _ _] at this
      -- the class looks at the new table's kind
      have ea : va_up ad m sz m = sz := va_at_ _ _ _
      obtain ⟨w1, w2, w3, w4, -⟩ := f2.rel.1 m (by omega)
      rw [ea] at w1 w3 w4
      have it := isTabC (N := N) f2 (v := m) (by omega)
      rw [show va_up ad m sz m = sz from va_at_ _ _ _] at it
      have e8 : (arE T m tt 8 0 none (some x.2)).1 m = 8 := by rw [arE_1, if_pos rfl]
      rw [gI_own w1 w3, w4, e8]
      simp only [b1_some]
      rw [if_neg (show ¬ (8 : Int32) = 6 by decide), ifk_own w1 w3, it, e8, if_neg (show ¬ (8 : Int32) < 7 by decide)]
      simp only [b1_some]
      rw [if_neg (show ¬ (1 : Int32) = 0 by decide), if_neg (show ¬ (8 : Int32) = 10 by decide), I_1]
      simp only [wr4_some, b4_some]
      exact this
    | some v =>
      obtain ⟨v1, v2, v3, v4⟩ := e3 v rfl
      have nv := hC.rel.1 v v1
      have it := isTabC (N := N) hC v1
      have kR := (hR.2.2.2.1.1 v v1).1
      rw [hA.kind (by omega) v1] at kR
      rw [eon_some (k := 8) hC htt e1]
      simp only [b4_some, b1_some]
      rw [if_neg (show ¬ enc hb (some v) = -1 from ne_neg (by omega)), wr4_00]
      have e0 : enc hb (some v) = I (260 * hb + v) := rfl
      rw [e0, rL_eq (by show _ < 520; omega) (by omega), kR, gI_own nv.1 nv.2.2.1, nv.2.2.2.1]
      simp only [b1_some]
      have bad : HLOut b0 N K rd sb al t n sz0 S0 hb R0 vb sz u p as ps rows (r + 1) m xs R T T' ad (b4 (x_R_throughTable_45 N b0 K rd a2 (sz + 0) S) (fun q11 S12 c13 d14 => wr4 c13 d14 (b1 (gR b0 K S12 3 2 a2) (fun q15 => x_R_openTable_8 N b0 K f rd rows q11 q15 (sz + c13) S12)))) (m_leadHeader_94 N (I j) R) := by
        unfold x_R_throughTable_45 m_leadHeader_94 x_R_wrong
        rw [gI_own (.inl s1) s3, s4]
        simp only [b1_some, hC.ct.ifk]
        rw [hC.ct.put]
        simp only [b1_some, b2_some, b4_some]
        rw [rL_eq (by show _ < 130; omega) (by omega), (hP j x hx).1]
        simp only [b1_some, rP_eq]
        have ks : Same S (sI S rd 7 (I x.1)) a2 := Same.sI _ (fun g => by have := hC.kinds.1; rw [← g, s3] at this; omega)
        rw [gR_own (.inl s1) (by rw [ks.1]; exact s3), ks.2.2.2, s5]
        simp only [b1_some]
        obtain ⟨f, rfl⟩ : ∃ i, f = i + 1 := ⟨f - 1, by omega⟩
        unfold x_R_openTable_8 x_R_openTable_8F x_R_openTable_38
        simp only [b1_some]
        obtain ⟨y, hy⟩ : ∃ y, ps[j + 1]? = some y := ⟨_, List.getElem?_eq_getElem (by omega)⟩
        obtain ⟨z1, z2, z3, z4, z5, z, z6, z7⟩ := hA'.2.2 (j + 1) a3 y ha3 hy
        have kz : Same S (sI S rd 7 (I x.1)) a3 := Same.sI _ (fun g => by have := hC.kinds.1; rw [← g, z3] at this; omega)
        rw [gR_own (.inl z1) (by rw [kz.1]; exact z3)]
        simp only [b1_some, om_none]
        refine .inr ⟨sI S rd 7 (I x.1), Rw R 4 (I x.1), 0, 0, ?_, rfl, wr_bad hC hR (hpl j x hx), by omega, by omega⟩
        rw [wr4_00]
        cases (sI S rd 7 (I x.1)).2.2.2 a3 2 <;> rfl
      have good : ∀ w, w < m → 6 < T.1 w → HLOut b0 N K rd sb al t n sz0 S0 hb R0 vb sz u p as ps rows (r + 1) m xs R T T' ad (b4 (some (some (ad w), S, 0, 0)) (fun q11 S12 c13 d14 => wr4 c13 d14 (b1 (gR b0 K S12 3 2 a2) (fun q15 => x_R_openTable_8 N b0 K f rd rows q11 q15 (sz + c13) S12)))) (m_leadHeader_106 N (m_leadHeader_11 N f') (I (260 * hb + w)) (I j) R) := by
        intro w hw hkw
        unfold m_leadHeader_106
        rw [I_1]
        exact go S R e 0 0 T T' kd ad m w hC hR hA hw hkw (by omega) (by omega) (fun a _ _ => Same.refl S a) hP rfl (by omega) (by omega) (fun _ _ g => g) (fun _ _ => rfl) (Blw.refl _ _)
      by_cases h6 : T.1 v = 6
      · rw [if_pos h6, if_pos h6]
        obtain ⟨k1, k2, k3, k4, k5, k6⟩ := hC.wf.1 v v1
        have hne := hC.2.2.2.2.2.2.2.2.2.2.2.2.2.2.2.2.2.2.2.1 v v1 h6
        obtain ⟨la, hla⟩ : ∃ la, (kd v).getLast? = some la := by
          cases hg : (kd v).getLast? with
          | none => exact absurd (List.getLast?_eq_none_iff.1 hg) hne
          | some la => exact ⟨la, rfl⟩
        have hmem := List.mem_of_getLast? hla
        obtain ⟨c, hc⟩ := List.getElem?_of_mem hmem
        obtain ⟨-, -, l3, l4⟩ := k3 c la hc
        have k7 : T.1 la = 7 := by
          rcases hC.wf.2.2.2.2 v v1 with ⟨g0, -⟩ | ⟨g0, -⟩ | ⟨g0, -⟩
          · rcases g0 with ⟨g0, -⟩ | ⟨g0, -⟩ | ⟨g0, -⟩ <;> rw [h6] at g0 <;> exact absurd g0 (by decide)
          · rw [h6] at g0; exact absurd g0 (by decide)
          · rcases g0 with g0 | ⟨_, g0⟩ | g0 | g0 | g0 | g0
            · rw [h6] at g0; exact absurd g0 (by decide)
            · exact g0 la hmem
            all_goals (rw [h6] at g0; exact absurd g0 (by decide))
        have e7 : T.2.2.1 v 6 = some la := by rw [k2, hla]
        rw [gR_own nv.1 nv.2.2.1, nv.2.2.2.2.2.1 6 (by omega) (by omega), e7]
        have e7' : T'.2.2.1 v 6 = some la := by rw [(hA v (by omega) v1).2.2.1 6 (by omega) (by omega)]; exact e7
        rw [rL_eq (by show _ < 520; omega) (by omega), (hR.2.2.2.1.1 v v1).2.2.2.2.2.1 la e7']
        simp only [b1_some, Option.map_some]
        exact good la l4 (by rw [k7]; decide)
      · rw [if_neg h6, if_neg h6, ifk_own nv.1 nv.2.2.1, it]
        unfold m_isTable
        rw [rL_eq (by show _ < 520; omega) (by omega), kR]
        simp only [b1_some]
        by_cases h7 : T.1 v < 7
        · rw [if_pos h7, if_pos ((le67 _).2 h7)]
          simp only [b1_some, if_true]
          exact bad
        · rw [if_neg h7, if_neg (fun g => h7 ((le67 _).1 g))]
          simp only [b1_some]
          rw [if_neg (show ¬ (1 : Int32) = 0 by decide), if_neg (show ¬ (1 : Int32) = 0 by decide)]
          by_cases h10 : T.1 v = 10
          · rw [if_pos h10, if_pos h10]
            exact bad
          · rw [if_neg h10, if_neg h10]
            exact good v v1 (nlt7 h7)
end
