section
variable {b0 N : Nat} {K S S' : cS} {rd sb al vb vb' sz sz' sz0 : Nat} {t : Nat → Int32} {n p q : Nat} {R R' : rS} {l : List Int32} {hb u0 u : Nat} {T T' : Ar} {ad : Nat → Nat} {m lo e : Nat} {kd : Nat → List Nat} {xs : List Nat} {S0 : cS} {R0 : rS}
theorem BC.rel (h : BC b0 K rd sb al t n sz0 S0 S vb e sz T kd ad m xs p) : RelC b0 S T ad m sz vb := h.2.2.2.2.2.1
theorem BC.wf (h : BC b0 K rd sb al t n sz0 S0 S vb e sz T kd ad m xs p) : WF T kd m := h.2.2.2.2.2.2.1
theorem BC.ct (h : BC b0 K rd sb al t n sz0 S0 S vb e sz T kd ad m xs p) : CT b0 S rd t n p := by obtain ⟨l, h1⟩ := h.1; exact h1.1
theorem BC.szs (h : BC b0 K rd sb al t n sz0 S0 S vb e sz T kd ad m xs p) : b0 + 26 ≤ sz := by
  obtain ⟨_, _, _, _, _, _, _, _, _, h10, h11, _⟩ := h; omega
theorem BC.mp (h : BC b0 K rd sb al t n sz0 S0 S vb e sz T kd ad m xs p) : m ≤ p + 1 := h.2.2.2.2.2.2.2.2.2.2.2.2.2.2.2.2.2.1
theorem BC.kinds (h : BC b0 K rd sb al t n sz0 S0 S vb e sz T kd ad m xs p) : S.1 rd = 4 ∧ rd < sz := by
  obtain ⟨l, h1⟩ := h.1; exact ⟨h1.1.2.1, h1.2.2.2.2.1⟩
/-- The fault that both tell at a place. -/
theorem wr_bad (hC : BC b0 K rd sb al t n sz0 S0 S vb e sz T kd ad m xs p) (hR : BR t n hb R0 R T' m u p) {w : Nat} (hw : w ≤ n) : Bad b0 rd n sz0 S0 (sI S rd 7 (I w)) hb R0 (Rw R 4 (I w)) :=
  hC.bad hR.2.2.2.2 (FrC.mv S (.inr rfl) _) (GR.rw R (.inr (.inl rfl)) _) hw (by show up2 _ _ _ _ _ _ = _; rw [up2_at]) (Rw_1 _ _ _)
theorem Agr.kind (hA : Agr lo T T' m) {i : Nat} (h1 : lo ≤ i) (h2 : i < m) : T'.1 i = T.1 i := (hA i h1 h2).1
/-- entryOrNew where the entry is there, and where it is not. -/
theorem eon_some {hd s j : Nat} {k : Int32} (hC : BC b0 K rd sb al t n sz0 S0 S vb e sz T kd ad m xs p) (hh : hd < m) (hf : x_N_entryNamed N b0 K (ad hd) (some s) S = some ((some j : Option Nat).map ad)) : x_N_entryOrNew N b0 K (ad hd) (some s) k sz S = some (some (ad j), S, 0, 0) := by
  have nh := hC.rel.1 hd hh
  unfold x_N_entryOrNew
  rw [ifk_own nh.1 nh.2.2.1, hf]; rfl
theorem eon_none {hd s : Nat} {ls : List Int32} {k : Int32} (hC : BC b0 K rd sb al t n sz0 S0 S vb e sz T kd ad m xs p) (hh : hd < m) (hk : 6 < T.1 hd) (hs : StrP b0 S s ls sz vb) (hkk : k = 7 ∨ k = 8 ∨ k = 9) (hm : m + 1 ≤ p + 1) (hf : x_N_entryNamed N b0 K (ad hd) (some s) S = some ((none : Option Nat).map ad)) :
    ∃ S', x_N_entryOrNew N b0 K (ad hd) (some s) k sz S = some (some sz, S', 1, 8) ∧ BC b0 K rd sb al t n sz0 S0 S' vb e (sz + 1) (arE T m hd k 0 none (some ls)) (kE kd m hd) (va_up ad m sz) (m + 1) xs p ∧ ∀ a, a < sz → (∀ i, i < m → a ≠ ad i) → Same S S' a := by
  have nh := hC.rel.1 hd hh
  obtain ⟨S', f1, f2, f3⟩ := hC.ent (N := N) hh hk hs hkk hm
  refine ⟨S', ?_, f2, f3⟩
  unfold x_N_entryOrNew
  rw [ifk_own nh.1 nh.2.2.1, hf]
  simp only [b1_some, Option.map_none, om_none]
  rw [f1]; rfl
/-- An entry's tail: the sign, the value, the link. -/
def entT (N b0 : Nat) (K : cS) (RV : Nat → Int32 → Nat → cS → Option (Option Nat × cS × Nat × Nat)) (rd : Nat) (dp : Int32) (a2 a4 : Nat) (sz : Nat) (S : cS) : Option (Int32 × cS × Nat × Nat) :=
  ifk b0 K S 4 rd (b2 (x_R_take N b0 K rd 61 S) (fun x12 S13 => if x12 = 0 then (some (0, S13, 0, 0)) else (ifk b0 K S13 4 rd (b1 (x_R_skipBlanks N b0 K rd S13) (fun S15 => ifk b0 K S15 4 rd (b4 (RV rd dp sz S15) (fun q17 S18 c19 d20 => wr4 c19 d20 (om q17 (some (0, S18, 0, 0)) (fun a22 => b1 (gR b0 K S18 3 0 a2) (fun q23 => b1 (pR b0 S18 2 3 a22 q23) (fun S25 => ifk b0 K S25 2 a4 (b1 (x_N_add N b0 K a4 (some a22) S25) (fun S28 => some (1, S28, 0, 0))))))))))))))
/-- What becomes of kinds and of the list of dotted tables. -/
def KX (lo : Nat) (T T1 : Ar) (m m1 : Nat) (ys : List Nat) : Prop :=
  (∀ i, i < m → T1.1 i = T.1 i) ∧ (∀ x, x ∈ ys → lo < x ∧ x < m1 ∧ (T1.1 x = 9 ∨ T1.1 x = 10)) ∧ ∀ i, m ≤ i → i < m1 → T1.1 i = 9 → i ∈ ys
theorem KX.refl (lo : Nat) (T : Ar) (m : Nat) : KX lo T T m m [] := ⟨fun _ _ => rfl, (by intro x h; cases h), fun i a b => by omega⟩
theorem KX.trans {lo : Nat} {T T1 T2 : Ar} {m m1 m2 : Nat} {ys zs : List Nat} (h : KX lo T T1 m m1 ys) (h' : KX lo T1 T2 m1 m2 zs) (hm : m ≤ m1) (hm' : m1 ≤ m2) : KX lo T T2 m m2 (ys ++ zs) := by
  refine ⟨fun i hi => (h'.1 i (by omega)).trans (h.1 i hi), fun x hx => ?_, fun i a b c => ?_⟩
  · rcases List.mem_append.1 hx with hx | hx
    · obtain ⟨a, b, c⟩ := h.2.1 x hx
      exact ⟨a, by omega, by rw [h'.1 x b]; exact c⟩
    · exact h'.2.1 x hx
  · by_cases g : i < m1
    · rw [h'.1 i g] at c
      exact List.mem_append_left _ (h.2.2 i a g c)
    · exact List.mem_append_right _ (h'.2.2 i (by omega) b c)
/-- What a step needs of an earlier state: the path's steps and the strings. -/
def Kp (b0 : Nat) (S S1 : cS) (sz sz1 vb vb1 : Nat) : Prop := (∀ a, a < sz → S.1 a = 3 → Same S S1 a) ∧ ∀ s ls, StrP b0 S s ls sz vb → StrP b0 S1 s ls sz1 vb1
theorem Kp.refl (S : cS) : Kp b0 S S sz sz vb vb := ⟨fun a _ _ => Same.refl S a, fun _ _ h => h⟩
theorem Kp.trans {S1 S2 : cS} {sz1 sz2 vb1 vb2 : Nat} (h : Kp b0 S S1 sz sz1 vb vb1) (h' : Kp b0 S1 S2 sz1 sz2 vb1 vb2) (hz : sz ≤ sz1) : Kp b0 S S2 sz sz2 vb vb2 :=
  ⟨fun a ha hk => (h.1 a ha hk).trans (h'.1 a (by omega) (by rw [(h.1 a ha hk).1]; exact hk)), fun s ls g => h'.2 s ls (h.2 s ls g)⟩
theorem Kp.of (hs : ∀ a, a < sz → S.1 a = 3 ∨ S.1 a = 6 ∨ S.1 a = 12 → Same S S' a) (hz : sz ≤ sz') : Kp b0 S S' sz sz' vb vb :=
  ⟨fun a ha hk => hs a ha (.inl hk), fun s ls h => h.same (fun a ha hk => hs a ha (.inr hk)) hz⟩
theorem Kp.fr {l' : List Int32} (h : SQ b0 S rd sb vb t n p l' sz) (hF : FrC S S' rd sb vb sz) (hz : sz ≤ sz') (hv : vb' = vb ∨ sz ≤ vb') : Kp b0 S S' sz sz' vb vb' := by
  obtain ⟨kr, ks, kv⟩ := h.kinds
  exact ⟨fun a ha hk => hF.1 a ha (fun g => by rw [g, kr] at hk; omega) (fun g => by rw [g, ks] at hk; omega) (fun g => by rw [g, kv] at hk; omega), fun s ls g => g.keep hF kr ks kv hz hv⟩
/-- What comes of the way to an entry's table. -/
def LOut (b0 N : Nat) (K : cS) (RV : Nat → Int32 → Nat → cS → Option (Option Nat × cS × Nat × Nat)) (rd sb al : Nat) (t : Nat → Int32) (n sz0 : Nat) (S0 : cS) (hb : Nat) (R0 : rS) (vb sz : Nat) (T T' : Ar) (lo u p : Nat) (as : List Nat) (ps : List (Nat × List Int32)) (dp : Int32) (r m : Nat) (xs : List Nat) (R : rS) (S : cS) (kd : Nat → List Nat) (ad : Nat → Nat) (C : Option (Int32 × cS × Nat × Nat)) (M : Option (Int32 × rS)) : Prop :=
  (∃ S1 R1 e1 dc ds T1 T1' kd1 ad1 m1 xs1 tt a2 s x, C = wr4 dc ds (entT N b0 K RV rd dp a2 (ad1 tt) (sz + dc) S1) ∧ M = some (I (260 * hb + tt), R1) ∧ BC b0 K rd sb al t n sz0 S0 S1 vb e1 (sz + dc) T1 kd1 ad1 m1 xs1 p ∧ BR t n hb R0 R1 T1' m1 u p ∧ Agr lo T1 T1' m1 ∧ Blw lo T T1 ∧ Blw lo T' T1' ∧ lo ≤ tt ∧ tt < m1 ∧ 6 < T1.1 tt ∧ m ≤ m1 ∧ m1 ≤ m + r ∧ xs1.length ≤ xs.length + r ∧ (∃ ys, xs1 = xs ++ ys ∧ KX lo T T1 m m1 ys) ∧
     PartR R1 hb u ps ∧ R1.1 = R.1 ∧ (∀ j i, 12 ≤ j → R1.2 j i = R.2 j i) ∧ ps[ps.length - 1]? = some x ∧ S1.1 a2 = 3 ∧ b0 + 26 ≤ a2 ∧ a2 < sz + dc ∧ S1.2.2.2 a2 0 = some s ∧ StrP b0 S1 s x.2 (sz + dc) vb ∧ dc ≤ 2 * r ∧ ds ≤ 252 * r ∧ (∀ i, i < lo → kd1 i = kd i) ∧ (∀ i, i < m → ad1 i = ad i) ∧ Kp b0 S S1 sz (sz + dc) vb vb) ∨
  (∃ S1 R1 dc ds, C = some (0, S1, dc, ds) ∧ M = some (-1, R1) ∧ Bad b0 rd n sz0 S0 S1 hb R0 R1 ∧ dc ≤ 2 * r ∧ ds ≤ 252 * r)
theorem b4_wr4 {α β : Type} (a b sz : Nat) (C : Option (α × cS × Nat × Nat)) (F : α → cS → Nat → Option (β × cS × Nat × Nat)) : b4 (wr4 a b C) (fun q S c d => wr4 c d (F q S (sz + c))) = wr4 a b (b4 C (fun q S c d => wr4 c d (F q S (sz + a + c)))) := by
  rcases C with _ | ⟨x, y, z, w⟩
  · rfl
  · show wr4 (a + z) (b + w) (F x y (sz + (a + z))) = wr4 a b (wr4 z w (F x y (sz + a + z)))
    rw [wr4_wr4, Nat.add_assoc]
theorem wr4_00 {α : Type} (C : Option (α × cS × Nat × Nat)) : wr4 0 0 C = C := by rcases C with _ | ⟨x, y, z, w⟩ <;> simp [wr4]
theorem arE_1 {hd : Nat} {k x : Int32} {s y : Option (List Int32)} {i : Nat} : (arE T m hd k x s y).1 i = if i = m then k else T.1 i := by
  show va_up T.1 m k i = _
  unfold va_up; rfl
theorem kx_ent {hd : Nat} {k x : Int32} {s y : Option (List Int32)} (hk : k = 9 ∨ k = 10) (hlo : lo < m) : KX lo T (arE T m hd k x s y) m (m + 1) [m] := by
  refine ⟨fun i hi => by rw [arE_1, if_neg (by omega)], fun x hx => ?_, fun i a b c => ?_⟩
  · simp at hx; subst hx; exact ⟨hlo, by omega, by rw [arE_1, if_pos rfl]; exact hk⟩
  · have : i = m := by omega
    simp [this]
theorem pr_lead (hK : KF b0 K) (hT : Tx t n) (hN : 200000 ≤ N) {RV : Nat → Int32 → Nat → cS → Option (Option Nat × cS × Nat × Nat)} {dp : Int32} {as : List Nat} {ps : List (Nat × List Int32)} (hps : ps.length ≤ 130) (hp : p ≤ n) (hpl : ∀ (i : Nat) (x : Nat × List Int32), ps[i]? = some x → x.1 ≤ n) :
    ∀ (r j f f' : Nat) (S : cS) (R : rS) (e sz : Nat) (T T' : Ar) (kd : Nat → List Nat) (ad : Nat → Nat) (m : Nat) (xs : List Nat) (tt : Nat), j + r + 1 = ps.length → r + 1 < f → r + 1 < f' → BC b0 K rd sb al t n sz0 S0 S vb e sz T kd ad m xs p → BR t n hb R0 R T' m u p → Agr lo T T' m → lo ≤ tt → tt < m → 6 < T.1 tt → m + r ≤ p + 1 → xs.length + r ≤ p → StpC b0 S as ps sz vb → PartR R hb u ps → R.1 20 = I ps.length →
    LOut b0 N K RV rd sb al t n sz0 S0 hb R0 vb sz T T' lo u p as ps dp r m xs R S kd ad (x_R_readEntry_8 N b0 K RV f rd dp as[j]? (some (ad tt)) sz S) (m_leadEntry_4 N f' (I (260 * hb + tt)) (I j) R) := by
  have hn := hT.1
  intro r
  induction r with
  | zero =>
    intro j f f' S R e sz T T' kd ad m xs tt hj hf hf' hC hR hA hlo htt hk hm hxl hA' hP h20
    obtain ⟨f, rfl⟩ : ∃ i, f = i + 1 := ⟨f - 1, by omega⟩
    obtain ⟨f', rfl⟩ : ∃ i, f' = i + 1 := ⟨f' - 1, by omega⟩
    have hjl : j < ps.length := by omega
    obtain ⟨x, hx⟩ : ∃ x, ps[j]? = some x := ⟨_, List.getElem?_eq_getElem hjl⟩
    obtain ⟨a2, ha2⟩ : ∃ a, as[j]? = some a := ⟨_, List.getElem?_eq_getElem (by rw [hA'.1]; exact hjl)⟩
    obtain ⟨s1, s2, s3, s4, s5, s, s6, s7⟩ := hA'.2.2 j a2 x ha2 hx
    have nx : as[j + 1]? = none := List.getElem?_eq_none (by rw [hA'.1]; omega)
    rw [nx] at s5
    have ntt := hC.rel.1 tt htt
    obtain ⟨o, e1, e2, e3⟩ := find_eq (N := N) hN hC hR hT hp hA hlo htt hk s7 hP hps hx
    unfold x_R_readEntry_8 x_R_readEntry_8F m_leadEntry_4 m_leadEntry_4F x_R_readEntry_41
    rw [ha2, om_some, gR_own (.inl s1) s3, s5, h20]
    simp only [b1_some, om_none, om_some]
    have epl : I ps.length - 1 = I j := by rw [show (1 : Int32) = I 1 from rfl, I_sub (by omega)]; congr 1; omega
    rw [epl, if_pos (show I j ≤ I j from I_le1 (Nat.le_refl _) (by omega)), e2, gR_own (.inl s1) s3, s6]
    simp only [b1_some]
    rw [ifk_own ntt.1 ntt.2.2.1, e1]
    simp only [b1_some]
    cases o with
    | none =>
      simp only [Option.map_none, om_none]
      rw [if_pos (show enc hb none = -1 from rfl)]
      refine .inl ⟨S, R, e, 0, 0, T, T', kd, ad, m, xs, tt, a2, s, x, ?_, rfl, hC, hR, hA, Blw.refl _ _, Blw.refl _ _, hlo, htt, hk, by omega, by omega, by omega, ⟨[], by simp, KX.refl _ _ _⟩, hP, rfl, (fun _ _ _ => rfl), by rw [show ps.length - 1 = j by omega]; exact hx, s3, s1, by omega, s6, s7, by omega, by omega, fun _ _ => rfl, fun _ _ => rfl, Kp.refl S⟩
      unfold entT
      rw [show ∀ C : Option (Int32 × cS × Nat × Nat), wr4 0 0 C = C from fun C => by rcases C with _ | ⟨x, y, z, w⟩ <;> simp [wr4]]
      rfl
    | some v =>
      simp only [Option.map_some, om_some]
      have hv := (e3 v rfl).1
      have hb1 := hR.1.2.2.1
      have hm1 := hC.mp
      rw [if_neg (show ¬ enc hb (some v) = -1 from ne_neg (by omega)), rL_eq (by show _ < 130; omega) (by omega), (hP j x hx).1, gI_own (.inl s1) s3, s4]
      simp only [b1_some, rP_eq, hC.ct.ifk]
      unfold x_R_wrong
      rw [hC.ct.put]
      exact .inr ⟨_, _, 0, 0, rfl, rfl, wr_bad hC hR (hpl j x hx), by omega, by omega⟩
  | succ r ih =>
    intro j f f' S R e sz T T' kd ad m xs tt hj hf hf' hC hR hA hlo htt hk hm hxl hA' hP h20
    obtain ⟨f, rfl⟩ : ∃ i, f = i + 1 := ⟨f - 1, by omega⟩
    obtain ⟨f', rfl⟩ : ∃ i, f' = i + 1 := ⟨f' - 1, by omega⟩
    have hjl : j < ps.length := by omega
    obtain ⟨x, hx⟩ : ∃ x, ps[j]? = some x := ⟨_, List.getElem?_eq_getElem hjl⟩
    obtain ⟨a2, ha2⟩ : ∃ a, as[j]? = some a := ⟨_, List.getElem?_eq_getElem (by rw [hA'.1]; exact hjl)⟩
    obtain ⟨a3, ha3⟩ : ∃ a, as[j + 1]? = some a := ⟨_, List.getElem?_eq_getElem (by rw [hA'.1]; omega)⟩
    obtain ⟨s1, s2, s3, s4, s5, s, s6, s7⟩ := hA'.2.2 j a2 x ha2 hx
    rw [ha3] at s5
    have ntt := hC.rel.1 tt htt
    have hb1 := hR.1.2.2.1
    have hm1 := hC.mp
    obtain ⟨o, e1, e2, e3⟩ := find_eq (N := N) hN hC hR hT hp hA hlo htt hk s7 hP hps hx
    unfold x_R_readEntry_8 x_R_readEntry_8F m_leadEntry_4 m_leadEntry_4F x_R_dottedTable
    rw [ha2, om_some, gR_own (.inl s1) s3, s5, h20]
    simp only [b1_some, om_some]
    have epl : I ps.length - 1 = I (ps.length - 1) := by rw [show (1 : Int32) = I 1 from rfl, I_sub (by omega)]
    rw [epl, if_neg (show ¬ I (ps.length - 1) ≤ I j from I_le0 (by omega) (by omega)), e2, hC.ct.ifk, gR_own (.inl s1) s3, s6]
    simp only [b1_some]
    rw [ifk_own ntt.1 ntt.2.2.1]
    -- the rest of the loop, from a state that has the table
    have go : ∀ (S1 : cS) (R1 : rS) (e1 dc ds : Nat) (T1 T1' : Ar) (kd1 : Nat → List Nat) (ad1 : Nat → Nat) (m1 : Nat) (v : Nat), BC b0 K rd sb al t n sz0 S0 S1 vb e1 (sz + dc) T1 kd1 ad1 m1 xs p → BR t n hb R0 R1 T1' m1 u p → Agr lo T1 T1' m1 → Blw lo T T1 → Blw lo T' T1' → lo ≤ v → v < m1 → T1.1 v = 9 → m ≤ m1 → m1 ≤ m + 1 → KX lo T T1 m m1 [v] → (∀ a, a < sz → (∀ i, i < m → a ≠ ad i) → Same S S1 a) → PartR R1 hb u ps → R1.1 = R.1 → dc ≤ 1 → ds ≤ 8 → (∀ i, i < lo → kd1 i = kd i) → (∀ i, i < m → ad1 i = ad i) → (∀ j i, 12 ≤ j → R1.2 j i = R.2 j i) →
        LOut b0 N K RV rd sb al t n sz0 S0 hb R0 vb sz T T' lo u p as ps dp (r + 1) m xs R S kd ad (wr4 dc ds (b4 (b1 (gI b0 K S1 2 0 (ad1 v)) (fun x17 => if x17 = 9 then (b1 (gR b0 K S1 4 3 rd) (fun q19 => b1 q19 (fun a21 => ifk b0 K S1 8 a21 (b4 (x_AL_add N b0 K a21 (some (ad1 v)) (sz + dc) S1) (fun x25 S26 c27 d28 => wr4 c27 d28 (some (some (ad1 v), S26, 0, 0))))))) else (b1 (gI b0 K S1 3 1 a2) (fun x29 => ifk b0 K S1 4 rd (b2 (x_R_wrong N b0 K rd x29 S1) (fun q32 S33 => some (q32, S33, 0, 0))))))) (fun q10 S11 c12 d13 => wr4 c12 d13 (b1 (gR b0 K S11 3 2 a2) (fun q14 => x_R_readEntry_8 N b0 K RV f rd dp q14 q10 (sz + dc + c12) S11))))) (m_leadEntry_4 N f' (I (260 * hb + v)) (I (j + 1)) R1) := by
      intro S1 R1 e1 dc ds T1 T1' kd1 ad1 m1 v c1 c2 c3 c4 c5 c6 c7 c8 c9 c10 c11 c12 c13 c14 c15 c16 c17 c18 c19
      have nv := c1.rel.1 v c7
      rw [gI_own nv.1 nv.2.2.1, nv.2.2.2.1, c8]
      simp only [b1_some, if_true]
      obtain ⟨kr, hrd⟩ := c1.kinds
      rw [gR_own (.inl c1.ct.1) kr, c1.2.1]
      simp only [b1_some]
      rw [ifk_own c1.2.2.1.1 c1.2.2.1.2.1]
      obtain ⟨S2, e2, dc2, ds2, d1, d2, d3, d4, d5⟩ := BC.dot (N := N) hK c1 hn hp c7 (by omega)
      rw [d1]
      simp only [b4_some, wr4_some]
      -- the step lies where it lay
      have ks1 : Same S S1 a2 := c12 a2 s2 (fun i hi g => by have := (hC.rel.1 i hi).2.2.1; rw [← g, s3] at this; omega)
      have ks2 : Same S1 S2 a2 := d3 a2 (by omega) (by rw [ks1.1, s3]; omega) (by rw [ks1.1, s3]; omega)
      have ks := ks1.trans ks2
      rw [gR_own (.inl s1) (by rw [ks.1]; exact s3), ks.2.2.2, s5]
      simp only [b1_some]
      have hA2 : StpC b0 S2 as ps (sz + (dc + dc2)) vb := by
        have w1 : StpC b0 S1 as ps (sz + dc) vb := hA'.same (fun a ha hk => c12 a ha (fun i hi g => by have := (hC.rel.1 i hi).2.2.1; rw [g, this] at hk; omega)) (by omega)
        exact w1.same (fun a ha hk => d3 a ha (by omega) (by omega)) (by omega)
      have kp2 : Kp b0 S S2 sz (sz + (dc + dc2)) vb vb := by
        have w1 : Kp b0 S S1 sz (sz + dc) vb vb := Kp.of (fun a ha hk => c12 a ha (fun i hi g => by have := (hC.rel.1 i hi).2.2.1; rw [g, this] at hk; omega)) (by omega)
        exact w1.trans (Kp.of (fun a ha hk => d3 a ha (by omega) (by omega)) (by omega)) (by omega)
      have hrec := ih (j + 1) f f' S2 R1 e2 (sz + (dc + dc2)) T1 T1' kd1 ad1 m1 (xs ++ [v]) v (by omega) (by omega) (by omega) (by rw [← Nat.add_assoc]; exact d2) c2 c3 c6 c7 (by rw [c8]; decide) (by omega) (by simp; omega) hA2 c13 (by rw [c14]; exact h20)
      rw [ha3] at hrec
      rw [wr4_wr4, show sz + dc + (dc2 + 0) = sz + (dc + dc2) by omega, show dc + (dc2 + 0) = dc + dc2 by omega, show ds + (ds2 + 0) = ds + ds2 by omega]
      rcases hrec with ⟨S3, R3, e3, dc3, ds3, T3, T3', kd3, ad3, m3, xs3, tt3, a23, s3', x3, g1, g2, g3, g4, g5, g6, g7, g8, g9, g10, g11, g12, g13, ⟨ys, g14, g14'⟩, g15, g16, g16', g17, g18, g19, g20, g21, g22, g23, g24, g25, g26, g27⟩ | ⟨S3, R3, dc3, ds3, g1, g2, g3, g4, g5⟩
      · have ez : sz + (dc + dc2 + dc3) = sz + (dc + dc2) + dc3 := by omega
        refine .inl ⟨S3, R3, e3, dc + dc2 + dc3, ds + ds2 + ds3, T3, T3', kd3, ad3, m3, xs3, tt3, a23, s3', x3, by rw [g1, wr4_wr4, ez], g2, by rw [ez]; exact g3, g4, g5, c4.trans g6, c5.trans g7, g8, g9, g10, by omega, by omega, by simp at g13; omega, ⟨[v] ++ ys, by rw [g14, List.append_assoc], c11.trans g14' c9 g11⟩, g15, by rw [g16, c14], (fun j i hj => (g16' j i hj).trans (c19 j i hj)), g17, g18, g19, by rw [ez]; exact g20, g21, by rw [ez]; exact g22, by omega, by omega, fun i hi => by rw [g25 i hi, c17 i hi], fun i hi => by rw [g26 i (by omega), c18 i hi], by rw [ez]; exact kp2.trans g27 (by omega)⟩
      · exact .inr ⟨S3, R3, dc + dc2 + dc3, ds + ds2 + ds3, by rw [g1]; rfl, g2, g3, by omega, by omega⟩
    cases o with
    | none =>
      obtain ⟨S1, f1, f2, f3⟩ := eon_none (N := N) (k := 9) hC htt hk s7 (.inr (.inr rfl)) (by omega) e1
      rw [f1, if_pos (show enc hb none = -1 from rfl)]
      simp only [b4_some, b1_some]
      unfold m_leadEntry_52 m_leadEntry_75
      rw [if_pos (show enc hb none = -1 from rfl)]
      have k4' : 4 < T'.1 tt := by rw [hA.kind hlo htt]; exact lt64 hk
      have h56' : T'.2.2.1 tt 5 = none ↔ T'.2.2.1 tt 6 = none := by
        rw [(hA tt hlo htt).2.2.1 5 (by omega) (by omega), (hA tt hlo htt).2.2.1 6 (by omega) (by omega)]; exact hC.wf.e56 htt
      obtain ⟨R1, r1, r2, r3, r4, r5, -⟩ := hR.ent (N := N) (by omega) hp hn htt k4' h56' 9 hP hps hx
      rw [r1]
      have := go S1 R1 e 1 8 (arE T m tt 9 0 none (some x.2)) (arE T' m tt 9 0 none (some x.2)) (kE kd m tt) (va_up ad m sz) (m + 1) m f2 r2 (agr_ent hA hC.wf htt hlo _ _ _ _) (blw_ent hC.wf htt hlo _ _ _ _) (blw_ent' hA hC.wf htt hlo _ _ _ _) (by omega) (by omega) (by rw [arE_1, if_pos rfl]) (by omega) (by omega) (kx_ent (.inl rfl) (by omega)) f3 r3 r4 (by omega) (by omega) (fun i hi => by unfold kE; rw [va_ne _ _ (by omega), va_ne _ _ (by omega)]) (fun i hi => va_ne _ _ (by omega)) r5
      rw [show va_up ad m sz m = sz from va_at_ _ _ _] at this
      rw [I_1]
      have hb4 := b4_wr4 1 8 sz (b1 (gI b0 K S1 2 0 sz) (fun x17 => if x17 = 9 then (b1 (gR b0 K S1 4 3 rd) (fun q19 => b1 q19 (fun a21 => ifk b0 K S1 8 a21 (b4 (x_AL_add N b0 K a21 (some sz) (sz + 1) S1) (fun x25 S26 c27 d28 => wr4 c27 d28 (some (some sz, S26, 0, 0))))))) else (b1 (gI b0 K S1 3 1 a2) (fun x29 => ifk b0 K S1 4 rd (b2 (x_R_wrong N b0 K rd x29 S1) (fun q32 S33 => some (q32, S33, 0, 0))))))) (fun q10 S11 z => b1 (gR b0 K S11 3 2 a2) (fun q14 => x_R_readEntry_8 N b0 K RV f rd dp q14 q10 z S11))
      rw [hb4]
      exact this
    | some v =>
      obtain ⟨v1, v2, v3, v4⟩ := e3 v rfl
      have nv := hC.rel.1 v v1
      rw [eon_some (k := 9) hC htt e1]
      simp only [b4_some, b1_some]
      rw [if_neg (show ¬ enc hb (some v) = -1 from ne_neg (by omega))]
      have e0 : enc hb (some v) = I (260 * hb + v) := rfl
      rw [e0, rL_eq (by show _ < 520; omega) (by omega), (hR.2.2.2.1.1 v v1).1, hA.kind (by omega) v1]
      simp only [b1_some]
      by_cases h9 : T.1 v = 9
      · rw [if_pos h9]
        unfold m_leadEntry_52 m_leadEntry_75
        rw [if_neg (ne_neg (by omega)), I_1]
        have := go S R e 0 0 T T' kd ad m v hC hR hA (Blw.refl _ _) (Blw.refl _ _) (by omega) v1 h9 (by omega) (by omega) ⟨fun _ _ => rfl, fun y hy => by simp at hy; subst hy; exact ⟨v2, v1, .inl h9⟩, fun i a b => by omega⟩ (fun a _ _ => Same.refl S a) hP rfl (by omega) (by omega) (fun _ _ => rfl) (fun _ _ => rfl) (fun _ _ _ => rfl)
        rw [wr4_00] at this ⊢
        exact this
      · rw [if_neg h9, wr4_00, gI_own nv.1 nv.2.2.1, nv.2.2.2.1]
        simp only [b1_some]
        rw [if_neg h9, gI_own (.inl s1) s3, s4]
        simp only [b1_some, hC.ct.ifk]
        unfold x_R_wrong
        rw [hC.ct.put]
        simp only [b1_some, b2_some, b4_some]
        rw [rL_eq (by show _ < 130; omega) (by omega), (hP j x hx).1]
        simp only [b1_some, rP_eq]
        have ks : Same S (sI S rd 7 (I x.1)) a2 := Same.sI _ (fun g => by have := hC.kinds.1; rw [← g, s3] at this; omega)
        rw [gR_own (.inl s1) (by rw [ks.1]; exact s3), ks.2.2.2, s5]
        simp only [b1_some]
        obtain ⟨f, rfl⟩ : ∃ i, f = i + 1 := ⟨f - 1, by omega⟩
        unfold x_R_readEntry_8 x_R_readEntry_8F x_R_readEntry_41
        rw [om_some]
        -- the next step lies there as well
        obtain ⟨y, hy⟩ : ∃ y, ps[j + 1]? = some y := ⟨_, List.getElem?_eq_getElem (by omega)⟩
        obtain ⟨z1, z2, z3, z4, z5, z, z6, z7⟩ := hA'.2.2 (j + 1) a3 y ha3 hy
        have kz : Same S (sI S rd 7 (I x.1)) a3 := Same.sI _ (fun g => by have := hC.kinds.1; rw [← g, z3] at this; omega)
        rw [gR_own (.inl z1) (by rw [kz.1]; exact z3)]
        simp only [b1_some, om_none, om_some]
        refine .inr ⟨sI S rd 7 (I x.1), Rw R 4 (I x.1), 0, 0, ?_, rfl, wr_bad hC hR (hpl j x hx), by omega, by omega⟩
        rw [wr4_00]
        cases (sI S rd 7 (I x.1)).2.2.2 a3 2 <;> rfl
end
