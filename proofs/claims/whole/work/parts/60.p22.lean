section
variable {b0 N : Nat} {K S S' : cS} {rd sb al vb vb' sz sz' sz0 : Nat} {t : Nat → Int32} {n p q : Nat} {R R' : rS} {l : List Int32} {hb u0 u : Nat} {T T' : Ar} {ad : Nat → Nat} {m lo e : Nat} {kd : Nat → List Nat} {xs : List Nat} {S0 : cS} {R0 : rS}
/-- Values changed, or one came: the rest of the class stays. -/
theorem BC.chg (h : BC b0 K rd sb al t n sz0 S0 S vb e sz T kd ad m xs p) {T1 : Ar} {kd1 : Nat → List Nat} {ad1 : Nat → Nat} {m1 sz1 : Nat} (hSS : ∀ a, a < sz → (∀ i, i < m → a ≠ ad i) → Same S S' a) (hr : RelC b0 S' T1 ad1 m1 sz1 vb) (hw : WF T1 kd1 m1) (hm : m ≤ m1) (hm1 : m1 ≤ p + 1) (hz : sz ≤ sz1) (had : ∀ i, i < m → ad1 i = ad i) (had0 : ∀ i, i < m1 → sz0 ≤ ad1 i) (h6 : ∀ i, i < m1 → T1.1 i = 6 → kd1 i ≠ []) :
    BC b0 K rd sb al t n sz0 S0 S' vb e sz1 T1 kd1 ad1 m1 xs p := by
  obtain ⟨⟨l, h1⟩, h2, h3, h4, h5, h6', h7, h8, h9, h10, h11, h12, h13, h14, h15, h16, h17, h18, h19, h20, h21⟩ := h
  have hS : ∀ a, a < sz → S.1 a ≠ 2 → Same S S' a := fun a ha hk => hSS a ha (fun i hi g => hk (by rw [g]; exact (h6'.1 i hi).2.2.1))
  have hS2 : ∀ a, a < sz0 → Same S S' a := fun a ha => hSS a (by omega) (fun i hi g => by have := h17 i hi; omega)
  obtain ⟨kr, ks, kv⟩ := h1.kinds
  have kt := h1.1.2.2.2.1
  have gr := hS rd h1.2.2.2.2.1 (by omega)
  have emap : xs.map ad1 = xs.map ad := List.map_congr_left (fun i hi => had i (h8 i hi))
  have ke : Same S S' e := by
    rcases h3.2.2.2.2.2 with ⟨_, _, g1, _⟩ | ⟨_, _, _, g1, _⟩
    · exact hS2 e (by omega)
    · exact hS e h5 (by omega)
  have hal : AL b0 K S' al (xs.map ad1) e := by
    rw [emap]
    refine h3.keep (hS al h4 (by rw [h3.2.1]; omega)) ke (fun a ha => ?_)
    obtain ⟨i, hi, rfl⟩ := List.mem_map.1 ha
    have hi' := h8 i hi
    rw [(h6'.1 i hi').2.2.1, ← had i hi', (hr.1 i (by omega)).2.2.1]
  refine ⟨⟨l, h1.keepN (fun a ha hh => ?_) hz⟩, by rw [gr.2.2.2]; exact h2, hal, by omega, by omega, hr, hw, fun i hi => by have := h8 i hi; omega, fun a ha => (h9 a ha).trans (hS2 a ha), h10, by omega, h12, h13, h14, h15, h16, had0, hm1, h19, h6, by rw [gr.2.2.2]; exact h21⟩
  refine hS a ha ?_
  rcases hh with rfl | rfl | rfl | rfl <;> omega
/-- A new entry of a table, in the class. -/
theorem cls_new (h : RelC b0 S T ad m sz vb) (hz : b0 + 26 ≤ sz) {hd s : Nat} {ls : List Int32} (hh : hd < m) (hs : StrP b0 S s ls sz vb) (k : Int32) :
    ∃ S', (b1 (nOo b0 S 2 sz) (fun S5 => b1 (x_N_init N b0 K sz k 0 S5) (fun S8 => b1 (pR b0 S8 2 3 sz (some s)) (fun S9 => ifk b0 K S9 2 (ad hd) (b1 (x_N_add N b0 K (ad hd) (some sz) S9) (fun S12 => some (some sz, S12, (0 : Nat), (0 : Nat)))))))) = some (some sz, S', 0, 0) ∧
      RelC b0 S' (arE T m hd k 0 none (some ls)) (va_up ad m sz) (m + 1) (sz + 1) vb ∧ ∀ a, a < sz → (∀ i, i < m → a ≠ ad i) → Same S S' a := by
  have hlt := (h.1 hd hh).2.1
  rw [init_nd (.inl hz), pR_own (.inl hz) (nd_k _ _ _ _)]
  simp only [b1_some]
  have h1 := h.new hz k 0
  have hs1 : StrP b0 (nd S sz k 0) s ls (sz + 1) vb := hs.same (fun a ha _ => Same.nd (by omega)) (by omega)
  have ea : va_up ad m sz m = sz := va_at_ _ _ _
  have eh : va_up ad m sz hd = ad hd := va_ne _ _ (by omega)
  have h2 := (h1.putS (v := m) (by omega) hs1).1
  rw [ea] at h2
  have kh := (h2.1 hd (by omega)).2.2.1
  rw [eh] at kh
  have oh := (h2.1 hd (by omega)).1
  rw [eh] at oh
  rw [ifk_own oh kh]
  obtain ⟨S', f1, f2, f3⟩ := h2.add (N := N) (K := K) (hd := hd) (v := m) (by omega) (by omega)
  rw [ea, eh] at f1
  rw [f1]
  refine ⟨S', rfl, f2, fun a ha hk => ?_⟩
  have g1 : Same S (nd S sz k 0) a := Same.nd (by omega)
  have g2 : Same (nd S sz k 0) (sR (nd S sz k 0) sz 3 (some s)) a := Same.sR _ (by omega)
  refine (g1.trans g2).trans (f3 a (fun i hi => ?_))
  by_cases e : i = m
  · rw [e, ea]; omega
  · rw [va_ne _ _ e]; exact hk i (by omega)
/-- A new value within a list of rows, or by itself, in the class. -/
theorem cls_row (h : RelC b0 S T ad m sz vb) (hz : b0 + 26 ≤ sz) {hd : Nat} (hh : hd < m) (k : Int32) :
    ∃ S', (b1 (nOo b0 S 2 sz) (fun S19 => b1 (x_N_init N b0 K sz k 0 S19) (fun S22 => ifk b0 K S22 2 (ad hd) (b1 (x_N_add N b0 K (ad hd) (some sz) S22) (fun S24 => some (some sz, S24, (0 : Nat), (0 : Nat))))))) = some (some sz, S', 0, 0) ∧
      RelC b0 S' (arE T m hd k 0 none none) (va_up ad m sz) (m + 1) (sz + 1) vb ∧ ∀ a, a < sz → (∀ i, i < m → a ≠ ad i) → Same S S' a := by
  have hlt := (h.1 hd hh).2.1
  rw [init_nd (.inl hz)]
  have h2 := h.new hz k 0
  have ea : va_up ad m sz m = sz := va_at_ _ _ _
  have eh : va_up ad m sz hd = ad hd := va_ne _ _ (by omega)
  have kh := (h2.1 hd (by omega)).2.2.1
  rw [eh] at kh
  have oh := (h2.1 hd (by omega)).1
  rw [eh] at oh
  rw [ifk_own oh kh]
  obtain ⟨S', f1, f2, f3⟩ := h2.add (N := N) (K := K) (hd := hd) (v := m) (by omega) (by omega)
  rw [ea, eh] at f1
  rw [f1]
  refine ⟨S', rfl, ?_, fun a ha hk => ?_⟩
  · have : arE T m hd k 0 none none = arL (arN T m k 0) hd m := by
      unfold arE arY arM arN
      rw [show va_up (va_up T.2.2.2.2 m none) m none = va_up T.2.2.2.2 m none from va_twice _ _ _ _]
    rw [this]; exact f2
  · have g1 : Same S (nd S sz k 0) a := Same.nd (by omega)
    refine g1.trans (f3 a (fun i hi => ?_))
    by_cases e : i = m
    · rw [e, ea]; omega
    · rw [va_ne _ _ e]; exact hk i (by omega)
/-- The reference's make and name. -/
theorem BR.ent (h : BR t n hb R0 R T' m u p) (hm : m < 260) (hp : p ≤ n) (hn : n ≤ 240) {hd i : Nat} (hh : hd < m) (hk : 4 < T'.1 hd) (h56 : T'.2.2.1 hd 5 = none ↔ T'.2.2.1 hd 6 = none) (k : Int32) {ps : List (Nat × List Int32)} (hP : PartR R hb u ps) (hps : ps.length ≤ 130) {x : Nat × List Int32} (hx : ps[i]? = some x) :
    ∃ R', (∀ {α : Type} (F : Int32 → rS → Option α), (b2 (m_make N k (I (260 * hb + hd)) R) (fun x2 S3 => b2 (m_named N x2 (I i) S3) (fun x5 S6 => F x5 S6))) = F (I (260 * hb + m)) R') ∧
      BR t n hb R0 R' (arE T' m hd k 0 none (some x.2)) (m + 1) u p ∧ PartR R' hb u ps ∧ R'.1 = R.1 ∧ (∀ j i, 12 ≤ j → R'.2 j i = R.2 j i) ∧ R'.2 9 (260 * hb + m) = 0 := by
  obtain ⟨r1, r2, r3, r4, r5⟩ := h
  have hb1 := r1.2.2.1
  have hu := r1.2.2.2.2
  obtain ⟨R1, e1, e2, e3, e4, e5, e6, e7⟩ := mk_in (N := N) r4 hb1 r1.2.1 r2 hm hh hk h56 k
  have hP1 : PartR R1 hb u ps := hP.keep (fun j i hj _ => e6 j i (by omega)) (fun i _ => e6 13 i (by omega)) (Nat.le_refl _)
  obtain ⟨R2, f1, f2, f3, f4, f5, f6, f7⟩ := nm_eq (N := N) (v := m) e2 hb1 (by omega) (by omega) hP1 (by omega) hps hx
  have w : ∀ j i, 12 ≤ j → R2.2 j i = R.2 j i := fun j i hj => (f6 j i hj).trans (e6 j i hj)
  refine ⟨R2, fun F => by rw [e1]; simp only [b2_some]; rw [f1]; rfl, ⟨⟨⟨by rw [f3, e3]; exact r1.1.1, by rw [f3, e3]; exact r1.1.2.1, fun i hi => ?_⟩, by rw [f3, e3]; exact r1.2.1, hb1, by rw [w 12 hb (by omega)]; exact r1.2.2.2.1, hu⟩, by rw [f4]; exact e4, by rw [f3, e3]; exact r3, f2, (r5.trans e5).trans f5⟩, hP.keep (fun j i hj _ => w j i (by omega)) (fun i _ => w 13 i (by omega)) (Nat.le_refl _), by rw [f3, e3], w, by rw [f7]; exact e7⟩
  have a1 := e5.2.1
  have a2 := f5.2.1
  rw [a2, a1]; exact r1.1.2.2 i hi
/-- The reference's make, without a name. -/
theorem BR.row (h : BR t n hb R0 R T' m u p) (hm : m < 260) {hd : Nat} (hh : hd < m) (hk : 4 < T'.1 hd) (h56 : T'.2.2.1 hd 5 = none ↔ T'.2.2.1 hd 6 = none) (k : Int32) :
    ∃ R', m_make N k (I (260 * hb + hd)) R = some (I (260 * hb + m), R') ∧ BR t n hb R0 R' (arE T' m hd k 0 none none) (m + 1) u p ∧ R'.1 = R.1 ∧ (∀ j i, 12 ≤ j → R'.2 j i = R.2 j i) ∧ R'.2 9 (260 * hb + m) = 0 := by
  obtain ⟨r1, r2, r3, r4, r5⟩ := h
  have hb1 := r1.2.2.1
  have hu := r1.2.2.2.2
  obtain ⟨R1, e1, e2, e3, e4, e5, e6, e7⟩ := mk_in (N := N) r4 hb1 r1.2.1 r2 hm hh hk h56 k
  have : arE T' m hd k 0 none none = arL (arN T' m k 0) hd m := by
    unfold arE arY arM arN
    rw [show va_up (va_up T'.2.2.2.2 m none) m none = va_up T'.2.2.2.2 m none from va_twice _ _ _ _]
  refine ⟨R1, e1, ⟨⟨⟨by rw [e3]; exact r1.1.1, by rw [e3]; exact r1.1.2.1, fun i hi => by rw [e5.2.1]; exact r1.1.2.2 i hi⟩, by rw [e3]; exact r1.2.1, hb1, by rw [e6 12 hb (by omega)]; exact r1.2.2.2.1, hu⟩, e4, by rw [e3]; exact r3, by rw [this]; exact e2, r5.trans e5⟩, e3, e6, e7⟩
end
