/-- The class's arena and the reference's say the same from a value on; that value's ownC holder and key may differ. -/
def Agr (lo : Nat) (T T' : Ar) (m : Nat) : Prop :=
  ∀ i, lo ≤ i → i < m → T'.1 i = T.1 i ∧ T'.2.1 i = T.2.1 i ∧ (∀ f, 5 ≤ f → f ≤ 7 → T'.2.2.1 i f = T.2.2.1 i f) ∧ T'.2.2.2.1 i = T.2.2.2.1 i ∧ (lo < i → T'.2.2.1 i 4 = T.2.2.1 i 4 ∧ T'.2.2.2.2 i = T.2.2.2.2 i)
/-- What lies below a value stays, and so do that value's holder, key and kind. -/
def Blw (lo : Nat) (T T1 : Ar) : Prop :=
  (∀ i, i < lo → T1.1 i = T.1 i ∧ T1.2.1 i = T.2.1 i ∧ T1.2.2.1 i = T.2.2.1 i ∧ T1.2.2.2.1 i = T.2.2.2.1 i ∧ T1.2.2.2.2 i = T.2.2.2.2 i) ∧ T1.1 lo = T.1 lo ∧ T1.2.2.1 lo 4 = T.2.2.1 lo 4 ∧ T1.2.2.1 lo 7 = T.2.2.1 lo 7 ∧ T1.2.2.2.2 lo = T.2.2.2.2 lo
theorem Blw.refl (lo : Nat) (T : Ar) : Blw lo T T := ⟨fun _ _ => ⟨rfl, rfl, rfl, rfl, rfl⟩, rfl, rfl, rfl, rfl⟩
theorem Blw.trans {lo : Nat} {T T1 T2 : Ar} (h : Blw lo T T1) (h' : Blw lo T1 T2) : Blw lo T T2 :=
  ⟨fun i hi => by
    obtain ⟨a1, a2, a3, a4, a5⟩ := h.1 i hi
    obtain ⟨c1, c2, c3, c4, c5⟩ := h'.1 i hi
    exact ⟨c1.trans a1, c2.trans a2, c3.trans a3, c4.trans a4, c5.trans a5⟩, h'.2.1.trans h.2.1, h'.2.2.1.trans h.2.2.1, h'.2.2.2.1.trans h.2.2.2.1, h'.2.2.2.2.trans h.2.2.2.2⟩
section
variable {b0 N : Nat} {K S S' : cS} {rd sb al vb vb' sz sz' sz0 : Nat} {t : Nat → Int32} {n p q : Nat} {R R' : rS} {l : List Int32} {hb u0 u : Nat} {T T' : Ar} {ad : Nat → Nat} {m lo e : Nat} {kd : Nat → List Nat} {xs : List Nat} {S0 : cS} {R0 : rS}
/-- The class within a reading. -/
def BC (b0 : Nat) (K : cS) (rd sb al : Nat) (t : Nat → Int32) (n sz0 : Nat) (S0 S : cS) (vb e sz : Nat) (T : Ar) (kd : Nat → List Nat) (ad : Nat → Nat) (m : Nat) (xs : List Nat) (p : Nat) : Prop :=
  (∃ l, SQ b0 S rd sb vb t n p l sz) ∧ S.2.2.2 rd 3 = some al ∧ AL b0 K S al (xs.map ad) e ∧ al < sz ∧ e < sz ∧ RelC b0 S T ad m sz vb ∧ WF T kd m ∧ (∀ i, i ∈ xs → i < m) ∧
  (∀ a, a < sz0 → Same S0 S a) ∧ b0 + 26 ≤ sz0 ∧ sz0 ≤ sz ∧ sz0 ≤ rd ∧ sz0 ≤ sb ∧ sz0 ≤ vb ∧ sz0 ≤ al ∧ (sz0 ≤ e ∨ e < b0) ∧ (∀ i, i < m → sz0 ≤ ad i) ∧ m ≤ p + 1 ∧ xs.length ≤ p ∧ (∀ i, i < m → T.1 i = 6 → kd i ≠ []) ∧ S.2.2.2 rd = S0.2.2.2 rd
/-- The reference within a reading. -/
def BR (t : Nat → Int32) (n hb : Nat) (R0 R : rS) (T' : Ar) (m u p : Nat) : Prop :=
  RB R t n p hb u ∧ R.2 2 hb = I m ∧ R.1 4 = -1 ∧ RelR R T' hb m u ∧ GR R0 R hb
theorem BC.keep (h : BC b0 K rd sb al t n sz0 S0 S vb e sz T kd ad m xs p) (hF : FrC S S' rd sb vb sz) (hS : ∃ l, SQ b0 S' rd sb vb' t n q l sz') (hz : sz ≤ sz') (hv : vb' = vb ∨ sz ≤ vb') (hq : p ≤ q) : BC b0 K rd sb al t n sz0 S0 S' vb' e sz' T kd ad m xs q := by
  obtain ⟨⟨l, h1⟩, h2, h3, h4, h5, h6, h7, h8, h9, h10, h11, h12, h13, h14, h15, h16, h17, h18, h19, h20, h21⟩ := h
  obtain ⟨kr, ks, kv⟩ := h1.kinds
  have kal := h3.2.1
  have ke : Same S S' e := by
    refine hF.1 e h5 (fun g => ?_) (fun g => ?_) (fun g => ?_)
    · rcases h3.2.2.2.2.2 with ⟨_, _, g1, _⟩ | ⟨_, _, _, g1, _⟩
      · omega
      · rw [g, kr] at g1; omega
    · rcases h3.2.2.2.2.2 with ⟨_, _, g1, _⟩ | ⟨_, _, _, g1, _⟩
      · omega
      · rw [g, ks] at g1; omega
    · rcases h3.2.2.2.2.2 with ⟨_, _, g1, _⟩ | ⟨_, _, _, g1, _⟩
      · omega
      · rw [g, kv] at g1; omega
  have kl : Same S S' al := hF.1 al h4 (fun g => by rw [g, kr] at kal; omega) (fun g => by rw [g, ks] at kal; omega) (fun g => by rw [g, kv] at kal; omega)
  refine ⟨hS, by rw [hF.2.2.2.1]; exact h2, h3.keep kl ke (fun a ha => ?_), by omega, by omega, h6.keep hF kr ks kv hz hv, h7, h8, fun a ha => (h9 a ha).trans (hF.1 a (by omega) (by omega) (by omega) (by omega)), h10, by omega, h12, h13, by omega, h15, h16, h17, by omega, by omega, h20, by rw [hF.2.2.2.1]; exact h21⟩
  obtain ⟨i, hi, rfl⟩ := List.mem_map.1 ha
  have k2 := (h6.1 i (h8 i hi)).2.2.1
  have hl := (h6.1 i (h8 i hi)).2.1
  exact (hF.1 _ hl (fun g => by rw [g, kr] at k2; omega) (fun g => by rw [g, ks] at k2; omega) (fun g => by rw [g, kv] at k2; omega)).1
theorem BC.mv (h : BC b0 K rd sb al t n sz0 S0 S vb e sz T kd ad m xs p) {q : Nat} (hq : p ≤ q) : BC b0 K rd sb al t n sz0 S0 (sI S rd 6 (I q)) vb e sz T kd ad m xs q := by
  obtain ⟨l, h1⟩ := h.1
  exact h.keep (FrC.mv S (.inl rfl) _) ⟨l, h1.mv q⟩ (Nat.le_refl _) (.inl rfl) hq
theorem BR.mv (h : BR t n hb R0 R T' m u p) {q : Nat} (hq : p ≤ q) : BR t n hb R0 (Rw R 3 (I q)) T' m u q := by
  obtain ⟨h1, h2, h3, h4, h5⟩ := h
  have := h1.2.2.2.2
  exact ⟨h1.mv (by omega), h2, by rw [Rw_1n _ _ (by decide)]; exact h3, h4.keep (fun _ _ _ _ _ => rfl) (fun _ _ _ => rfl) (Nat.le_refl _), h5.trans (GR.rw R (.inl rfl) _)⟩
theorem BR.fp {u' : Nat} (h : BR t n hb R0 R T' m u p) (hF : FP R R' hb u) (hR : RB R' t n q hb u') (hu : u ≤ u') (h4 : R'.1 4 = R.1 4) : BR t n hb R0 R' T' m u' q := by
  obtain ⟨h1, h2, h3, h5, h6⟩ := h
  refine ⟨hR, by rw [hF.2.1 2 (by decide) (by decide) (by decide) (by decide) (by decide)]; exact h2, by rw [h4]; exact h3, h5.keep (fun j i a b _ => by rw [hF.2.1 j (by omega) (by omega) (by omega) (by omega) (by omega)]) (fun i _ a => hF.2.2.2 i (.inl a)) hu, h6.trans hF.gr⟩
/-- A fault, told by both: the place, and all that lay there before is as it was. -/
def Bad (b0 rd : Nat) (n sz0 : Nat) (S0 S : cS) (hb : Nat) (R0 R : rS) : Prop :=
  ∃ w, w ≤ n ∧ S.1 rd = 4 ∧ S.2.2.1 rd 7 = I w ∧ R.1 4 = I w ∧ (∀ a, a < sz0 → Same S0 S a) ∧ GR R0 R hb
theorem BC.bad (h : BC b0 K rd sb al t n sz0 S0 S vb e sz T kd ad m xs p) (hG : GR R0 R hb) (hF : FrC S S' rd sb vb sz) (hR : GR R R' hb) {w : Nat} (hw : w ≤ n) (h7 : S'.2.2.1 rd 7 = I w) (h4 : R'.1 4 = I w) : Bad b0 rd n sz0 S0 S' hb R0 R' := by
  obtain ⟨⟨l, h1⟩, h2, h3, h4', h5, h6, h7', h8, h9, h10, h11, h12, h13, h14, -⟩ := h
  exact ⟨w, hw, by rw [hF.2.1]; exact h1.1.2.1, h7, h4, fun a ha => (h9 a ha).trans (hF.1 a (by omega) (by omega) (by omega) (by omega)), hG.trans hR⟩
end
