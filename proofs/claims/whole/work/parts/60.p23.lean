/-- What is known of the cells that lie before: the JDK's empty list, the mirror, the literals. -/
def KF (b0 : Nat) (K : cS) : Prop :=
  (∃ mi, K.2.2.2 0 101 = some mi) ∧ (∃ d, K.2.2.2 0 102 = some d ∧ d < b0 ∧ K.1 d = 13 ∧ K.2.1 d = 0) ∧ Lit b0 K 0 trueL ∧ Lit b0 K 1 falseL ∧ Lit b0 K 2 [92, 110] ∧ Lit b0 K 3 [92, 116] ∧ Lit b0 K 4 [32, 61, 32] ∧ Lit b0 K 5 trueL ∧ Lit b0 K 6 falseL ∧ Lit b0 K 7 [10] ∧ Lit b0 K 8 [44, 32]
section
variable {b0 N : Nat} {K S S' : cS} {rd sb al vb vb' sz sz' sz0 : Nat} {t : Nat → Int32} {n p q : Nat} {R R' : rS} {l : List Int32} {hb u0 u : Nat} {T T' : Ar} {ad : Nat → Nat} {m lo e : Nat} {kd : Nat → List Nat} {xs : List Nat} {S0 : cS} {R0 : rS}
theorem StpC.same {as : List Nat} {ps : List (Nat × List Int32)} (h : StpC b0 S as ps sz vb) (hs : ∀ a, a < sz → S.1 a = 3 ∨ S.1 a = 6 ∨ S.1 a = 12 → Same S S' a) (hz : sz ≤ sz') : StpC b0 S' as ps sz' vb := by
  refine ⟨h.1, h.2.1, fun i st x a b => ?_⟩
  obtain ⟨h1, h2, h3, h4, h5, s, h6, h7⟩ := h.2.2 i st x a b
  have g := hs st h2 (.inl h3)
  exact ⟨h1, by omega, by rw [g.1, h3], by rw [g.2.2.1, h4], by rw [g.2.2.2, h5], s, by rw [g.2.2.2, h6], h7.same (fun a ha hk => hs a ha (.inr hk)) hz⟩
/-- One more in the list of dotted tables. -/
theorem BC.dot (hK : KF b0 K) (h : BC b0 K rd sb al t n sz0 S0 S vb e sz T kd ad m xs p) (hn : n ≤ 240) (hp : p ≤ n) {j : Nat} (hj : j < m) (hx : xs.length + 1 ≤ p) :
    ∃ S' e' dc ds, x_AL_add N b0 K al (some (ad j)) sz S = some (1, S', dc, ds) ∧ BC b0 K rd sb al t n sz0 S0 S' vb e' (sz + dc) T kd ad m (xs ++ [j]) p ∧ (∀ a, a < sz → S.1 a ≠ 8 → S.1 a ≠ 13 → Same S S' a) ∧ dc ≤ 1 ∧ ds ≤ 244 := by
  obtain ⟨⟨l, h1⟩, h2, h3, h4, h5, h6, h7, h8, h9, h10, h11, h12, h13, h14, h15, h16, h17, h18, h19, h20, h21⟩ := h
  obtain ⟨⟨mi, hmi⟩, ⟨d, hd1, hd2, hd3, hd4⟩, -⟩ := hK
  have kd' : ∀ d', K.2.2.2 0 102 = some d' → d' < b0 := fun d' g => by rw [hd1] at g; cases g; exact hd2
  have nj := h6.1 j hj
  obtain ⟨S', e', dc, ds, f1, f2, f3, f4⟩ := h3.add (N := N) (mi := mi) (x := ad j) (sz := sz) (fun a ha => by
    obtain ⟨i, hi, rfl⟩ := List.mem_map.1 ha
    exact (h6.1 i (h8 i hi)).2.1) hmi kd' nj.1 nj.2.2.1 (by simp; omega) (by omega) h4 h5 nj.2.1
  have ke : S.1 e = 13 ∨ e < b0 := by
    rcases h3.2.2.2.2.2 with ⟨_, _, g1, _⟩ | ⟨_, _, _, g1, _⟩
    · exact .inr g1
    · exact .inl g1
  have hsame : ∀ a, a < sz → S.1 a ≠ 8 → S.1 a ≠ 13 → Same S S' a := by
    intro a ha h8' h13'
    refine f3 a (fun g => h8' (by rw [g]; exact h3.2.1)) ?_ ha
    rcases ke with g1 | g1
    · exact .inl (fun g => h13' (by rw [g]; exact g1))
    · exact .inr g1
  obtain ⟨kr, ks, kv⟩ := h1.kinds
  have kt := h1.1.2.2.2.1
  have gr := hsame rd h1.2.2.2.2.1 (by omega) (by omega)
  have hlow : ∀ a, a < sz0 → Same S S' a := fun a ha => f3 a (by omega) (by omega) (by omega)
  refine ⟨S', e', dc, ds, f1, ⟨⟨l, h1.keepN (fun a ha hh => hsame a ha ?_ ?_) (by omega)⟩, by rw [gr.2.2.2]; exact h2, by rw [List.map_append]; exact f2, by omega, by omega, h6.same (fun a ha hk => hsame a ha (by omega) (by omega)) (by omega), h7, fun i hi => ?_, fun a ha => (h9 a ha).trans (hlow a ha), h10, by omega, h12, h13, h14, h15, by omega, h17, h18, by simp; omega, h20, by rw [gr.2.2.2]; exact h21⟩, hsame, by omega, by omega⟩
  · rcases hh with rfl | rfl | rfl | rfl <;> omega
  · rcases hh with rfl | rfl | rfl | rfl <;> omega
  · rcases List.mem_append.1 hi with hi | hi
    · exact h8 i hi
    · simp at hi; omega
end
