section
variable {b0 N : Nat} {K S S' : cS} {rd sb al vb vb' sz sz' sz0 : Nat} {t : Nat → Int32} {n p q : Nat} {R R' : rS} {l : List Int32} {hb u0 u : Nat} {T T' : Ar} {ad : Nat → Nat} {m lo e : Nat} {kd : Nat → List Nat} {xs : List Nat} {S0 : cS} {R0 : rS}
/-- The class between two calls. -/
def CS (b0 : Nat) (S : cS) (sz : Nat) (t : Nat → Int32) (n : Nat) (o : Nat → Int32) (w : Nat) (T : Ar) (kd : Nat → List Nat) (ad : Nat → Nat) (m c : Nat) : Prop :=
  b0 + 26 ≤ sz ∧ S.1 b0 = 1 ∧ S.2.2.2 b0 0 = some (b0 + 1) ∧ S.2.2.2 b0 1 = some (b0 + 2) ∧ S.2.2.1 b0 2 = I n ∧ S.2.2.2 b0 3 = some (ad 0) ∧ S.2.2.2 b0 4 = some (ad c) ∧
  S.1 (b0 + 1) = 11 ∧ S.2.1 (b0 + 1) = 240 ∧ (∀ i, i < n → S.2.2.1 (b0 + 1) i = t i) ∧
  S.1 (b0 + 2) = 5 ∧ S.2.2.2 (b0 + 2) 0 = some (b0 + 3) ∧ S.2.2.1 (b0 + 2) 1 = I w ∧ S.1 (b0 + 3) = 11 ∧ S.2.1 (b0 + 3) = 600 ∧ (∀ i, i < w → i < 600 → S.2.2.1 (b0 + 3) i = o i) ∧
  RelC b0 S T ad m sz 0 ∧ WF T kd m ∧ 0 < m ∧ c < m ∧ 6 < T.1 0 ∧ (∀ i, i < m → ad i = b0 + 4 ∨ b0 + 26 ≤ ad i)
/-- The reference between two calls. -/
def RS (R : rS) (t : Nat → Int32) (n : Nat) (o : Nat → Int32) (w : Nat) (T : Ar) (hf m u c : Nat) : Prop :=
  R.1 1 = I n ∧ (∀ i, i < n → R.2 1 i = t i) ∧ R.1 29 = I w ∧ (∀ i, i < w → i < 600 → R.2 19 i = o i) ∧ hf ≤ 1 ∧ R.1 5 = I hf ∧ R.1 18 = I (260 * hf + c) ∧ RelR R T hf m u ∧ m ≤ 242 ∧ u ≤ 300
theorem StrP.no0 {s : Nat} (h : StrP b0 S s l sz vb) : StrP b0 S s l sz 0 := by
  obtain ⟨v, h1, h2, h3, h4, h5, h6⟩ := h
  exact ⟨v, h1, h2, h3, h4, by omega, h6⟩
theorem RelC.vb0 (h : RelC b0 S T ad m sz vb) : RelC b0 S T ad m sz 0 := by
  refine ⟨fun i hi => ?_, h.2⟩
  obtain ⟨g1, g2, g3, g4, g5, g6, g7, g8⟩ := h.1 i hi
  exact ⟨g1, g2, g3, g4, g5, g6, g7.keepF (fun s ls e => e.no0), g8.keepF (fun s ls e => e.no0)⟩
theorem RelR.agr (h : RelR R T' hb m u) (hA : Agr 0 T T' m) (h1 : T'.2.2.1 0 4 = T.2.2.1 0 4) (h2 : T'.2.2.2.2 0 = T.2.2.2.2 0) (hl : Lk T m) : RelR R T hb m u := by
  refine ⟨fun i hi => ?_, hl⟩
  obtain ⟨a1, a2, a3, a4, a5, a6, a7, a8, a9⟩ := h.1 i hi
  obtain ⟨d1, d2, d3, d4, d5⟩ := hA i (Nat.zero_le _) hi
  have e4 : T'.2.2.1 i 4 = T.2.2.1 i 4 := by
    by_cases g : i = 0
    · rw [g]; exact h1
    · exact (d5 (by omega)).1
  have ek : T'.2.2.2.2 i = T.2.2.2.2 i := by
    by_cases g : i = 0
    · rw [g]; exact h2
    · exact (d5 (by omega)).2
  refine ⟨by rw [a1, d1], fun g => by rw [a2 (by rw [d1]; exact g), d2], fun g => by rw [a3 (by rw [d1]; exact g), d2], by rw [a4, e4], by rw [a5, d3 5 (by omega) (by omega)], fun j e => a6 j (by rw [d3 6 (by omega) (by omega)]; exact e), fun hz => by rw [a7 hz, d3 7 (by omega) (by omega)], fun ls e => ?_, fun ls e => a9 ls (by rw [ek]; exact e)⟩
  obtain ⟨b1', b2', b3'⟩ := a8 ls (by rw [d4]; exact e)
  exact ⟨by rw [← d1]; exact b1', b2', by rw [← d2]; exact b3'⟩
/-- The first arena of a reading: the document alone. -/
def ar0 : Ar := ((fun _ => 7), (fun _ => 0), (fun _ _ => none), (fun _ => none), (fun _ => none))
theorem wf0 : WF ar0 (fun _ => []) 1 := by
  refine ⟨fun h hh => ⟨rfl, rfl, (by intro j a hj; cases hj), (by intro i j a b _ hi; cases hi), fun _ => rfl, fun _ => rfl⟩, fun _ _ _ => rfl, (fun i hd hi e => by cases e), fun i hi => ⟨fun g => absurd rfl g, (fun ⟨hd, g, _⟩ => by cases g)⟩, fun i hi => .inr (.inr ⟨.inr (.inr (.inl rfl)), rfl⟩)⟩
/-- The reference's start of a reading. -/
theorem ref_start {o : Nat → Int32} {w hf c : Nat} (h : RS R t n o w T hf m u c) (hhf : hb = 1 - hf) : ∃ R1, m_read N R = m_read_53 N N (I (260 * hb)) R1 ∧ RT R1 t n 0 ∧ R1.1 19 = I hb ∧ R1.2 12 hb = I 0 ∧ R1.2 2 hb = I 1 ∧ R1.1 4 = -1 ∧ RelR R1 ar0 hb 1 0 ∧
    R1.1 5 = R.1 5 ∧ R1.1 18 = R.1 18 ∧ R1.1 29 = R.1 29 ∧ (∀ i, R1.2 19 i = R.2 19 i) ∧ (∀ j i, 3 ≤ j → j ≤ 11 → i < 260 * hb ∨ 260 * hb + 260 ≤ i → R1.2 j i = R.2 j i) ∧ (∀ i, R1.2 13 i = R.2 13 i) := by
  obtain ⟨h1, h2, h3, h4, h5, h6, h7, h8, h9, h10⟩ := h
  have hb1 : hb ≤ 1 := by omega
  have e1 : (1 : Int32) - I hf = I hb := by rw [show (1 : Int32) = I 1 from rfl, I_sub h5, hhf]
  unfold m_read
  rw [rP_eq, b1_some, rP_eq, b1_some, Rw_1n _ _ (by decide), h6, e1, Rw_1, rT_eq (by show _ < 2; omega) (by omega), b1_some, Ra_1, Rw_1, rT_eq (by show _ < 2; omega) (by omega), b1_some, rP_eq, b1_some, rP_eq, b1_some]
  generalize hRq : Rw (Rw (Ra (Ra (Rw (Rw R 0 0) 19 (I hb)) 2 hb 0) 12 hb 0) 3 0) 4 (-1) = Rq
  have f1 : ∀ k, k ≠ 0 → k ≠ 19 → k ≠ 3 → k ≠ 4 → Rq.1 k = R.1 k := by
    intro k a b c d
    rw [← hRq, Rw_1n _ _ d, Rw_1n _ _ c, Ra_1, Ra_1, Rw_1n _ _ b, Rw_1n _ _ a]
  have f19 : Rq.1 19 = I hb := by rw [← hRq, Rw_1n _ _ (by decide), Rw_1n _ _ (by decide), Ra_1, Ra_1, Rw_1]
  have f3 : Rq.1 3 = I 0 := by rw [← hRq, Rw_1n _ _ (by decide), Rw_1]; rfl
  have f4 : Rq.1 4 = -1 := by rw [← hRq, Rw_1]
  have g2 : Rq.2 2 hb = I 0 := by rw [← hRq, Rw_2, Rw_2, Ra_ne _ (.inl (by decide)), Ra_at]; rfl
  have g12 : Rq.2 12 hb = I 0 := by rw [← hRq, Rw_2, Rw_2, Ra_at]; rfl
  have go : ∀ j i, j ≠ 2 → j ≠ 12 → Rq.2 j i = R.2 j i := by
    intro j i a b
    rw [← hRq, Rw_2, Rw_2, Ra_ne _ (.inl b), Ra_ne _ (.inl a), Rw_2, Rw_2]
  rw [mk_head hb1 f19 g2 (by omega), if_pos rfl, b2_some]
  obtain ⟨n3, n4, n5, n6, n8, n9⟩ := mkR_new (R := Rq) (hb := hb) (m := 0) 7 (-1)
  refine ⟨mkR Rq hb 0 7 (-1), rfl, ⟨?_, f3, fun i hi => ?_⟩, f19, ?_, mkR_many _ _, f4, ⟨fun i hi => ?_, fun i hi f j _ _ e => by cases e⟩, (f1 5 (by decide) (by decide) (by decide) (by decide)).trans h6, f1 18 (by decide) (by decide) (by decide) (by decide), f1 29 (by decide) (by decide) (by decide) (by decide), fun i => by rw [mkR_hi _ _ (by decide), go 19 i (by decide) (by decide)], fun j i a b c => by rw [mkR_old _ _ a (by omega), go j i (by omega) (by omega)], fun i => by rw [mkR_hi _ _ (by decide), go 13 i (by decide) (by decide)]⟩
  · show Rq.1 1 = I n; rw [f1 1 (by decide) (by decide) (by decide) (by decide)]; exact h1
  · have : (mkR Rq hb 0 7 (-1)).2 1 i = Rq.2 1 i := by
      unfold mkR
      rw [Ra_ne _ (.inl (by decide)), Ra_ne _ (.inl (by decide)), Ra_ne _ (.inl (by decide)), Ra_ne _ (.inl (by decide)), Ra_ne _ (.inl (by decide)), Ra_ne _ (.inl (by decide)), Ra_ne _ (.inl (by decide))]
    rw [this, go 1 i (by decide) (by decide)]; exact h2 i hi
  · rw [mkR_hi _ _ (by decide)]; exact g12
  · have : i = 0 := by omega
    subst this
    exact ⟨n3, fun _ => n9, fun _ => n4, n5, n6, (fun j e => by cases e), fun _ => n8, (fun ls e => by cases e), (fun ls e => by cases e)⟩
end
