section
variable {b0 N : Nat} {K S S' : cS} {rd sb vb vb' sz sz' : Nat} {t : Nat → Int32} {n p q : Nat} {R R' : rS} {l : List Int32} {hb u0 u : Nat} {T T' : Ar} {ad : Nat → Nat} {m : Nat}
/-- The class's add. -/
theorem RelC.add (h : RelC b0 S T ad m sz vb) {hd v : Nat} (hh : hd < m) (hv : v < m) : ∃ S', x_N_add N b0 K (ad hd) (some (ad v)) S = some S' ∧ RelC b0 S' (arL T hd v) ad m sz vb ∧ ∀ a, (∀ i, i < m → a ≠ ad i) → Same S S' a := by
  have oh := (h.1 hd hh).1
  have ov := (h.1 v hv).1
  have kh := (h.1 hd hh).2.2.1
  have kv := (h.1 v hv).2.2.1
  unfold x_N_add x_N_add_28
  simp only [b1_some]
  rw [pR_own ov kv]
  simp only [b1_some]
  have h1 := h.putR hv (f := 4) (by omega) (by omega) (o := some hd) (fun j e => by cases e; exact hh)
  have kh1 : (sR S (ad v) 4 (some (ad hd))).1 (ad hd) = 2 := kh
  rw [gR_own oh kh1]
  simp only [b1_some]
  have e6 : (sR S (ad v) 4 (some (ad hd))).2.2.2 (ad hd) 6 = (T.2.2.1 hd 6).map ad := by
    show up2 _ _ _ _ _ _ = _; rw [up2_nn _ _ (.inr (by decide))]; exact (h.1 hd hh).2.2.2.2.2.1 6 (by omega) (by omega)
  rw [e6]
  -- the end: last and amount
  have fin : ∀ (S1 : cS) (T1 : Ar), RelC b0 S1 T1 ad m sz vb → S1.1 (ad hd) = 2 → ∃ S', (b1 (pR b0 S1 2 6 (ad hd) (some (ad v))) (fun S1 => b1 (gI b0 K S1 2 1 (ad hd)) (fun x3 => b1 (pI b0 S1 2 1 (ad hd) (x3 + 1)) (fun S5 => some S5)))) = some S' ∧ RelC b0 S' (T1.1, va_up T1.2.1 hd (T1.2.1 hd + 1), up2 T1.2.2.1 hd 6 (some v), T1.2.2.2.1, T1.2.2.2.2) ad m sz vb ∧ ∀ a, a ≠ ad hd → Same S1 S' a := by
    intro S1 T1 hr k1
    rw [pR_own oh k1]
    simp only [b1_some]
    have h2 := hr.putR hh (f := 6) (by omega) (by omega) (o := some v) (fun j e => by cases e; exact hv)
    rw [gI_own oh (by exact k1)]
    simp only [b1_some]
    rw [pI_own oh (by exact k1)]
    simp only [b1_some]
    have e1 : (sR S1 (ad hd) 6 (some (ad v))).2.2.1 (ad hd) 1 = T1.2.1 hd := (h2.1 hd hh).2.2.2.2.1
    rw [e1]
    exact ⟨_, rfl, h2.putI hh (T1.2.1 hd + 1), fun a ha => (Same.sR _ ha).trans (Same.sI _ ha)⟩
  unfold arL lnk
  cases hl : T.2.2.1 hd 6 with
  | none =>
    simp only [Option.map_none, om_none]
    rw [pR_own oh kh1]
    simp only [b1_some]
    have h2 := h1.putR hh (f := 5) (by omega) (by omega) (o := some v) (fun j e => by cases e; exact hv)
    obtain ⟨S', f1, f2, f3⟩ := fin _ _ h2 kh
    refine ⟨S', f1, f2, fun a ha => ?_⟩
    have a1 : a ≠ ad hd := ha hd hh
    have a2 : a ≠ ad v := ha v hv
    exact ((Same.sR _ a2).trans (Same.sR _ a1)).trans (f3 a a1)
  | some la =>
    have hla := h.2.2 hd hh 6 la (by omega) (by omega) hl
    simp only [Option.map_some, om_some, b1_some]
    rw [pR_own (h.1 la hla).1 (by exact (h.1 la hla).2.2.1)]
    simp only [b1_some]
    have h2 := h1.putR hla (f := 7) (by omega) (by omega) (o := some v) (fun j e => by cases e; exact hv)
    obtain ⟨S', f1, f2, f3⟩ := fin _ _ h2 kh
    refine ⟨S', f1, f2, fun a ha => ?_⟩
    have a1 : a ≠ ad hd := ha hd hh
    have a2 : a ≠ ad v := ha v hv
    have a3 : a ≠ ad la := ha la hla
    exact ((Same.sR _ a2).trans (Same.sR _ a3)).trans (f3 a a1)
/-! The reference's rows of values. -/
def enc (hb : Nat) (o : Option Nat) : Int32 := match o with
  | none => -1
  | some j => I (260 * hb + j)
def LetR (R : rS) (hb u : Nat) (x : Int32) (ls : List Int32) : Prop := ∃ f, x = I f ∧ 300 * hb ≤ f ∧ f + ls.length ≤ 300 * hb + u ∧ ∀ (j : Nat) (c : Int32), ls[j]? = some c → R.2 13 (f + j) = c
def cnk (k : Int32) : Prop := k = 3 ∨ 4 < k
def NodeR (R : rS) (T : Ar) (hb u i : Nat) : Prop :=
  R.2 3 (260 * hb + i) = T.1 i ∧ (cnk (T.1 i) → R.2 9 (260 * hb + i) = T.2.1 i) ∧ (¬ cnk (T.1 i) → R.2 4 (260 * hb + i) = T.2.1 i) ∧ R.2 5 (260 * hb + i) = enc hb (T.2.2.1 i 4) ∧ R.2 6 (260 * hb + i) = enc hb (T.2.2.1 i 5) ∧
  (∀ j, T.2.2.1 i 6 = some j → R.2 7 (260 * hb + i) = I (260 * hb + j)) ∧ (i ≠ 0 → R.2 8 (260 * hb + i) = enc hb (T.2.2.1 i 7)) ∧
  (∀ ls, T.2.2.2.1 i = some ls → T.1 i = 3 ∧ LetR R hb u (R.2 4 (260 * hb + i)) ls ∧ T.2.1 i = I ls.length) ∧
  (∀ ls, T.2.2.2.2 i = some ls → LetR R hb u (R.2 10 (260 * hb + i)) ls ∧ R.2 11 (260 * hb + i) = I ls.length)
def RelR (R : rS) (T : Ar) (hb m u : Nat) : Prop := (∀ i, i < m → NodeR R T hb u i) ∧ Lk T m
theorem LetR.keep {x : Int32} {ls : List Int32} {u' : Nat} (h : LetR R hb u x ls) (hL : ∀ i, 300 * hb ≤ i → i < 300 * hb + u → R'.2 13 i = R.2 13 i) (hu : u ≤ u') : LetR R' hb u' x ls := by
  obtain ⟨f, h1, h2, h3, h4⟩ := h
  exact ⟨f, h1, h2, by omega, fun j c hj => by have := lt_list hj; rw [hL (f + j) (by omega) (by omega)]; exact h4 j c hj⟩
theorem NodeR.keep {i u' : Nat} (h : NodeR R T hb u i) (hN : ∀ j, 3 ≤ j → j ≤ 11 → R'.2 j (260 * hb + i) = R.2 j (260 * hb + i)) (hL : ∀ i, 300 * hb ≤ i → i < 300 * hb + u → R'.2 13 i = R.2 13 i) (hu : u ≤ u') : NodeR R' T hb u' i := by
  obtain ⟨h1, h2, h3, h4, h5, h6, h7, h8, h9⟩ := h
  refine ⟨by rw [hN 3 (by omega) (by omega), h1], fun a => by rw [hN 9 (by omega) (by omega), h2 a], fun a => by rw [hN 4 (by omega) (by omega), h3 a], by rw [hN 5 (by omega) (by omega), h4], by rw [hN 6 (by omega) (by omega), h5], fun j e => by rw [hN 7 (by omega) (by omega), h6 j e], fun g => by rw [hN 8 (by omega) (by omega), h7 g], fun ls e => ?_, fun ls e => ?_⟩
  · obtain ⟨a, b, c⟩ := h8 ls e
    exact ⟨a, by rw [hN 4 (by omega) (by omega)]; exact b.keep hL hu, c⟩
  · obtain ⟨a, b⟩ := h9 ls e
    exact ⟨by rw [hN 10 (by omega) (by omega)]; exact a.keep hL hu, by rw [hN 11 (by omega) (by omega), b]⟩
theorem RelR.keep {u' : Nat} (h : RelR R T hb m u) (hN : ∀ j i, 3 ≤ j → j ≤ 11 → i < m → R'.2 j (260 * hb + i) = R.2 j (260 * hb + i)) (hL : ∀ i, 300 * hb ≤ i → i < 300 * hb + u → R'.2 13 i = R.2 13 i) (hu : u ≤ u') : RelR R' T hb m u' :=
  ⟨fun i hi => (h.1 i hi).keep (fun j a b => hN j i a b hi) hL hu, h.2⟩
/-- What a whole reading leaves, in the reference. -/
def GR (R R' : rS) (hb : Nat) : Prop :=
  (∀ k, k ≠ 3 → k ≠ 4 → k ≠ 20 → k ≠ 24 → k ≠ 25 → k ≠ 26 → R'.1 k = R.1 k) ∧ R'.2 1 = R.2 1 ∧ R'.2 19 = R.2 19 ∧ (∀ i, i ≠ hb → R'.2 2 i = R.2 2 i ∧ R'.2 12 i = R.2 12 i) ∧
  (∀ j i, 3 ≤ j → j ≤ 11 → i < 260 * hb ∨ 260 * hb + 260 ≤ i → R'.2 j i = R.2 j i) ∧ ∀ i, i < 300 * hb ∨ 300 * hb + 300 ≤ i → R'.2 13 i = R.2 13 i
theorem GR.refl (R : rS) : GR R R hb := ⟨fun _ _ _ _ _ _ _ => rfl, rfl, rfl, fun _ _ => ⟨rfl, rfl⟩, fun _ _ _ _ _ => rfl, fun _ _ => rfl⟩
theorem GR.trans {R'' : rS} (h : GR R R' hb) (h' : GR R' R'' hb) : GR R R'' hb :=
  ⟨fun k a b c d e f => (h'.1 k a b c d e f).trans (h.1 k a b c d e f), h'.2.1.trans h.2.1, h'.2.2.1.trans h.2.2.1, fun i a => ⟨(h'.2.2.2.1 i a).1.trans (h.2.2.2.1 i a).1, (h'.2.2.2.1 i a).2.trans (h.2.2.2.1 i a).2⟩, fun j i a b c => (h'.2.2.2.2.1 j i a b c).trans (h.2.2.2.2.1 j i a b c), fun i a => (h'.2.2.2.2.2 i a).trans (h.2.2.2.2.2 i a)⟩
theorem GR.rw (R : rS) {k : Nat} (hk : k = 3 ∨ k = 4 ∨ k = 20 ∨ k = 24 ∨ k = 25 ∨ k = 26) (v : Int32) : GR R (Rw R k v) hb :=
  ⟨fun j a b c d e f => Rw_1n _ _ (by omega), rfl, rfl, fun _ _ => ⟨rfl, rfl⟩, fun _ _ _ _ _ => rfl, fun _ _ => rfl⟩
theorem GR.ra (R : rS) {j i : Nat} (hj : (3 ≤ j ∧ j ≤ 11 ∧ 260 * hb ≤ i ∧ i < 260 * hb + 260) ∨ ((j = 2 ∨ j = 12) ∧ i = hb) ∨ (14 ≤ j ∧ j ≤ 18)) (v : Int32) : GR R (Ra R j i v) hb := by
  refine ⟨fun k _ _ _ _ _ _ => Ra_1 _ _ _ _, ?_, ?_, fun i' a => ⟨?_, ?_⟩, fun j' i' a b c => ?_, fun i' a => ?_⟩
  · funext i'; rw [Ra_ne _ (.inl (by omega))]
  · funext i'; rw [Ra_ne _ (.inl (by omega))]
  · rw [Ra_ne _ (by omega)]
  · rw [Ra_ne _ (by omega)]
  · rw [Ra_ne _ (by omega)]
  · rw [Ra_ne _ (.inl (by omega))]
theorem FP.gr (h : FP R R' hb u) : GR R R' hb :=
  ⟨fun k a b c d e _ => h.1 k a b c d e, h.2.1 1 (by decide) (by decide) (by decide) (by decide) (by decide), h.2.1 19 (by decide) (by decide) (by decide) (by decide) (by decide), fun i a => ⟨by rw [h.2.1 2 (by decide) (by decide) (by decide) (by decide) (by decide)], h.2.2.1 i a⟩, fun j i a b _ => by rw [h.2.1 j (by omega) (by omega) (by omega) (by omega) (by omega)], fun i a => h.2.2.2 i (by omega)⟩
theorem FR.gr (h : FR R R' hb u) : GR R R' hb := h.fp.gr
theorem FrB.gr {v : Nat} (h : FrB R R' v) (hv : 260 * hb ≤ v ∧ v < 260 * hb + 260) : GR R R' hb :=
  ⟨fun k a b _ _ _ _ => h.1 k a b, by funext i; rw [h.2 1 i (.inl (by decide))], by funext i; rw [h.2 19 i (.inl (by decide))], fun i _ => ⟨h.2 2 i (.inl (by decide)), h.2 12 i (.inl (by decide))⟩, fun j i _ _ c => h.2 j i (.inr (by omega)), fun i _ => h.2 13 i (.inl (by decide))⟩
theorem Ra_get (j i : Nat) (x : Int32) (j' i' : Nat) : (Ra R j i x).2 j' i' = if j' = j ∧ i' = i then x else R.2 j' i' := by
  by_cases h : j' = j ∧ i' = i
  · rw [if_pos h, h.1, h.2, Ra_at]
  · rw [if_neg h, Ra_ne]
    by_cases h1 : j' = j
    · exact .inr (fun e => h ⟨h1, e⟩)
    · exact .inl h1
end
