section
variable {b0 N : Nat} {K S S' : cS} {rd sb vb vb' sz sz' : Nat} {t : Nat → Int32} {n p q : Nat} {R R' : rS} {l : List Int32} {hb u0 u : Nat}
/-- A part of a path: its place, its letters. The class's steps. -/
def StepAt (b0 : Nat) (S : cS) (st : Nat) (x : Nat × List Int32) (nx : Option Nat) (sz vb : Nat) : Prop :=
  b0 + 26 ≤ st ∧ st < sz ∧ S.1 st = 3 ∧ S.2.2.1 st 1 = I x.1 ∧ S.2.2.2 st 2 = nx ∧ ∃ s, S.2.2.2 st 0 = some s ∧ StrP b0 S s x.2 sz vb
def StpC (b0 : Nat) (S : cS) (as : List Nat) (ps : List (Nat × List Int32)) (sz vb : Nat) : Prop :=
  as.length = ps.length ∧ (∀ (i j a b : Nat), i < j → as[i]? = some a → as[j]? = some b → a < b) ∧ ∀ (i st : Nat) (x : Nat × List Int32), as[i]? = some st → ps[i]? = some x → StepAt b0 S st x as[i + 1]? sz vb
/-- The reference's parts. -/
def PartR (R : rS) (hb u : Nat) (ps : List (Nat × List Int32)) : Prop :=
  ∀ (i : Nat) (x : Nat × List Int32), ps[i]? = some x → R.2 14 i = I x.1 ∧ ∃ f, R.2 15 i = I f ∧ 300 * hb ≤ f ∧ R.2 16 i = I x.2.length ∧ f + x.2.length ≤ 300 * hb + u ∧ ∀ (j : Nat) (c : Int32), x.2[j]? = some c → R.2 13 (f + j) = c
/-- What reading a path leaves, in the reference. -/
def FP (R R' : rS) (hb u : Nat) : Prop :=
  (∀ k, k ≠ 3 → k ≠ 4 → k ≠ 20 → k ≠ 24 → k ≠ 25 → R'.1 k = R.1 k) ∧ (∀ j, j ≠ 12 → j ≠ 13 → j ≠ 14 → j ≠ 15 → j ≠ 16 → R'.2 j = R.2 j) ∧ (∀ i, i ≠ hb → R'.2 12 i = R.2 12 i) ∧ ∀ i, i < 300 * hb + u ∨ 300 * hb + 300 ≤ i → R'.2 13 i = R.2 13 i
theorem FP.refl (R : rS) : FP R R hb u := ⟨fun _ _ _ _ _ _ => rfl, fun _ _ _ _ _ _ => rfl, fun _ _ => rfl, fun _ _ => rfl⟩
theorem FP.trans {R'' : rS} {u' : Nat} (h : FP R R' hb u) (h' : FP R' R'' hb u') (hu : u ≤ u') : FP R R'' hb u :=
  ⟨fun k a b c d e => (h'.1 k a b c d e).trans (h.1 k a b c d e), fun j a b c d e => (h'.2.1 j a b c d e).trans (h.2.1 j a b c d e), fun i a => (h'.2.2.1 i a).trans (h.2.2.1 i a), fun i a => (h'.2.2.2 i (by omega)).trans (h.2.2.2 i a)⟩
theorem FR.fp (h : FR R R' hb u) : FP R R' hb u := ⟨fun k a b c d e => h.1 k a b d e, fun j a b _ _ _ => h.2.1 j a b, h.2.2.1, h.2.2.2⟩
theorem FP.rw (R : rS) {k : Nat} (hk : k = 3 ∨ k = 4 ∨ k = 20 ∨ k = 24 ∨ k = 25) (v : Int32) : FP R (Rw R k v) hb u :=
  ⟨fun j a b c d e => Rw_1n _ _ (by omega), fun _ _ _ _ _ _ => rfl, fun _ _ => rfl, fun _ _ => rfl⟩
theorem FP.ra (R : rS) {j : Nat} (hj : j = 14 ∨ j = 15 ∨ j = 16) (i : Nat) (v : Int32) : FP R (Ra R j i v) hb u :=
  ⟨fun k _ _ _ _ _ => Ra_1 _ _ _ _, fun k a b c d e => by funext i; rw [Ra_ne _ (.inl (by omega))], fun i _ => by rw [Ra_ne _ (.inl (by omega))], fun i _ => by rw [Ra_ne _ (.inl (by omega))]⟩
def POut (b0 : Nat) (S : cS) (rd sb vb sz : Nat) (t : Nat → Int32) (n p : Nat) (R : rS) (hb u : Nat) (C : Option (Option Nat × cS × Nat × Nat)) (M : Option (Int32 × rS)) : Prop :=
  (∃ q l S' R' vb' dc ds as ps u', p < q ∧ q ≤ n ∧ ps ≠ [] ∧ p + 2 * ps.length ≤ q + 1 ∧ (∀ (i : Nat) (x : Nat × List Int32), ps[i]? = some x → x.1 ≤ n) ∧ u ≤ u' ∧ ch t n q ≠ 32 ∧ C = some (as[0]?, S', dc, ds) ∧ M = some (1, R') ∧ StpC b0 S' as ps (sz + dc) vb' ∧ R'.1 20 = I ps.length ∧ PartR R' hb u' ps ∧ SQ b0 S' rd sb vb' t n q l (sz + dc) ∧ RB R' t n q hb u' ∧ FrC S S' rd sb vb sz ∧ FP R R' hb u ∧ R'.1 4 = R.1 4 ∧ (vb' = vb ∨ sz ≤ vb') ∧ dc ≤ 4 * (q - p) ∧ ds ≤ 83 * (q - p)) ∨
  (∃ w S' R' dc ds, w ≤ n ∧ C = some (none, S', dc, ds) ∧ M = some (0, R') ∧ S'.2.2.1 rd 7 = I w ∧ R'.1 4 = I w ∧ FrC S S' rd sb vb sz ∧ FP R R' hb u ∧ dc ≤ 4 * (n + 1 - p) ∧ ds ≤ 83 * (n + 1 - p))
theorem StepAt.keep {st : Nat} {x : Nat × List Int32} {nx : Option Nat} (h : StepAt b0 S st x nx sz vb) (hF : FrC S S' rd sb vb sz) (hr : S.1 rd = 4) (hs : S.1 sb = 7) (hvb : S.1 vb = 12) (hz : sz ≤ sz') (hv : vb' = vb ∨ sz ≤ vb') : StepAt b0 S' st x nx sz' vb' := by
  obtain ⟨h1, h2, h3, h4, h5, s, h6, h7⟩ := h
  have g := hF.1 st h2 (fun e => by rw [e, hr] at h3; omega) (fun e => by rw [e, hs] at h3; omega) (fun e => by rw [e, hvb] at h3; omega)
  exact ⟨h1, by omega, by rw [g.1, h3], by rw [g.2.2.1, h4], by rw [g.2.2.2, h5], s, by rw [g.2.2.2, h6], h7.keep hF hr hs hvb hz hv⟩
theorem StpC.keep {as : List Nat} {ps : List (Nat × List Int32)} (h : StpC b0 S as ps sz vb) (hF : FrC S S' rd sb vb sz) (hr : S.1 rd = 4) (hs : S.1 sb = 7) (hvb : S.1 vb = 12) (hz : sz ≤ sz') (hv : vb' = vb ∨ sz ≤ vb') : StpC b0 S' as ps sz' vb' :=
  ⟨h.1, h.2.1, fun i st x a b => (h.2.2 i st x a b).keep hF hr hs hvb hz hv⟩
theorem SQ.kinds (h : SQ b0 S rd sb vb t n p l sz) : S.1 rd = 4 ∧ S.1 sb = 7 ∧ S.1 vb = 12 := ⟨h.1.2.1, h.2.2.1.2.2.2.1, h.2.2.1.2.2.2.2.1⟩
/-- A cell that is new, or one that none of the reader's is. -/
theorem SQ.keepN (h : SQ b0 S rd sb vb t n p l sz) (hS : ∀ a, a < sz → a = rd ∨ a = sb ∨ a = vb ∨ a = b0 + 1 → Same S S' a) (hz : sz ≤ sz') : SQ b0 S' rd sb vb t n p l sz' := by
  obtain ⟨⟨c1, c2, c3, c4, c5, c6, c7, c8⟩, h2, h3, h4, h5, h6, h7⟩ := h
  have g1 := hS rd h5 (.inl rfl)
  have g4 := hS (b0 + 1) (by omega) (.inr (.inr (.inr rfl)))
  refine ⟨⟨c1, by rw [g1.1, c2], by rw [g1.2.2.2, c3], by rw [g4.1, c4], by rw [g4.2.1, c5], by rw [g1.2.2.1, c6], by rw [g1.2.2.1, c7], fun i hi => by rw [g4.2.2.1]; exact c8 i hi⟩, by rw [g1.2.2.2, h2], h3.keep (hS sb h6 (.inr (.inl rfl))) (hS vb h7 (.inr (.inr (.inl rfl)))), by omega, by omega, by omega, by omega⟩
/-- The new step, and the link to it. -/
def stpS (S : cS) (sz s : Nat) (pl : Int32) : cS := sI (sR (nO S 3 sz) sz 0 (some s)) sz 1 pl
theorem stpS_eq {α : Type} (hz : ownC b0 sz) (s : Nat) (pl : Int32) (f : cS → Option α) : (b1 (nOo b0 S 3 sz) (fun S3 => b1 (x_S_init N b0 K sz (some s) pl S3) f)) = f (stpS S sz s pl) := by
  rw [nOo_own hz]
  simp only [b1_some]
  unfold x_S_init
  rw [pR_own hz (nO_k _ _ _)]
  simp only [b1_some]
  rw [pI_own hz (by exact nO_k _ _ _)]
  rfl
theorem stpS_same {s a : Nat} {pl : Int32} (h : a ≠ sz) : Same S (stpS S sz s pl) a := (Same.nO h).trans ((Same.sR _ h).trans (Same.sI _ h))
theorem stpS_new (hz : b0 + 26 ≤ sz) {s : Nat} {x : Nat × List Int32} (hs : StrP b0 S s x.2 sz vb) : StepAt b0 (stpS S sz s (I x.1)) sz x none (sz + 1) vb := by
  refine ⟨hz, by omega, nO_k S 3 sz, ?_, ?_, s, ?_, ?_⟩
  · show up2 _ _ _ _ _ _ = _; rw [up2_at]
  · show up2 _ _ _ _ _ _ = _; rw [up2_nn _ _ (.inr (by decide))]; show (va_up S.2.2.2 sz (fun _ => (none : Option Nat))) sz 2 = none; rw [va_at_]
  · show up2 _ _ _ _ _ _ = _; rw [up2_at]
  · obtain ⟨v, h1, h2, h3, h4, h5, h6, h7, h8, h9, h10, h11, h12⟩ := hs
    have g1 : Same S (stpS S sz s (I x.1)) s := stpS_same (by omega)
    have g2 : Same S (stpS S sz s (I x.1)) v := stpS_same (by omega)
    exact ⟨v, h1, by omega, h3, by omega, h5, by rw [g1.1, h6], by rw [g1.2.2.1, h7], by rw [g1.2.2.2, h8], by rw [g2.1, h9], by rw [g2.2.1, h10], h11, fun j c hj => by rw [g2.2.2.1]; exact h12 j c hj⟩
theorem StrP.same {s : Nat} (h : StrP b0 S s l sz vb) (hs : ∀ a, a < sz → S.1 a = 6 ∨ S.1 a = 12 → Same S S' a) (hz : sz ≤ sz') : StrP b0 S' s l sz' vb := by
  obtain ⟨v, h1, h2, h3, h4, h5, h6, h7, h8, h9, h10, h11, h12⟩ := h
  have g1 := hs s h2 (.inl h6)
  have g2 := hs v h4 (.inr h9)
  exact ⟨v, h1, by omega, h3, by omega, h5, by rw [g1.1, h6], by rw [g1.2.2.1, h7], by rw [g1.2.2.2, h8], by rw [g2.1, h9], by rw [g2.2.1, h10], h11, fun j c hj => by rw [g2.2.2.1]; exact h12 j c hj⟩
theorem glt {α : Type} {as : List α} {i : Nat} {a : α} (h : as[i]? = some a) : i < as.length := by
  rcases Nat.lt_or_ge i as.length with g | g
  · exact g
  · rw [List.getElem?_eq_none g] at h; cases h
/-- The steps with one more at their end. -/
theorem step_new (hz : b0 + 26 ≤ sz) {as : List Nat} {ps : List (Nat × List Int32)} (hA : StpC b0 S as ps sz vb) {s : Nat} {x : Nat × List Int32} (hs : StrP b0 S s x.2 sz vb) :
    ∃ S', (∀ {α : Type} (A : cS → Option α) (B : cS → Option α), (b1 (nOo b0 S 3 sz) (fun S3 => b1 (x_S_init N b0 K sz (some s) (I x.1) S3) (fun S6 => om as.getLast? (A S6) (fun a8 => b1 (pR b0 S6 3 2 a8 (some sz)) (fun S9 => B S9))))) = if as = [] then A S' else B S') ∧
      StpC b0 S' (as ++ [sz]) (ps ++ [x]) (sz + 1) vb ∧ ∀ a, a < sz → a ∉ as → Same S S' a := by
  have hsz : ∀ (i a : Nat), as[i]? = some a → a < sz := by
    intro i a hi
    have := glt hi
    exact (hA.2.2 i a _ hi (List.getElem?_eq_getElem (by rw [← hA.1]; exact this))).2.1
  have hnew := stpS_new hz hs
  by_cases he : as = []
  · subst he
    have hps : ps = [] := by have := hA.1; cases ps with | nil => rfl | cons => simp at this
    subst hps
    refine ⟨stpS S sz s (I x.1), fun A B => by rw [stpS_eq (.inl hz)]; rfl, ⟨rfl, ?_, ?_⟩, fun a h _ => stpS_same (by omega)⟩
    · intro i j a b hij hi hj
      have h1 := glt hi
      have h2 := glt hj
      simp at h1 h2; omega
    · intro i st y hi hy
      have h1 := glt hi
      simp at h1; subst h1
      simp at hi hy
      subst hi; subst hy
      exact hnew
  · have hpos : 0 < as.length := List.length_pos_iff.2 he
    have hl1 : as[as.length - 1]? = some as[as.length - 1] := List.getElem?_eq_getElem (by omega)
    obtain ⟨la, hla⟩ : ∃ la, as[as.length - 1]? = some la := ⟨_, hl1⟩
    have hlast : as.getLast? = some la := by rw [List.getLast?_eq_getElem?]; exact hla
    have hla_lt := hsz _ _ hla
    obtain ⟨y0, hy0⟩ : ∃ y0, ps[as.length - 1]? = some y0 := ⟨_, List.getElem?_eq_getElem (by rw [← hA.1]; omega)⟩
    have hlaS := hA.2.2 _ _ _ hla hy0
    have g1 : Same S (stpS S sz s (I x.1)) la := stpS_same (by omega)
    refine ⟨sR (stpS S sz s (I x.1)) la 2 (some sz), fun A B => ?_, ⟨by simp [hA.1], ?_, ?_⟩, fun a h hna => ?_⟩
    · rw [stpS_eq (.inl hz), hlast, om_some, pR_own (.inl hlaS.1) (by rw [g1.1]; exact hlaS.2.2.1), if_neg he]; rfl
    · intro i j a b hij hi hj
      have h1 := glt hi
      have h2 := glt hj
      simp at h1 h2
      rw [List.getElem?_append_left (by omega)] at hi
      by_cases hjl : j < as.length
      · rw [List.getElem?_append_left hjl] at hj
        exact hA.2.1 i j a b hij hi hj
      · have : j = as.length := by omega
        subst this
        simp at hj
        have := hsz i a hi
        omega
    · intro i st y hi hy
      have h1 := glt hi
      simp at h1
      by_cases hil : i < as.length
      · rw [List.getElem?_append_left hil] at hi
        rw [List.getElem?_append_left (by rw [← hA.1]; exact hil)] at hy
        have hst := hsz i st hi
        have h0 := hA.2.2 i st y hi hy
        obtain ⟨k1, k2, k3, k4, k5, s', k6, k7⟩ := h0
        have gs : Same S (stpS S sz s (I x.1)) st := stpS_same (by omega)
        have hk7 : StrP b0 (sR (stpS S sz s (I x.1)) la 2 (some sz)) s' y.2 (sz + 1) vb := by
          refine k7.same (fun a ha hk => ?_) (by omega)
          refine (stpS_same (by omega)).trans (Same.sR _ (fun e => ?_))
          have := hlaS.2.2.1
          rw [e, this] at hk; omega
        by_cases hil2 : i = as.length - 1
        · subst hil2
          have : st = la := by rw [hla] at hi; exact (Option.some.inj hi).symm
          subst this
          refine ⟨k1, by omega, by show (stpS S sz s (I x.1)).1 st = 3; rw [gs.1, k3], by show (stpS S sz s (I x.1)).2.2.1 st 1 = _; rw [gs.2.2.1, k4], ?_, s', ?_, hk7⟩
          · show up2 _ _ _ _ _ _ = _
            rw [up2_at, show as.length - 1 + 1 = as.length by omega]; simp
          · show up2 _ _ _ _ _ _ = _
            rw [up2_nn _ _ (.inr (by decide)), gs.2.2.2, k6]
        · have hne : st ≠ la := by
            have := hA.2.1 i (as.length - 1) st la (by omega) hi hla
            omega
          have gs2 : Same S (sR (stpS S sz s (I x.1)) la 2 (some sz)) st := gs.trans (Same.sR _ hne)
          refine ⟨k1, by omega, by rw [gs2.1, k3], by rw [gs2.2.2.1, k4], ?_, s', by rw [gs2.2.2.2, k6], hk7⟩
          rw [gs2.2.2.2, k5, List.getElem?_append_left (by omega)]
      · have : i = as.length := by omega
        subst this
        simp at hi
        subst hi
        have hy' : y = x := by
          rw [hA.1] at hy; simp at hy; exact hy.symm
        subst hy'
        obtain ⟨k1, k2, k3, k4, k5, s', k6, k7⟩ := hnew
        have gs2 : Same (stpS S sz s (I y.1)) (sR (stpS S sz s (I y.1)) la 2 (some sz)) sz := Same.sR _ (by omega)
        refine ⟨k1, k2, by rw [gs2.1, k3], by rw [gs2.2.2.1, k4], ?_, s', by rw [gs2.2.2.2, k6], ?_⟩
        · rw [gs2.2.2.2, k5, List.getElem?_eq_none (by simp)]
        · refine k7.same (fun a ha hk => Same.sR _ (fun e => ?_)) (Nat.le_refl _)
          have := hlaS.2.2.1
          rw [e, g1.1, this] at hk; omega
    · refine (stpS_same (by omega)).trans (Same.sR _ (fun e => hna ?_))
      rw [e]; exact List.mem_of_getElem? hla
end
