section
variable {b0 N : Nat} {K S S' : cS} {rd sb vb vb' sz sz' : Nat} {t : Nat → Int32} {n p q : Nat} {R R' : rS} {l : List Int32} {hb u0 : Nat}
/-- A string of the class's ownC, away from the builder's bytes. -/
def StrP (b0 : Nat) (S : cS) (s : Nat) (l : List Int32) (sz vb : Nat) : Prop :=
  ∃ v, b0 + 26 ≤ s ∧ s < sz ∧ b0 + 26 ≤ v ∧ v < sz ∧ v ≠ vb ∧ S.1 s = 6 ∧ S.2.2.1 s 1 = 0 ∧ S.2.2.2 s 0 = some v ∧ S.1 v = 12 ∧ S.2.1 v = l.length ∧ l.length ≤ 30 ∧
    ∀ (j : Nat) (c : Int32), l[j]? = some c → S.2.2.1 v j = c ∧ 0 ≤ c.toInt ∧ c.toInt < 128
theorem StrP.str {s : Nat} (h : StrP b0 S s l sz vb) : Str b0 K S s l := by
  obtain ⟨v, h1, h2, h3, h4, h5, h6, h7, h8, h9, h10, h11, h12⟩ := h
  have o1 : ownC b0 s := .inl h1
  have o2 : ownC b0 v := .inl h3
  exact ⟨by rw [kd_own o1]; exact h6, by rw [eK_own o1]; exact h7, by omega, fun j c hj => (h12 j c hj).2, v, by rw [eK_own o1]; exact h8, by rw [kd_own o2]; exact h9, by rw [eK_own o2]; exact h10, fun j c hj => by rw [eK_own o2]; exact (h12 j c hj).1⟩
/-- What reading of letters leaves as it was. -/
def FrC (S S' : cS) (rd sb vb sz : Nat) : Prop :=
  (∀ a, a < sz → a ≠ rd → a ≠ sb → a ≠ vb → Same S S' a) ∧ S'.1 rd = S.1 rd ∧ S'.2.1 rd = S.2.1 rd ∧ S'.2.2.2 rd = S.2.2.2 rd ∧ ∀ k, k ≠ 6 → k ≠ 7 → S'.2.2.1 rd k = S.2.2.1 rd k
theorem FrC.refl (S : cS) : FrC S S rd sb vb sz := ⟨fun a _ _ _ _ => Same.refl S a, rfl, rfl, rfl, fun _ _ _ => rfl⟩
theorem FrC.trans {S'' : cS} (h : FrC S S' rd sb vb sz) (h' : FrC S' S'' rd sb vb' sz') (hz : sz ≤ sz') (hv : vb' = vb ∨ sz ≤ vb') : FrC S S'' rd sb vb sz :=
  ⟨fun a h1 h2 h3 h4 => (h.1 a h1 h2 h3 h4).trans (h'.1 a (by omega) h2 h3 (by omega)), h'.2.1.trans h.2.1, h'.2.2.1.trans h.2.2.1, h'.2.2.2.1.trans h.2.2.2.1, fun k h1 h2 => (h'.2.2.2.2 k h1 h2).trans (h.2.2.2.2 k h1 h2)⟩
theorem FrC.mv (S : cS) {k : Nat} (hk : k = 6 ∨ k = 7) (v : Int32) : FrC S (sI S rd k v) rd sb vb sz :=
  ⟨fun a _ h _ _ => Same.sI _ h, rfl, rfl, rfl, fun j h1 h2 => by show up2 _ _ _ _ _ _ = _; rw [up2_nn _ _ (.inr (by omega))]⟩
theorem FrC.of {M : Nat → Prop} (h : ∀ a, a < sz → a ≠ sb → a ≠ vb → Same S S' a) (h1 : rd < sz) (h2 : rd ≠ sb) (h3 : rd ≠ vb) : FrC S S' rd sb vb sz :=
  let g := h rd h1 h2 h3
  ⟨fun a b _ c d => h a b c d, g.1, g.2.1, g.2.2.2, fun k _ _ => by rw [g.2.2.1]⟩
theorem StrP.keep {s : Nat} (h : StrP b0 S s l sz vb) (hF : FrC S S' rd sb vb sz) (hr : S.1 rd = 4) (hs : S.1 sb = 7) (hvb : S.1 vb = 12) (hz : sz ≤ sz') (hv : vb' = vb ∨ sz ≤ vb') : StrP b0 S' s l sz' vb' := by
  obtain ⟨v, h1, h2, h3, h4, h5, h6, h7, h8, h9, h10, h11, h12⟩ := h
  have g1 := hF.1 s h2 (fun e => by rw [e, hr] at h6; omega) (fun e => by rw [e, hs] at h6; omega) (fun e => by rw [e, hvb] at h6; omega)
  have g2 := hF.1 v h4 (fun e => by rw [e, hr] at h9; omega) (fun e => by rw [e, hs] at h9; omega) h5
  refine ⟨v, h1, by omega, h3, by omega, by omega, by rw [g1.1, h6], by rw [g1.2.2.1, h7], by rw [g1.2.2.2, h8], by rw [g2.1, h9], by rw [g2.2.1, h10], h11, fun j c hj => by rw [g2.2.2.1]; exact h12 j c hj⟩
/-- The class while it reads letters. -/
def SQ (b0 : Nat) (S : cS) (rd sb vb : Nat) (t : Nat → Int32) (n p : Nat) (l : List Int32) (sz : Nat) : Prop :=
  CT b0 S rd t n p ∧ S.2.2.2 rd 2 = some sb ∧ SB b0 S sb vb l ∧ b0 + 26 ≤ sz ∧ rd < sz ∧ sb < sz ∧ vb < sz
theorem SQ.ne (h : SQ b0 S rd sb vb t n p l sz) : rd ≠ sb ∧ rd ≠ vb ∧ b0 + 1 ≠ sb ∧ b0 + 1 ≠ vb ∧ b0 + 1 ≠ rd := by
  obtain ⟨⟨c1, c2, c3, c4, -⟩, -, ⟨s1, s2, s3, s4, s5, -⟩, -⟩ := h
  refine ⟨fun e => ?_, fun e => ?_, fun e => ?_, fun e => ?_, by omega⟩
  · rw [e, s4] at c2; omega
  · rw [e, s5] at c2; omega
  · rw [e, s4] at c4; omega
  · rw [e, s5] at c4; omega
theorem CT.keep (h : CT b0 S rd t n p) (hF : FrC S S' rd sb vb sz) (hq : S'.2.2.1 rd 6 = I q) (h1 : b0 + 1 < sz) (h2 : b0 + 1 ≠ sb) (h3 : b0 + 1 ≠ vb) : CT b0 S' rd t n q := by
  obtain ⟨c1, c2, c3, c4, c5, c6, c7, c8⟩ := h
  have g := hF.1 (b0 + 1) h1 (by omega) h2 h3
  exact ⟨c1, by rw [hF.2.1, c2], by rw [hF.2.2.2.1, c3], by rw [g.1, c4], by rw [g.2.1, c5], by rw [hF.2.2.2.2 1 (by decide) (by decide), c6], hq, fun i hi => by rw [g.2.2.1]; exact c8 i hi⟩
theorem SQ.mv (h : SQ b0 S rd sb vb t n p l sz) (q : Nat) : SQ b0 (sI S rd 6 (I q)) rd sb vb t n q l sz := by
  obtain ⟨n1, n2, -⟩ := h.ne
  exact ⟨h.1.mv q, h.2.1, h.2.2.1.keep (Same.sI _ (fun e => n1 e.symm)) (Same.sI _ (fun e => n2 e.symm)), h.2.2.2⟩
theorem SQ.sb_ (h : SQ b0 S rd sb vb t n p l sz) : gR b0 K S 4 2 rd = some (some sb) := by
  rw [gR_own h.1.ownC h.1.2.1, h.2.1]
theorem SQ.ifk {α : Type} {o : Option α} (h : SQ b0 S rd sb vb t n p l sz) : ifk b0 K S 7 sb o = o := ifk_own h.2.2.1.1 h.2.2.1.2.2.2.1
theorem SQ.app (h : SQ b0 S rd sb vb t n p l sz) {c : Int32} (hc : 0 ≤ c.toInt ∧ c.toInt < 128) (hl : l.length < 30) (q : Nat) :
    ∃ S' vb' dc ds, x_SB_append N b0 K sb c sz S = some (some sb, S', dc, ds) ∧ gI b0 K S' 4 6 rd = some (I p) ∧ pI b0 S' 4 6 rd (I q) = some (sI S' rd 6 (I q)) ∧ SQ b0 (sI S' rd 6 (I q)) rd sb vb' t n q (l ++ [c]) (sz + dc) ∧ FrC S (sI S' rd 6 (I q)) rd sb vb sz ∧
      ((vb' = vb ∧ dc = 0 ∧ ds = 0 ∧ (sI S' rd 6 (I q)).2.1 vb' = S.2.1 vb) ∨ (vb' = sz ∧ dc = 1 ∧ ds = 34 ∧ S.2.1 vb = 16 ∧ (sI S' rd 6 (I q)).2.1 vb' = 34)) := by
  obtain ⟨n1, n2, n3, n4, n5⟩ := h.ne
  obtain ⟨h1, h2, h3, h4, h5, h6, h7⟩ := h
  obtain ⟨S', vb', dc, ds, e1, e2, e3, e4, e5⟩ := h3.app (N := N) (K := K) hc hl (.inl h4) h6 h7
  have hF : FrC S S' rd sb vb sz := FrC.of (M := fun _ => True) (fun a a1 a2 a3 => e3 a a2 a3 a1) h5 n1 n2
  have g := e3 rd n1 n2 h5
  have hC : CT b0 S' rd t n p := h1.keep hF (by rw [g.2.2.1]; exact h1.2.2.2.2.2.2.1) (by omega) n3 n4
  have hvz : vb' < sz + dc ∧ sz ≤ sz + dc := by omega
  have hSQ : SQ b0 S' rd sb vb' t n p (l ++ [c]) (sz + dc) := ⟨hC, by rw [g.2.2.2]; exact h2, e2, by omega, by omega, by omega, hvz.1⟩
  refine ⟨S', vb', dc, ds, e1, hC.at_, hC.put _ _, hSQ.mv q, hF.trans (FrC.mv S' (.inl rfl) _) (Nat.le_refl _) (.inl rfl), ?_⟩
  rcases e4 with ⟨r1, r2, r3⟩ | ⟨r1, r2, r3, r4, r5⟩
  · exact .inl ⟨r1, r2, r3, e5 r1⟩
  · exact .inr ⟨r1, r2, r3, r4, r5⟩
/-- The reference while it reads letters: from the pool's place on. -/
def RQ (R : rS) (t : Nat → Int32) (n p hb u0 : Nat) (l : List Int32) : Prop :=
  RT R t n p ∧ R.1 19 = I hb ∧ hb ≤ 1 ∧ R.1 24 = I (300 * hb + u0) ∧ R.1 25 = I l.length ∧ R.2 12 hb = I (u0 + l.length) ∧ u0 + l.length ≤ p ∧ ∀ (j : Nat) (c : Int32), l[j]? = some c → R.2 13 (300 * hb + u0 + j) = c
def FR (R R' : rS) (hb u0 : Nat) : Prop :=
  (∀ k, k ≠ 3 → k ≠ 4 → k ≠ 24 → k ≠ 25 → R'.1 k = R.1 k) ∧ (∀ j, j ≠ 12 → j ≠ 13 → R'.2 j = R.2 j) ∧ (∀ i, i ≠ hb → R'.2 12 i = R.2 12 i) ∧ ∀ i, i < 300 * hb + u0 ∨ 300 * hb + 300 ≤ i → R'.2 13 i = R.2 13 i
theorem FR.refl (R : rS) : FR R R hb u0 := ⟨fun _ _ _ _ _ => rfl, fun _ _ _ => rfl, fun _ _ => rfl, fun _ _ => rfl⟩
theorem FR.trans {R'' : rS} (h : FR R R' hb u0) (h' : FR R' R'' hb u0) : FR R R'' hb u0 :=
  ⟨fun k a b c d => (h'.1 k a b c d).trans (h.1 k a b c d), fun j a b => (h'.2.1 j a b).trans (h.2.1 j a b), fun i a => (h'.2.2.1 i a).trans (h.2.2.1 i a), fun i a => (h'.2.2.2 i a).trans (h.2.2.2 i a)⟩
theorem FR.rw (R : rS) {k : Nat} (hk : k = 3 ∨ k = 4 ∨ k = 24 ∨ k = 25) (v : Int32) : FR R (Rw R k v) hb u0 :=
  ⟨fun j a b c d => Rw_1n _ _ (by omega), fun _ _ _ => rfl, fun _ _ => rfl, fun _ _ => rfl⟩
theorem RQ.mv (h : RQ R t n p hb u0 l) {q : Nat} (hq : u0 + l.length ≤ q) : RQ (Rw R 3 (I q)) t n q hb u0 l :=
  ⟨h.1.mv q, by rw [Rw_1n _ _ (by decide)]; exact h.2.1, h.2.2.1, by rw [Rw_1n _ _ (by decide)]; exact h.2.2.2.1, by rw [Rw_1n _ _ (by decide)]; exact h.2.2.2.2.1, h.2.2.2.2.2.1, hq, h.2.2.2.2.2.2.2⟩
theorem RQ.add (h : RQ R t n p hb u0 l) (hT : Tx t n) (hp : p ≤ n) {c : Int32} {pl : Int32} (hl : l.length < 30) : ∃ R', m_add N c pl R = some (1, R') ∧ (∀ q, u0 + l.length + 1 ≤ q → RQ (Rw R' 3 (I q)) t n q hb u0 (l ++ [c])) ∧ FR R R' hb u0 ∧ R'.1 3 = R.1 3 ∧ R'.1 4 = R.1 4 := by
  have hn := hT.1
  obtain ⟨h1, h2, h3, h4, h5, h6, h7, h8⟩ := h
  unfold m_add
  rw [h5, if_neg (fun e => by have := (I_inj (b := 30) (by omega) (by omega)).1 e; omega), h4, I_add, rT_eq (by show _ < 600; omega) (by omega)]
  simp only [b1_some, rP_eq, Ra_1, h5, I_1, Rw_1n _ _ (show (19 : Nat) ≠ 25 by decide), h2]
  rw [rL_eq (by show _ < 2; omega) (by omega)]
  simp only [b1_some]
  rw [Rw_2, Ra_ne _ (.inl (by decide)), h6, rT_eq (by show _ < 2; omega) (by omega)]
  simp only [b1_some, I_1]
  refine ⟨_, rfl, ?_, ?_, ?_⟩
  · intro q hq
    refine ⟨⟨?_, Rw_1 _ _ _, ?_⟩, ?_, h3, ?_, ?_, ?_, by simp; omega, ?_⟩
    · rw [Rw_1n _ _ (by decide), Ra_1, Rw_1n _ _ (by decide), Ra_1]; exact h1.1
    · intro i hi; rw [Rw_2, Ra_ne _ (.inl (by decide)), Rw_2, Ra_ne _ (.inl (by decide))]; exact h1.2.2 i hi
    · rw [Rw_1n _ _ (by decide), Ra_1, Rw_1n _ _ (by decide), Ra_1]; exact h2
    · rw [Rw_1n _ _ (by decide), Ra_1, Rw_1n _ _ (by decide), Ra_1]; exact h4
    · rw [Rw_1n _ _ (by decide), Ra_1, Rw_1]; simp
    · rw [Rw_2, Ra_at, List.length_append, List.length_singleton, Nat.add_assoc]
    · intro j c' hj
      rw [Rw_2, Ra_ne _ (.inl (by decide)), Rw_2]
      by_cases e : j = l.length
      · subst e
        rw [Ra_at]; simp at hj; exact hj
      · rw [Ra_ne _ (.inr (by omega))]
        have : j < l.length := by have := lt_list hj; simp at this; omega
        rw [List.getElem?_append_left this] at hj
        exact h8 j c' hj
  · refine ⟨fun k a b c d => ?_, fun j a b => ?_, fun i a => ?_, fun i a => ?_⟩
    · rw [Ra_1, Rw_1n _ _ d, Ra_1]
    · funext i; rw [Ra_ne _ (.inl a), Rw_2, Ra_ne _ (.inl b)]
    · rw [Ra_ne _ (.inr a), Rw_2, Ra_ne _ (.inl (by decide))]
    · rw [Ra_ne _ (.inl (by decide)), Rw_2, Ra_ne _ (.inr (by omega))]
  · exact ⟨by rw [Ra_1, Rw_1n _ _ (by decide), Ra_1], by rw [Ra_1, Rw_1n _ _ (by decide), Ra_1]⟩
end
