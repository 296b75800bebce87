section
variable {b0 N : Nat} {K S S' : cS} {rd sb vb vb' sz sz' : Nat} {t : Nat → Int32} {n p q : Nat} {R R' : rS} {l : List Int32} {hb u0 u : Nat} {T T' : Ar} {ad : Nat → Nat} {m : Nat}
/-- The new row of values, before it is linked. -/
def mkR (R : rS) (hb m : Nat) (k x : Int32) : rS :=
  Ra (Ra (Ra (Ra (Ra (Ra (Ra R 2 hb (I (m + 1))) 3 (260 * hb + m) k) 5 (260 * hb + m) x) 6 (260 * hb + m) (-1)) 8 (260 * hb + m) (-1)) 9 (260 * hb + m) 0) 4 (260 * hb + m) 0
theorem mkR_1 (k x : Int32) : (mkR R hb m k x).1 = R.1 := rfl
theorem mkR_gr (hm : m < 260) (k x : Int32) : GR R (mkR R hb m k x) hb := by
  unfold mkR
  exact ((((((GR.ra R (.inr (.inl ⟨.inl rfl, rfl⟩)) _).trans (GR.ra _ (.inl (by omega)) _)).trans (GR.ra _ (.inl (by omega)) _)).trans (GR.ra _ (.inl (by omega)) _)).trans (GR.ra _ (.inl (by omega)) _)).trans (GR.ra _ (.inl (by omega)) _)).trans (GR.ra _ (.inl (by omega)) _)
theorem mkR_old {j i : Nat} (k x : Int32) (hj : 3 ≤ j) (hi : i ≠ 260 * hb + m) : (mkR R hb m k x).2 j i = R.2 j i := by
  unfold mkR
  rw [Ra_ne _ (.inr hi), Ra_ne _ (.inr hi), Ra_ne _ (.inr hi), Ra_ne _ (.inr hi), Ra_ne _ (.inr hi), Ra_ne _ (.inr hi), Ra_ne _ (.inl (by omega))]
theorem mkR_hi {j i : Nat} (k x : Int32) (hj : 10 ≤ j) : (mkR R hb m k x).2 j i = R.2 j i := by
  unfold mkR
  rw [Ra_ne _ (.inl (by omega)), Ra_ne _ (.inl (by omega)), Ra_ne _ (.inl (by omega)), Ra_ne _ (.inl (by omega)), Ra_ne _ (.inl (by omega)), Ra_ne _ (.inl (by omega)), Ra_ne _ (.inl (by omega))]
theorem mkR_many (k x : Int32) : (mkR R hb m k x).2 2 hb = I (m + 1) := by
  unfold mkR
  rw [Ra_ne _ (.inl (by omega)), Ra_ne _ (.inl (by omega)), Ra_ne _ (.inl (by omega)), Ra_ne _ (.inl (by omega)), Ra_ne _ (.inl (by omega)), Ra_ne _ (.inl (by omega)), Ra_at]
theorem mkR_new (k x : Int32) : (mkR R hb m k x).2 3 (260 * hb + m) = k ∧ (mkR R hb m k x).2 4 (260 * hb + m) = 0 ∧ (mkR R hb m k x).2 5 (260 * hb + m) = x ∧ (mkR R hb m k x).2 6 (260 * hb + m) = -1 ∧ (mkR R hb m k x).2 8 (260 * hb + m) = -1 ∧ (mkR R hb m k x).2 9 (260 * hb + m) = 0 := by
  unfold mkR
  refine ⟨?_, ?_, ?_, ?_, ?_, ?_⟩ <;> simp only [Ra_get] <;> simp
theorem mk_head (hb1 : hb ≤ 1) (h19 : R.1 19 = I hb) (hm : R.2 2 hb = I m) (hm2 : m < 260) (k x : Int32) :
    m_make N k x R = if x = (-1) then (some (I (260 * hb + m), mkR R hb m k x)) else (b1 (rL (mkR R hb m k x) 6 x) (fun x19 => if x19 = (-1) then (b1 (rT (mkR R hb m k x) 6 x (I (260 * hb + m))) (fun S25 => m_make_111 N x (I (260 * hb + m)) S25)) else (b1 (rL (mkR R hb m k x) 7 x) (fun x21 => b1 (rT (mkR R hb m k x) 8 x21 (I (260 * hb + m))) (fun S23 => m_make_111 N x (I (260 * hb + m)) S23))))) := by
  unfold m_make
  rw [h19, rL_eq (by show _ < 2; omega) (by omega), hm]
  simp only [b1_some]
  rw [rT_eq (by show _ < 2; omega) (by omega)]
  simp only [b1_some]
  rw [show (260 : Int32) * I hb + I m = I (260 * hb + m) by rw [show (260 : Int32) = I 260 from rfl, I_mul, I_add], I_1]
  rw [rT_eq (by show _ < 520; omega) (by omega)]
  simp only [b1_some]
  rw [rT_eq (by show _ < 520; omega) (by omega)]
  simp only [b1_some]
  rw [rT_eq (by show _ < 520; omega) (by omega)]
  simp only [b1_some]
  rw [rT_eq (by show _ < 520; omega) (by omega)]
  simp only [b1_some]
  rw [rT_eq (by show _ < 520; omega) (by omega)]
  simp only [b1_some]
  rw [rT_eq (by show _ < 520; omega) (by omega)]
  rfl
theorem mkR_rel (h : RelR R T hb m u) {k : Int32} {o : Option Nat} (ho : ∀ j, o = some j → j < m) : RelR (mkR R hb m k (enc hb o)) ((arN T m k 0).1, (arN T m k 0).2.1, up2 (arN T m k 0).2.2.1 m 4 o, (arN T m k 0).2.2.2.1, (arN T m k 0).2.2.2.2) hb (m + 1) u := by
  refine ⟨fun i hi => ?_, fun i hi f j h4 h7 e => ?_⟩
  · by_cases e : i = m
    · subst e
      obtain ⟨a3, a4, a5, a6, a8, a9⟩ := mkR_new (R := R) (hb := hb) (m := i) k (enc hb o)
      have lk : ∀ f, f ≠ 4 → up2 (arN T i k 0).2.2.1 i 4 o i f = none := by
        intro f hf; rw [up2_nn _ _ (.inr hf)]; show (va_up T.2.2.1 i (fun _ => (none : Option Nat))) i f = none; rw [va_at_]
      refine ⟨?_, fun _ => ?_, fun _ => ?_, ?_, ?_, fun j e => ?_, ?_, fun ls e => ?_, fun ls e => ?_⟩
      · rw [a3]; exact (va_at_ _ _ _).symm
      · rw [a9]; exact (va_at_ _ _ _).symm
      · rw [a4]; exact (va_at_ _ _ _).symm
      · rw [a5]; show _ = enc hb (up2 _ _ _ _ _ _); rw [up2_at]
      · rw [a6]; show _ = enc hb (up2 _ _ _ _ _ _); rw [lk 5 (by decide)]; rfl
      · have e' : up2 (arN T i k 0).2.2.1 i 4 o i 6 = some j := e
        rw [lk 6 (by decide)] at e'; cases e'
      · intro _; rw [a8]; show _ = enc hb (up2 _ _ _ _ _ _); rw [lk 7 (by decide)]; rfl
      · have e' : va_up T.2.2.2.1 i none i = some ls := e
        rw [va_at_] at e'; cases e'
      · have e' : va_up T.2.2.2.2 i none i = some ls := e
        rw [va_at_] at e'; cases e'
    · have hi' : i < m := by omega
      have g := (h.1 i hi').keep (R' := mkR R hb m k (enc hb o)) (u' := u) (fun j a b => mkR_old _ _ a (by omega)) (fun i _ _ => mkR_hi _ _ (by decide)) (Nat.le_refl _)
      obtain ⟨h1, h2, h3, h4, h5, h6, h7, h8, h9⟩ := g
      have t1 : va_up T.1 m k i = T.1 i := va_ne _ _ e
      have t2 : va_up T.2.1 m 0 i = T.2.1 i := va_ne _ _ e
      have t3 : ∀ f, up2 (arN T m k 0).2.2.1 m 4 o i f = T.2.2.1 i f := by
        intro f; rw [up2_nn _ _ (.inl e)]; show (va_up T.2.2.1 m (fun _ => (none : Option Nat))) i f = _; rw [va_ne _ _ e]
      have t4 : va_up T.2.2.2.1 m none i = T.2.2.2.1 i := va_ne _ _ e
      have t5 : va_up T.2.2.2.2 m none i = T.2.2.2.2 i := va_ne _ _ e
      refine ⟨?_, fun a => ?_, fun a => ?_, ?_, ?_, fun j e => ?_, ?_, fun ls e => ?_, fun ls e => ?_⟩
      · rw [h1]; exact t1.symm
      · have a' : cnk (va_up T.1 m k i) := a
        rw [t1] at a'
        rw [h2 a']; exact t2.symm
      · have a' : ¬ cnk (va_up T.1 m k i) := a
        rw [t1] at a'
        rw [h3 a']; exact t2.symm
      · rw [h4]; show _ = enc hb (up2 _ _ _ _ _ _); rw [t3]
      · rw [h5]; show _ = enc hb (up2 _ _ _ _ _ _); rw [t3]
      · have e' : up2 (arN T m k 0).2.2.1 m 4 o i 6 = some j := e
        rw [t3] at e'; exact h6 j e'
      · intro hz; rw [h7 hz]; show _ = enc hb (up2 _ _ _ _ _ _); rw [t3]
      · have e' : va_up T.2.2.2.1 m none i = some ls := e
        rw [t4] at e'
        obtain ⟨b1', b2', b3'⟩ := h8 ls e'
        exact ⟨t1.trans b1', b2', t2.trans b3'⟩
      · have e' : va_up T.2.2.2.2 m none i = some ls := e
        rw [t5] at e'
        exact h9 ls e'
  · have e' : up2 (arN T m k 0).2.2.1 m 4 o i f = some j := e
    by_cases e1 : i = m
    · subst e1
      by_cases e2 : f = 4
      · subst e2; rw [up2_at] at e'; have := ho j e'; omega
      · rw [up2_nn _ _ (.inr e2)] at e'
        have e'' : (va_up T.2.2.1 i (fun _ => (none : Option Nat))) i f = some j := e'
        rw [va_at_] at e''; cases e''
    · rw [up2_nn _ _ (.inl e1)] at e'
      have e'' : (va_up T.2.2.1 m (fun _ => (none : Option Nat))) i f = some j := e'
      rw [va_ne _ _ e1] at e''
      have := h.2 i (by omega) f j h4 h7 e''
      omega
/-- One link is put. -/
theorem RelR.putL (h : RelR R T hb m u) {v f j : Nat} (hv : v < m) (h4 : 4 ≤ f) (h7 : f ≤ 7) (hj : j < m) : RelR (Ra R (f + 1) (260 * hb + v) (I (260 * hb + j))) (T.1, T.2.1, up2 T.2.2.1 v f (some j), T.2.2.2.1, T.2.2.2.2) hb m u := by
  have h13 : ∀ i, (Ra R (f + 1) (260 * hb + v) (I (260 * hb + j))).2 13 i = R.2 13 i := fun i => Ra_ne _ (.inl (by omega))
  refine ⟨fun i hi => ?_, fun i hi g x g4 g7 e => ?_⟩
  · by_cases e : i = v
    · subst e
      obtain ⟨h1, h2, h3, a4, a5, a6, a7, a8, a9⟩ := h.1 i hi
      have w : ∀ g, 3 ≤ g → g ≠ f + 1 → (Ra R (f + 1) (260 * hb + i) (I (260 * hb + j))).2 g (260 * hb + i) = R.2 g (260 * hb + i) := fun g _ hg => Ra_ne _ (.inl hg)
      have wl : ∀ g, g ≠ f → up2 T.2.2.1 i f (some j) i g = T.2.2.1 i g := fun g hg => up2_nn _ _ (.inr hg)
      refine ⟨by rw [w 3 (by omega) (by omega), h1], fun a => by rw [w 9 (by omega) (by omega)]; exact h2 a, fun a => by rw [w 4 (by omega) (by omega)]; exact h3 a, ?_, ?_, fun x e => ?_, ?_, fun ls e => ?_, fun ls e => ?_⟩
      · show _ = enc hb (up2 _ _ _ _ _ _)
        by_cases e4 : f = 4
        · subst e4; rw [Ra_at, up2_at]; rfl
        · rw [w 5 (by omega) (by omega), wl 4 (by omega), a4]
      · show _ = enc hb (up2 _ _ _ _ _ _)
        by_cases e4 : f = 5
        · subst e4; rw [Ra_at, up2_at]; rfl
        · rw [w 6 (by omega) (by omega), wl 5 (by omega), a5]
      · have e' : up2 T.2.2.1 i f (some j) i 6 = some x := e
        by_cases e4 : f = 6
        · subst e4; rw [up2_at] at e'; cases e'; rw [Ra_at]
        · rw [wl 6 (by omega)] at e'; rw [w 7 (by omega) (by omega)]; exact a6 x e'
      · intro hz
        show _ = enc hb (up2 _ _ _ _ _ _)
        by_cases e4 : f = 7
        · subst e4; rw [Ra_at, up2_at]; rfl
        · rw [w 8 (by omega) (by omega), wl 7 (by omega), a7 hz]
      · obtain ⟨b1', b2', b3'⟩ := a8 ls e
        exact ⟨b1', by rw [w 4 (by omega) (by omega)]; exact b2'.keep (fun i _ _ => h13 i) (Nat.le_refl _), b3'⟩
      · obtain ⟨b1', b2'⟩ := a9 ls e
        exact ⟨by rw [w 10 (by omega) (by omega)]; exact b1'.keep (fun i _ _ => h13 i) (Nat.le_refl _), by rw [w 11 (by omega) (by omega)]; exact b2'⟩
    · have g := (h.1 i hi).keep (R' := Ra R (f + 1) (260 * hb + v) (I (260 * hb + j))) (u' := u) (fun g _ _ => Ra_ne _ (.inr (by omega))) (fun i _ _ => h13 i) (Nat.le_refl _)
      obtain ⟨h1, h2, h3, a4, a5, a6, a7, a8, a9⟩ := g
      have wl : ∀ g, up2 T.2.2.1 v f (some j) i g = T.2.2.1 i g := fun g => up2_nn _ _ (.inl e)
      refine ⟨h1, h2, h3, ?_, ?_, fun x e => ?_, ?_, a8, a9⟩
      · rw [a4]; show _ = enc hb (up2 _ _ _ _ _ _); rw [wl]
      · rw [a5]; show _ = enc hb (up2 _ _ _ _ _ _); rw [wl]
      · have e' : up2 T.2.2.1 v f (some j) i 6 = some x := e
        rw [wl] at e'; exact a6 x e'
      · intro hz; rw [a7 hz]; show _ = enc hb (up2 _ _ _ _ _ _); rw [wl]
  · have e' : up2 T.2.2.1 v f (some j) i g = some x := e
    by_cases e1 : i = v ∧ g = f
    · rw [e1.1, e1.2, up2_at] at e'; cases e'; exact hj
    · rw [up2_nn _ _ (by
        by_cases e2 : i = v
        · exact .inr (fun e3 => e1 ⟨e2, e3⟩)
        · exact .inl e2)] at e'
      exact h.2 i hi g x g4 g7 e'
/-- The number of what a value holds. -/
theorem RelR.putN (h : RelR R T hb m u) {v : Nat} (hv : v < m) (hk : 4 < T.1 v) (x : Int32) : RelR (Ra R 9 (260 * hb + v) x) (T.1, va_up T.2.1 v x, T.2.2.1, T.2.2.2.1, T.2.2.2.2) hb m u := by
  have h13 : ∀ i, (Ra R 9 (260 * hb + v) x).2 13 i = R.2 13 i := fun i => Ra_ne _ (.inl (by omega))
  refine ⟨fun i hi => ?_, h.2⟩
  by_cases e : i = v
  · subst e
    obtain ⟨h1, h2, h3, a4, a5, a6, a7, a8, a9⟩ := h.1 i hi
    have w : ∀ g, g ≠ 9 → (Ra R 9 (260 * hb + i) x).2 g (260 * hb + i) = R.2 g (260 * hb + i) := fun g hg => Ra_ne _ (.inl hg)
    refine ⟨by rw [w 3 (by omega), h1], fun a => by rw [Ra_at]; exact (va_at_ _ _ _).symm, fun a => absurd (.inr hk) a, by rw [w 5 (by omega), a4], by rw [w 6 (by omega), a5], fun j e => by rw [w 7 (by omega)]; exact a6 j e, fun hz => by rw [w 8 (by omega), a7 hz], fun ls e => ?_, fun ls e => ?_⟩
    · obtain ⟨b1', b2', b3'⟩ := a8 ls e
      rw [b1'] at hk; exact absurd hk (by decide)
    · obtain ⟨b1', b2'⟩ := a9 ls e
      exact ⟨by rw [w 10 (by omega)]; exact b1'.keep (fun i _ _ => h13 i) (Nat.le_refl _), by rw [w 11 (by omega)]; exact b2'⟩
  · obtain ⟨h1, h2, h3, a4, a5, a6, a7, a8, a9⟩ := (h.1 i hi).keep (R' := Ra R 9 (260 * hb + v) x) (u' := u) (fun g _ _ => Ra_ne _ (.inr (by omega))) (fun i _ _ => h13 i) (Nat.le_refl _)
    have wl : va_up T.2.1 v x i = T.2.1 i := va_ne _ _ e
    refine ⟨h1, fun a => (h2 a).trans wl.symm, fun a => (h3 a).trans wl.symm, a4, a5, a6, a7, fun ls e => ?_, a9⟩
    obtain ⟨b1', b2', b3'⟩ := a8 ls e
    exact ⟨b1', b2', wl.trans b3'⟩
/-- make, within a holder. -/
theorem mk_in (h : RelR R T hb m u) (hb1 : hb ≤ 1) (h19 : R.1 19 = I hb) (hm : R.2 2 hb = I m) (hm2 : m < 260) {hd : Nat} (hh : hd < m) (hk : 4 < T.1 hd) (h56 : T.2.2.1 hd 5 = none ↔ T.2.2.1 hd 6 = none) (k : Int32) :
    ∃ R', m_make N k (I (260 * hb + hd)) R = some (I (260 * hb + m), R') ∧ RelR R' (arL (arN T m k 0) hd m) hb (m + 1) u ∧ R'.1 = R.1 ∧ R'.2 2 hb = I (m + 1) ∧ GR R R' hb ∧ (∀ j i, 12 ≤ j → R'.2 j i = R.2 j i) ∧ R'.2 9 (260 * hb + m) = 0 := by
  rw [mk_head hb1 h19 hm hm2, if_neg (ne_neg (by omega)), rL_eq (by show _ < 520; omega) (by omega)]
  simp only [b1_some]
  have hne : hd ≠ m := by omega
  have h0 := mkR_rel (k := k) (o := some hd) h (fun j e => by cases e; exact hh)
  have e0 : enc hb (some hd) = I (260 * hb + hd) := rfl
  rw [e0] at h0
  generalize hR0 : mkR R hb m k (I (260 * hb + hd)) = R0 at h0 ⊢
  have g0 : GR R R0 hb := by rw [← hR0]; exact mkR_gr hm2 _ _
  have m0 : R0.2 2 hb = I (m + 1) := by rw [← hR0]; exact mkR_many _ _
  have f0 : R0.1 = R.1 := by rw [← hR0]; rfl
  have hi0 : ∀ j i, 12 ≤ j → R0.2 j i = R.2 j i := fun j i hj => by rw [← hR0]; exact mkR_hi _ _ (by omega)
  have n9 : R0.2 9 (260 * hb + m) = 0 := by rw [← hR0]; exact (mkR_new _ _).2.2.2.2.2
  have k0 : (arN T m k 0).1 hd = T.1 hd := va_ne _ _ hne
  have n0 : (arN T m k 0).2.1 hd = T.2.1 hd := va_ne _ _ hne
  have l0 : ∀ f, (arN T m k 0).2.2.1 hd f = T.2.2.1 hd f := by
    intro f; show (va_up T.2.2.1 m (fun _ => (none : Option Nat))) hd f = _; rw [va_ne _ _ hne]
  have nh := h0.1 hd (by omega)
  have e6 : R0.2 6 (260 * hb + hd) = enc hb (T.2.2.1 hd 5) := by
    rw [nh.2.2.2.2.1]
    show enc hb (up2 _ _ _ _ _ _) = _
    rw [up2_nn _ _ (.inl hne), l0]
  rw [e6]
  -- the end: last and counts
  have fin : ∀ (R1 : rS) (T1 : Ar), RelR R1 T1 hb (m + 1) u → T1.1 hd = T.1 hd → ∃ R', m_make_111 N (I (260 * hb + hd)) (I (260 * hb + m)) R1 = some (I (260 * hb + m), R') ∧ RelR R' (T1.1, va_up T1.2.1 hd (T1.2.1 hd + 1), up2 T1.2.2.1 hd 6 (some m), T1.2.2.2.1, T1.2.2.2.2) hb (m + 1) u ∧ R'.1 = R1.1 ∧ R'.2 2 = R1.2 2 ∧ GR R1 R' hb ∧ (∀ j i, 12 ≤ j → R'.2 j i = R1.2 j i) ∧ R'.2 9 (260 * hb + m) = R1.2 9 (260 * hb + m) := by
    intro R1 T1 hr ht
    unfold m_make_111
    rw [rT_eq (by show _ < 520; omega) (by omega)]
    simp only [b1_some]
    rw [rL_eq (by show _ < 520; omega) (by omega)]
    simp only [b1_some]
    rw [rT_eq (by show _ < 520; omega) (by omega)]
    have h1 := hr.putL (v := hd) (f := 6) (j := m) (by omega) (by omega) (by omega) (by omega)
    have ec : (Ra R1 7 (260 * hb + hd) (I (260 * hb + m))).2 9 (260 * hb + hd) = T1.2.1 hd := (h1.1 hd (by omega)).2.1 (.inr (by show 4 < T1.1 hd; rw [ht]; exact hk))
    simp only [b1_some]
    rw [ec]
    refine ⟨_, rfl, h1.putN (v := hd) (by omega) (by show 4 < T1.1 hd; rw [ht]; exact hk) (T1.2.1 hd + 1), rfl, ?_, ?_, (fun j i hj => ?_), ?_⟩
    · funext i; rw [Ra_ne _ (.inl (by decide)), Ra_ne _ (.inl (by decide))]
    · exact (GR.ra R1 (.inl (by omega)) _).trans (GR.ra _ (.inl (by omega)) _)
    · rw [Ra_ne _ (.inl (by omega)), Ra_ne _ (.inl (by omega))]
    · rw [Ra_ne _ (.inr (by omega)), Ra_ne _ (.inl (by decide))]
  unfold arL lnk
  rw [l0 6]
  cases hl : T.2.2.1 hd 6 with
  | none =>
    rw [h56.2 hl, if_pos (show enc hb none = -1 from rfl), rT_eq (by show _ < 520; omega) (by omega)]
    simp only [b1_some]
    have h1 := h0.putL (v := hd) (f := 5) (j := m) (by omega) (by omega) (by omega) (by omega)
    obtain ⟨R', f1, f2, f3, f4, f5, f6, f7⟩ := fin _ _ h1 k0
    refine ⟨R', f1, f2, f3.trans f0, ?_, (g0.trans (GR.ra R0 (.inl (by omega)) _)).trans f5, (fun j i hj => ?_), by rw [f7, Ra_ne _ (.inl (by decide))]; exact n9⟩
    · rw [f4, Ra_ne _ (.inl (by decide)), m0]
    · rw [f6 j i hj, Ra_ne _ (.inl (by omega)), hi0 j i hj]
  | some la =>
    have hla := h.2 hd hh 6 la (by omega) (by omega) hl
    have h5 : ∃ a, T.2.2.1 hd 5 = some a := by
      cases h5 : T.2.2.1 hd 5 with
      | none => rw [h56.1 h5] at hl; cases hl
      | some a => exact ⟨a, rfl⟩
    obtain ⟨a, h5⟩ := h5
    have ha := h.2 hd hh 5 a (by omega) (by omega) h5
    rw [h5, if_neg (show ¬ enc hb (some a) = -1 from ne_neg (by omega)), rL_eq (by show _ < 520; omega) (by omega)]
    have e7 : R0.2 7 (260 * hb + hd) = I (260 * hb + la) := nh.2.2.2.2.2.1 la (by show up2 _ _ _ _ _ _ = _; rw [up2_nn _ _ (.inl hne), l0]; exact hl)
    rw [e7]
    simp only [b1_some]
    rw [rT_eq (by show _ < 520; omega) (by omega)]
    simp only [b1_some]
    have h1 := h0.putL (v := la) (f := 7) (j := m) (by omega) (by omega) (by omega) (by omega)
    obtain ⟨R', f1, f2, f3, f4, f5, f6, f7⟩ := fin _ _ h1 k0
    refine ⟨R', f1, f2, f3.trans f0, ?_, (g0.trans (GR.ra R0 (.inl (by omega)) _)).trans f5, (fun j i hj => ?_), by rw [f7, Ra_ne _ (.inl (by decide))]; exact n9⟩
    · rw [f4, Ra_ne _ (.inl (by decide)), m0]
    · rw [f6 j i hj, Ra_ne _ (.inl (by omega)), hi0 j i hj]
end
