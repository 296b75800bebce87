section
variable {b0 N : Nat} {K S S' : cS} {rd sb vb vb' sz sz' : Nat} {t : Nat → Int32} {n p q : Nat} {R R' : rS} {l : List Int32} {hb u0 u : Nat} {T T' : Ar} {ad : Nat → Nat} {m : Nat}
/-- The key of a value, from a part of the path. -/
theorem nm_eq (h : RelR R T hb m u) (hb1 : hb ≤ 1) (hm2 : m ≤ 260) {v i : Nat} (hv : v < m) {ps : List (Nat × List Int32)} (hP : PartR R hb u ps) (hu : u ≤ 300) (hps : ps.length ≤ 130) {x : Nat × List Int32} (hx : ps[i]? = some x) :
    ∃ R', m_named N (I (260 * hb + v)) (I i) R = some (I (260 * hb + v), R') ∧ RelR R' (arY T v (some x.2)) hb m u ∧ R'.1 = R.1 ∧ R'.2 2 = R.2 2 ∧ GR R R' hb ∧ (∀ j i, 12 ≤ j → R'.2 j i = R.2 j i) ∧ R'.2 9 (260 * hb + v) = R.2 9 (260 * hb + v) := by
  have hi := glt hx
  obtain ⟨h1, f, h2, h3, h4, h5, h6⟩ := hP i x hx
  unfold m_named
  rw [rL_eq (by show _ < 130; omega) (by omega), h2]
  simp only [b1_some]
  rw [rT_eq (by show _ < 520; omega) (by omega)]
  simp only [b1_some]
  rw [rL_eq (by show _ < 130; omega) (by omega), Ra_ne _ (.inl (by decide)), h4]
  simp only [b1_some]
  rw [rT_eq (by show _ < 520; omega) (by omega)]
  refine ⟨_, rfl, ?_, rfl, ?_, (GR.ra R (.inl (by omega)) _).trans (GR.ra _ (.inl (by omega)) _), (fun j i hj => ?_), ?_⟩
  · have h13 : ∀ i, (Ra (Ra R 10 (260 * hb + v) (I f)) 11 (260 * hb + v) (I x.2.length)).2 13 i = R.2 13 i := fun i => by rw [Ra_ne _ (.inl (by decide)), Ra_ne _ (.inl (by decide))]
    refine ⟨fun i hi => ?_, h.2⟩
    by_cases e : i = v
    · subst e
      obtain ⟨a1, a2, a3, a4, a5, a6, a7, a8, a9⟩ := h.1 i hi
      have w : ∀ g, g ≠ 10 → g ≠ 11 → (Ra (Ra R 10 (260 * hb + i) (I f)) 11 (260 * hb + i) (I x.2.length)).2 g (260 * hb + i) = R.2 g (260 * hb + i) := fun g b c => by rw [Ra_ne _ (.inl c), Ra_ne _ (.inl b)]
      refine ⟨by rw [w 3 (by omega) (by omega)]; exact a1, fun a => by rw [w 9 (by omega) (by omega)]; exact a2 a, fun a => by rw [w 4 (by omega) (by omega)]; exact a3 a, by rw [w 5 (by omega) (by omega)]; exact a4, by rw [w 6 (by omega) (by omega)]; exact a5, fun j e => by rw [w 7 (by omega) (by omega)]; exact a6 j e, by rw [w 8 (by omega) (by omega)]; exact a7, fun ls e => ?_, fun ls e => ?_⟩
      · obtain ⟨b1', b2', b3'⟩ := a8 ls e
        exact ⟨b1', by rw [w 4 (by omega) (by omega)]; exact b2'.keep (fun i _ _ => h13 i) (Nat.le_refl _), b3'⟩
      · have e' : va_up T.2.2.2.2 i (some x.2) i = some ls := e
        rw [va_at_] at e'; cases e'
        exact ⟨⟨f, by rw [Ra_ne _ (.inl (by decide)), Ra_at], h3, h5, fun j c hj => by rw [h13]; exact h6 j c hj⟩, by rw [Ra_at]⟩
    · obtain ⟨a1, a2, a3, a4, a5, a6, a7, a8, a9⟩ := (h.1 i hi).keep (R' := Ra (Ra R 10 (260 * hb + v) (I f)) 11 (260 * hb + v) (I x.2.length)) (u' := u) (fun g _ _ => by rw [Ra_ne _ (.inr (by omega)), Ra_ne _ (.inr (by omega))]) (fun i _ _ => h13 i) (Nat.le_refl _)
      refine ⟨a1, a2, a3, a4, a5, a6, a7, a8, fun ls e' => a9 ls ?_⟩
      have e'' : va_up T.2.2.2.2 v (some x.2) i = some ls := e'
      rw [va_ne _ _ e] at e''; exact e''
  · funext i; rw [Ra_ne _ (.inl (by decide)), Ra_ne _ (.inl (by decide))]
  · rw [Ra_ne _ (.inl (by omega)), Ra_ne _ (.inl (by omega))]
  · rw [Ra_ne _ (.inl (by decide)), Ra_ne _ (.inl (by decide))]
/-! Looking for a key among a table's entries. -/
/-- The first entry from a value on that has the key. -/
def fnd (T : Ar) (k : List Int32) : Nat → Option Nat → Option Nat
  | 0, _ => none
  | _ + 1, none => none
  | d + 1, some i => if T.2.2.2.2 i = some k then some i else fnd T k d (T.2.2.1 i 7)
/-- Every entry of a chain has a key. -/
def Keyed (T : Ar) (m : Nat) : Nat → Option Nat → Prop
  | 0, o => o = none
  | _ + 1, none => True
  | d + 1, some i => i < m ∧ T.2.2.2.2 i ≠ none ∧ (0 < i ∧ ∀ j, T.2.2.1 i 7 = some j → i < j) ∧ Keyed T m d (T.2.2.1 i 7)
theorem fndC (hN : 200000 ≤ N) (h : RelC b0 S T ad m sz vb) {s : Nat} {k : List Int32} (hs : StrP b0 S s k sz vb) : ∀ (d f : Nat) (o : Option Nat), d < f → Keyed T m d o →
    x_N_entryNamed_5 N b0 K f (some s) (o.map ad) S = some ((fnd T k d o).map ad) := by
  intro d
  induction d with
  | zero =>
    intro f o hf ho
    obtain ⟨f, rfl⟩ : ∃ j, f = j + 1 := ⟨f - 1, by omega⟩
    have : o = none := ho
    subst this
    rfl
  | succ d ih =>
    intro f o hf ho
    obtain ⟨f, rfl⟩ : ∃ j, f = j + 1 := ⟨f - 1, by omega⟩
    cases o with
    | none => rfl
    | some i =>
      obtain ⟨hi, hk, hj, hr⟩ := ho
      obtain ⟨g1, g2, g3, g4, g5, g6, g7, g8⟩ := h.1 i hi
      cases hk' : T.2.2.2.2 i with
      | none => exact absurd hk' hk
      | some ls =>
        obtain ⟨s', e1, e2⟩ := g8.2 ls hk'
        unfold x_N_entryNamed_5 x_N_entryNamed_5F x_N_entryNamed_29 fnd
        simp only [Option.map_some, om_some]
        rw [gR_own g1 g3, e1]
        simp only [b1_some, om_some]
        have hstr : Str b0 K S s' ls := e2.str
        rw [ifk_kd hstr.1, hstr.eqs hN hs.str]
        simp only [b1_some]
        rw [hk']
        by_cases e : ls = k
        · rw [if_pos e, if_neg (by decide), if_pos (by rw [e])]; rfl
        · rw [if_neg e, if_pos rfl, if_neg (fun g => e (Option.some.inj g)), gR_own g1 g3]
          simp only [b1_some]
          rw [g6 7 (by omega) (by omega)]
          exact ih f _ (by omega) hr
theorem eo97 {K7 : Int32 → Int32 → rS → Option Int32} {i v : Nat} (hv : v < 520) : m_entryOf_97 N K7 (I i) (I v) 0 R = K7 (I i) (R.2 8 v) R := by
  unfold m_entryOf_97
  rw [if_pos rfl, rL_eq (by show _ < 520; omega) (by omega)]; rfl
theorem eo37 {K7 : Int32 → Int32 → rS → Option Int32} {i v f g : Nat} {ls k : List Int32} (hi : i < 130) (hv : v < 520) (hf : f + ls.length ≤ 600) (hg : g + k.length ≤ 600) (hl : ls.length = k.length) (e16 : R.2 16 i = I k.length) (e10 : R.2 10 v = I f) (e15 : R.2 15 i = I g)
    (h1 : ∀ (j : Nat) (c : Int32), ls[j]? = some c → R.2 13 (f + j) = c) (h2 : ∀ (j : Nat) (c : Int32), k[j]? = some c → R.2 13 (g + j) = c) : ∀ (d j fu : Nat), j + d = k.length → d + 1 < fu → (∀ x, x < j → ls[x]? = k[x]?) →
    m_entryOf_37 N K7 fu (I i) (I v) 1 (I j) R = if ls = k then some (I v) else K7 (I i) (R.2 8 v) R := by
  intro d
  induction d with
  | zero =>
    intro j fu hj hfu hx
    obtain ⟨fu, rfl⟩ : ∃ x, fu = x + 1 := ⟨fu - 1, by omega⟩
    unfold m_entryOf_37 m_entryOf_37F
    rw [rL_eq (by show _ < 130; omega) (by omega), e16]
    simp only [b1_some]
    rw [if_pos (I_le1 (by omega) (by omega))]
    unfold m_entryOf_97
    rw [if_neg (show ¬ (1 : Int32) = 0 by decide), if_pos]
    apply List.ext_getElem?
    intro x
    by_cases hxl : x < j
    · exact hx x hxl
    · rw [List.getElem?_eq_none (by omega), List.getElem?_eq_none (by omega)]
  | succ d ih =>
    intro j fu hj hfu hx
    obtain ⟨fu, rfl⟩ : ∃ x, fu = x + 1 := ⟨fu - 1, by omega⟩
    unfold m_entryOf_37 m_entryOf_37F
    rw [rL_eq (by show _ < 130; omega) (by omega), e16]
    simp only [b1_some]
    have g1 : ls[j]? = some ls[j] := List.getElem?_eq_getElem (by omega)
    have g2 : k[j]? = some k[j] := List.getElem?_eq_getElem (by omega)
    rw [if_neg (I_le0 (by omega) (by omega)), if_neg (show ¬ (1 : Int32) = 0 by decide), rL_eq (by show _ < 520; omega) (by omega), e10]
    simp only [b1_some]
    rw [I_add, rL_eq (by show _ < 600; omega) (by omega), h1 j _ g1, rL_eq (by show _ < 130; omega) (by omega), e15]
    simp only [b1_some]
    rw [I_add, rL_eq (by show _ < 600; omega) (by omega), h2 j _ g2]
    simp only [b1_some]
    unfold m_entryOf_89
    rw [I_1]
    by_cases e : ls[j] = k[j]
    · rw [if_pos e]
      refine ih (j + 1) fu (by omega) (by omega) (fun x hxl => ?_)
      by_cases hxj : x = j
      · subst hxj; rw [g1, g2, e]
      · exact hx x (by omega)
    · rw [if_neg e, if_neg (fun g => e (by have : ls[j]? = k[j]? := by rw [g]
                                           rw [g1, g2] at this; exact Option.some.inj this))]
      obtain ⟨fu, rfl⟩ : ∃ x, fu = x + 1 := ⟨fu - 1, by omega⟩
      unfold m_entryOf_37 m_entryOf_37F
      rw [rL_eq (by show _ < 130; omega) (by omega), e16]
      simp only [b1_some, if_true]
      rw [eo97 hv]
      simp only [ite_self]
theorem fndR (hN : 1000 ≤ N) (h : RelR R T hb m u) (hb1 : hb ≤ 1) (hm2 : m ≤ 260) (hu : u ≤ 300) {ps : List (Nat × List Int32)} (hP : PartR R hb u ps) (hps : ps.length ≤ 130) {i : Nat} {x : Nat × List Int32} (hx : ps[i]? = some x) (hx30 : x.2.length ≤ 30) : ∀ (d f : Nat) (o : Option Nat), d < f → Keyed T m d o →
    m_entryOf_7 N f (I i) (enc hb o) R = some (enc hb (fnd T x.2 d o)) := by
  have hi := glt hx
  obtain ⟨p1, g, p2, p3, p4, p5, p6⟩ := hP i x hx
  intro d
  induction d with
  | zero =>
    intro f o hf ho
    obtain ⟨f, rfl⟩ : ∃ j, f = j + 1 := ⟨f - 1, by omega⟩
    have : o = none := ho
    subst this
    unfold m_entryOf_7 m_entryOf_7F
    rw [if_pos (show enc hb none = -1 from rfl)]; rfl
  | succ d ih =>
    intro f o hf ho
    obtain ⟨f, rfl⟩ : ∃ j, f = j + 1 := ⟨f - 1, by omega⟩
    cases o with
    | none => unfold m_entryOf_7 m_entryOf_7F; rw [if_pos (show enc hb none = -1 from rfl)]; rfl
    | some v =>
      obtain ⟨hv, hk, hj, hr⟩ := ho
      obtain ⟨a1, a2, a3, a4, a5, a6, a7, a8, a9⟩ := h.1 v hv
      cases hk' : T.2.2.2.2 v with
      | none => exact absurd hk' hk
      | some ls =>
        obtain ⟨⟨f0, b1', b2', b3', b4'⟩, b5'⟩ := a9 ls hk'
        unfold m_entryOf_7 m_entryOf_7F m_entryOf_32 fnd
        have e0 : enc hb (some v) = I (260 * hb + v) := rfl
        rw [e0, if_neg (ne_neg (by omega)), rL_eq (by show _ < 520; omega) (by omega), b5', rL_eq (by show _ < 130; omega) (by omega), p4]
        simp only [b1_some]
        rw [hk']
        have hnext := ih f (T.2.2.1 v 7) (by omega) hr
        by_cases hl : ls.length = x.2.length
        · rw [if_pos (by rw [hl])]
          have := eo37 (N := N) (K7 := m_entryOf_7 N f) (i := i) (v := 260 * hb + v) (f := f0) (g := g) (R := R) (ls := ls) (k := x.2) (by omega) (by omega) (by omega) (by omega) hl p4 b1' p2 b4' p6 x.2.length 0 N (by omega) (by omega) (by intro x h; omega)
          rw [show (0 : Int32) = I 0 from rfl, this]
          by_cases e : ls = x.2
          · rw [if_pos e, if_pos (by rw [e])]; rfl
          · rw [if_neg e, if_neg (fun g => e (Option.some.inj g)), a7 (by have := hj.1; omega)]; exact hnext
        · rw [if_neg (fun g => hl ((I_inj (by omega) (by omega)).1 g)), if_neg (fun g => hl (by rw [Option.some.inj g]))]
          obtain ⟨N', hN'⟩ : ∃ j, N = j + 1 := ⟨N - 1, by omega⟩
          have : m_entryOf_37 N (m_entryOf_7 N f) N (I i) (I (260 * hb + v)) 0 0 R = m_entryOf_7 N f (I i) (R.2 8 (260 * hb + v)) R := by
            conv => lhs; arg 3; rw [hN']
            unfold m_entryOf_37 m_entryOf_37F
            rw [rL_eq (by show _ < 130; omega) (by omega), p4]
            simp only [b1_some, if_true]
            rw [eo97 (by omega)]
            simp only [ite_self]
          rw [this, a7 (by have := hj.1; omega)]; exact hnext
/-- What the search finds. -/
theorem fnd_lt (k : List Int32) : ∀ (d : Nat) (o : Option Nat) (j : Nat), Keyed T m d o → fnd T k d o = some j → j < m ∧ T.2.2.2.2 j = some k := by
  intro d
  induction d with
  | zero => intro o j _ h; cases h
  | succ d ih =>
    intro o j ho h
    cases o with
    | none => cases h
    | some i =>
      obtain ⟨hi, hk, hj, hr⟩ := ho
      unfold fnd at h
      by_cases e : T.2.2.2.2 i = some k
      · rw [if_pos e] at h; cases h; exact ⟨hi, e⟩
      · rw [if_neg e] at h; exact ih _ j hr h
end
