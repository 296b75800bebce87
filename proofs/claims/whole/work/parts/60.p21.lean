section
variable {b0 N : Nat} {K S S' : cS} {rd sb al vb vb' sz sz' sz0 : Nat} {t : Nat → Int32} {n p q : Nat} {R R' : rS} {l : List Int32} {hb u0 u : Nat} {T T' : Ar} {ad : Nat → Nat} {m lo e : Nat} {kd : Nat → List Nat} {xs : List Nat} {S0 : cS} {R0 : rS}
/-- The search is the same in both arenas. -/
theorem fnd_agr (hA : Agr lo T T' m) (k : List Int32) : ∀ (d : Nat) (o : Option Nat), (∀ i, o = some i → lo < i) → Keyed T m d o → fnd T' k d o = fnd T k d o ∧ Keyed T' m d o := by
  intro d
  induction d with
  | zero => intro o _ h; exact ⟨rfl, h⟩
  | succ d ih =>
    intro o ho h
    cases o with
    | none => exact ⟨rfl, trivial⟩
    | some i =>
      obtain ⟨hi, hk, hj, hr⟩ := h
      have hlo := ho i rfl
      obtain ⟨a1, a2, a3, a4, a5⟩ := hA i (by omega) hi
      obtain ⟨a6, a7⟩ := a5 hlo
      have e7 := a3 7 (by omega) (by omega)
      obtain ⟨g1, g2⟩ := ih (T.2.2.1 i 7) (fun j hjj => by have := hj.2 j hjj; omega) hr
      refine ⟨?_, hi, by rw [a7]; exact hk, by rw [e7]; exact hj, by rw [e7]; exact g2⟩
      unfold fnd
      rw [a7, e7, g1]
/-- The look for a key, in both. -/
theorem find_eq (hN : 200000 ≤ N) (hC : BC b0 K rd sb al t n sz0 S0 S vb e sz T kd ad m xs p) (hR : BR t n hb R0 R T' m u p) (hT : Tx t n) (hp : p ≤ n) (hA : Agr lo T T' m) {hd : Nat} (hlo : lo ≤ hd) (hh : hd < m) (hk : 6 < T.1 hd)
    {s i : Nat} {x : Nat × List Int32} (hs : StrP b0 S s x.2 sz vb) {ps : List (Nat × List Int32)} (hP : PartR R hb u ps) (hps : ps.length ≤ 130) (hx : ps[i]? = some x) :
    ∃ o, x_N_entryNamed N b0 K (ad hd) (some s) S = some (o.map ad) ∧ m_entryOf N (I (260 * hb + hd)) (I i) R = some (enc hb o) ∧ ∀ j, o = some j → j < m ∧ lo < j ∧ T.2.2.2.2 j = some x.2 ∧ T.2.2.1 j 4 = some hd := by
  obtain ⟨⟨l, h1⟩, h2, h3, h4, h5, h6, h7, h8, h9, h10, h11, h12, h13, h14, h15, h16, h17, h18, h19, h20, h21⟩ := hC
  obtain ⟨r1, r2, r3, r4, r5⟩ := hR
  have hn := hT.1
  have hu := r1.2.2.2.2
  have hkeyed := h7.keyed hh hk
  have hlen := h7.klen hh
  obtain ⟨k1, k2, k3, k4, k5, k6⟩ := h7.1 hd hh
  obtain ⟨g1, g2, g3, g4, g5, g6, g7, g8⟩ := h6.1 hd hh
  have hfst : ∀ j, T.2.2.1 hd 5 = some j → lo < j := by
    intro j hj; rw [k1] at hj; have := (k3 0 j hj).2.2.1; omega
  obtain ⟨f1, f2⟩ := fnd_agr hA x.2 _ _ hfst hkeyed
  have e5 : T'.2.2.1 hd 5 = T.2.2.1 hd 5 := (hA hd hlo hh).2.2.1 5 (by omega) (by omega)
  have hx30 : x.2.length ≤ 30 := by
    obtain ⟨_, _, _, _, _, _, _, _, _, _, _, g, _⟩ := hs
    exact g
  refine ⟨fnd T x.2 (kd hd).length (T.2.2.1 hd 5), ?_, ?_, fun j hj => ?_⟩
  · unfold x_N_entryNamed
    rw [gR_own g1 g3, g6 5 (by omega) (by omega)]
    simp only [b1_some]
    exact fndC hN h6 hs _ N _ (by omega) hkeyed
  · unfold m_entryOf
    obtain ⟨b1', b2', b3', b4', b5', b6', b7', b8', b9'⟩ := r4.1 hd hh
    rw [rL_eq (by show _ < 520; have := r1.2.2.1; omega) (by have := r1.2.2.1; omega), b5', e5]
    simp only [b1_some]
    have := fndR (N := N) (by omega) r4 r1.2.2.1 (by omega) (by omega) hP hps hx hx30 (kd hd).length N (T.2.2.1 hd 5) (by omega) f2
    rw [this, f1]
  · obtain ⟨a1, a2⟩ := fnd_lt x.2 _ _ j hkeyed hj
    -- it is one of the table's ownC
    have hin : ∀ (d c : Nat), c + d = (kd hd).length → ∀ j, fnd T x.2 d (kd hd)[c]? = some j → j ∈ kd hd := by
      intro d
      induction d with
      | zero => intro c _ j hj; cases hj
      | succ d ih =>
        intro c hc j hj
        have hcl : c < (kd hd).length := by omega
        have ee : (kd hd)[c]? = some (kd hd)[c] := List.getElem?_eq_getElem hcl
        rw [ee] at hj
        unfold fnd at hj
        by_cases e1 : T.2.2.2.2 (kd hd)[c] = some x.2
        · rw [if_pos e1] at hj; cases hj; exact List.getElem_mem hcl
        · rw [if_neg e1, (k3 c _ ee).1] at hj
          exact ih (c + 1) (by omega) j hj
    rw [k1] at hj
    have hmem := hin _ 0 (by omega) j hj
    obtain ⟨c, hc⟩ := List.getElem?_of_mem hmem
    obtain ⟨-, c2, c3, -⟩ := k3 c j hc
    exact ⟨a1, by omega, a2, c2⟩
/-- A new entry of a table: what both arenas become. -/
def arE (T : Ar) (m hd : Nat) (k x : Int32) (s y : Option (List Int32)) : Ar := arL (arY (arM T m k x s) m y) hd m
theorem lnk_get {L : Nat → Nat → Option Nat} {hd v i f : Nat} : lnk L hd v i f = if i = hd ∧ f = 6 then some v else match L hd 6 with
    | none => if i = hd ∧ f = 5 then some v else if i = v ∧ f = 4 then some hd else L i f
    | some a => if i = a ∧ f = 7 then some v else if i = v ∧ f = 4 then some hd else L i f := by
  unfold lnk
  cases L hd 6 with
  | none => rfl
  | some a => rfl
theorem agr_link (hA : Agr lo T T' m) {hd v : Nat} (hlo : lo ≤ hd) (hh : hd < v) (hv : v < m) (hla : ∀ a, T.2.2.1 hd 6 = some a → lo < a) {y : Option (List Int32)} : Agr lo (arL (arY T v y) hd v) (arL (arY T' v y) hd v) m := by
  intro i h1 h2
  obtain ⟨a1, a2, a3, a4, a5⟩ := hA i h1 h2
  obtain ⟨c1, c2, c3, c4, c5⟩ := hA hd hlo (by omega)
  have e6 : T'.2.2.1 hd 6 = T.2.2.1 hd 6 := c3 6 (by omega) (by omega)
  have base : ∀ f, (5 ≤ f ∧ f ≤ 7) ∨ (lo < i ∧ f = 4) → T'.2.2.1 i f = T.2.2.1 i f := by
    intro f hf
    rcases hf with hf | ⟨hf, rfl⟩
    · exact a3 f hf.1 hf.2
    · exact (a5 hf).1
  have lk : ∀ f, (5 ≤ f ∧ f ≤ 7) ∨ (lo < i ∧ f = 4) → lnk T'.2.2.1 hd v i f = lnk T.2.2.1 hd v i f := by
    intro f hf
    rw [lnk_get, lnk_get, e6, base f hf]
  refine ⟨a1, ?_, fun f b c => lk f (.inl ⟨b, c⟩), a4, fun g => ⟨lk 4 (.inr ⟨g, rfl⟩), ?_⟩⟩
  · show va_up T'.2.1 hd (T'.2.1 hd + 1) i = va_up T.2.1 hd (T.2.1 hd + 1) i
    by_cases e : i = hd
    · subst e; rw [va_at_, va_at_, a2]
    · rw [va_ne _ _ e, va_ne _ _ e, a2]
  · show va_up T'.2.2.2.2 v y i = va_up T.2.2.2.2 v y i
    by_cases e : i = v
    · subst e; rw [va_at_, va_at_]
    · rw [va_ne _ _ e, va_ne _ _ e]; exact (a5 g).2
theorem agr_new (hA : Agr lo T T' m) (k x : Int32) (s : Option (List Int32)) : Agr lo (arM T m k x s) (arM T' m k x s) (m + 1) := by
  intro i h1 h2
  by_cases e : i = m
  · subst e
    refine ⟨?_, ?_, fun f _ _ => ?_, ?_, fun _ => ⟨?_, ?_⟩⟩
    · show va_up _ _ _ _ = va_up _ _ _ _; rw [va_at_, va_at_]
    · show va_up _ _ _ _ = va_up _ _ _ _; rw [va_at_, va_at_]
    · show (va_up T'.2.2.1 i (fun _ => (none : Option Nat))) i f = (va_up T.2.2.1 i (fun _ => (none : Option Nat))) i f; rw [va_at_, va_at_]
    · show va_up _ _ _ _ = va_up _ _ _ _; rw [va_at_, va_at_]
    · show (va_up T'.2.2.1 i (fun _ => (none : Option Nat))) i 4 = (va_up T.2.2.1 i (fun _ => (none : Option Nat))) i 4; rw [va_at_, va_at_]
    · show va_up _ _ _ _ = va_up _ _ _ _; rw [va_at_, va_at_]
  · obtain ⟨a1, a2, a3, a4, a5⟩ := hA i h1 (by omega)
    refine ⟨?_, ?_, fun f b c => ?_, ?_, fun g => ⟨?_, ?_⟩⟩
    · show va_up _ _ _ _ = va_up _ _ _ _; rw [va_ne _ _ e, va_ne _ _ e, a1]
    · show va_up _ _ _ _ = va_up _ _ _ _; rw [va_ne _ _ e, va_ne _ _ e, a2]
    · show (va_up T'.2.2.1 m (fun _ => (none : Option Nat))) i f = (va_up T.2.2.1 m (fun _ => (none : Option Nat))) i f; rw [va_ne _ _ e, va_ne _ _ e, a3 f b c]
    · show va_up _ _ _ _ = va_up _ _ _ _; rw [va_ne _ _ e, va_ne _ _ e, a4]
    · show (va_up T'.2.2.1 m (fun _ => (none : Option Nat))) i 4 = (va_up T.2.2.1 m (fun _ => (none : Option Nat))) i 4; rw [va_ne _ _ e, va_ne _ _ e]; exact (a5 g).1
    · show va_up _ _ _ _ = va_up _ _ _ _; rw [va_ne _ _ e, va_ne _ _ e]; exact (a5 g).2
theorem blw_new (T : Ar) (hlo : lo < m) (k x : Int32) (s : Option (List Int32)) : Blw lo T (arM T m k x s) := by
  have h : ∀ i, i ≤ lo → (arM T m k x s).1 i = T.1 i ∧ (arM T m k x s).2.1 i = T.2.1 i ∧ (arM T m k x s).2.2.1 i = T.2.2.1 i ∧ (arM T m k x s).2.2.2.1 i = T.2.2.2.1 i ∧ (arM T m k x s).2.2.2.2 i = T.2.2.2.2 i :=
    fun i hi => ⟨va_ne _ _ (by omega), va_ne _ _ (by omega), va_ne _ _ (by omega), va_ne _ _ (by omega), va_ne _ _ (by omega)⟩
  obtain ⟨a1, a2, a3, a4, a5⟩ := h lo (Nat.le_refl _)
  exact ⟨fun i hi => h i (by omega), a1, by rw [a3], by rw [a3], a5⟩
theorem blw_link (T : Ar) {hd v : Nat} (hlo : lo ≤ hd) (hh : hd < v) (hla : ∀ a, T.2.2.1 hd 6 = some a → lo < a) (y : Option (List Int32)) : Blw lo T (arL (arY T v y) hd v) := by
  have lk : ∀ i f, i < lo ∨ (i = lo ∧ (f = 4 ∨ f = 7)) → lnk T.2.2.1 hd v i f = T.2.2.1 i f := by
    intro i f hf
    rw [lnk_get, if_neg (by omega)]
    cases h6 : T.2.2.1 hd 6 with
    | none => simp only []; rw [if_neg (by omega), if_neg (by omega)]
    | some a => have := hla a h6; simp only []; rw [if_neg (by omega), if_neg (by omega)]
  refine ⟨fun i hi => ⟨rfl, va_ne _ _ (by omega), ?_, rfl, va_ne _ _ (by omega)⟩, rfl, lk lo 4 (.inr ⟨rfl, .inl rfl⟩), lk lo 7 (.inr ⟨rfl, .inr rfl⟩), va_ne _ _ (by omega)⟩
  funext f; exact lk i f (.inl hi)
end
