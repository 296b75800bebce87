section
variable {b0 N : Nat} {T T' : Ar} {m : Nat} {kd : Nat → List Nat}
/-- What a value holds, in order: the chain of its links. -/
def Kds (T : Ar) (m h : Nat) (ks : List Nat) : Prop :=
  T.2.2.1 h 5 = ks[0]? ∧ T.2.2.1 h 6 = ks.getLast? ∧ (∀ (j a : Nat), ks[j]? = some a → T.2.2.1 a 7 = ks[j + 1]? ∧ T.2.2.1 a 4 = some h ∧ h < a ∧ a < m) ∧ (∀ (i j a b : Nat), i < j → ks[i]? = some a → ks[j]? = some b → a < b) ∧
  (4 < T.1 h → T.2.1 h = I ks.length) ∧ (¬ 4 < T.1 h → ks = [])
/-- What one value is like. -/
def Val (T : Ar) (i : Nat) (ks : List Nat) : Prop :=
  (okl (T.1 i) (T.2.1 i) ∧ T.2.2.2.1 i = none) ∨ (T.1 i = 3 ∧ ∃ ls, T.2.2.2.1 i = some ls ∧ T.2.1 i = I ls.length) ∨ ((T.1 i = 5 ∨ (T.1 i = 6 ∧ ∀ a, a ∈ ks → T.1 a = 7) ∨ T.1 i = 7 ∨ T.1 i = 8 ∨ T.1 i = 9 ∨ T.1 i = 10) ∧ T.2.2.2.1 i = none)
def WF (T : Ar) (kd : Nat → List Nat) (m : Nat) : Prop :=
  (∀ h, h < m → Kds T m h (kd h)) ∧ (∀ i, i < m → T.2.2.1 i 4 = none → T.2.2.1 i 7 = none) ∧ (∀ i h, i < m → T.2.2.1 i 4 = some h → h < m ∧ i ∈ kd h) ∧
  (∀ i, i < m → (T.2.2.2.2 i ≠ none ↔ ∃ h, T.2.2.1 i 4 = some h ∧ 6 < T.1 h)) ∧ ∀ i, i < m → Val T i (kd i)
theorem WF.lk (h : WF T kd m) : Lk T m := by
  intro i hi f j h4 h7 e
  obtain ⟨k1, k2, k3, k4, k5, k6⟩ := h.1 i hi
  have : f = 4 ∨ f = 5 ∨ f = 6 ∨ f = 7 := by omega
  rcases this with rfl | rfl | rfl | rfl
  · exact (h.2.2.1 i j hi e).1
  · rw [k1] at e; exact (k3 0 j e).2.2.2
  · rw [k2, List.getLast?_eq_getElem?] at e; exact (k3 _ j e).2.2.2
  · cases h4' : T.2.2.1 i 4 with
    | none => rw [h.2.1 i hi h4'] at e; cases e
    | some hd =>
      obtain ⟨hh, hm⟩ := h.2.2.1 i hd hi h4'
      obtain ⟨x, hx⟩ := List.getElem?_of_mem hm
      obtain ⟨-, -, g3, -⟩ := h.1 hd hh
      have := (g3 x i hx).1
      rw [this] at e
      exact (g3 (x + 1) j e).2.2.2
theorem WF.e56 (h : WF T kd m) {i : Nat} (hi : i < m) : T.2.2.1 i 5 = none ↔ T.2.2.1 i 6 = none := by
  obtain ⟨k1, k2, -⟩ := h.1 i hi
  rw [k1, k2]
  cases hk : kd i with
  | nil => simp
  | cons a l => simp
theorem WF.keyed (h : WF T kd m) {hd : Nat} (hh : hd < m) (hk : 6 < T.1 hd) : Keyed T m (kd hd).length (T.2.2.1 hd 5) := by
  obtain ⟨k1, k2, k3, k4, k5, k6⟩ := h.1 hd hh
  have : ∀ (d j : Nat), j + d = (kd hd).length → Keyed T m d (kd hd)[j]? := by
    intro d
    induction d with
    | zero => intro j hj; show (kd hd)[j]? = none; exact List.getElem?_eq_none (by omega)
    | succ d ih =>
      intro j hj
      have hjl : j < (kd hd).length := by omega
      have e : (kd hd)[j]? = some (kd hd)[j] := List.getElem?_eq_getElem hjl
      rw [e]
      obtain ⟨a1, a2, a3, a4⟩ := k3 j _ e
      refine ⟨a4, (h.2.2.2.1 _ a4).2 ⟨hd, a2, hk⟩, ⟨by omega, fun x hx => ?_⟩, by rw [a1]; exact ih (j + 1) (by omega)⟩
      rw [a1] at hx
      exact k4 j (j + 1) _ x (by omega) e hx
  rw [k1]
  exact this _ 0 (by omega)
theorem WF.klen (h : WF T kd m) {hd : Nat} (hh : hd < m) : (kd hd).length ≤ m := by
  obtain ⟨k1, k2, k3, k4, k5, k6⟩ := h.1 hd hh
  have : ∀ (j a : Nat), (kd hd)[j]? = some a → j ≤ a := by
    intro j
    induction j with
    | zero => intro a _; omega
    | succ j ih =>
      intro a ha
      have hj := glt ha
      have e : (kd hd)[j]? = some (kd hd)[j] := List.getElem?_eq_getElem (by omega)
      have := ih _ e
      have := k4 j (j + 1) _ a (by omega) e ha
      omega
  rcases Nat.eq_zero_or_pos (kd hd).length with h0 | h0
  · omega
  · have e : (kd hd)[(kd hd).length - 1]? = some (kd hd)[(kd hd).length - 1] := List.getElem?_eq_getElem (by omega)
    have a := this _ _ e
    have b := (k3 _ _ e).2.2.2
    omega
/-- A new value, by itself. -/
def arM (T : Ar) (m : Nat) (k x : Int32) (s : Option (List Int32)) : Ar := (va_up T.1 m k, va_up T.2.1 m x, va_up T.2.2.1 m (fun _ => none), va_up T.2.2.2.1 m s, va_up T.2.2.2.2 m none)
theorem WF.new (h : WF T kd m) {k x : Int32} {s : Option (List Int32)} (hk : (okl k x ∧ s = none) ∨ (k = 3 ∧ ∃ ls, s = some ls ∧ x = I ls.length) ∨ (((k = 5 ∨ k = 6 ∨ k = 7 ∨ k = 8 ∨ k = 9 ∨ k = 10) ∧ x = 0) ∧ s = none)) : WF (arM T m k x s) (va_up kd m []) (m + 1) := by
  have t1 : ∀ i, i ≠ m → (arM T m k x s).1 i = T.1 i := fun i e => va_ne _ _ e
  have t2 : ∀ i, i ≠ m → (arM T m k x s).2.1 i = T.2.1 i := fun i e => va_ne _ _ e
  have t3 : ∀ i, i ≠ m → (arM T m k x s).2.2.1 i = T.2.2.1 i := fun i e => va_ne _ _ e
  have t4 : ∀ i, i ≠ m → (arM T m k x s).2.2.2.1 i = T.2.2.2.1 i := fun i e => va_ne _ _ e
  have t5 : ∀ i, i ≠ m → (arM T m k x s).2.2.2.2 i = T.2.2.2.2 i := fun i e => va_ne _ _ e
  have n1 : (arM T m k x s).1 m = k := va_at_ _ _ _
  have n2 : (arM T m k x s).2.1 m = x := va_at_ _ _ _
  have n3 : ∀ f, (arM T m k x s).2.2.1 m f = none := fun f => by show (va_up T.2.2.1 m (fun _ => (none : Option Nat))) m f = none; rw [va_at_]
  have n4 : (arM T m k x s).2.2.2.1 m = s := va_at_ _ _ _
  have n5 : (arM T m k x s).2.2.2.2 m = none := va_at_ _ _ _
  have kx : 4 < k → x = 0 := by
    intro g
    rcases hk with ⟨hk, -⟩ | ⟨rfl, -⟩ | ⟨hk, -⟩
    · rcases hk with ⟨rfl, -⟩ | ⟨rfl, -⟩ | ⟨rfl, -⟩ <;> exact absurd g (by decide)
    · exact absurd g (by decide)
    · exact hk.2
  have hkids : ∀ h', h' < m → ∀ a, a ∈ kd h' → a < m := by
    intro h' hh a ha
    obtain ⟨j, hj⟩ := List.getElem?_of_mem ha
    exact ((h.1 h' hh).2.2.1 j a hj).2.2.2
  refine ⟨fun i hi => ?_, fun i hi e => ?_, fun i hd hi e => ?_, fun i hi => ?_, fun i hi => ?_⟩
  · by_cases e : i = m
    · subst e
      rw [va_at_]
      exact ⟨n3 5, n3 6, (by intro j a h; cases h), (by intro i j a b _ h; cases h), fun g => by rw [n1] at g; rw [n2, kx g]; rfl, fun _ => rfl⟩
    · have hi' : i < m := by omega
      rw [va_ne _ _ e]
      obtain ⟨k1, k2, k3, k4, k5, k6⟩ := h.1 i hi'
      refine ⟨by rw [t3 i e]; exact k1, by rw [t3 i e]; exact k2, fun j a ha => ?_, k4, by rw [t1 i e, t2 i e]; exact k5, by rw [t1 i e]; exact k6⟩
      obtain ⟨a1, a2, a3, a4⟩ := k3 j a ha
      rw [t3 a (by omega)]
      exact ⟨a1, a2, a3, by omega⟩
  · by_cases e1 : i = m
    · rw [e1, n3]
    · rw [t3 i e1] at e ⊢; exact h.2.1 i (by omega) e
  · by_cases e1 : i = m
    · rw [e1, n3] at e; cases e
    · rw [t3 i e1] at e
      obtain ⟨a, b⟩ := h.2.2.1 i hd (by omega) e
      exact ⟨by omega, by rw [va_ne _ _ (by omega)]; exact b⟩
  · by_cases e1 : i = m
    · rw [e1, n5]
      exact ⟨fun g => absurd rfl g, fun ⟨hd, g, _⟩ => by rw [n3] at g; cases g⟩
    · rw [t5 i e1, t3 i e1, h.2.2.2.1 i (by omega)]
      constructor
      · rintro ⟨hd, g1, g2⟩
        exact ⟨hd, g1, by rw [t1 hd (by have := (h.2.2.1 i hd (by omega) g1).1; omega)]; exact g2⟩
      · rintro ⟨hd, g1, g2⟩
        exact ⟨hd, g1, by rw [t1 hd (by have := (h.2.2.1 i hd (by omega) g1).1; omega)] at g2; exact g2⟩
  · by_cases e1 : i = m
    · subst e1
      unfold Val
      rw [n1, n2, n4, va_at_]
      rcases hk with ⟨hk, hs⟩ | hk | ⟨⟨hk, -⟩, hs⟩
      · exact .inl ⟨hk, hs⟩
      · exact .inr (.inl hk)
      · refine .inr (.inr ⟨?_, hs⟩)
        rcases hk with hk | hk | hk | hk | hk | hk
        · exact .inl hk
        · exact .inr (.inl ⟨hk, by intro a ha; cases ha⟩)
        · exact .inr (.inr (.inl hk))
        · exact .inr (.inr (.inr (.inl hk)))
        · exact .inr (.inr (.inr (.inr (.inl hk))))
        · exact .inr (.inr (.inr (.inr (.inr hk))))
    · have hi' : i < m := by omega
      unfold Val
      rw [t1 i e1, t2 i e1, t4 i e1, va_ne _ _ e1]
      rcases h.2.2.2.2 i hi' with g | g | ⟨g, g2⟩
      · exact .inl g
      · exact .inr (.inl g)
      · refine .inr (.inr ⟨?_, g2⟩)
        rcases g with g | ⟨g, g4⟩ | g
        · exact .inl g
        · exact .inr (.inl ⟨g, fun a ha => by rw [t1 a (by have := hkids i hi' a ha; omega)]; exact g4 a ha⟩)
        · exact .inr (.inr g)
/-- A value is linked to its holder. -/
theorem WF.link (h : WF T kd m) {hd v : Nat} (hh : hd < v) (hv : v < m) (hk : 4 < T.1 hd) (hu : T.2.2.1 v 4 = none) (hlast : ∀ a, a ∈ kd hd → a < v) {y : Option (List Int32)} (hy : y ≠ none ↔ 6 < T.1 hd) (h6 : T.1 hd = 6 → T.1 v = 7) :
    WF (arL (arY T v y) hd v) (va_up kd hd (kd hd ++ [v])) m := by
  have hhm : hd < m := by omega
  have hne : hd ≠ v := by omega
  obtain ⟨k1, k2, k3, k4, k5, k6⟩ := h.1 hd hhm
  have hv7 := h.2.1 v hv hu
  -- the links, read off
  have L : ∀ i f, (arL (arY T v y) hd v).2.2.1 i f = if i = hd ∧ f = 6 then some v else if i = hd ∧ f = 5 ∧ kd hd = [] then some v else if f = 7 ∧ (kd hd).getLast? = some i then some v else if i = v ∧ f = 4 then some hd else T.2.2.1 i f := by
    intro i f
    show lnk T.2.2.1 hd v i f = _
    unfold lnk
    rw [k2]
    by_cases hks : kd hd = []
    · rw [hks]
      show up2 _ _ _ _ _ _ = _
      unfold up2
      by_cases c1 : i = hd ∧ f = 6
      · rw [if_pos c1, if_pos c1]
      · rw [if_neg c1, if_neg c1]
        by_cases c2 : i = hd ∧ f = 5
        · rw [if_pos c2, if_pos ⟨c2.1, c2.2, rfl⟩]
        · rw [if_neg c2, if_neg (show ¬ (i = hd ∧ f = 5 ∧ ([] : List Nat) = []) from fun g => c2 ⟨g.1, g.2.1⟩), if_neg (show ¬ (f = 7 ∧ ([] : List Nat).getLast? = some i) from fun g => by cases g.2)]
    · obtain ⟨la, hla⟩ : ∃ la, (kd hd).getLast? = some la := by
        cases hg : (kd hd).getLast? with
        | none => exact absurd (List.getLast?_eq_none_iff.1 hg) hks
        | some la => exact ⟨la, rfl⟩
      rw [hla]
      show up2 _ _ _ _ _ _ = _
      unfold up2
      by_cases c1 : i = hd ∧ f = 6
      · rw [if_pos c1, if_pos c1]
      · rw [if_neg c1, if_neg c1, if_neg (show ¬ (i = hd ∧ f = 5 ∧ kd hd = []) by rintro ⟨-, -, g⟩; exact hks g)]
        by_cases c2 : i = la ∧ f = 7
        · rw [if_pos c2, if_pos ⟨c2.2, by rw [c2.1]⟩]
        · rw [if_neg c2, if_neg (show ¬ (f = 7 ∧ some la = some i) from fun g => c2 ⟨(Option.some.inj g.2).symm, g.1⟩)]
  have t1 : (arL (arY T v y) hd v).1 = T.1 := rfl
  have t2 : ∀ i, i ≠ hd → (arL (arY T v y) hd v).2.1 i = T.2.1 i := fun i e => va_ne _ _ e
  have t2' : (arL (arY T v y) hd v).2.1 hd = T.2.1 hd + 1 := va_at_ _ _ _
  have t4 : (arL (arY T v y) hd v).2.2.2.1 = T.2.2.2.1 := rfl
  have t5 : ∀ i, i ≠ v → (arL (arY T v y) hd v).2.2.2.2 i = T.2.2.2.2 i := fun i e => va_ne _ _ e
  have t5' : (arL (arY T v y) hd v).2.2.2.2 v = y := va_at_ _ _ _
  have lastk : ∀ i, (kd hd).getLast? = some i → i < v ∧ hd < i ∧ T.2.2.1 i 4 = some hd := by
    intro i hi
    have hm := List.mem_of_getLast? hi
    obtain ⟨j, hj⟩ := List.getElem?_of_mem hm
    exact ⟨hlast i hm, (k3 j i hj).2.2.1, (k3 j i hj).2.1⟩
  have L4 : ∀ i, (arL (arY T v y) hd v).2.2.1 i 4 = if i = v then some hd else T.2.2.1 i 4 := by
    intro i
    rw [L, if_neg (by omega), if_neg (by omega), if_neg (by omega)]
    by_cases c : i = v
    · rw [if_pos ⟨c, rfl⟩, if_pos c]
    · rw [if_neg (by rintro ⟨a, -⟩; exact c a), if_neg c]
  have L7 : ∀ i, (arL (arY T v y) hd v).2.2.1 i 7 = if (kd hd).getLast? = some i then some v else T.2.2.1 i 7 := by
    intro i
    rw [L, if_neg (by omega), if_neg (by omega)]
    by_cases c : (kd hd).getLast? = some i
    · rw [if_pos ⟨rfl, c⟩, if_pos c]
    · rw [if_neg (by rintro ⟨-, a⟩; exact c a), if_neg c, if_neg (by omega)]
  refine ⟨fun i hi => ?_, fun i hi e => ?_, fun i hd' hi e => ?_, fun i hi => ?_, fun i hi => ?_⟩
  · by_cases e : i = hd
    · subst e
      rw [va_at_]
      refine ⟨?_, ?_, fun j a ha => ?_, fun x j a b hxj hx hj => ?_, fun g => ?_, fun g => absurd hk g⟩
      · rw [L, if_neg (by omega)]
        by_cases c : kd i = []
        · rw [if_pos ⟨rfl, rfl, c⟩, c]; rfl
        · rw [if_neg (by rintro ⟨-, -, g⟩; exact c g), if_neg (by omega), if_neg (by omega), k1, List.getElem?_append_left (List.length_pos_iff.2 c)]
      · rw [L, if_pos ⟨rfl, rfl⟩]; simp
      · have hjl := glt ha
        simp at hjl
        by_cases c : j < (kd i).length
        · rw [List.getElem?_append_left c] at ha
          obtain ⟨a1, a2, a3, a4⟩ := k3 j a ha
          have hav : a ≠ v := by have := hlast a (List.mem_of_getElem? ha); omega
          refine ⟨?_, by rw [L4, if_neg hav]; exact a2, a3, a4⟩
          rw [L7]
          by_cases c2 : j + 1 < (kd i).length
          · rw [if_neg, a1, List.getElem?_append_left c2]
            intro g
            rw [List.getLast?_eq_getElem?] at g
            have := k4 j ((kd i).length - 1) a a (by omega) ha g
            omega
          · have e2 : j + 1 = (kd i).length := by omega
            rw [if_pos (by rw [List.getLast?_eq_getElem?, show (kd i).length - 1 = j by omega]; exact ha), e2]; simp
        · have e2 : j = (kd i).length := by omega
          subst e2
          simp at ha
          subst ha
          refine ⟨?_, by rw [L4, if_pos rfl], hh, hv⟩
          rw [L7, if_neg (fun g => by have := (lastk _ g).1; omega), hv7, List.getElem?_eq_none (by simp)]
      · have h1 := glt hx
        have h2 := glt hj
        simp at h1 h2
        rw [List.getElem?_append_left (by omega)] at hx
        by_cases c : j < (kd i).length
        · rw [List.getElem?_append_left c] at hj
          exact k4 x j a b hxj hx hj
        · have e2 : j = (kd i).length := by omega
          subst e2
          simp at hj
          have := hlast a (List.mem_of_getElem? hx)
          omega
      · rw [t2', k5 hk, I_1]; simp
    · rw [va_ne _ _ e]
      obtain ⟨c1, c2, c3, c4, c5, c6⟩ := h.1 i hi
      have notk : ∀ (j a : Nat), (kd i)[j]? = some a → a ≠ v ∧ (kd hd).getLast? ≠ some a := by
        intro j a ha
        have g := (c3 j a ha).2.1
        refine ⟨(fun e2 => by rw [e2, hu] at g; cases g), fun e2 => ?_⟩
        have := (lastk a e2).2.2
        rw [this] at g
        exact e (Option.some.inj g).symm
      refine ⟨?_, ?_, fun j a ha => ?_, c4, by rw [t1, t2 i e]; exact c5, by rw [t1]; exact c6⟩
      · rw [L, if_neg (by rintro ⟨a, -⟩; exact e a), if_neg (by rintro ⟨a, -⟩; exact e a), if_neg (by omega), if_neg (by omega)]; exact c1
      · rw [L, if_neg (by rintro ⟨a, -⟩; exact e a), if_neg (by rintro ⟨a, -⟩; exact e a), if_neg (by omega), if_neg (by omega)]; exact c2
      · obtain ⟨a1, a2, a3, a4⟩ := c3 j a ha
        obtain ⟨n1, n2⟩ := notk j a ha
        exact ⟨by rw [L7, if_neg n2]; exact a1, by rw [L4, if_neg n1]; exact a2, a3, a4⟩
  · rw [L4] at e
    by_cases c : i = v
    · rw [if_pos c] at e; cases e
    · rw [if_neg c] at e
      rw [L7, if_neg (fun g => by have := (lastk i g).2.2; rw [this] at e; cases e)]
      exact h.2.1 i hi e
  · rw [L4] at e
    by_cases c : i = v
    · rw [if_pos c] at e; cases e
      exact ⟨hhm, by rw [va_at_, c]; simp⟩
    · rw [if_neg c] at e
      obtain ⟨a, b⟩ := h.2.2.1 i hd' hi e
      refine ⟨a, ?_⟩
      by_cases c2 : hd' = hd
      · rw [c2, va_at_]; rw [c2] at b; exact List.mem_append_left _ b
      · rw [va_ne _ _ c2]; exact b
  · rw [L4, t1]
    by_cases c : i = v
    · rw [c, t5', if_pos rfl, hy]
      exact ⟨fun g => ⟨hd, rfl, g⟩, fun ⟨x, g, g2⟩ => by cases g; exact g2⟩
    · rw [t5 i c, if_neg c]; exact h.2.2.2.1 i hi
  · unfold Val
    rw [t1, t4]
    have g0 := h.2.2.2.2 i hi
    by_cases e : i = hd
    · subst e
      rw [va_at_]
      rcases g0 with ⟨g, -⟩ | ⟨g, -⟩ | ⟨g, g2⟩
      · rcases g with ⟨g, -⟩ | ⟨g, -⟩ | ⟨g, -⟩ <;> rw [g] at hk <;> exact absurd hk (by decide)
      · rw [g] at hk; exact absurd hk (by decide)
      · refine .inr (.inr ⟨?_, g2⟩)
        rcases g with g | ⟨g, g4⟩ | g
        · exact .inl g
        · refine .inr (.inl ⟨g, fun a ha => ?_⟩)
          rcases List.mem_append.1 ha with ha | ha
          · exact g4 a ha
          · simp at ha; rw [ha]; exact h6 g
        · exact .inr (.inr g)
    · rw [va_ne _ _ e, t2 i e]
      rcases g0 with g | g | g
      · exact .inl g
      · exact .inr (.inl g)
      · exact .inr (.inr g)
/-- A kind changes: a table stays a table. -/
theorem WF.kind (h : WF T kd m) {v : Nat} (hv : v < m) {k : Int32} (hk : k = 7 ∨ k = 8 ∨ k = 9 ∨ k = 10) (hT : 7 < T.1 v) : WF (arK T v k) kd m := by
  have t1 : ∀ i, i ≠ v → (arK T v k).1 i = T.1 i := fun i e => va_ne _ _ e
  have n1 : (arK T v k).1 v = k := va_at_ _ _ _
  have h4 : ∀ i, (4 < (arK T v k).1 i) ↔ 4 < T.1 i := by
    intro i
    by_cases e : i = v
    · subst e; rw [n1]
      have a : 4 < T.1 i := by rw [Int32.lt_iff_toInt_lt] at hT ⊢; have e7 : (7 : Int32).toInt = 7 := by decide
                               have e4 : (4 : Int32).toInt = 4 := by decide
                               omega
      exact ⟨fun _ => a, fun _ => by rcases hk with rfl | rfl | rfl | rfl <;> decide⟩
    · rw [t1 i e]
  have h6 : ∀ i, (6 < (arK T v k).1 i) ↔ 6 < T.1 i := by
    intro i
    by_cases e : i = v
    · subst e; rw [n1]
      have a : 6 < T.1 i := by rw [Int32.lt_iff_toInt_lt] at hT ⊢; have e7 : (7 : Int32).toInt = 7 := by decide
                               have e4 : (6 : Int32).toInt = 6 := by decide
                               omega
      exact ⟨fun _ => a, fun _ => by rcases hk with rfl | rfl | rfl | rfl <;> decide⟩
    · rw [t1 i e]
  refine ⟨fun i hi => ?_, h.2.1, h.2.2.1, fun i hi => ?_, fun i hi => ?_⟩
  · obtain ⟨k1, k2, k3, k4, k5, k6⟩ := h.1 i hi
    exact ⟨k1, k2, k3, k4, fun g => k5 ((h4 i).1 g), fun g => k6 (fun g' => g ((h4 i).2 g'))⟩
  · rw [show (arK T v k).2.2.2.2 i = T.2.2.2.2 i from rfl, h.2.2.2.1 i hi]
    exact ⟨fun ⟨hd, a, b⟩ => ⟨hd, a, (h6 hd).2 b⟩, fun ⟨hd, a, b⟩ => ⟨hd, a, (h6 hd).1 b⟩⟩
  · have hkey : ∀ i, i < m → T.1 i = 6 → ∀ a, a ∈ kd i → a ≠ v := by
      intro i hi g a ha e
      rcases h.2.2.2.2 i hi with ⟨g0, -⟩ | ⟨g0, -⟩ | ⟨g0, -⟩
      · rcases g0 with ⟨g0, -⟩ | ⟨g0, -⟩ | ⟨g0, -⟩ <;> rw [g] at g0 <;> exact absurd g0 (by decide)
      · rw [g] at g0; exact absurd g0 (by decide)
      · rcases g0 with g0 | ⟨_, g0⟩ | g0 | g0 | g0 | g0
        · rw [g] at g0; exact absurd g0 (by decide)
        · have := g0 a ha; rw [e] at this; rw [this] at hT; exact absurd hT (by decide)
        all_goals (rw [g] at g0; exact absurd g0 (by decide))
    unfold Val
    by_cases e : i = v
    · subst e
      rw [n1]
      have hs : T.2.2.2.1 i = none := by
        rcases h.2.2.2.2 i hi with ⟨-, g0⟩ | ⟨g0, -⟩ | ⟨-, g0⟩
        · exact g0
        · rw [g0] at hT; exact absurd hT (by decide)
        · exact g0
      refine .inr (.inr ⟨?_, hs⟩)
      rcases hk with hk | hk | hk | hk
      · exact .inr (.inr (.inl hk))
      · exact .inr (.inr (.inr (.inl hk)))
      · exact .inr (.inr (.inr (.inr (.inl hk))))
      · exact .inr (.inr (.inr (.inr (.inr hk))))
    · rw [t1 i e]
      rcases h.2.2.2.2 i hi with g | g | ⟨g, g2⟩
      · exact .inl g
      · exact .inr (.inl g)
      · refine .inr (.inr ⟨?_, g2⟩)
        rcases g with g | ⟨g, g4⟩ | g
        · exact .inl g
        · exact .inr (.inl ⟨g, fun a ha => by rw [t1 a (hkey i hi g a ha)]; exact g4 a ha⟩)
        · exact .inr (.inr g)
end
