/-! An arena of values: kind, number, links (4 outer, 5 first, 6 last, 7 next), letters, key. -/
abbrev Ar : Type := (Nat → Int32) × (Nat → Int32) × (Nat → Nat → Option Nat) × (Nat → Option (List Int32)) × (Nat → Option (List Int32))
def arN (T : Ar) (m : Nat) (k x : Int32) : Ar := (va_up T.1 m k, va_up T.2.1 m x, va_up T.2.2.1 m (fun _ => none), va_up T.2.2.2.1 m none, va_up T.2.2.2.2 m none)
def lnk (L : Nat → Nat → Option Nat) (h v : Nat) : Nat → Nat → Option Nat := match L h 6 with
  | none => up2 (up2 (up2 L v 4 (some h)) h 5 (some v)) h 6 (some v)
  | some a => up2 (up2 (up2 L v 4 (some h)) a 7 (some v)) h 6 (some v)
def arL (T : Ar) (h v : Nat) : Ar := (T.1, va_up T.2.1 h (T.2.1 h + 1), lnk T.2.2.1 h v, T.2.2.2.1, T.2.2.2.2)
def arY (T : Ar) (v : Nat) (k : Option (List Int32)) : Ar := (T.1, T.2.1, T.2.2.1, T.2.2.2.1, va_up T.2.2.2.2 v k)
def arK (T : Ar) (v : Nat) (k : Int32) : Ar := (va_up T.1 v k, T.2.1, T.2.2.1, T.2.2.2.1, T.2.2.2.2)
def arV (T : Ar) (v : Nat) (k x : Int32) (s : Option (List Int32)) : Ar := (va_up T.1 v k, va_up T.2.1 v x, T.2.2.1, va_up T.2.2.2.1 v s, T.2.2.2.2)
section
variable {b0 N : Nat} {K S S' : cS} {rd sb vb vb' sz sz' : Nat} {t : Nat → Int32} {n p q : Nat} {R R' : rS} {l : List Int32} {hb u0 u : Nat} {T T' : Ar} {ad : Nat → Nat} {m : Nat}
def StrO (b0 : Nat) (S : cS) (o : Option Nat) (l : Option (List Int32)) (sz vb : Nat) : Prop := (l = none → o = none) ∧ ∀ ls, l = some ls → ∃ s, o = some s ∧ StrP b0 S s ls sz vb
def NodeC (b0 : Nat) (S : cS) (T : Ar) (ad : Nat → Nat) (sz vb i : Nat) : Prop :=
  ownC b0 (ad i) ∧ ad i < sz ∧ S.1 (ad i) = 2 ∧ S.2.2.1 (ad i) 0 = T.1 i ∧ S.2.2.1 (ad i) 1 = T.2.1 i ∧ (∀ f, 4 ≤ f → f ≤ 7 → S.2.2.2 (ad i) f = (T.2.2.1 i f).map ad) ∧ StrO b0 S (S.2.2.2 (ad i) 2) (T.2.2.2.1 i) sz vb ∧ StrO b0 S (S.2.2.2 (ad i) 3) (T.2.2.2.2 i) sz vb
/-- The links of an arena lie within it. -/
def Lk (T : Ar) (m : Nat) : Prop := ∀ i, i < m → ∀ f j, 4 ≤ f → f ≤ 7 → T.2.2.1 i f = some j → j < m
def RelC (b0 : Nat) (S : cS) (T : Ar) (ad : Nat → Nat) (m sz vb : Nat) : Prop :=
  (∀ i, i < m → NodeC b0 S T ad sz vb i) ∧ (∀ i j, i < m → j < m → ad i = ad j → i = j) ∧ Lk T m
theorem StrO.keepF {o : Option Nat} {l : Option (List Int32)} (h : StrO b0 S o l sz vb) (hs : ∀ s ls, StrP b0 S s ls sz vb → StrP b0 S' s ls sz' vb') : StrO b0 S' o l sz' vb' :=
  ⟨h.1, fun ls e => by obtain ⟨s, h1, h2⟩ := h.2 ls e; exact ⟨s, h1, hs s ls h2⟩⟩
theorem NodeC.keepF {i : Nat} (h : NodeC b0 S T ad sz vb i) (hn : Same S S' (ad i)) (hs : ∀ s ls, StrP b0 S s ls sz vb → StrP b0 S' s ls sz' vb') (hz : sz ≤ sz') : NodeC b0 S' T ad sz' vb' i := by
  obtain ⟨h1, h2, h3, h4, h5, h6, h7, h8⟩ := h
  exact ⟨h1, by omega, by rw [hn.1, h3], by rw [hn.2.2.1, h4], by rw [hn.2.2.1, h5], fun f a b => by rw [hn.2.2.2]; exact h6 f a b, by rw [hn.2.2.2]; exact h7.keepF hs, by rw [hn.2.2.2]; exact h8.keepF hs⟩
theorem RelC.keep (h : RelC b0 S T ad m sz vb) (hF : FrC S S' rd sb vb sz) (hr : S.1 rd = 4) (hs : S.1 sb = 7) (hvb : S.1 vb = 12) (hz : sz ≤ sz') (hv : vb' = vb ∨ sz ≤ vb') : RelC b0 S' T ad m sz' vb' := by
  refine ⟨fun i hi => ?_, h.2⟩
  have g := h.1 i hi
  have k2 := g.2.2.1
  refine g.keepF (hF.1 _ g.2.1 (fun e => by rw [e, hr] at k2; omega) (fun e => by rw [e, hs] at k2; omega) (fun e => by rw [e, hvb] at k2; omega)) (fun s ls e => e.keep hF hr hs hvb hz hv) hz
/-- What changes no value and no string. -/
theorem RelC.same (h : RelC b0 S T ad m sz vb) (hs : ∀ a, a < sz → S.1 a = 2 ∨ S.1 a = 6 ∨ S.1 a = 12 → Same S S' a) (hz : sz ≤ sz') : RelC b0 S' T ad m sz' vb := by
  refine ⟨fun i hi => ?_, h.2⟩
  have g := h.1 i hi
  exact g.keepF (hs _ g.2.1 (.inl g.2.2.1)) (fun s ls e => e.same (fun a ha hk => hs a ha (.inr hk)) hz) hz
/-- A new value. -/
theorem nd_k (S : cS) (a : Nat) (k x : Int32) : (nd S a k x).1 a = 2 := nO_k S 2 a
theorem nd_0 (S : cS) (a : Nat) (k x : Int32) : (nd S a k x).2.2.1 a 0 = k := by
  show up2 _ _ _ _ _ _ = _; rw [up2_nn _ _ (.inr (by decide))]; show up2 _ _ _ _ _ _ = _; rw [up2_at]
theorem nd_1 (S : cS) (a : Nat) (k x : Int32) : (nd S a k x).2.2.1 a 1 = x := by
  show up2 _ _ _ _ _ _ = _; rw [up2_at]
theorem nd_r (S : cS) (a : Nat) (k x : Int32) (f : Nat) : (nd S a k x).2.2.2 a f = none := by
  show (va_up S.2.2.2 a (fun _ => (none : Option Nat))) a f = none; rw [va_at_]
theorem map_ad {o : Option Nat} {ad ad' : Nat → Nat} (h : ∀ j, o = some j → ad' j = ad j) : o.map ad' = o.map ad := by
  cases o with
  | none => rfl
  | some j => show some _ = some _; rw [h j rfl]
theorem RelC.new (h : RelC b0 S T ad m sz vb) (hz : b0 + 26 ≤ sz) (k x : Int32) : RelC b0 (nd S sz k x) (arN T m k x) (va_up ad m sz) (m + 1) (sz + 1) vb := by
  have hlt : ∀ i, i < m → ad i < sz := fun i hi => (h.1 i hi).2.1
  refine ⟨fun i hi => ?_, fun i j hi hj e => ?_, fun i hi f j h4 h7 e => ?_⟩
  · by_cases e : i = m
    · subst e
      have ea : va_up ad i sz i = sz := va_at_ _ _ _
      refine ⟨by rw [ea]; exact .inl hz, by rw [ea]; omega, by rw [ea]; exact nd_k _ _ _ _, by rw [ea, nd_0]; exact (va_at_ _ _ _).symm, by rw [ea, nd_1]; exact (va_at_ _ _ _).symm, fun f h4 h7 => ?_, ?_, ?_⟩
      · rw [ea, nd_r]; show none = ((va_up T.2.2.1 i (fun _ => none)) i f).map _; rw [va_at_]; rfl
      · rw [ea, nd_r]; refine ⟨fun _ => rfl, fun ls e => ?_⟩
        have : (arN T i k x).2.2.2.1 i = none := va_at_ _ _ _
        rw [this] at e; cases e
      · rw [ea, nd_r]; refine ⟨fun _ => rfl, fun ls e => ?_⟩
        have : (arN T i k x).2.2.2.2 i = none := va_at_ _ _ _
        rw [this] at e; cases e
    · have hi' : i < m := by omega
      have ea : va_up ad m sz i = ad i := va_ne _ _ e
      have g := h.1 i hi'
      have hs : Same S (nd S sz k x) (ad i) := Same.nd (by have := hlt i hi'; omega)
      have hstr : ∀ s ls, StrP b0 S s ls sz vb → StrP b0 (nd S sz k x) s ls (sz + 1) vb := fun s ls e => e.same (fun a ha _ => Same.nd (by omega)) (by omega)
      obtain ⟨g1, g2, g3, g4, g5, g6, g7, g8⟩ := g.keepF hs hstr (Nat.le_succ sz)
      refine ⟨by rw [ea]; exact g1, by rw [ea]; exact g2, by rw [ea]; exact g3, by rw [ea, g4]; exact (va_ne _ _ e).symm, by rw [ea, g5]; exact (va_ne _ _ e).symm, fun f h4 h7 => ?_, ?_, ?_⟩
      · rw [ea, g6 f h4 h7]
        show _ = ((va_up T.2.2.1 m (fun _ => none)) i f).map _
        rw [va_ne _ _ e]
        exact (map_ad (fun j hj => va_ne _ _ (by have := h.2.2 i hi' f j h4 h7 hj; omega))).symm
      · rw [ea]
        have : (arN T m k x).2.2.2.1 i = T.2.2.2.1 i := va_ne _ _ e
        rw [this]; exact g7
      · rw [ea]
        have : (arN T m k x).2.2.2.2 i = T.2.2.2.2 i := va_ne _ _ e
        rw [this]; exact g8
  · by_cases e1 : i = m
    · by_cases e2 : j = m
      · omega
      · rw [e1, va_at_, va_ne _ _ e2] at e
        have := hlt j (by omega); omega
    · by_cases e2 : j = m
      · rw [e2, va_at_, va_ne _ _ e1] at e
        have := hlt i (by omega); omega
      · rw [va_ne _ _ e1, va_ne _ _ e2] at e
        exact h.2.1 i j (by omega) (by omega) e
  · have e' : (va_up T.2.2.1 m (fun _ => none)) i f = some j := e
    by_cases e1 : i = m
    · rw [e1, va_at_] at e'; cases e'
    · rw [va_ne _ _ e1] at e'
      have := h.2.2 i (by omega) f j h4 h7 e'
      omega
/-- One value's links or numbers change, by one put. -/
theorem RelC.putR (h : RelC b0 S T ad m sz vb) {v f : Nat} (hv : v < m) (h4 : 4 ≤ f) (h7 : f ≤ 7) {o : Option Nat} (ho : ∀ j, o = some j → j < m) : RelC b0 (sR S (ad v) f (o.map ad)) (T.1, T.2.1, up2 T.2.2.1 v f o, T.2.2.2.1, T.2.2.2.2) ad m sz vb := by
  have kv := (h.1 v hv).2.2.1
  have hstr : ∀ s ls, StrP b0 S s ls sz vb → StrP b0 (sR S (ad v) f (o.map ad)) s ls sz vb := fun s ls e => e.same (fun a ha hk => Same.sR _ (fun e => by rw [e, kv] at hk; omega)) (Nat.le_refl _)
  refine ⟨fun i hi => ?_, h.2.1, fun i hi g j g4 g7 e => ?_⟩
  · by_cases e : i = v
    · subst e
      obtain ⟨g1, g2, g3, g4, g5, g6, g7, g8⟩ := h.1 i hi
      refine ⟨g1, g2, g3, g4, g5, fun g a b => ?_, ?_, ?_⟩
      · show up2 _ _ _ _ _ _ = Option.map ad (up2 T.2.2.1 i f o i g)
        by_cases e2 : g = f
        · subst e2; rw [up2_at, up2_at]
        · rw [up2_nn _ _ (.inr e2), up2_nn _ _ (.inr e2)]; exact g6 g a b
      · show StrO b0 _ (up2 _ _ _ _ _ _) _ sz vb
        rw [up2_nn _ _ (.inr (by omega))]; exact g7.keepF hstr
      · show StrO b0 _ (up2 _ _ _ _ _ _) _ sz vb
        rw [up2_nn _ _ (.inr (by omega))]; exact g8.keepF hstr
    · have hne : ad i ≠ ad v := fun g => e (h.2.1 i v hi hv g)
      obtain ⟨g1, g2, g3, g4, g5, g6, g7, g8⟩ := (h.1 i hi).keepF (Same.sR _ hne) hstr (Nat.le_refl _)
      refine ⟨g1, g2, g3, g4, g5, fun g a b => ?_, g7, g8⟩
      rw [g6 g a b]
      show _ = Option.map ad (up2 T.2.2.1 v f o i g)
      rw [up2_nn _ _ (.inl e)]
  · have e' : up2 T.2.2.1 v f o i g = some j := e
    by_cases e1 : i = v ∧ g = f
    · rw [e1.1, e1.2, up2_at] at e'; exact ho j e'
    · rw [up2_nn _ _ (by by_cases e2 : i = v; · exact .inr (fun e3 => e1 ⟨e2, e3⟩)
                         · exact .inl e2)] at e'
      exact h.2.2 i hi g j g4 g7 e'
theorem RelC.putI (h : RelC b0 S T ad m sz vb) {v : Nat} (hv : v < m) (x : Int32) : RelC b0 (sI S (ad v) 1 x) (T.1, va_up T.2.1 v x, T.2.2.1, T.2.2.2.1, T.2.2.2.2) ad m sz vb := by
  have kv := (h.1 v hv).2.2.1
  have hstr : ∀ s ls, StrP b0 S s ls sz vb → StrP b0 (sI S (ad v) 1 x) s ls sz vb := fun s ls e => e.same (fun a ha hk => Same.sI _ (fun e => by rw [e, kv] at hk; omega)) (Nat.le_refl _)
  refine ⟨fun i hi => ?_, h.2⟩
  by_cases e : i = v
  · subst e
    obtain ⟨g1, g2, g3, g4, g5, g6, g7, g8⟩ := h.1 i hi
    refine ⟨g1, g2, g3, ?_, ?_, g6, g7.keepF hstr, g8.keepF hstr⟩
    · show up2 _ _ _ _ _ _ = _; rw [up2_nn _ _ (.inr (by decide))]; exact g4
    · show up2 _ _ _ _ _ _ = va_up _ _ _ _; rw [up2_at, va_at_]
  · have hne : ad i ≠ ad v := fun g => e (h.2.1 i v hi hv g)
    obtain ⟨g1, g2, g3, g4, g5, g6, g7, g8⟩ := (h.1 i hi).keepF (Same.sI _ hne) hstr (Nat.le_refl _)
    refine ⟨g1, g2, g3, g4, ?_, g6, g7, g8⟩
    rw [g5]; exact (va_ne _ _ e).symm
theorem RelC.putK (h : RelC b0 S T ad m sz vb) {v : Nat} (hv : v < m) (x : Int32) : RelC b0 (sI S (ad v) 0 x) (arK T v x) ad m sz vb := by
  have kv := (h.1 v hv).2.2.1
  have hstr : ∀ s ls, StrP b0 S s ls sz vb → StrP b0 (sI S (ad v) 0 x) s ls sz vb := fun s ls e => e.same (fun a ha hk => Same.sI _ (fun e => by rw [e, kv] at hk; omega)) (Nat.le_refl _)
  refine ⟨fun i hi => ?_, h.2⟩
  by_cases e : i = v
  · subst e
    obtain ⟨g1, g2, g3, g4, g5, g6, g7, g8⟩ := h.1 i hi
    refine ⟨g1, g2, g3, ?_, ?_, g6, g7.keepF hstr, g8.keepF hstr⟩
    · show up2 _ _ _ _ _ _ = va_up _ _ _ _; rw [up2_at, va_at_]
    · show up2 _ _ _ _ _ _ = _; rw [up2_nn _ _ (.inr (by decide))]; exact g5
  · have hne : ad i ≠ ad v := fun g => e (h.2.1 i v hi hv g)
    obtain ⟨g1, g2, g3, g4, g5, g6, g7, g8⟩ := (h.1 i hi).keepF (Same.sI _ hne) hstr (Nat.le_refl _)
    refine ⟨g1, g2, g3, ?_, g5, g6, g7, g8⟩
    rw [g4]; exact (va_ne _ _ e).symm
/-- A key or letters are put. -/
theorem RelC.putS (h : RelC b0 S T ad m sz vb) {v s : Nat} {ls : List Int32} (hv : v < m) (hs : StrP b0 S s ls sz vb) : RelC b0 (sR S (ad v) 3 (some s)) (arY T v (some ls)) ad m sz vb ∧ RelC b0 (sR S (ad v) 2 (some s)) (T.1, T.2.1, T.2.2.1, va_up T.2.2.2.1 v (some ls), T.2.2.2.2) ad m sz vb := by
  have kv := (h.1 v hv).2.2.1
  have hstr : ∀ (k : Nat) s' ls, StrP b0 S s' ls sz vb → StrP b0 (sR S (ad v) k (some s)) s' ls sz vb := fun k s' ls e => e.same (fun a ha hk => Same.sR _ (fun e => by rw [e, kv] at hk; omega)) (Nat.le_refl _)
  refine ⟨⟨fun i hi => ?_, h.2⟩, ⟨fun i hi => ?_, h.2⟩⟩
  · by_cases e : i = v
    · subst e
      obtain ⟨g1, g2, g3, g4, g5, g6, g7, g8⟩ := h.1 i hi
      refine ⟨g1, g2, g3, g4, g5, fun f a b => ?_, ?_, ?_⟩
      · show up2 _ _ _ _ _ _ = _; rw [up2_nn _ _ (.inr (by omega))]; exact g6 f a b
      · show StrO b0 _ (up2 _ _ _ _ _ _) _ sz vb; rw [up2_nn _ _ (.inr (by omega))]; exact g7.keepF (hstr 3)
      · show StrO b0 _ (up2 _ _ _ _ _ _) (va_up _ _ _ _) sz vb; rw [up2_at, va_at_]
        exact ⟨(fun e => by cases e), fun l' e => by cases e; exact ⟨s, rfl, hstr 3 _ _ hs⟩⟩
    · have hne : ad i ≠ ad v := fun g => e (h.2.1 i v hi hv g)
      obtain ⟨g1, g2, g3, g4, g5, g6, g7, g8⟩ := (h.1 i hi).keepF (Same.sR _ hne) (hstr 3) (Nat.le_refl _)
      refine ⟨g1, g2, g3, g4, g5, g6, g7, ?_⟩
      have : (arY T v (some ls)).2.2.2.2 i = T.2.2.2.2 i := va_ne _ _ e
      rw [this]; exact g8
  · by_cases e : i = v
    · subst e
      obtain ⟨g1, g2, g3, g4, g5, g6, g7, g8⟩ := h.1 i hi
      refine ⟨g1, g2, g3, g4, g5, fun f a b => ?_, ?_, ?_⟩
      · show up2 _ _ _ _ _ _ = _; rw [up2_nn _ _ (.inr (by omega))]; exact g6 f a b
      · show StrO b0 _ (up2 _ _ _ _ _ _) (va_up _ _ _ _) sz vb; rw [up2_at, va_at_]
        exact ⟨(fun e => by cases e), fun l' e => by cases e; exact ⟨s, rfl, hstr 2 _ _ hs⟩⟩
      · show StrO b0 _ (up2 _ _ _ _ _ _) _ sz vb; rw [up2_nn _ _ (.inr (by omega))]; exact g8.keepF (hstr 2)
    · have hne : ad i ≠ ad v := fun g => e (h.2.1 i v hi hv g)
      obtain ⟨g1, g2, g3, g4, g5, g6, g7, g8⟩ := (h.1 i hi).keepF (Same.sR _ hne) (hstr 2) (Nat.le_refl _)
      refine ⟨g1, g2, g3, g4, g5, g6, ?_, g8⟩
      have : (va_up T.2.2.2.1 v (some ls)) i = T.2.2.2.1 i := va_ne _ _ e
      show StrO b0 _ _ (va_up T.2.2.2.1 v (some ls) i) sz vb
      rw [this]; exact g7
end
