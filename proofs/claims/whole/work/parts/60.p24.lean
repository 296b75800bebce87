section
variable {b0 N : Nat} {K S S' : cS} {rd sb al vb vb' sz sz' sz0 : Nat} {t : Nat → Int32} {n p q : Nat} {R R' : rS} {l : List Int32} {hb u0 u : Nat} {T T' : Ar} {ad : Nat → Nat} {m lo e : Nat} {kd : Nat → List Nat} {xs : List Nat} {S0 : cS} {R0 : rS}
def kE (kd : Nat → List Nat) (m hd : Nat) : Nat → List Nat := va_up (va_up kd m []) hd (kd hd ++ [m])
theorem lt64 {x : Int32} (h : 6 < x) : 4 < x := by
  rw [Int32.lt_iff_toInt_lt] at h ⊢
  have e7 : (6 : Int32).toInt = 6 := by decide
  have e4 : (4 : Int32).toInt = 4 := by decide
  omega
theorem WF.ent (h : WF T kd m) {hd : Nat} (hh : hd < m) (hk : 4 < T.1 hd) {k x : Int32} {s : Option (List Int32)} (hkx : (okl k x ∧ s = none) ∨ (k = 3 ∧ ∃ ls, s = some ls ∧ x = I ls.length) ∨ (((k = 5 ∨ k = 6 ∨ k = 7 ∨ k = 8 ∨ k = 9 ∨ k = 10) ∧ x = 0) ∧ s = none)) {y : Option (List Int32)} (hy : y ≠ none ↔ 6 < T.1 hd) (h6 : T.1 hd = 6 → k = 7) : WF (arE T m hd k x s y) (kE kd m hd) (m + 1) := by
  have h1 := h.new hkx
  have e1 : (arM T m k x s).1 hd = T.1 hd := va_ne _ _ (by omega)
  have ek : va_up kd m [] hd = kd hd := va_ne _ _ (by omega)
  have h2 := h1.link (hd := hd) (v := m) (y := y) (by omega) (by omega) (by rw [e1]; exact hk) (by show (va_up T.2.2.1 m (fun _ => (none : Option Nat))) m 4 = none; rw [va_at_]) (fun a ha => by
    rw [ek] at ha
    obtain ⟨j, hj⟩ := List.getElem?_of_mem ha
    exact ((h.1 hd hh).2.2.1 j a hj).2.2.2) (by rw [e1]; exact hy) (fun g => by
    rw [e1] at g
    show va_up T.1 m k m = 7; rw [va_at_]; exact h6 g)
  rw [ek] at h2
  exact h2
theorem last_lo (h : WF T kd m) {hd : Nat} (hh : hd < m) (hlo : lo ≤ hd) : ∀ a, T.2.2.1 hd 6 = some a → lo < a := by
  intro a ha
  obtain ⟨k1, k2, k3, -⟩ := h.1 hd hh
  rw [k2] at ha
  obtain ⟨j, hj⟩ := List.getElem?_of_mem (List.mem_of_getLast? ha)
  have := (k3 j a hj).2.2.1
  omega
theorem agr_ent (hA : Agr lo T T' m) (h : WF T kd m) {hd : Nat} (hh : hd < m) (hlo : lo ≤ hd) (k x : Int32) (s y : Option (List Int32)) : Agr lo (arE T m hd k x s y) (arE T' m hd k x s y) (m + 1) := by
  refine agr_link (agr_new hA k x s) hlo hh (by omega) (fun a ha => ?_)
  have ha' : (va_up T.2.2.1 m (fun _ => (none : Option Nat))) hd 6 = some a := ha
  rw [va_ne _ _ (by omega)] at ha'
  exact last_lo h hh hlo a ha'
theorem blw_ent (h : WF T kd m) {hd : Nat} (hh : hd < m) (hlo : lo ≤ hd) (k x : Int32) (s y : Option (List Int32)) : Blw lo T (arE T m hd k x s y) := by
  refine (blw_new T (by omega) k x s).trans (blw_link _ hlo hh (fun a ha => ?_) y)
  have ha' : (va_up T.2.2.1 m (fun _ => (none : Option Nat))) hd 6 = some a := ha
  rw [va_ne _ _ (by omega)] at ha'
  exact last_lo h hh hlo a ha'
/-- The same for the reference's arena, of which only the last is known. -/
theorem blw_ent' (hA : Agr lo T T' m) (h : WF T kd m) {hd : Nat} (hh : hd < m) (hlo : lo ≤ hd) (k x : Int32) (s y : Option (List Int32)) : Blw lo T' (arE T' m hd k x s y) := by
  refine (blw_new T' (by omega) k x s).trans (blw_link _ hlo hh (fun a ha => ?_) y)
  have ha' : (va_up T'.2.2.1 m (fun _ => (none : Option Nat))) hd 6 = some a := ha
  rw [va_ne _ _ (by omega), (hA hd hlo hh).2.2.1 6 (by omega) (by omega)] at ha'
  exact last_lo h hh hlo a ha'
theorem rws_ent (h6 : ∀ i, i < m → T.1 i = 6 → kd i ≠ []) {hd : Nat} (hh : hd < m) {k x : Int32} {s y : Option (List Int32)} (hk : k ≠ 6) : ∀ i, i < m + 1 → (arE T m hd k x s y).1 i = 6 → kE kd m hd i ≠ [] := by
  intro i hi g
  unfold kE
  by_cases e1 : i = hd
  · rw [e1, va_at_]; simp
  · rw [va_ne _ _ e1]
    have g' : va_up T.1 m k i = 6 := g
    by_cases e2 : i = m
    · rw [e2, va_at_] at g'; exact absurd g' hk
    · rw [va_ne _ _ e2] at g' ⊢
      exact h6 i (by omega) g'
theorem BC.ent (h : BC b0 K rd sb al t n sz0 S0 S vb e sz T kd ad m xs p) {hd s : Nat} {ls : List Int32} (hh : hd < m) (hk : 6 < T.1 hd) (hs : StrP b0 S s ls sz vb) {k : Int32} (hkk : k = 7 ∨ k = 8 ∨ k = 9) (hm : m + 1 ≤ p + 1) :
    ∃ S', (b1 (nOo b0 S 2 sz) (fun S5 => b1 (x_N_init N b0 K sz k 0 S5) (fun S8 => b1 (pR b0 S8 2 3 sz (some s)) (fun S9 => ifk b0 K S9 2 (ad hd) (b1 (x_N_add N b0 K (ad hd) (some sz) S9) (fun S12 => some (some sz, S12, (0 : Nat), (0 : Nat)))))))) = some (some sz, S', 0, 0) ∧
      BC b0 K rd sb al t n sz0 S0 S' vb e (sz + 1) (arE T m hd k 0 none (some ls)) (kE kd m hd) (va_up ad m sz) (m + 1) xs p ∧ ∀ a, a < sz → (∀ i, i < m → a ≠ ad i) → Same S S' a := by
  have H := h
  obtain ⟨⟨l, h1⟩, h2, h3, h4, h5, h6, h7, h8, h9, h10, h11, h12, h13, h14, h15, h16, h17, h18, h19, h20, h21⟩ := h
  obtain ⟨S', f1, f2, f3⟩ := cls_new (N := N) (K := K) h6 (by omega) hh hs k
  have hw := h7.ent (hd := hd) (k := k) (x := 0) (s := none) (y := some ls) hh (lt64 hk) (.inr (.inr ⟨⟨by rcases hkk with g | g | g <;> simp [g], rfl⟩, rfl⟩)) ⟨fun _ => hk, fun _ => by simp⟩ (fun g => by rw [g] at hk; exact absurd hk (by decide))
  refine ⟨S', f1, H.chg f3 f2 hw (by omega) hm (by omega) (fun i hi => va_ne _ _ (by omega)) (fun i hi => ?_) (rws_ent h20 hh (by rcases hkk with rfl | rfl | rfl <;> decide)), f3⟩
  by_cases g : i = m
  · rw [g, va_at_]; omega
  · rw [va_ne _ _ g]; exact h17 i (by omega)
end
