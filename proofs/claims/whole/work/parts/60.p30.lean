section
variable {b0 N : Nat} {K S S' : cS} {rd sb al vb vb' sz sz' sz0 : Nat} {t : Nat → Int32} {n p q : Nat} {R R' : rS} {l : List Int32} {hb u0 u : Nat} {T T' : Ar} {ad : Nat → Nat} {m lo e : Nat} {kd : Nat → List Nat} {xs : List Nat} {S0 : cS} {R0 : rS}
/-- The reference goes on behind a value, or stops. -/
def RG (N : Nat) (M : Option (Int32 × rS)) (k : Nat) (R2 : rS) : Prop := ∃ R1, M = some (1, R1) ∧ ∀ f, k < f → m_finishValue_2 N f 1 R1 = m_finishValue_2 N (f - k) 1 R2
def RF (N : Nat) (M : Option (Int32 × rS)) (k : Nat) (R2 : rS) : Prop := M = some (0, R2) ∨ ∃ R1, M = some (1, R1) ∧ ∀ f, k < f → m_finishValue_2 N f 1 R1 = some (0, R2)
/-- The class's half of a value that was read: the new value is by itself. -/
def VC (b0 : Nat) (K : cS) (rd sb al : Nat) (t : Nat → Int32) (n sz0 : Nat) (S0 S : cS) (vb sz : Nat) (T : Ar) (kd : Nat → List Nat) (ad : Nat → Nat) (m : Nat) (xs : List Nat) (p : Nat)
    (q : Nat) (S1 : cS) (vb1 e1 dc ds : Nat) (T1 : Ar) (kd1 : Nat → List Nat) (ad1 : Nat → Nat) (m1 : Nat) (ys : List Nat) (C : Option (Option Nat × cS × Nat × Nat)) : Prop :=
  C = some (some (ad1 m), S1, dc, ds) ∧ p < q ∧ q ≤ n ∧ BC b0 K rd sb al t n sz0 S0 S1 vb1 e1 (sz + dc) T1 kd1 ad1 m1 (xs ++ ys) q ∧ m < m1 ∧ (∀ i, i < m → ad1 i = ad i) ∧
  (∀ i, i < m → T1.1 i = T.1 i ∧ T1.2.1 i = T.2.1 i ∧ T1.2.2.1 i = T.2.2.1 i ∧ T1.2.2.2.1 i = T.2.2.2.1 i ∧ T1.2.2.2.2 i = T.2.2.2.2 i ∧ kd1 i = kd i) ∧ T1.2.2.1 m 4 = none ∧ T1.2.2.2.2 m = none ∧
  (∀ x, x ∈ ys → m ≤ x ∧ x < m1 ∧ (T1.1 x = 9 ∨ T1.1 x = 10)) ∧ (∀ i, m ≤ i → i < m1 → T1.1 i = 9 → i ∈ ys) ∧ Kp b0 S S1 sz (sz + dc) vb vb1 ∧ dc ≤ 12 * (q - p) ∧ ds ≤ 500 * (q - p)
/-- What comes of a value, in both. -/
def VOut (b0 N : Nat) (K : cS) (rd sb al : Nat) (t : Nat → Int32) (n sz0 : Nat) (S0 S : cS) (hb : Nat) (R0 R : rS) (vb sz : Nat) (T T' : Ar) (kd : Nat → List Nat) (ad : Nat → Nat) (m : Nat) (xs : List Nat) (p lo hd dd : Nat) (y : Option (List Int32)) (C : Option (Option Nat × cS × Nat × Nat)) (M : Option (Int32 × rS)) : Prop :=
  (∃ q S1 vb1 e1 dc ds T1 kd1 ad1 m1 ys k R2 T1' u1, VC b0 K rd sb al t n sz0 S0 S vb sz T kd ad m xs p q S1 vb1 e1 dc ds T1 kd1 ad1 m1 ys C ∧ RG N M k R2 ∧ k + 1 ≤ q - p ∧ BR t n hb R0 R2 T1' m1 u1 q ∧ Agr lo (arL (arY T1 m y) hd m) T1' m1 ∧ Blw lo T' T1' ∧ R2.1 26 = R.1 26 ∧ ∀ i, i < dd → R2.2 17 i = R.2 17 i ∧ R2.2 18 i = R.2 18 i) ∨
  (∃ S1 dc ds k R2, C = some (none, S1, dc, ds) ∧ RF N M k R2 ∧ k ≤ n + 1 - p ∧ Bad b0 rd n sz0 S0 S1 hb R0 R2 ∧ dc ≤ 12 * (n + 1 - p) ∧ ds ≤ 500 * (n + 1 - p)) ∨
  (∃ q S1 vb1 e1 dc ds T1 kd1 ad1 m1 ys k R2, VC b0 K rd sb al t n sz0 S0 S vb sz T kd ad m xs p q S1 vb1 e1 dc ds T1 kd1 ad1 m1 ys C ∧ q < n ∧ dgu (t q) ∧ RF N M k R2 ∧ k ≤ n + 1 - p ∧ R2.1 4 = I q ∧ GR R0 R2 hb)
theorem arM_N {k x : Int32} : arM T m k x none = arN T m k x := rfl
/-- A new value by itself, in the class. -/
theorem BC.new (h : BC b0 K rd sb al t n sz0 S0 S vb e sz T kd ad m xs p) {k x : Int32} (hk : okl k x ∨ ((k = 5 ∨ k = 7 ∨ k = 8 ∨ k = 9 ∨ k = 10) ∧ x = 0)) (hm : m + 1 ≤ p + 1) :
    BC b0 K rd sb al t n sz0 S0 (nd S sz k x) vb e (sz + 1) (arM T m k x none) (va_up kd m []) (va_up ad m sz) (m + 1) xs p := by
  have H := h
  obtain ⟨⟨l, h1⟩, h2, h3, h4, h5, h6, h7, h8, h9, h10, h11, h12, h13, h14, h15, h16, h17, h18, h19, h20, h21⟩ := h
  have hw : WF (arM T m k x none) (va_up kd m []) (m + 1) := h7.new (by
    rcases hk with g | ⟨g, g2⟩
    · exact .inl ⟨g, rfl⟩
    · exact .inr (.inr ⟨⟨by rcases g with g | g | g | g | g <;> simp [g], g2⟩, rfl⟩))
  refine H.chg (fun a ha _ => Same.nd (by omega)) (h6.new (by omega) k x) hw (by omega) hm (by omega) (fun i hi => va_ne _ _ (by omega)) (fun i hi => ?_) (fun i hi g => ?_)
  · by_cases ei : i = m
    · rw [ei, va_at_]; omega
    · rw [va_ne _ _ ei]; exact h17 i (by omega)
  · have g' : va_up T.1 m k i = 6 := g
    by_cases ei : i = m
    · rw [ei, va_at_] at g'
      rcases hk with g0 | ⟨g0, -⟩
      · rcases g0 with ⟨g0, -⟩ | ⟨g0, -⟩ | ⟨g0, -⟩ <;> rw [g'] at g0 <;> exact absurd g0 (by decide)
      · rcases g0 with g0 | g0 | g0 | g0 | g0 <;> rw [g'] at g0 <;> exact absurd g0 (by decide)
    · rw [va_ne _ _ ei] at g' ⊢; exact h20 i (by omega) g'
/-- A leaf that was read: the class's half. -/
theorem VC.leaf (hC : BC b0 K rd sb al t n sz0 S0 S vb e sz T kd ad m xs p) {k x : Int32} (hk : okl k x) (h1 : p < q) (h2 : q ≤ n) {C : Option (Option Nat × cS × Nat × Nat)} (h : C = some (some sz, nd (sI S rd 6 (I q)) sz k x, 1, 8)) :
    VC b0 K rd sb al t n sz0 S0 S vb sz T kd ad m xs p q (nd (sI S rd 6 (I q)) sz k x) vb e 1 8 (arM T m k x none) (va_up kd m []) (va_up ad m sz) (m + 1) [] C := by
  have hmp := hC.mp
  have hC1 := (hC.mv (q := q) (by omega)).new (.inl hk) (by omega)
  refine ⟨by rw [h, show va_up ad m sz m = sz from va_at_ _ _ _], h1, h2, by rw [List.append_nil]; exact hC1, by omega, fun i hi => va_ne _ _ (by omega), fun i hi => ⟨va_ne _ _ (by omega), va_ne _ _ (by omega), va_ne _ _ (by omega), va_ne _ _ (by omega), va_ne _ _ (by omega), va_ne _ _ (by omega)⟩, ?_, va_at_ _ _ _, (by intro x h; cases h), fun i a b c => ?_, ?_, by omega, by omega⟩
  · show (va_up T.2.2.1 m (fun _ => (none : Option Nat))) m 4 = none; rw [va_at_]
  · have : i = m := by omega
    subst this
    have c' : va_up T.1 i k i = 9 := c
    rw [va_at_] at c'
    rcases hk with ⟨g, -⟩ | ⟨g, -⟩ | ⟨g, -⟩ <;> rw [g] at c' <;> exact absurd c' (by decide)
  · obtain ⟨l, hS⟩ := hC.1
    have g1 : Kp b0 S (sI S rd 6 (I q)) sz sz vb vb := Kp.fr hS (FrC.mv S (.inl rfl) _) (Nat.le_refl _) (.inl rfl)
    exact g1.trans (Kp.of (fun a ha _ => Same.nd (by omega)) (by omega)) (Nat.le_refl _)
/-- The reference's rows of a leaf. -/
theorem BR.leaf {hd : Nat} {y : Option (List Int32)} (h : BR t n hb R0 R (arE T' m hd 0 0 none y) (m + 1) u p) (hh : hd < m) (hm : m + 1 ≤ 260) {k x : Int32} (hk : okl k x) : BR t n hb R0 (Ra (Ra R 3 (260 * hb + m) k) 4 (260 * hb + m) x) (arE T' m hd k x none y) (m + 1) u p := by
  obtain ⟨r1, r2, r3, r4, r5⟩ := h
  have hb1 := r1.2.2.1
  refine ⟨(r1.ra (by decide) _ _).ra (by decide) _ _, by rw [Ra_ne _ (.inl (by decide)), Ra_ne _ (.inl (by decide))]; exact r2, r3, ⟨fun i hi => ?_, ?_⟩, (r5.trans (GR.ra R (.inl (by omega)) _)).trans (GR.ra _ (.inl (by omega)) _)⟩
  · have h13 : ∀ i, (Ra (Ra R 3 (260 * hb + m) k) 4 (260 * hb + m) x).2 13 i = R.2 13 i := fun i => by rw [Ra_ne _ (.inl (by decide)), Ra_ne _ (.inl (by decide))]
    have t1 : ∀ i, (arE T' m hd k x none y).1 i = if i = m then k else T'.1 i := fun i => arE_1
    have t2 : ∀ i, i ≠ m → (arE T' m hd k x none y).2.1 i = (arE T' m hd 0 0 none y).2.1 i := by
      intro i hi
      show va_up (va_up T'.2.1 m x) hd _ i = va_up (va_up T'.2.1 m 0) hd _ i
      by_cases e : i = hd
      · subst e; rw [va_at_, va_at_]; show va_up T'.2.1 m x i + 1 = va_up T'.2.1 m 0 i + 1; rw [va_ne _ _ (by omega), va_ne _ _ (by omega)]
      · rw [va_ne _ _ e, va_ne _ _ e, va_ne _ _ hi, va_ne _ _ hi]
    have t2' : (arE T' m hd k x none y).2.1 m = x := by
      show va_up (va_up T'.2.1 m x) hd _ m = x
      rw [va_ne _ _ (by omega), va_at_]
    have ncnk : ¬ cnk k := by
      rintro (g | g)
      · rcases hk with ⟨g0, -⟩ | ⟨g0, -⟩ | ⟨g0, -⟩ <;> rw [g] at g0 <;> exact absurd g0 (by decide)
      · rcases hk with ⟨g0, -⟩ | ⟨g0, -⟩ | ⟨g0, -⟩ <;> rw [g0] at g <;> exact absurd g (by decide)
    by_cases e : i = m
    · subst e
      obtain ⟨a1, a2, a3, a4, a5, a6, a7, a8, a9⟩ := r4.1 i hi
      have w : ∀ g, g ≠ 3 → g ≠ 4 → (Ra (Ra R 3 (260 * hb + i) k) 4 (260 * hb + i) x).2 g (260 * hb + i) = R.2 g (260 * hb + i) := fun g b c => by rw [Ra_ne _ (.inl c), Ra_ne _ (.inl b)]
      refine ⟨by rw [Ra_ne _ (.inl (by decide)), Ra_at, t1, if_pos rfl], fun g => ?_, fun _ => by rw [Ra_at, t2'], by rw [w 5 (by decide) (by decide)]; exact a4, by rw [w 6 (by decide) (by decide)]; exact a5, fun j e => by rw [w 7 (by decide) (by decide)]; exact a6 j e, by rw [w 8 (by decide) (by decide)]; exact a7, fun ls e => ?_, fun ls e => ?_⟩
      · rw [t1, if_pos rfl] at g; exact absurd g ncnk
      · have e' : va_up T'.2.2.2.1 i none i = some ls := e
        rw [va_at_] at e'; cases e'
      · obtain ⟨b1', b2'⟩ := a9 ls e
        exact ⟨by rw [w 10 (by decide) (by decide)]; exact b1'.keep (fun i _ _ => h13 i) (Nat.le_refl _), by rw [w 11 (by decide) (by decide)]; exact b2'⟩
    · obtain ⟨a1, a2, a3, a4, a5, a6, a7, a8, a9⟩ := (r4.1 i hi).keep (R' := Ra (Ra R 3 (260 * hb + m) k) 4 (260 * hb + m) x) (u' := u) (fun g _ _ => by rw [Ra_ne _ (.inr (by omega)), Ra_ne _ (.inr (by omega))]) (fun i _ _ => h13 i) (Nat.le_refl _)
      have t1' : (arE T' m hd k x none y).1 i = (arE T' m hd 0 0 none y).1 i := by rw [arE_1, arE_1, if_neg e, if_neg e]
      refine ⟨a1.trans t1'.symm, fun g => (a2 (by rw [t1'] at g; exact g)).trans (t2 i e).symm, fun g => (a3 (by rw [t1'] at g; exact g)).trans (t2 i e).symm, a4, a5, a6, a7, fun ls e' => ?_, a9⟩
      obtain ⟨b1', b2', b3'⟩ := a8 ls e'
      exact ⟨t1'.trans b1', b2', (t2 i e).trans b3'⟩
  · exact r4.2
theorem RG.now {M : Option (Int32 × rS)} {R2 : rS} (h : M = some (1, R2)) : RG N M 0 R2 := ⟨R2, h, fun f _ => rfl⟩
/-- A leaf, in both, from its two scans. -/
theorem leaf_out (hC : BC b0 K rd sb al t n sz0 S0 S vb e sz T kd ad m xs p) (hp : p ≤ n) {hd dd : Nat} {y : Option (List Int32)} (hR : BR t n hb R0 R T' m u p) {R1 : rS} (hR1 : BR t n hb R0 R1 (arE T' m hd 0 0 none y) (m + 1) u p) (hf1 : R1.1 = R.1) (hf2 : ∀ j i, 12 ≤ j → R1.2 j i = R.2 j i) (hA : Agr lo T T' m) (hh : hd < m) (hlo : lo ≤ hd) (hn : n ≤ 240)
    {C : Option (Option Nat × cS × Nat × Nat)} {M : Option (Int32 × rS)} (h : Leaf S rd sz R1 (260 * hb + m) t n p C M) :
    VOut b0 N K rd sb al t n sz0 S0 S hb R0 R vb sz T T' kd ad m xs p lo hd dd y C M := by
  have hmp := hC.mp
  have hb1 := hR.1.2.2.1
  have hu := hR.1.2.2.2.2
  rcases h with ⟨q, k, x, h1, h2, h3, h4, h5⟩ | ⟨q, w, R', h1, h2, h3, h4, h5⟩ | ⟨q, R', h1, h2, h3, h4, h5, h6, h7⟩
  · refine .inl ⟨q, _, _, _, _, _, _, _, _, _, _, 0, _, arE T' m hd k x none y, u, VC.leaf hC h3 h1 h2 h4, RG.now h5, by omega, (hR1.mv (q := q) (by omega)).leaf hh (by omega) h3, agr_ent hA hC.wf hh hlo _ _ _ _, blw_ent' hA hC.wf hh hlo _ _ _ _, ?_, fun i hi => ⟨?_, ?_⟩⟩
    · rw [Ra_1, Ra_1, Rw_1n _ _ (by decide), hf1]
    · rw [Ra_ne _ (.inl (by decide)), Ra_ne _ (.inl (by decide)), Rw_2, hf2 17 i (by decide)]
    · rw [Ra_ne _ (.inl (by decide)), Ra_ne _ (.inl (by decide)), Rw_2, hf2 18 i (by decide)]
  · refine .inr (.inl ⟨_, 0, 0, 0, R', h2, .inl h3, by omega, ?_, by omega, by omega⟩)
    refine hC.bad (R := R1) hR1.2.2.2.2 ?_ (h5.gr ⟨by omega, by omega⟩) h1 ?_ h4
    · exact (FrC.mv S (.inl rfl) _).trans (FrC.mv _ (.inr rfl) _) (Nat.le_refl _) (.inl rfl)
    · show up2 _ _ _ _ _ _ = _; rw [up2_at]
  · refine .inr (.inr ⟨q, _, _, _, _, _, _, _, _, _, _, 0, R', VC.leaf hC (.inl ⟨rfl, 0, by decide, .inl rfl⟩) h1 (by omega) h4, h2, h3, .inl h5, by omega, h6, hR1.2.2.2.2.trans (h7.gr ⟨by omega, by omega⟩)⟩)
end
