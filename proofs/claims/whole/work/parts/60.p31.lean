section
variable {b0 N : Nat} {K S S' : cS} {rd sb al vb vb' sz sz' sz0 : Nat} {t : Nat → Int32} {n p q : Nat} {R R' : rS} {l : List Int32} {hb u0 u : Nat} {T T' : Ar} {ad : Nat → Nat} {m lo e : Nat} {kd : Nat → List Nat} {xs : List Nat} {S0 : cS} {R0 : rS}
theorem BC.newS (h : BC b0 K rd sb al t n sz0 S0 S vb e sz T kd ad m xs p) {s : Nat} (hs : StrP b0 S s l sz vb) (hm : m + 1 ≤ p + 1) :
    BC b0 K rd sb al t n sz0 S0 (sR (nd S sz 3 (I l.length)) sz 2 (some s)) vb e (sz + 1) (arM T m 3 (I l.length) (some l)) (va_up kd m []) (va_up ad m sz) (m + 1) xs p := by
  have H := h
  obtain ⟨⟨l', h1⟩, h2, h3, h4, h5, h6, h7, h8, h9, h10, h11, h12, h13, h14, h15, h16, h17, h18, h19, h20, h21⟩ := h
  have hw : WF (arM T m 3 (I l.length) (some l)) (va_up kd m []) (m + 1) := h7.new (.inr (.inl ⟨rfl, l, rfl, rfl⟩))
  have hr := h6.new (by omega) 3 (I l.length)
  have hs1 : StrP b0 (nd S sz 3 (I l.length)) s l (sz + 1) vb := hs.same (fun a ha _ => Same.nd (by omega)) (by omega)
  have hr2 := (hr.putS (v := m) (by omega) hs1).2
  have ea : va_up ad m sz m = sz := va_at_ _ _ _
  rw [ea] at hr2
  have eT : ((arN T m 3 (I l.length)).1, (arN T m 3 (I l.length)).2.1, (arN T m 3 (I l.length)).2.2.1, va_up (arN T m 3 (I l.length)).2.2.2.1 m (some l), (arN T m 3 (I l.length)).2.2.2.2) = arM T m 3 (I l.length) (some l) := by
    unfold arN arM
    simp only []
    rw [va_twice]
  rw [eT] at hr2
  refine H.chg (fun a ha _ => (Same.nd (by omega)).trans (Same.sR _ (by omega))) hr2 hw (by omega) hm (by omega) (fun i hi => va_ne _ _ (by omega)) (fun i hi => ?_) (fun i hi g => ?_)
  · by_cases ei : i = m
    · rw [ei, va_at_]; omega
    · rw [va_ne _ _ ei]; exact h17 i (by omega)
  · have g' : va_up T.1 m 3 i = 6 := g
    by_cases ei : i = m
    · rw [ei, va_at_] at g'; exact absurd g' (by decide)
    · rw [va_ne _ _ ei] at g' ⊢; exact h20 i (by omega) g'
theorem BR.strleaf {hd : Nat} {y : Option (List Int32)} (h : BR t n hb R0 R (arE T' m hd 0 0 none y) (m + 1) u p) (hh : hd < m) (hm : m + 1 ≤ 260) {f : Nat} (hL : LetR R hb u (I f) l) :
    BR t n hb R0 (Ra (Ra (Ra R 3 (260 * hb + m) 3) 4 (260 * hb + m) (I f)) 9 (260 * hb + m) (I l.length)) (arE T' m hd 3 (I l.length) (some l) y) (m + 1) u p := by
  obtain ⟨r1, r2, r3, r4, r5⟩ := h
  have hb1 := r1.2.2.1
  refine ⟨((r1.ra (by decide) _ _).ra (by decide) _ _).ra (by decide) _ _, by rw [Ra_ne _ (.inl (by decide)), Ra_ne _ (.inl (by decide)), Ra_ne _ (.inl (by decide))]; exact r2, r3, ⟨fun i hi => ?_, ?_⟩, ((r5.trans (GR.ra R (.inl (by omega)) _)).trans (GR.ra _ (.inl (by omega)) _)).trans (GR.ra _ (.inl (by omega)) _)⟩
  · generalize hRR : Ra (Ra (Ra R 3 (260 * hb + m) 3) 4 (260 * hb + m) (I f)) 9 (260 * hb + m) (I l.length) = R9
    have h13 : ∀ i, R9.2 13 i = R.2 13 i := fun i => by rw [← hRR, Ra_ne _ (.inl (by decide)), Ra_ne _ (.inl (by decide)), Ra_ne _ (.inl (by decide))]
    have wo : ∀ g i, i ≠ 260 * hb + m → R9.2 g i = R.2 g i := fun g i c => by rw [← hRR, Ra_ne _ (.inr c), Ra_ne _ (.inr c), Ra_ne _ (.inr c)]
    have t2 : ∀ i, i ≠ m → (arE T' m hd 3 (I l.length) (some l) y).2.1 i = (arE T' m hd 0 0 none y).2.1 i := by
      intro i hi
      show va_up (va_up T'.2.1 m (I l.length)) hd _ i = va_up (va_up T'.2.1 m 0) hd _ i
      by_cases e : i = hd
      · subst e; rw [va_at_, va_at_]; show va_up T'.2.1 m (I l.length) i + 1 = va_up T'.2.1 m 0 i + 1; rw [va_ne _ _ (by omega), va_ne _ _ (by omega)]
      · rw [va_ne _ _ e, va_ne _ _ e, va_ne _ _ hi, va_ne _ _ hi]
    have t2' : (arE T' m hd 3 (I l.length) (some l) y).2.1 m = I l.length := by
      show va_up (va_up T'.2.1 m (I l.length)) hd _ m = _
      rw [va_ne _ _ (by omega), va_at_]
    by_cases e : i = m
    · subst e
      obtain ⟨a1, a2, a3, a4, a5, a6, a7, a8, a9⟩ := r4.1 i hi
      have w : ∀ g, g ≠ 3 → g ≠ 4 → g ≠ 9 → R9.2 g (260 * hb + i) = R.2 g (260 * hb + i) := fun g b c d => by rw [← hRR, Ra_ne _ (.inl d), Ra_ne _ (.inl c), Ra_ne _ (.inl b)]
      have e3 : R9.2 3 (260 * hb + i) = 3 := by rw [← hRR, Ra_ne _ (.inl (by decide)), Ra_ne _ (.inl (by decide)), Ra_at]
      have e4 : R9.2 4 (260 * hb + i) = I f := by rw [← hRR, Ra_ne _ (.inl (by decide)), Ra_at]
      have e9 : R9.2 9 (260 * hb + i) = I l.length := by rw [← hRR, Ra_at]
      have t1' : (arE T' i hd 3 (I l.length) (some l) y).1 i = 3 := by rw [arE_1, if_pos rfl]
      refine ⟨by rw [e3, t1'], fun _ => by rw [e9, t2'], fun g => absurd (.inl t1') g, by rw [w 5 (by decide) (by decide) (by decide)]; exact a4, by rw [w 6 (by decide) (by decide) (by decide)]; exact a5, fun j e => by rw [w 7 (by decide) (by decide) (by decide)]; exact a6 j e, by rw [w 8 (by decide) (by decide) (by decide)]; exact a7, fun ls e => ?_, fun ls e => ?_⟩
      · have e' : va_up T'.2.2.2.1 i (some l) i = some ls := e
        rw [va_at_] at e'; cases e'
        exact ⟨t1', by rw [e4]; exact hL.keep (fun i _ _ => h13 i) (Nat.le_refl _), t2'⟩
      · obtain ⟨b1', b2'⟩ := a9 ls e
        exact ⟨by rw [w 10 (by decide) (by decide) (by decide)]; exact b1'.keep (fun i _ _ => h13 i) (Nat.le_refl _), by rw [w 11 (by decide) (by decide) (by decide)]; exact b2'⟩
    · obtain ⟨a1, a2, a3, a4, a5, a6, a7, a8, a9⟩ := (r4.1 i hi).keep (R' := R9) (u' := u) (fun g _ _ => wo g _ (by omega)) (fun i _ _ => h13 i) (Nat.le_refl _)
      have t1' : (arE T' m hd 3 (I l.length) (some l) y).1 i = (arE T' m hd 0 0 none y).1 i := by rw [arE_1, arE_1, if_neg e, if_neg e]
      refine ⟨a1.trans t1'.symm, fun g => (a2 (by rw [t1'] at g; exact g)).trans (t2 i e).symm, fun g => (a3 (by rw [t1'] at g; exact g)).trans (t2 i e).symm, a4, a5, a6, a7, fun ls e' => ?_, a9⟩
      have e'' : va_up T'.2.2.2.1 m (some l) i = some ls := e'
      rw [va_ne _ _ e] at e''
      have e3 : (arE T' m hd 0 0 none y).2.2.2.1 i = some ls := by
        show va_up T'.2.2.2.1 m none i = some ls; rw [va_ne _ _ e]; exact e''
      obtain ⟨b1', b2', b3'⟩ := a8 ls e3
      exact ⟨t1'.trans b1', b2', (t2 i e).trans b3'⟩
  · exact r4.2
/-- A string as a value. -/
theorem str_out (hT : Tx t n) (hC : BC b0 K rd sb al t n sz0 S0 S vb e sz T kd ad m xs p) (hp : p ≤ n) {hd dd : Nat} {y : Option (List Int32)} (hR : BR t n hb R0 R T' m u p) {R1 : rS} (hR1 : BR t n hb R0 R1 (arE T' m hd 0 0 none y) (m + 1) u p) (hf1 : R1.1 = R.1) (hf2 : ∀ j i, 12 ≤ j → R1.2 j i = R.2 j i) (hA : Agr lo T T' m) (hh : hd < m) (hlo : lo ≤ hd)
    {C : Option (Option Nat × cS × Nat × Nat)} {M : Option (Int32 × rS)} (h : SOut b0 S rd sb vb sz t n p R1 hb u C M) :
    VOut b0 N K rd sb al t n sz0 S0 S hb R0 R vb sz T T' kd ad m xs p lo hd dd y (b4 C (fun q9 S10 c11 d12 => wr4 c11 d12 (x_R_readString_20 N b0 K q9 (sz + c11) S10))) (b2 M (fun x2 S3 => b1 (rT S3 3 (I (260 * hb + m)) 3) (fun S4 => b1 (rT S4 4 (I (260 * hb + m)) (S4.1 24)) (fun S6 => b1 (rT S6 9 (I (260 * hb + m)) (S6.1 25)) (fun S8 => if x2 = 0 ∨ x2 = 1 then (some (x2, S8)) else none))))) := by
  have hn := hT.1
  have hmp := hC.mp
  have hb1 := hR.1.2.2.1
  have hu := hR.1.2.2.2.2
  obtain ⟨l0, hS⟩ := hC.1
  have hrow : ∀ (R9 : rS) (x : Int32), x = 0 ∨ x = 1 → (b1 (rT R9 3 (I (260 * hb + m)) 3) (fun S4 => b1 (rT S4 4 (I (260 * hb + m)) (S4.1 24)) (fun S6 => b1 (rT S6 9 (I (260 * hb + m)) (S6.1 25)) (fun S8 => if x = 0 ∨ x = 1 then (some (x, S8)) else none)))) = some (x, Ra (Ra (Ra R9 3 (260 * hb + m) 3) 4 (260 * hb + m) (R9.1 24)) 9 (260 * hb + m) (R9.1 25)) := by
    intro R9 x hx
    rw [rT_eq (by show _ < 520; omega) (by omega)]
    simp only [b1_some]
    rw [rT_eq (by show _ < 520; omega) (by omega)]
    simp only [b1_some]
    rw [rT_eq (by show _ < 520; omega) (by omega)]
    simp only [b1_some]
    rw [if_pos hx]; rfl
  rcases h with ⟨q, l', S1, R2, vb1, s, dc, ds, g1, g2, rfl, rfl, g5, g6, g7, g8, g9, g10, g11, g12, g13, g14⟩ | ⟨w, S1, R2, dc, ds, g1, rfl, rfl, g4, g5, g6, g7, g8, g9⟩
  · rw [b4_some, b2_some, hrow R2 1 (.inr rfl)]
    have hC1 : BC b0 K rd sb al t n sz0 S0 S1 vb1 e (sz + dc) T kd ad m xs q := hC.keep g9 ⟨l', g7⟩ (by omega) g12 (by omega)
    have hz := hC1.szs
    have o1 : ownC b0 (sz + dc) := .inl hz
    unfold x_R_readString_20
    rw [om_some, nOo_own o1]
    simp only [b1_some]
    have hs3 : Str b0 K (nO S1 2 (sz + dc)) s l' := by
      have : StrP b0 (nO S1 2 (sz + dc)) s l' (sz + dc) vb1 := g5.same (fun a ha _ => Same.nO (by omega)) (Nat.le_refl _)
      exact this.str
    rw [ifk_kd hs3.1, hs3.len]
    simp only [b1_some]
    unfold x_N_init
    rw [pI_own o1 (nO_k _ _ _)]
    simp only [b1_some]
    rw [pI_own o1 (by exact nO_k _ _ _)]
    simp only [b1_some]
    rw [pR_own o1 (by exact nO_k S1 2 (sz + dc))]
    simp only [b1_some, wr4_some]
    have hC2 := hC1.newS (s := s) (l := l') g5 (by omega)
    have hR2 : BR t n hb R0 R2 (arE T' m hd 0 0 none y) (m + 1) (u + l'.length) q := hR1.fp g10.fp g8.rb (by omega) g11
    have e24 := g8.2.2.2.1
    have e25 := g8.2.2.2.2.1
    have hR3 := hR2.strleaf (l := l') hh (by omega) (f := 300 * hb + u) ⟨300 * hb + u, rfl, by omega, by omega, g8.2.2.2.2.2.2.2⟩
    rw [e24, e25]
    have ez : sz + (dc + (1 + 0)) = sz + dc + 1 := by omega
    refine .inl ⟨q, _, vb1, e, dc + (1 + 0), ds + (8 + 0), arM T m 3 (I l'.length) (some l'), va_up kd m [], va_up ad m (sz + dc), m + 1, [], 0, _, arE T' m hd 3 (I l'.length) (some l') y, u + l'.length, ⟨by rw [show va_up ad m (sz + dc) m = sz + dc from va_at_ _ _ _], g1, g2, by rw [List.append_nil, ez]; exact hC2, by omega, fun i hi => va_ne _ _ (by omega), fun i hi => ⟨va_ne _ _ (by omega), va_ne _ _ (by omega), va_ne _ _ (by omega), va_ne _ _ (by omega), va_ne _ _ (by omega), va_ne _ _ (by omega)⟩, ?_, va_at_ _ _ _, (by intro x h; cases h), fun i a b c => ?_, ?_, by omega, by omega⟩, RG.now rfl, by omega, hR3, agr_ent hA hC.wf hh hlo _ _ _ _, blw_ent' hA hC.wf hh hlo _ _ _ _, ?_, fun i hi => ⟨?_, ?_⟩⟩
    · show (va_up T.2.2.1 m (fun _ => (none : Option Nat))) m 4 = none; rw [va_at_]
    · have : i = m := by omega
      subst this
      have c' : va_up T.1 i 3 i = 9 := c
      rw [va_at_] at c'; exact absurd c' (by decide)
    · have k1 : Kp b0 S S1 sz (sz + dc) vb vb1 := Kp.fr hS g9 (by omega) g12
      rw [ez]
      exact k1.trans (Kp.of (fun a ha _ => (Same.nd (by omega)).trans (Same.sR _ (by omega))) (by omega)) (by omega)
    · rw [Ra_1, Ra_1, Ra_1, g10.1 26 (by decide) (by decide) (by decide) (by decide), hf1]
    · rw [Ra_ne _ (.inl (by decide)), Ra_ne _ (.inl (by decide)), Ra_ne _ (.inl (by decide)), g10.2.1 17 (by decide) (by decide), hf2 17 i (by decide)]
    · rw [Ra_ne _ (.inl (by decide)), Ra_ne _ (.inl (by decide)), Ra_ne _ (.inl (by decide)), g10.2.1 18 (by decide) (by decide), hf2 18 i (by decide)]
  · rw [b4_some, b2_some, hrow R2 0 (.inl rfl)]
    unfold x_R_readString_20
    rw [om_none, wr4_some]
    refine .inr (.inl ⟨S1, _, _, 0, _, rfl, .inl rfl, by omega, ?_, by omega, by omega⟩)
    refine hC.bad (R := R1) hR1.2.2.2.2 g6 (((g7.gr.trans (GR.ra R2 (.inl (by omega)) _)).trans (GR.ra _ (.inl (by omega)) _)).trans (GR.ra _ (.inl (by omega)) _)) g1 g4 (by rw [Ra_1, Ra_1, Ra_1]; exact g5)
end
