section
variable {b0 N : Nat} {K S S' : cS} {rd sb al vb vb' sz sz' sz0 : Nat} {t : Nat → Int32} {n p q : Nat} {R R' : rS} {l : List Int32} {hb u0 u : Nat} {T T' : Ar} {ad : Nat → Nat} {m lo e : Nat} {kd : Nat → List Nat} {xs : List Nat} {S0 : cS} {R0 : rS}
theorem va_comm {α : Type} (f : Nat → α) {a b : Nat} (v w : α) (h : a ≠ b) : va_up (va_up f a v) b w = va_up (va_up f b w) a v := by
  funext i
  by_cases h1 : i = a
  · subst h1; rw [va_ne _ _ h, va_at_, va_at_]
  · by_cases h2 : i = b
    · subst h2; rw [va_at_, va_ne _ _ h1, va_at_]
    · rw [va_ne _ _ h2, va_ne _ _ h1, va_ne _ _ h1, va_ne _ _ h2]
theorem nd_comm {a b : Nat} (h : a ≠ b) (k x : Int32) (j : Nat) (v : Int32) : sI (nd S b k x) a j v = nd (sI S a j v) b k x := by
  unfold nd sI nO
  simp only [Prod.mk.injEq, true_and]
  refine ⟨?_, trivial⟩
  funext c i
  unfold up2
  by_cases h1 : c = a ∧ i = j
  · have hc : c ≠ b := by rw [h1.1]; exact h
    rw [if_pos h1, if_neg (by rintro ⟨g, -⟩; exact hc g), if_neg (by rintro ⟨g, -⟩; exact hc g), va_ne _ _ hc]
    show _ = (if c = a ∧ i = j then v else S.2.2.1 c i)
    rw [if_pos h1]
  · rw [if_neg h1]
    by_cases h2 : c = b ∧ i = 1
    · rw [if_pos h2, if_pos h2]
    · rw [if_neg h2, if_neg h2]
      by_cases h3 : c = b ∧ i = 0
      · rw [if_pos h3, if_pos h3]
      · rw [if_neg h3, if_neg h3]
        by_cases h4 : c = b
        · subst h4; rw [va_at_, va_at_]
        · rw [va_ne _ _ h4, va_ne _ _ h4]
          show _ = (if c = a ∧ i = j then v else S.2.2.1 c i)
          rw [if_neg h1]
/-- A value is linked to its holder, with or without a name, in the class. -/
theorem BC.lnk (h : BC b0 K rd sb al t n sz0 S0 S vb e sz T kd ad m xs p) {hd v : Nat} (hh : hd < v) (hv : v < m) (hk : 4 < T.1 hd) (hu : T.2.2.1 v 4 = none) (hlast : ∀ a, a ∈ kd hd → a < v) {y : Option (List Int32)} (hy : y ≠ none ↔ 6 < T.1 hd) (h6 : T.1 hd = 6 → T.1 v = 7)
    (hS' : (y = none ∧ T.2.2.2.2 v = none ∧ S' = S) ∨ ∃ s ls, y = some ls ∧ StrP b0 S s ls sz vb ∧ S' = sR S (ad v) 3 (some s)) :
    ∃ S2, x_N_add N b0 K (ad hd) (some (ad v)) S' = some S2 ∧ BC b0 K rd sb al t n sz0 S0 S2 vb e sz (arL (arY T v y) hd v) (va_up kd hd (kd hd ++ [v])) ad m xs p ∧ ∀ a, (∀ i, i < m → a ≠ ad i) → Same S S2 a := by
  have H := h
  obtain ⟨⟨l', h1⟩, h2, h3, h4, h5, h6', h7, h8, h9, h10, h11, h12, h13, h14, h15, h16, h17, h18, h19, h20, h21⟩ := h
  have hw := h7.link hh hv hk hu hlast hy h6
  have hr : RelC b0 S' (arY T v y) ad m sz vb ∧ ∀ a, (∀ i, i < m → a ≠ ad i) → Same S S' a := by
    rcases hS' with ⟨rfl, g1, rfl⟩ | ⟨s, ls, rfl, g1, rfl⟩
    · have : arY T v none = T := by unfold arY; rw [va_same g1]
      rw [this]; exact ⟨h6', fun a _ => Same.refl _ a⟩
    · exact ⟨(h6'.putS hv g1).1, fun a ha => Same.sR _ (ha v hv)⟩
  obtain ⟨S2, f1, f2, f3⟩ := hr.1.add (N := N) (K := K) (hd := hd) (v := v) (by omega) hv
  have hf : ∀ a, (∀ i, i < m → a ≠ ad i) → Same S S2 a := fun a ha => (hr.2 a ha).trans (f3 a ha)
  refine ⟨S2, f1, H.chg (fun a _ ha => hf a ha) f2 hw (Nat.le_refl _) h18 (Nat.le_refl _) (fun _ _ => rfl) h17 (fun i hi g => ?_), hf⟩
  have g' : T.1 i = 6 := g
  by_cases e1 : i = hd
  · rw [e1, va_at_]; simp
  · rw [va_ne _ _ e1]; exact h20 i hi g'
/-- The reference's row of a list or of a closed table. -/
theorem BR.cont {hd : Nat} {y : Option (List Int32)} (h : BR t n hb R0 R (arE T' m hd 0 0 none y) (m + 1) u p) (h9 : R.2 9 (260 * hb + m) = 0) (hh : hd < m) (hm : m + 1 ≤ 260) {k : Int32} (hk : 4 < k) : BR t n hb R0 (Ra R 3 (260 * hb + m) k) (arE T' m hd k 0 none y) (m + 1) u p := by
  obtain ⟨r1, r2, r3, r4, r5⟩ := h
  have hb1 := r1.2.2.1
  refine ⟨r1.ra (by decide) _ _, by rw [Ra_ne _ (.inl (by decide))]; exact r2, r3, ⟨fun i hi => ?_, r4.2⟩, r5.trans (GR.ra R (.inl (by omega)) _)⟩
  have h13 : ∀ i, (Ra R 3 (260 * hb + m) k).2 13 i = R.2 13 i := fun i => Ra_ne _ (.inl (by decide))
  by_cases e : i = m
  · subst e
    obtain ⟨a1, a2, a3, a4, a5, a6, a7, a8, a9⟩ := r4.1 i hi
    have w : ∀ g, g ≠ 3 → (Ra R 3 (260 * hb + i) k).2 g (260 * hb + i) = R.2 g (260 * hb + i) := fun g hg => Ra_ne _ (.inl hg)
    have t1 : (arE T' i hd k 0 none y).1 i = k := by rw [arE_1, if_pos rfl]
    have t2 : (arE T' i hd k 0 none y).2.1 i = 0 := by
      show va_up (va_up T'.2.1 i 0) hd _ i = 0
      rw [va_ne _ _ (by omega), va_at_]
    refine ⟨by rw [Ra_at, t1], fun _ => by rw [w 9 (by decide), h9, t2], fun g => absurd (.inr (by rw [t1]; exact hk)) g, by rw [w 5 (by decide)]; exact a4, by rw [w 6 (by decide)]; exact a5, fun j e => by rw [w 7 (by decide)]; exact a6 j e, by rw [w 8 (by decide)]; exact a7, fun ls e => ?_, fun ls e => ?_⟩
    · have e' : va_up T'.2.2.2.1 i none i = some ls := e
      rw [va_at_] at e'; cases e'
    · obtain ⟨b1', b2'⟩ := a9 ls e
      exact ⟨by rw [w 10 (by decide)]; exact b1'.keep (fun i _ _ => h13 i) (Nat.le_refl _), by rw [w 11 (by decide)]; exact b2'⟩
  · obtain ⟨a1, a2, a3, a4, a5, a6, a7, a8, a9⟩ := (r4.1 i hi).keep (R' := Ra R 3 (260 * hb + m) k) (u' := u) (fun g _ _ => Ra_ne _ (.inr (by omega))) (fun i _ _ => h13 i) (Nat.le_refl _)
    have t1' : (arE T' m hd k 0 none y).1 i = (arE T' m hd 0 0 none y).1 i := by rw [arE_1, arE_1, if_neg e, if_neg e]
    refine ⟨a1.trans t1'.symm, fun g => a2 (by rw [t1'] at g; exact g), fun g => a3 (by rw [t1'] at g; exact g), a4, a5, a6, a7, fun ls e' => ?_, a9⟩
    obtain ⟨b1', b2', b3'⟩ := a8 ls e'
    exact ⟨t1'.trans b1', b2', b3'⟩
theorem BR.stk (h : BR t n hb R0 R T' m u p) {j : Nat} (hj : j = 17 ∨ j = 18) (i : Nat) (v : Int32) : BR t n hb R0 (Ra R j i v) T' m u p := by
  obtain ⟨r1, r2, r3, r4, r5⟩ := h
  exact ⟨r1.ra (by omega) _ _, by rw [Ra_ne _ (.inl (by omega))]; exact r2, r3, r4.keep (fun g i a b _ => Ra_ne _ (.inl (by omega))) (fun i _ _ => Ra_ne _ (.inl (by omega))) (Nat.le_refl _), r5.trans (GR.ra R (.inr (.inr (by omega))) _)⟩
theorem BR.dep (h : BR t n hb R0 R T' m u p) (v : Int32) : BR t n hb R0 (Rw R 26 v) T' m u p := by
  obtain ⟨r1, r2, r3, r4, r5⟩ := h
  exact ⟨r1.rw (by decide) _, r2, by rw [Rw_1n _ _ (by decide)]; exact r3, r4.keep (fun _ _ _ _ _ => rfl) (fun _ _ _ => rfl) (Nat.le_refl _), r5.trans (GR.rw R (.inr (.inr (.inr (.inr (.inr rfl))))) _)⟩
/-- The beginning of a list or of a closed table, in the reference. -/
theorem bv_open (hT : Tx t n) (hR : BR t n hb R0 R T' m u p) (hm : m < 260) (hpn : p < n) {hd dd : Nat} (hh : hd < m) (hk : 4 < T'.1 hd) (h56 : T'.2.2.1 hd 5 = none ↔ T'.2.2.1 hd 6 = none) {part : Int32} {y : Option (List Int32)} (hy : PY R hb u part y) (hdd : R.1 26 = I dd) {kc : Int32} (hc : (ch t n p = 91 ∧ kc = 5) ∨ (ch t n p = 123 ∧ kc = 10)) :
    (dd = 6 → m_beginValue N (I (260 * hb + hd)) part R = some (0, Rw R 4 (I p))) ∧
    (dd < 6 → ∃ R2, m_beginValue N (I (260 * hb + hd)) part R = some (1, R2) ∧ BR t n hb R0 R2 (arE T' m hd kc 0 none y) (m + 1) u (p + 1) ∧ R2.1 26 = I (dd + 1) ∧ R2.2 17 dd = I (260 * hb + m) ∧ R2.2 18 dd = 0 ∧ ∀ i, i < dd → R2.2 17 i = R.2 17 i ∧ R2.2 18 i = R.2 18 i) := by
  have hn := hT.1
  have hb1 := hR.1.2.2.1
  have h0 : ¬ 0 ≤ dC (I 10) (pk t n p) := by
    rcases hc with ⟨hc, -⟩ | ⟨hc, -⟩
    · rw [(pkEq 91 (by decide) (by decide)).2 hc]; decide
    · rw [(pkEq 123 (by decide) (by decide)).2 hc]; decide
  have hnn : ¬ ch t n p = 43 ∧ ¬ ch t n p = 45 := by
    rcases hc with ⟨hc, -⟩ | ⟨hc, -⟩ <;> rw [hc] <;> exact ⟨by decide, by decide⟩
  have e30 : m_beginValue N (I (260 * hb + hd)) part R = if R.1 26 = 6 then m_beginValue_99 N R else m_beginValue_108 N (I (260 * hb + hd)) part (ch t n p) 0 1 R := by
    rw [bv_30 hT hR.1.1 (by omega) h0 hnn.1 hnn.2]
    unfold m_beginValue_30 m_beginValue_44 m_beginValue_49 m_beginValue_85
    rw [if_pos rfl, if_neg (show ¬ (1 : Int32) = 0 by decide), if_neg (show ¬ (1 : Int32) = 0 by decide)]
    rcases hc with ⟨hc, -⟩ | ⟨hc, -⟩
    · rw [if_pos hc]
    · rw [if_neg (by rw [hc]; decide), if_pos hc]
  rw [e30, hdd]
  refine ⟨fun g => ?_, fun g => ?_⟩
  · subst g
    rw [if_pos (show I 6 = (6 : Int32) from rfl)]
    unfold m_beginValue_99 m_fail
    rw [rP_eq, b1_some, b2_some, if_pos (.inl rfl), hR.1.1.2.1]
  · rw [if_neg (fun h => by have := (I_inj (b := 6) (by omega) (by omega)).1 h; omega)]
    obtain ⟨R1, q1, q2, q3, q4, q5⟩ := mk0 (N := N) hR hm (by omega) hn hh hk h56 hy
    rw [q1]
    unfold m_beginValue_129 m_beginValue_152
    rw [if_neg (show ¬ (1 : Int32) = 0 by decide)]
    have hkc : 4 < kc := by rcases hc with ⟨-, rfl⟩ | ⟨-, rfl⟩ <;> decide
    have h152 : ∀ z : Int32, z = kc → ∃ R2, (b1 (rT R1 3 (I (260 * hb + m)) z) (fun S1 => b1 (rT S1 17 (S1.1 26) (I (260 * hb + m))) (fun S3 => b1 (rT S3 18 (S3.1 26) 0) (fun S5 => b1 (rP S5 26 ((S5.1 26) + 1)) (fun S7 => b1 (rP S7 3 ((S7.1 3) + 1)) (fun S9 => some ((1 : Int32), S9))))))) = some (1, R2) ∧ BR t n hb R0 R2 (arE T' m hd kc 0 none y) (m + 1) u (p + 1) ∧ R2.1 26 = I (dd + 1) ∧ R2.2 17 dd = I (260 * hb + m) ∧ R2.2 18 dd = 0 ∧ ∀ i, i < dd → R2.2 17 i = R.2 17 i ∧ R2.2 18 i = R.2 18 i := by
      rintro z rfl
      rw [rT_eq (by show _ < 520; omega) (by omega), b1_some, Ra_1, q3, hdd, rT_eq (by show _ < 6; omega) (by omega), b1_some, Ra_1, Ra_1, q3, hdd, rT_eq (by show _ < 6; omega) (by omega), b1_some, rP_eq, b1_some, Ra_1, Ra_1, Ra_1, q3, hdd, I_1, rP_eq, b1_some, Rw_1n _ _ (by decide), Ra_1, Ra_1, Ra_1, q3, hR.1.1.2.1, I_1]
      have hB := (((q2.cont q5 hh (by omega) hkc).stk (.inl rfl) dd (I (260 * hb + m))).stk (.inr rfl) dd 0).dep (I (dd + 1))
      refine ⟨_, rfl, hB.mv (by omega), ?_, ?_, ?_, fun i hi => ⟨?_, ?_⟩⟩
      · rw [Rw_1n _ _ (by decide), Rw_1]
      · rw [Rw_2, Rw_2, Ra_ne _ (.inl (by decide)), Ra_at]
      · rw [Rw_2, Rw_2, Ra_at]
      · rw [Rw_2, Rw_2, Ra_ne _ (.inl (by decide)), Ra_ne _ (.inr (by omega)), Ra_ne _ (.inl (by decide)), q4 17 i (by decide)]
      · rw [Rw_2, Rw_2, Ra_ne _ (.inr (by omega)), Ra_ne _ (.inl (by decide)), Ra_ne _ (.inl (by decide)), q4 18 i (by decide)]
    rcases hc with ⟨hc, hkk⟩ | ⟨hc, hkk⟩
    · rw [if_pos hc]; exact h152 5 hkk.symm
    · rw [if_neg (by rw [hc]; decide)]; exact h152 10 hkk.symm
end
