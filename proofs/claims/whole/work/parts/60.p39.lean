section
variable {b0 N : Nat} {K S S' : cS} {rd sb al vb vb' sz sz' sz0 : Nat} {t : Nat → Int32} {n p q : Nat} {R R' : rS} {l : List Int32} {hb u0 u : Nat} {T T' : Ar} {ad : Nat → Nat} {m lo e : Nat} {kd : Nat → List Nat} {xs : List Nat} {S0 : cS} {R0 : rS}
/-- The reference's turn that reads an entry of a closed table. -/
def tbT (N : Nat) (v dd : Nat) (R : rS) (f : Nat) : Option (Int32 × rS) :=
  b2 (b2 (m_entry N (I v) (Ra R 18 dd 1)) (fun x6 S7 => if x6 = 0 ∨ x6 = 1 then (some (x6, S7)) else none)) (fun x9 S10 => m_finishValue_2 N f x9 S10)
/-- What has come of a closed table so far, from its beginning. -/
def TAcc (b0 N : Nat) (v dd : Nat) (S00 S : cS) (R00 R : rS) (vb00 vb sz00 dc ds : Nat) (T00 T00' T T' : Ar) (kd00 kd : Nat → List Nat) (ad00 ad : Nat → Nat) (m p00 p : Nat) (zs : List Nat) : Prop :=
  p00 ≤ p ∧ v < m ∧ (∀ i, i < v + 1 → ad i = ad00 i) ∧ Blw v T00 T ∧ Blw v T00' T' ∧ (∀ i, i < v → kd i = kd00 i) ∧ Kp b0 S00 S sz00 (sz00 + dc) vb00 vb ∧ dc ≤ 12 * (p - p00) ∧ ds ≤ 500 * (p - p00) ∧ (∀ i, i < dd → R.2 17 i = R00.2 17 i ∧ R.2 18 i = R00.2 18 i) ∧
  (∀ x, x ∈ zs → v < x ∧ x < m ∧ (T.1 x = 9 ∨ T.1 x = 10)) ∧ ∀ i, v < i → i < m → T.1 i = 9 → i ∈ zs
/-- The end of a closed table. -/
theorem tab_end (hT : Tx t n) (hN : 1000 ≤ N) {RV : Nat → Int32 → Nat → cS → Option (Option Nat × cS × Nat × Nat)} {v dd : Nat} (hd6 : dd < 6) {S00 : cS} {R00 : rS} {vb00 sz00 dc ds : Nat} {T00 T00' : Ar} {kd00 : Nat → List Nat} {ad00 : Nat → Nat} {p00 k : Nat} {zs : List Nat} {Fs : Nat → Option (Int32 × rS)}
    (hC : BC b0 K rd sb al t n sz0 S0 S vb e (sz00 + dc) T kd ad m (xs ++ zs) p) (hR : BR t n hb R0 R T' m u p) (hA : Agr v T T' m) (hk10 : T.1 v = 10) (hacc : TAcc b0 N v dd S00 S R00 R vb00 vb sz00 dc ds T00 T00' T T' kd00 kd ad00 ad m p00 p zs) (h125 : ch t n p = 125) (hpn : p < n) (hdd : R.1 26 = I (dd + 1))
    (hF : ∀ f, k < f → Fs f = b2 (b1 (rP R 3 (R.1 3 + 1)) (fun S9 => b1 (rP S9 26 (S9.1 26 - 1)) (fun S11 => m_stepTable_54 N N (I (260 * hb + v) + 1) S11))) (fun x9 S10 => m_finishValue_2 N (f - k) x9 S10)) (hk : k ≤ p + 1 - p00) :
    COut b0 N K rd sb al t n sz0 S0 S00 hb R0 R00 vb00 sz00 T00 T00' kd00 ad00 (v + 1) xs p00 v dd (wr4 dc ds (x_R_readClosedTable_121 N b0 K RV rd (ad v) (I xs.length) (sz00 + dc) S)) Fs := by
  have hn := hT.1
  have hmp := hC.mp
  have hb1 := hR.1.2.2.1
  obtain ⟨a1, a2, a3, a4, a5, a6, a7, a8, a9, a10, a11, a12⟩ := hacc
  have hal : (xs ++ zs).length ≤ 240 := by have := hC.2.2.1.2.2.2.2.1; simpa using this
  unfold x_R_readClosedTable_121
  rw [hC.ct.ifk, take_eq hC.ct hn (by omega) _ (by decide), if_pos h125, b2_some, if_neg (show ¬ (1 : Int32) = 0 by decide)]
  have hC1 := hC.mv (q := p + 1) (by omega)
  have hR1 := (hR.mv (q := p + 1) (by omega)).dep (I dd)
  have hzs : ∀ (j x : Nat), xs.length ≤ j → (xs ++ zs)[j]? = some x → x ∈ zs := by
    intro j x hj hx
    rw [List.getElem?_append_right hj] at hx
    exact List.mem_of_getElem? hx
  have hzs' : ∀ x, x ∈ zs → ∃ j, xs.length ≤ j ∧ (xs ++ zs)[j]? = some x := by
    intro x hx
    obtain ⟨j, hj⟩ := List.getElem?_of_mem hx
    exact ⟨xs.length + j, by omega, by rw [List.getElem?_append_right (by omega), Nat.add_sub_cancel_left]; exact hj⟩
  obtain ⟨S1, T1, c1, c2, c3, c4, c5, c6⟩ := close_C (N := N) (RV := RV) (v := v) zs.length xs.length N _ _ (by simp) (by simp at hal; omega) hC1 (fun j x hj hx => (a11 x (hzs j x hj hx)).2.2)
  obtain ⟨R2, T1', r1, r2, r3, r4, r5, r6⟩ := close_R (N := N) (show m ≤ 260 by omega) (m - (v + 1)) (v + 1) N _ _ (by omega) (by omega) hR1
  rw [c1, wr4_some]
  have kin : ∀ x, x ∈ zs → T1.1 x = 10 := fun x hx => c4 x (hzs' x hx)
  have kout : ∀ x, x ∉ zs → T1.1 x = T.1 x := fun x hx => c5 x (fun ⟨j, h1, h2⟩ => hx (hzs j x h1 h2))
  have hvz : v ∉ zs := fun g => by have := (a11 v g).1; omega
  -- the two arenas agree again
  have hA1 : Agr v T1 T1' m := by
    intro i h1 h2
    obtain ⟨d1, d2, d3, d4, d5⟩ := hA i h1 h2
    refine ⟨?_, by rw [r3, c3]; exact d2, by rw [r3, c3]; exact d3, by rw [r3, c3]; exact d4, by rw [r3, c3]; exact d5⟩
    rw [r4, d1]
    by_cases hz : i ∈ zs
    · rw [kin i hz]
      obtain ⟨b1', b2', b3'⟩ := a11 i hz
      rcases b3' with g | g
      · rw [if_pos ⟨by omega, h2, g⟩]
      · rw [if_neg (by rintro ⟨_, _, g'⟩; rw [g] at g'; exact absurd g' (by decide)), g]
    · rw [kout i hz, if_neg]
      rintro ⟨g1, g2, g3⟩
      exact hz (a12 i (by omega) h2 g3)
  have hBw : Blw v T T1 := by
    refine ⟨fun i hi => ?_, kout v hvz, by rw [c3], by rw [c3], by rw [c3]⟩
    have hiz : i ∉ zs := fun g => by have := (a11 i g).1; omega
    exact ⟨kout i hiz, by rw [c3], by rw [c3], by rw [c3], by rw [c3]⟩
  have hBw' : Blw v T' T1' := by
    refine ⟨fun i hi => ?_, by rw [r4, if_neg (by omega)], by rw [r3], by rw [r3], by rw [r3]⟩
    exact ⟨by rw [r4, if_neg (by omega)], by rw [r3], by rw [r3], by rw [r3], by rw [r3]⟩
  obtain ⟨lS, hS⟩ := hC.1
  have kp1 : Kp b0 S (sI S rd 6 (I (p + 1))) (sz00 + dc) (sz00 + dc) vb vb := Kp.fr hS (FrC.mv S (.inl rfl) _) (Nat.le_refl _) (.inl rfl)
  refine .inl ⟨p + 1, S1, vb, e, dc + 0, ds + 0, T1, kd, ad, m, zs, k, R2, T1', u, by rw [a3 v (by omega)], by omega, by omega, c2, by omega, fun i hi => a3 i hi, a4.trans hBw, a6, ?_, a7.trans (kp1.trans (Kp.nodes hC1 c6) (Nat.le_refl _)) (by omega), by omega, by omega, fun f hf => ?_, by omega, r2, hA1, a5.trans hBw', ?_, fun i hi => ?_⟩
  · refine ⟨fun i hi => ?_, fun x hx => ?_, fun i g1 g2 g3 => ?_⟩
    · by_cases g : i = v
      · subst g; rw [kout i hvz]; exact a4.2.1
      · have := a4.1 i (by omega)
        rw [kout i (fun g => by have := (a11 i g).1; omega)]; exact this.1
    · exact ⟨(a11 x hx).1, (a11 x hx).2.1, .inr (kin x hx)⟩
    · by_cases hz : i ∈ zs
      · exact hz
      · rw [kout i hz] at g3
        exact a12 i (by omega) g2 g3
  · rw [hF f hf, rP_eq, b1_some, rP_eq, b1_some, hR.1.1.2.1, I_1, Rw_1n _ _ (by decide), hdd]
    have e1 : I (dd + 1) - 1 = I dd := by rw [show (1 : Int32) = I 1 from rfl, I_sub (by omega)]; congr 1
    rw [e1, I_1, show 260 * hb + v + 1 = 260 * hb + (v + 1) by omega, r1, b2_some]
  · rw [r5, Rw_1]
  · obtain ⟨b1', b2'⟩ := a10 i hi
    exact ⟨by rw [r6 17 i (by decide)]; exact b1', by rw [r6 18 i (by decide)]; exact b2'⟩
end
