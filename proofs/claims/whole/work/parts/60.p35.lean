section
variable {b0 N : Nat} {K S S' : cS} {rd sb al vb vb' sz sz' sz0 : Nat} {t : Nat → Int32} {n p q : Nat} {R R' : rS} {l : List Int32} {hb u0 u : Nat} {T T' : Ar} {ad : Nat → Nat} {m lo e : Nat} {kd : Nat → List Nat} {xs : List Nat} {S0 : cS} {R0 : rS}
/-- What comes of a list or closed table from some point of its loop on. -/
def COut (b0 N : Nat) (K : cS) (rd sb al : Nat) (t : Nat → Int32) (n sz0 : Nat) (S0 S : cS) (hb : Nat) (R0 R : rS) (vb sz : Nat) (T T' : Ar) (kd : Nat → List Nat) (ad : Nat → Nat) (m : Nat) (xs : List Nat) (p v dd : Nat) (C : Option (Option Nat × cS × Nat × Nat)) (F : Nat → Option (Int32 × rS)) : Prop :=
  (∃ q S1 vb1 e1 dc ds T1 kd1 ad1 m1 ys k R2 T1' u1, C = some (some (ad v), S1, dc, ds) ∧ p < q ∧ q ≤ n ∧ BC b0 K rd sb al t n sz0 S0 S1 vb1 e1 (sz + dc) T1 kd1 ad1 m1 (xs ++ ys) q ∧ m ≤ m1 ∧ (∀ i, i < m → ad1 i = ad i) ∧ Blw v T T1 ∧ (∀ i, i < v → kd1 i = kd i) ∧ KX v T T1 m m1 ys ∧ Kp b0 S S1 sz (sz + dc) vb vb1 ∧ dc ≤ 12 * (q - p) ∧ ds ≤ 500 * (q - p) ∧
    (∀ f, k < f → F f = m_finishValue_2 N (f - k) 1 R2) ∧ k ≤ q - p ∧ BR t n hb R0 R2 T1' m1 u1 q ∧ Agr v T1 T1' m1 ∧ Blw v T' T1' ∧ R2.1 26 = I dd ∧ ∀ i, i < dd → R2.2 17 i = R.2 17 i ∧ R2.2 18 i = R.2 18 i) ∨
  (∃ S1 dc ds k R2, C = some (none, S1, dc, ds) ∧ (∀ f, k < f → F f = some (0, R2)) ∧ k ≤ n + 2 - p ∧ Bad b0 rd n sz0 S0 S1 hb R0 R2 ∧ dc ≤ 12 * (n + 1 - p) ∧ ds ≤ 500 * (n + 1 - p))
/-- One turn of the reference's loop, at a list. -/
theorem fin_list {v dd f : Nat} (hdd : R.1 26 = I (dd + 1)) (hd6 : dd < 6) (h17 : R.2 17 dd = I v) (hv : v < 520) (hk : R.2 3 v = 5) : m_finishValue_2 N (f + 1) 1 R = b2 (m_stepList N (I dd) R) (fun x9 S10 => m_finishValue_2 N f x9 S10) := by
  conv => lhs; unfold m_finishValue_2 m_finishValue_2F
  rw [hdd, if_neg (show ¬ I (dd + 1) ≤ 0 from I_le0 (b := 0) (by omega) (by omega)), if_neg (show ¬ (1 : Int32) = 0 by decide)]
  have e1 : I (dd + 1) - 1 = I dd := by rw [show (1 : Int32) = I 1 from rfl, I_sub (by omega)]; congr 1
  rw [e1, rL_eq (by show _ < 6; omega) (by omega), b1_some, h17, rL_eq (by show _ < 520; omega) (by omega), b1_some, hk, if_pos rfl]
  rfl
theorem fin_tab {v dd f : Nat} (hdd : R.1 26 = I (dd + 1)) (hd6 : dd < 6) (h17 : R.2 17 dd = I v) (hv : v < 520) (hk : R.2 3 v = 10) : m_finishValue_2 N (f + 1) 1 R = b2 (m_stepTable N (I dd) R) (fun x9 S10 => m_finishValue_2 N f x9 S10) := by
  conv => lhs; unfold m_finishValue_2 m_finishValue_2F
  rw [hdd, if_neg (show ¬ I (dd + 1) ≤ 0 from I_le0 (b := 0) (by omega) (by omega)), if_neg (show ¬ (1 : Int32) = 0 by decide)]
  have e1 : I (dd + 1) - 1 = I dd := by rw [show (1 : Int32) = I 1 from rfl, I_sub (by omega)]; congr 1
  rw [e1, rL_eq (by show _ < 6; omega) (by omega), b1_some, h17, rL_eq (by show _ < 520; omega) (by omega), b1_some, hk, if_neg (show ¬ (10 : Int32) = 5 by decide)]
  rfl
/-- It stops where it is told no. -/
theorem fin_no (f : Nat) : m_finishValue_2 N (f + 1) 0 R = some (0, R) := by
  unfold m_finishValue_2 m_finishValue_2F
  by_cases h : R.1 26 ≤ 0
  · rw [if_pos h, if_pos (.inl rfl)]
  · rw [if_neg h, if_pos rfl, if_pos (.inl rfl)]
theorem pr_rm (hT : Tx t n) (hN : 1000 ≤ N) (hp : p ≤ n) (hC : BC b0 K rd sb al t n sz0 S0 S vb e sz T kd ad m xs p) (hR : BR t n hb R0 R T' m u p) :
    ∃ q, p ≤ q ∧ q ≤ n ∧ (ch t n q ≠ 32 ∧ ch t n q ≠ 10 ∧ ch t n q ≠ 35) ∧ x_R_skipBlanksLinesAndComments N b0 K rd S = some (sI S rd 6 (I q)) ∧ m_room N R = some (Rw R 3 (I q)) ∧ BC b0 K rd sb al t n sz0 S0 (sI S rd 6 (I q)) vb e sz T kd ad m xs q ∧ BR t n hb R0 (Rw R 3 (I q)) T' m u q := by
  obtain ⟨q, h1, h2, h3, h4, h5⟩ := pr_room (N := N) (K := K) hT hN hp hC.ct hR.1.1
  exact ⟨q, h1, h2, h3, h4, h5, hC.mv h1, hR.mv h1⟩
/-- The class alone: where a digit or a bar stands, no room is passed over. -/
theorem room_dgu (hT : Tx t n) (hN : 1000 ≤ N) (hC : CT b0 S rd t n p) (hpn : p < n) (hd : dgu (t p)) : x_R_skipBlanksLinesAndComments N b0 K rd S = some S := by
  have hn := hT.1
  unfold x_R_skipBlanksLinesAndComments
  obtain ⟨N', hN'⟩ : ∃ j, N = j + 1 := ⟨N - 1, by omega⟩
  conv => lhs; arg 4; rw [hN']
  unfold x_R_skipBlanksLinesAndComments_2 x_R_skipBlanksLinesAndComments_2F
  rw [hC.skip hn (by omega), if_pos hpn]
  have hne : t p ≠ 10 ∧ t p ≠ 35 ∧ t p ≠ 32 := by
    rcases hd with g | ⟨d, hd, g⟩
    · rw [g]; exact ⟨by decide, by decide, by decide⟩
    · rw [g]
      refine ⟨fun h => ?_, fun h => ?_, fun h => ?_⟩
      · have := (I_inj (b := 10) (by omega) (by omega)).1 h; omega
      · have := (I_inj (b := 35) (by omega) (by omega)).1 h; omega
      · have := (I_inj (b := 32) (by omega) (by omega)).1 h; omega
  rw [if_neg hne.1, if_neg hne.2.1, if_neg hne.2.2, if_pos rfl]
theorem bl_dgu (hT : Tx t n) (hN : 1000 ≤ N) (hC : CT b0 S rd t n p) (hpn : p < n) (hd : dgu (t p)) : x_R_skipBlanks N b0 K rd S = some S := by
  have hn := hT.1
  unfold x_R_skipBlanks
  obtain ⟨N', hN'⟩ : ∃ j, N = j + 1 := ⟨N - 1, by omega⟩
  conv => lhs; arg 4; rw [hN']
  unfold x_R_skipBlanks_0 x_R_skipBlanks_0F
  rw [hC.skip hn (by omega), if_pos hpn, if_neg]
  rcases hd with g | ⟨d, hd, g⟩
  · rw [g]; decide
  · rw [g]; intro h; have := (I_inj (b := 32) (by omega) (by omega)).1 h; omega
theorem dgu_ne {c : Int32} (hd : dgu c) {k : Nat} (hk : k < 127) (h : k ≠ 95 ∧ (k < 48 ∨ 57 < k)) : c ≠ I k := by
  rcases hd with g | ⟨d, hd, g⟩
  · rw [g]; intro e; have := (I_inj (a := 95) (by omega) (by omega)).1 e; omega
  · rw [g]; intro e; have := (I_inj (by omega) (by omega)).1 e; omega
theorem Kp.nodes (hC : BC b0 K rd sb al t n sz0 S0 S vb e sz T kd ad m xs p) (hf : ∀ a, (∀ i, i < m → a ≠ ad i) → Same S S' a) : Kp b0 S S' sz sz vb vb :=
  Kp.of (fun a ha hk => hf a (fun i hi g => by have := (hC.rel.1 i hi).2.2.1; rw [g, this] at hk; omega)) (Nat.le_refl _)
end
