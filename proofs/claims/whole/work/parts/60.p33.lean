section
variable {b0 N : Nat} {K S S' : cS} {rd sb al vb vb' sz sz' sz0 : Nat} {t : Nat → Int32} {n p q : Nat} {R R' : rS} {l : List Int32} {hb u0 u : Nat} {T T' : Ar} {ad : Nat → Nat} {m lo e : Nat} {kd : Nat → List Nat} {xs : List Nat} {S0 : cS} {R0 : rS}
theorem wr_id (C : Option (Option Nat × cS × Nat × Nat)) : b4 C (fun q S c d => wr4 c d (some (q, S, 0, 0))) = C := by
  rcases C with _ | ⟨x, y, z, w⟩
  · rfl
  · rfl
theorem two_id {M : Option (Int32 × rS)} (h : ∀ x R', M = some (x, R') → x = 0 ∨ x = 1) : b2 M (fun x S => if x = 0 ∨ x = 1 then (some (x, S)) else none) = M := by
  rcases M with _ | ⟨x, y⟩
  · rfl
  · show (if x = 0 ∨ x = 1 then (some (x, y)) else none) = some (x, y)
    rw [if_pos (h x y rfl)]
theorem Leaf.two {v : Nat} {C : Option (Option Nat × cS × Nat × Nat)} {M : Option (Int32 × rS)} (h : Leaf S rd sz R v t n p C M) : b2 M (fun x S => if x = 0 ∨ x = 1 then (some (x, S)) else none) = M := by
  apply two_id
  intro x R' e
  rcases h with ⟨q, k, x', h1, h2, h3, h4, h5⟩ | ⟨q, w, R'', h1, h2, h3, h4, h5⟩ | ⟨q, R'', h1, h2, h3, h4, h5, h6, h7⟩
  · rw [h5] at e; cases e; exact .inr rfl
  · rw [h3] at e; cases e; exact .inl rfl
  · rw [h5] at e; cases e; exact .inl rfl
/-- What a value asks for. -/
def ValP (b0 N : Nat) (K : cS) (rd sb al : Nat) (t : Nat → Int32) (n sz0 : Nat) (S0 : cS) (hb : Nat) (R0 : rS) (RV : Nat → Int32 → Nat → cS → Option (Option Nat × cS × Nat × Nat)) (dd : Nat) : Prop :=
  ∀ (S : cS) (R : rS) (vb e sz : Nat) (T T' : Ar) (kd : Nat → List Nat) (ad : Nat → Nat) (m u : Nat) (xs : List Nat) (p lo hd : Nat) (part : Int32) (y : Option (List Int32)), BC b0 K rd sb al t n sz0 S0 S vb e sz T kd ad m xs p → BR t n hb R0 R T' m u p → Agr lo T T' m → p ≤ n → lo ≤ hd → hd < m → 4 < T.1 hd → R.1 26 = I dd → PY R hb u part y →
    VOut b0 N K rd sb al t n sz0 S0 S hb R0 R vb sz T T' kd ad m xs p lo hd dd y (RV rd (I dd) sz S) (m_beginValue N (I (260 * hb + hd)) part R)
theorem val_leaf (hK : KF b0 K) (hT : Tx t n) (hN : 1000 ≤ N) {RV : Nat → Int32 → Nat → cS → Option (Option Nat × cS × Nat × Nat)} {dp : Int32} (hC : BC b0 K rd sb al t n sz0 S0 S vb e sz T kd ad m xs p) (hR : BR t n hb R0 R T' m u p) (hA : Agr lo T T' m) (hp : p ≤ n) {hd dd : Nat} (hlo : lo ≤ hd) (hh : hd < m) (hk : 4 < T.1 hd) {part : Int32} {y : Option (List Int32)} (hy : PY R hb u part y) (h91 : ¬ ch t n p = 91) (h123 : ¬ ch t n p = 123) :
    VOut b0 N K rd sb al t n sz0 S0 S hb R0 R vb sz T T' kd ad m xs p lo hd dd y (x_R_readValueF N b0 K RV rd dp sz S) (m_beginValue N (I (260 * hb + hd)) part R) := by
  have hn := hT.1
  have hmp := hC.mp
  have hb1 := hR.1.2.2.1
  have hz : ownC b0 sz := .inl hC.szs
  have k4' : 4 < T'.1 hd := by rw [hA.kind hlo hh]; exact hk
  have h56' : T'.2.2.1 hd 5 = none ↔ T'.2.2.1 hd 6 = none := by
    rw [(hA hd hlo hh).2.2.1 5 (by omega) (by omega), (hA hd hlo hh).2.2.1 6 (by omega) (by omega)]; exact hC.wf.e56 hh
  obtain ⟨R1, q1, q2, q3, q4, -⟩ := mk0 (N := N) hR (by omega) hp hn hh k4' h56' hy
  have hv : 260 * hb + m < 520 := by omega
  have bad1 : R1.1 4 = -1 := q2.2.2.1
  unfold x_R_readValueF
  rw [hC.ct.ifk, peek_eq hC.ct hn (by omega), b1_some]
  have g91 := fun g => h91 ((pkEq (t := t) (n := n) (p := p) 91 (by decide) (by decide)).1 g)
  have g123 := fun g => h123 ((pkEq (t := t) (n := n) (p := p) 123 (by decide) (by decide)).1 g)
  rw [if_neg g91, if_neg g123]
  obtain ⟨lS, hS⟩ := hC.1
  -- a string
  have hstr : (ch t n p = 34 ∨ ch t n p = 39) → VOut b0 N K rd sb al t n sz0 S0 S hb R0 R vb sz T T' kd ad m xs p lo hd dd y (x_R_readValueF_68 N b0 K RV rd sz S) (m_beginValue_236 N (I (260 * hb + m)) R1) := by
    intro hq
    unfold x_R_readValueF_68 m_beginValue_236 x_R_readString
    rw [hC.ct.ifk, wr_id, hC.ct.ifk, peek_eq hC.ct hn (by omega), b1_some]
    rcases hq with hq | hq
    · rw [if_pos ((pkEq 34 (by decide) (by decide)).2 hq), hC.ct.ifk]
      exact str_out hT hC hp hR q2 q3 q4 hA hh hlo (pr_quoted hT hN hp hq hS q2.1)
    · rw [if_neg (fun g => by have := (pkEq (t := t) (n := n) (p := p) 34 (by decide) (by decide)).1 g; rw [hq] at this; exact absurd this (by decide)), hC.ct.ifk]
      exact str_out hT hC hp hR q2 q3 q4 hA hh hlo (pr_plain hT hN hp hq hS q2.1)
  -- a truth
  have htru : ∀ (j : Nat) (ls : List Int32) (y' : Int32), Lit b0 K j ls → ((ch t n p = 116 ∧ ls = trueL ∧ y' = 1) ∨ (ch t n p = 102 ∧ ls = falseL ∧ y' = 0)) → VOut b0 N K rd sb al t n sz0 S0 S hb R0 R vb sz T T' kd ad m xs p lo hd dd y (b1 (K.2.2.2 0 (j + 1)) (fun a22 => ifk b0 K S 4 rd (b4 (x_R_readTruth N b0 K rd (some a22) y' sz S) (fun q25 S26 c27 d28 => wr4 c27 d28 (some (q25, S26, 0, 0)))))) (b2 (m_truth N (I (260 * hb + m)) R1) (fun x2 S3 => if x2 = 0 ∨ x2 = 1 then (some (x2, S3)) else none)) := by
    intro j ls y' hl hc
    obtain ⟨a, ha, hab, hst⟩ := hl
    have hL := pr_truth (N := N) (S := S) (R := R1) (rd := rd) (sz := sz) (v := 260 * hb + m) hT hN hv hz hst hc hp hC.ct q2.1.1
    rw [ha, b1_some, hC.ct.ifk, wr_id, hL.two]
    exact leaf_out hC hp hR q2 q3 q4 hA hh hlo hn hL
  obtain ⟨kf1, kf2, kf3, kf4, -⟩ := hK
  -- numbers and dates
  have hnum : (0 ≤ dC (I 10) (pk t n p) ∨ ch t n p = 43 ∨ ch t n p = 45) → VOut b0 N K rd sb al t n sz0 S0 S hb R0 R vb sz T T' kd ad m xs p lo hd dd y (ifk b0 K S 4 rd (b1 (x_R_dateBegins N b0 K rd S) (fun x4 => if x4 = 0 then (ifk b0 K S 4 rd (b4 (x_R_readNumber N b0 K rd sz S) (fun q6 S7 c8 d9 => wr4 c8 d9 (some (q6, S7, 0, 0))))) else (ifk b0 K S 4 rd (b4 (x_R_readDate N b0 K rd sz S) (fun q11 S12 c13 d14 => wr4 c13 d14 (some (q11, S12, 0, 0)))))))) (m_beginValue_129 N (ch t n p) 1 0 (I (260 * hb + m)) R1) := by
    intro _
    unfold m_beginValue_129
    rw [if_pos rfl, if_neg (show ¬ (1 : Int32) = 0 by decide), hC.ct.ifk]
    obtain ⟨d1, d2⟩ := pr_isDate (N := N) (K := K) hT hN hp hC.ct q2.1.1
    rw [d1, d2, b1_some, b1_some]
    by_cases hB : dBj t n p 0 4 = true
    · rw [if_pos hB, if_neg (show ¬ (1 : Int32) = 0 by decide), if_neg (show ¬ (1 : Int32) = 0 by decide), hC.ct.ifk, wr_id]
      have hL := pr_date (N := N) (K := K) (sz := sz) hT hN hv hz hB hC.ct q2.1.1
      rw [hL.two]
      exact leaf_out hC hp hR q2 q3 q4 hA hh hlo hn hL
    · rw [if_neg hB, if_pos rfl, if_pos rfl, hC.ct.ifk, wr_id]
      have hL := pr_number (N := N) (K := K) (sz := sz) hT hN hv hz hp bad1 hC.ct q2.1.1
      rw [hL.two]
      exact leaf_out hC hp hR q2 q3 q4 hA hh hlo hn hL
  by_cases h34 : ch t n p = 34
  · rw [if_pos ((pkEq 34 (by decide) (by decide)).2 h34)]
    have h0 : ¬ 0 ≤ dC (I 10) (pk t n p) := by
      rw [(pkEq 34 (by decide) (by decide)).2 h34]; decide
    rw [bv_30 hT hR.1.1 hp h0 (by rw [h34]; decide) (by rw [h34]; decide)]
    unfold m_beginValue_30 m_beginValue_49 m_beginValue_85
    rw [if_neg h91, if_neg h123, if_pos rfl, if_pos rfl, if_neg (by rw [h34]; decide), if_neg (by rw [h34]; decide), if_pos h34, if_pos rfl, q1]
    unfold m_beginValue_129
    rw [if_pos rfl, if_pos rfl, if_pos h34]
    exact hstr (.inl h34)
  · have g34 := fun g => h34 ((pkEq (t := t) (n := n) (p := p) 34 (by decide) (by decide)).1 g)
    rw [if_neg g34]
    by_cases h39 : ch t n p = 39
    · rw [if_pos ((pkEq 39 (by decide) (by decide)).2 h39)]
      have h0 : ¬ 0 ≤ dC (I 10) (pk t n p) := by
        rw [(pkEq 39 (by decide) (by decide)).2 h39]; decide
      rw [bv_30 hT hR.1.1 hp h0 (by rw [h39]; decide) (by rw [h39]; decide)]
      unfold m_beginValue_30 m_beginValue_49 m_beginValue_85
      rw [if_neg h91, if_neg h123, if_pos rfl, if_pos rfl, if_neg (by rw [h39]; decide), if_neg (by rw [h39]; decide), if_neg h34, if_pos h39, if_pos rfl, q1]
      unfold m_beginValue_129
      rw [if_pos rfl, if_pos rfl, if_neg h34, if_pos h39]
      exact hstr (.inr h39)
    · have g39 := fun g => h39 ((pkEq (t := t) (n := n) (p := p) 39 (by decide) (by decide)).1 g)
      rw [if_neg g39]
      by_cases h116 : ch t n p = 116
      · rw [if_pos ((pkEq 116 (by decide) (by decide)).2 h116)]
        have h0 : ¬ 0 ≤ dC (I 10) (pk t n p) := by
          rw [(pkEq 116 (by decide) (by decide)).2 h116]; decide
        rw [bv_30 hT hR.1.1 hp h0 (by rw [h116]; decide) (by rw [h116]; decide)]
        unfold m_beginValue_30 m_beginValue_49 m_beginValue_85
        rw [if_neg h91, if_neg h123, if_pos rfl, if_pos rfl, if_pos h116, if_pos rfl, q1]
        unfold m_beginValue_129
        rw [if_pos rfl, if_pos rfl, if_neg h34, if_neg h39]
        exact htru 0 trueL 1 kf3 (.inl ⟨h116, rfl, rfl⟩)
      · have g116 := fun g => h116 ((pkEq (t := t) (n := n) (p := p) 116 (by decide) (by decide)).1 g)
        rw [if_neg g116]
        by_cases h102 : ch t n p = 102
        · rw [if_pos ((pkEq 102 (by decide) (by decide)).2 h102)]
          have h0 : ¬ 0 ≤ dC (I 10) (pk t n p) := by
            rw [(pkEq 102 (by decide) (by decide)).2 h102]; decide
          rw [bv_30 hT hR.1.1 hp h0 (by rw [h102]; decide) (by rw [h102]; decide)]
          unfold m_beginValue_30 m_beginValue_49 m_beginValue_85
          rw [if_neg h91, if_neg h123, if_pos rfl, if_pos rfl, if_neg h116, if_pos h102, if_pos rfl, q1]
          unfold m_beginValue_129
          rw [if_pos rfl, if_pos rfl, if_neg h34, if_neg h39]
          exact htru 1 falseL 0 kf4 (.inr ⟨h102, rfl, rfl⟩)
        · have g102 := fun g => h102 ((pkEq (t := t) (n := n) (p := p) 102 (by decide) (by decide)).1 g)
          rw [if_neg g102]
          by_cases hnb : 0 ≤ dC (I 10) (pk t n p) ∨ ch t n p = 43 ∨ ch t n p = 45
          · rw [bv_num hT hR.1.1 hp hnb, q1]
            exact hnum hnb
          · have h0 : ¬ 0 ≤ dC (I 10) (pk t n p) := fun g => hnb (.inl g)
            have h43 : ¬ ch t n p = 43 := fun g => hnb (.inr (.inl g))
            have h45 : ¬ ch t n p = 45 := fun g => hnb (.inr (.inr g))
            rw [bv_30 hT hR.1.1 hp h0 h43 h45]
            unfold m_beginValue_30 m_beginValue_49 m_beginValue_99 m_fail
            rw [if_neg h91, if_neg h123, if_pos rfl, if_pos rfl, if_neg h116, if_neg h102, if_neg h34, if_neg h39, hC.ct.ifk]
            obtain ⟨d1, d2⟩ := pr_isDate (N := N) (K := K) hT hN hp hC.ct hR.1.1
            have hB : ¬ dBj t n p 0 4 = true := by
              intro g
              obtain ⟨_, _, g3⟩ := dB4 g hT
              obtain ⟨d, e1, e2, e3⟩ := g3 0 (by omega)
              rw [Nat.add_zero] at e2
              rw [e2] at h0; exact h0 (I_nn' (by omega))
            rw [d1, b1_some, if_neg hB, if_pos rfl, hC.ct.ifk, num_bad hT hN hp hC.ct h0 h43 h45, b4_some, wr4_some, rP_eq, b1_some, b2_some, hR.1.1.2.1, if_pos (.inl rfl)]
            exact .inr (.inl ⟨_, _, _, 0, _, rfl, .inl rfl, by omega, wr_bad hC hR hp, by omega, by omega⟩)
end
