section
variable {b0 N : Nat} {K S S' : cS} {rd sb al vb vb' sz sz' sz0 : Nat} {t : Nat → Int32} {n p q : Nat} {R R' : rS} {l : List Int32} {hb u0 u : Nat} {T T' : Ar} {ad : Nat → Nat} {m lo e : Nat} {kd : Nat → List Nat} {xs : List Nat} {S0 : cS} {R0 : rS}
/-- The name that a value gets: none in a list, the path's last part in a table. -/
def PY (R : rS) (hb u : Nat) (part : Int32) (y : Option (List Int32)) : Prop :=
  (part = -1 ∧ y = none) ∨ ∃ (i : Nat) (x : Nat × List Int32) (ps : List (Nat × List Int32)), part = I i ∧ y = some x.2 ∧ PartR R hb u ps ∧ ps.length ≤ 130 ∧ ps[i]? = some x
/-- make, and the name. -/
theorem mk0 (hR : BR t n hb R0 R T' m u p) (hm : m < 260) (hp : p ≤ n) (hn : n ≤ 240) {hd : Nat} (hh : hd < m) (hk : 4 < T'.1 hd) (h56 : T'.2.2.1 hd 5 = none ↔ T'.2.2.1 hd 6 = none) {part : Int32} {y : Option (List Int32)} (hy : PY R hb u part y) :
    ∃ R1, (∀ c y4 y5, m_beginValue_108 N (I (260 * hb + hd)) part c y4 y5 R = m_beginValue_129 N c y4 y5 (I (260 * hb + m)) R1) ∧ BR t n hb R0 R1 (arE T' m hd 0 0 none y) (m + 1) u p ∧ R1.1 = R.1 ∧ (∀ j i, 12 ≤ j → R1.2 j i = R.2 j i) ∧ R1.2 9 (260 * hb + m) = 0 := by
  rcases hy with ⟨rfl, rfl⟩ | ⟨i, x, ps, rfl, rfl, hP, hps, hx⟩
  · obtain ⟨R1, e1, e2, e3, e4, e5⟩ := hR.row (N := N) hm hh hk h56 0
    refine ⟨R1, fun c y4 y5 => ?_, e2, e3, e4, e5⟩
    unfold m_beginValue_108
    rw [e1, b2_some, if_pos rfl]
  · have hi := glt hx
    obtain ⟨R1, e1, e2, e3, e4, e5, e6⟩ := hR.ent (N := N) hm hp hn hh hk h56 0 hP hps hx
    refine ⟨R1, fun c y4 y5 => ?_, e2, e4, e5, e6⟩
    unfold m_beginValue_108
    have hb1 := hR.1.2.2.1
    have h0 : ∀ (x2 : Int32) (S3 : rS), (if I i = -1 then m_beginValue_129 N c y4 y5 x2 S3 else b2 (m_named N x2 (I i) S3) (fun x5 S6 => m_beginValue_129 N c y4 y5 x2 S6)) = b2 (m_named N x2 (I i) S3) (fun x5 S6 => m_beginValue_129 N c y4 y5 x2 S6) := fun x2 S3 => if_neg (ne_neg (by omega))
    simp only [h0]
    -- the value's ownC number is what make and named answer
    obtain ⟨r1, r2, r3, r4, r5⟩ := hR
    obtain ⟨R9, f1, f2, f3, f4, f5, f6, f7⟩ := mk_in (N := N) r4 hb1 r1.2.1 r2 hm hh hk h56 0
    have hP1 : PartR R9 hb u ps := hP.keep (fun j i hj _ => f6 j i (by omega)) (fun i _ => f6 13 i (by omega)) (Nat.le_refl _)
    have hu := r1.2.2.2.2
    obtain ⟨R8, g1, g2, g3, g4, g5, g6, g7⟩ := nm_eq (N := N) (v := m) f2 hb1 (by omega) (by omega) hP1 (by omega) hps hx
    have := e1 (fun x5 S6 => some (x5, S6))
    rw [f1, b2_some, g1, b2_some] at this
    cases this
    rw [f1, b2_some, g1, b2_some]
/-- Which way a value begins. -/
def numB (c : Int32) : Prop := (0 ≤ dC (I 10) c) ∨ c = 43 ∨ c = 45
theorem bv_num (hT : Tx t n) (hR : RT R t n p) (hp : p ≤ n) {h part : Int32} (hc : 0 ≤ dC (I 10) (pk t n p) ∨ ch t n p = 43 ∨ ch t n p = 45) : m_beginValue N h part R = m_beginValue_108 N h part (ch t n p) 1 0 R := by
  have hn := hT.1
  have h91 : ¬ ch t n p = 91 ∧ ¬ ch t n p = 123 := by
    refine ⟨fun g => ?_, fun g => ?_⟩
    · rcases hc with h | h | h
      · rcases dig hT (b := 10) (.inl rfl) p with ⟨d, hd, h1, h2, hpn⟩ | ⟨h1, h2⟩
        · have := (digc hT hd h1).2
          rw [ch_in hpn, this] at g
          have := (I_inj (b := 91) (by omega) (by omega)).1 g; omega
        · rw [h1] at h; exact absurd h m1nn
      · rw [g] at h; exact absurd h (by decide)
      · rw [g] at h; exact absurd h (by decide)
    · rcases hc with h | h | h
      · rcases dig hT (b := 10) (.inl rfl) p with ⟨d, hd, h1, h2, hpn⟩ | ⟨h1, h2⟩
        · have := (digc hT hd h1).2
          rw [ch_in hpn, this] at g
          have := (I_inj (b := 123) (by omega) (by omega)).1 g; omega
        · rw [h1] at h; exact absurd h m1nn
      · rw [g] at h; exact absurd h (by decide)
      · rw [g] at h; exact absurd h (by decide)
  have h30 : m_beginValue_30 N h part (ch t n p) 1 R = m_beginValue_108 N h part (ch t n p) 1 0 R := by
    unfold m_beginValue_30 m_beginValue_49 m_beginValue_85
    rw [if_neg h91.1, if_neg h91.2, if_neg (show ¬ (1 : Int32) = 0 by decide), if_pos rfl]
  unfold m_beginValue m_beginValue_25
  rw [here_eq hR hn (by omega), b1_some, isDigit_eq hT, b1_some, h30]
  rcases hc with h | h | h
  · rw [if_pos h, if_neg (show ¬ (1 : Int32) = 0 by decide)]
  · by_cases h0 : 0 ≤ dC (I 10) (pk t n p)
    · rw [if_pos h0, if_neg (show ¬ (1 : Int32) = 0 by decide)]
    · rw [if_neg h0, if_pos rfl, if_pos h]
  · by_cases h0 : 0 ≤ dC (I 10) (pk t n p)
    · rw [if_pos h0, if_neg (show ¬ (1 : Int32) = 0 by decide)]
    · rw [if_neg h0, if_pos rfl, if_neg (by rw [h]; decide), if_pos h]
theorem bv_30 (hT : Tx t n) (hR : RT R t n p) (hp : p ≤ n) {h part : Int32} (h0 : ¬ 0 ≤ dC (I 10) (pk t n p)) (h43 : ¬ ch t n p = 43) (h45 : ¬ ch t n p = 45) : m_beginValue N h part R = m_beginValue_30 N h part (ch t n p) 0 R := by
  have hn := hT.1
  unfold m_beginValue
  rw [here_eq hR hn (by omega), b1_some, isDigit_eq hT, b1_some, if_neg h0, if_pos rfl, if_neg h43, if_neg h45]
/-- No value begins so. -/
theorem num_bad (hT : Tx t n) (hN : 1000 ≤ N) (hp : p ≤ n) (hC : CT b0 S rd t n p) (h0 : ¬ 0 ≤ dC (I 10) (pk t n p)) (h43 : ¬ ch t n p = 43) (h45 : ¬ ch t n p = 45) : x_R_readNumber N b0 K rd sz S = some (none, sI S rd 7 (I p), 0, 0) := by
  have hn := hT.1
  have hd : dC (I 10) (pk t n p) = -1 := by
    rcases dig hT (b := 10) (.inl rfl) p with ⟨d, hd, h1, h2, hpn⟩ | ⟨h1, h2⟩
    · rw [h1] at h0; exact absurd (I_nn' (by omega)) h0
    · exact h1
  have h48 : ¬ ch t n p = 48 := by
    intro g
    have hpn : p < n := by
      rcases Nat.lt_or_ge p n with h | h
      · exact h
      · rw [ch_out (by omega)] at g; exact absurd g (by decide)
    rw [ch_in hpn] at g
    rw [pkIn hpn, g] at hd
    exact absurd hd (by decide)
  obtain ⟨N', hN'⟩ : ∃ j, N = j + 1 := ⟨N - 1, by omega⟩
  have hdig : x_R_readDigits N b0 K rd 10 9 S = some (-1, sI S rd 7 (I p)) := by
    unfold x_R_readDigits
    conv => lhs; arg 4; rw [hN']
    unfold x_R_readDigits_8 x_R_readDigits_8F x_R_readDigits_41 x_R_wrong
    rw [if_neg (show ¬ (1 : Int32) = 0 by decide), if_neg (show ¬ (9 : Int32) < 0 by decide)]
    simp only [hC.at_, b1_some, hC.ifk, hC.put, b2_some]
    rw [digitAt_eq hC hn (by omega)]
    simp only [b1_some]
    rw [show dC 10 (pk t n p) = -1 from hd, if_pos m1_neg]
  unfold x_R_readNumber x_R_readNumber_23 x_R_readNumber_38 x_R_readNumber_53 x_R_readNumber_118
  simp only [hC.ifk, peek_eq hC hn (show p ≤ 1000 by omega), b1_some]
  have g43 := fun g => h43 ((pkEq (t := t) (n := n) (p := p) 43 (by decide) (by decide)).1 g)
  have g45 := fun g => h45 ((pkEq (t := t) (n := n) (p := p) 45 (by decide) (by decide)).1 g)
  have g48 := fun g => h48 ((pkEq (t := t) (n := n) (p := p) 48 (by decide) (by decide)).1 g)
  rw [if_neg g43, if_neg g45, if_neg g45, if_pos trivial, if_neg g48, hdig]
  simp only [b2_some]
  rw [if_neg m1nn]
end
