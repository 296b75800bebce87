section
variable {b0 N : Nat} {K S S' : cS} {rd sb vb vb' sz sz' : Nat} {t : Nat → Int32} {n p q : Nat} {R R' : rS} {l : List Int32} {hb u0 : Nat}
/-- What comes of a string or a bare key, in both. -/
def SOut (b0 : Nat) (S : cS) (rd sb vb sz : Nat) (t : Nat → Int32) (n p : Nat) (R : rS) (hb u0 : Nat) (C : Option (Option Nat × cS × Nat × Nat)) (M : Option (Int32 × rS)) : Prop :=
  (∃ q l S' R' vb' s dc ds, p < q ∧ q ≤ n ∧ C = some (some s, S', dc, ds) ∧ M = some (1, R') ∧ StrP b0 S' s l (sz + dc) vb' ∧ sz ≤ s ∧ SQ b0 S' rd sb vb' t n q l (sz + dc) ∧ RQ R' t n q hb u0 l ∧ FrC S S' rd sb vb sz ∧ FR R R' hb u0 ∧ R'.1 4 = R.1 4 ∧ (vb' = vb ∨ sz ≤ vb') ∧ dc ≤ 3 ∧ ds ≤ 80) ∨
  (∃ w S' R' dc ds, w ≤ n ∧ C = some (none, S', dc, ds) ∧ M = some (0, R') ∧ S'.2.2.1 rd 7 = I w ∧ R'.1 4 = I w ∧ FrC S S' rd sb vb sz ∧ FR R R' hb u0 ∧ dc ≤ 3 ∧ ds ≤ 80)
/-- The end quote, and the string behind it. -/
theorem str_end (hT : Tx t n) (h : SQ b0 S rd sb vb t n p l sz) (hl : l.length ≤ 30) (hp : p < n) :
    ∃ S', (b1 (gR b0 K (sI S rd 6 (I (p + 1))) 4 2 rd) (fun q4 => b1 q4 (fun a6 => ifk b0 K (sI S rd 6 (I (p + 1))) 7 a6 (b4 (x_SB_toString N b0 K a6 sz (sI S rd 6 (I (p + 1)))) (fun q10 S11 c12 d13 => wr4 c12 d13 (some (q10, S11, 0, 0))))))) = some (some sz, S', 2, 4 + l.length) ∧
      StrP b0 S' sz l (sz + 2) vb ∧ SQ b0 S' rd sb vb t n (p + 1) l (sz + 2) ∧ FrC S S' rd sb vb sz := by
  have h1 := h.mv (p + 1)
  obtain ⟨n1, n2, n3, n4, n5⟩ := h1.ne
  rw [h1.sb_]
  simp only [b1_some]
  rw [h1.ifk]
  obtain ⟨S', e1, e2, e3, e4, e5, e6⟩ := h1.2.2.1.str (N := N) (K := K) (by omega) h1.2.2.2.1 h1.2.2.2.2.2.1 h1.2.2.2.2.2.2
  rw [e1]
  simp only [b4_some, wr4_some]
  have hz := h1.2.2.2.1
  have hF : FrC (sI S rd 6 (I (p + 1))) S' rd sb vb sz := FrC.of (M := fun _ => True) (fun a a1 _ _ => e6 a a1) h1.2.2.2.2.1 n1 n2
  refine ⟨S', rfl, ?_, ?_, (FrC.mv S (.inl rfl) _).trans hF (Nat.le_refl _) (.inl rfl)⟩
  · obtain ⟨g1, g2, g3, g4, v, g5, g6, g7, g8⟩ := e2
    have o0 : ownC b0 sz := .inl hz
    have o1 : ownC b0 (sz + 1) := .inl (by omega)
    rw [eK_own o0] at g2 g5
    rw [e3] at g5; cases g5
    rw [eK_own o1] at g7
    have hv := h1.2.2.2.2.2.2
    refine ⟨sz + 1, by omega, by omega, by omega, by omega, by omega, e4, g2, e3, e5, g7, hl, fun j c hj => ⟨?_, g4 j c hj⟩⟩
    have := g8 j c hj
    rw [eK_own o1] at this; exact this
  · have gr := e6 rd h1.2.2.2.2.1
    exact ⟨h1.1.keep hF (by rw [gr.2.2.1]; exact h1.1.2.2.2.2.2.2.1) (by omega) n3 n4, by rw [gr.2.2.2]; exact h1.2.1, h1.2.2.1.keep (e6 sb h1.2.2.2.2.2.1) (e6 vb h1.2.2.2.2.2.2), by omega, by have := h1.2.2.2.2.1; omega, by have := h1.2.2.2.2.2.1; omega, by have := h1.2.2.2.2.2.2; omega⟩
theorem FR.at3 {v : Int32} (h : FR R R' hb u0) : FR R (Rw R' 3 v) hb u0 := h.trans (FR.rw R' (.inl rfl) v)
theorem lo_of (hT : Tx t n) (h : p < n) : 0 ≤ (t p).toInt ∧ (t p).toInt < 128 := by
  obtain ⟨k, hk, -, e⟩ := ch_code hT h
  rw [e, I_toInt (by omega)]; omega
theorem pot (S : cS) (vb : Nat) : ∃ g : Nat, g ≤ 1 ∧ (S.2.1 vb = 16 → g = 1) ∧ (S.2.1 vb ≠ 16 → g = 0) := by
  by_cases h : S.2.1 vb = 16
  · exact ⟨1, by omega, fun _ => rfl, fun g => absurd h g⟩
  · exact ⟨0, by omega, fun g => absurd g h, fun _ => rfl⟩
def gpot (S : cS) (vb : Nat) : Nat := if S.2.1 vb = 16 then 1 else 0
/-- The outcome of a loop of letters, with what it costs. -/
def SOutL (b0 : Nat) (S : cS) (rd sb vb sz : Nat) (t : Nat → Int32) (n p : Nat) (R : rS) (hb u0 : Nat) (C : Option (Option Nat × cS × Nat × Nat)) (M : Option (Int32 × rS)) : Prop :=
  (∃ q l S' R' vb' s dc ds, p < q ∧ q ≤ n ∧ C = some (some s, S', dc, ds) ∧ M = some (1, R') ∧ StrP b0 S' s l (sz + dc) vb' ∧ sz ≤ s ∧ SQ b0 S' rd sb vb' t n q l (sz + dc) ∧ RQ R' t n q hb u0 l ∧ FrC S S' rd sb vb sz ∧ FR R R' hb u0 ∧ R'.1 4 = R.1 4 ∧ (vb' = vb ∨ sz ≤ vb') ∧ dc ≤ gpot S vb + 2 ∧ ds ≤ 34 * gpot S vb + 34) ∨
  (∃ w S' R' dc ds, w ≤ n ∧ C = some (none, S', dc, ds) ∧ M = some (0, R') ∧ S'.2.2.1 rd 7 = I w ∧ R'.1 4 = I w ∧ FrC S S' rd sb vb sz ∧ FR R R' hb u0 ∧ dc ≤ gpot S vb ∧ ds ≤ 34 * gpot S vb)
theorem SOutL.out {C : Option (Option Nat × cS × Nat × Nat)} {M : Option (Int32 × rS)} (h : SOutL b0 S rd sb vb sz t n p R hb u0 C M) : SOut b0 S rd sb vb sz t n p R hb u0 C M := by
  have hg : gpot S vb ≤ 1 := by unfold gpot; split <;> omega
  rcases h with ⟨q, l, S', R', vb', s, dc, ds, h1, h2, h3, h4, h5, h6, h7, h8, h9, h10, h11, h12, h13, h14⟩ | ⟨w, S', R', dc, ds, h1, h2, h3, h4, h5, h6, h7, h8, h9⟩
  · exact .inl ⟨q, l, S', R', vb', s, dc, ds, h1, h2, h3, h4, h5, h6, h7, h8, h9, h10, h11, h12, by omega, by omega⟩
  · exact .inr ⟨w, S', R', dc, ds, h1, h2, h3, h4, h5, h6, h7, by omega, by omega⟩
/-- One letter more, then the rest of the loop. -/
theorem SOutL.step {S1 : cS} {R1 : rS} {vb1 dc ds : Nat} {p1 : Nat} {C : Option (Option Nat × cS × Nat × Nat)} {M : Option (Int32 × rS)}
    (h : SOutL b0 S1 rd sb vb1 (sz + dc) t n p1 R1 hb u0 C M) (hp : p ≤ p1) (hF : FrC S S1 rd sb vb sz) (hR : FR R R1 hb u0) (h4 : R1.1 4 = R.1 4)
    (hv : (vb1 = vb ∧ dc = 0 ∧ ds = 0 ∧ S1.2.1 vb1 = S.2.1 vb) ∨ (vb1 = sz ∧ dc = 1 ∧ ds = 34 ∧ S.2.1 vb = 16 ∧ S1.2.1 vb1 = 34)) :
    SOutL b0 S rd sb vb sz t n p R hb u0 (wr4 dc ds C) M := by
  have hg : dc + gpot S1 vb1 ≤ gpot S vb ∧ ds + 34 * gpot S1 vb1 ≤ 34 * gpot S vb := by
    unfold gpot
    rcases hv with ⟨a, b, c, d⟩ | ⟨a, b, c, d, e⟩
    · rw [d, b, c]; omega
    · rw [if_pos d, if_neg (by rw [e]; decide), b, c]; omega
  have hv' : vb1 = vb ∨ sz ≤ vb1 := by omega
  rcases h with ⟨q, l, S', R', vb', s, dc', ds', h1, h2, rfl, h4', h5, h6, h7, h8, h9, h10, h11, h12, h13, h14⟩ | ⟨w, S', R', dc', ds', h1, rfl, h3, h4', h5, h6, h7, h8, h9⟩
  · refine .inl ⟨q, l, S', R', vb', s, dc + dc', ds + ds', by omega, h2, rfl, h4', by rw [← Nat.add_assoc]; exact h5, by omega, by rw [← Nat.add_assoc]; exact h7, h8, hF.trans h9 (by omega) hv', hR.trans h10, by rw [h11, h4], by omega, by omega, by omega⟩
  · exact .inr ⟨w, S', R', dc + dc', ds + ds', h1, rfl, h3, h4', h5, hF.trans h6 (by omega) hv', hR.trans h7, by omega, by omega⟩
theorem SOutL.bad (h : SQ b0 S rd sb vb t n p l sz) (hR : RQ R t n p hb u0 l) {w : Nat} (hw : w ≤ n) : SOutL b0 S rd sb vb sz t n p R hb u0 (some (none, sI S rd 7 (I w), 0, 0)) (some (0, Rw R 4 (I w))) :=
  .inr ⟨w, _, _, 0, 0, hw, rfl, rfl, by show up2 _ _ _ _ _ _ = _; rw [up2_at], Rw_1 _ _ _, FrC.mv S (.inr rfl) _, FR.rw R (.inr (.inl rfl)) _, by omega, by omega⟩
theorem goes_eq (hC : CT b0 S rd t n p) (hn : n ≤ 240) (hp : p ≤ 1000) (c : Int32) : x_R_goesOnInString N b0 K rd c S = some (if p < n ∧ t p ≠ c ∧ t p ≠ 10 then 1 else 0) := by
  unfold x_R_goesOnInString
  rw [hC.at_, hC.len, hC.txt]
  simp only [b1_some]
  by_cases hc : p < n
  · rw [if_neg (I_le0 hc (by omega)), hC.chr hn hc]
    simp only [b1_some]
    by_cases h1 : t p = c
    · rw [if_pos h1, if_neg (by rintro ⟨_, h, _⟩; exact h h1)]
    · rw [if_neg h1]
      by_cases h2 : t p = 10
      · rw [if_pos h2, if_neg (by rintro ⟨_, _, h⟩; exact h h2)]
      · rw [if_neg h2, if_pos ⟨hc, h1, h2⟩]
  · rw [if_pos (I_le1 (by omega) (by omega)), if_neg (by rintro ⟨h, _⟩; exact hc h)]
theorem goes1 (hC : CT b0 S rd t n p) (hn : n ≤ 240) (hp : p ≤ 1000) {c : Int32} (h : p < n ∧ t p ≠ c ∧ t p ≠ 10) : x_R_goesOnInString N b0 K rd c S = some 1 := by
  rw [goes_eq hC hn hp, if_pos h]
theorem goes0 (hC : CT b0 S rd t n p) (hn : n ≤ 240) (hp : p ≤ 1000) {c : Int32} (h : ¬ (p < n ∧ t p ≠ c ∧ t p ≠ 10)) : x_R_goesOnInString N b0 K rd c S = some 0 := by
  rw [goes_eq hC hn hp, if_neg h]
/-- Behind the loop: the end quote, or the fault there. -/
theorem q_end (hT : Tx t n) (h : SQ b0 S rd sb vb t n p l sz) (hR : RQ R t n p hb u0 l) (hl : l.length ≤ 30) (hp : p ≤ n) (hc : ch t n p = 34) :
    SOutL b0 S rd sb vb sz t n p R hb u0 (x_R_readQuoted_115 N b0 K rd sz S) (b1 (rP R 3 (R.1 3 + 1)) (fun S3 => some (1, S3))) := by
  have hn := hT.1
  have hpn : p < n := by
    rcases Nat.lt_or_ge p n with g | g
    · exact g
    · rw [ch_out (by omega)] at hc; exact absurd hc (by decide)
  unfold x_R_readQuoted_115
  rw [h.1.ifk, take_eq h.1 hn (by omega) _ (by decide), if_pos hc]
  simp only [b2_some]
  rw [if_neg (by decide)]
  obtain ⟨S', e1, e2, e3, e4⟩ := str_end (N := N) (K := K) hT h hl hpn
  rw [e1, hR.1.2.1, I_1]
  have hu := hR.2.2.2.2.2.2.1
  exact .inl ⟨p + 1, l, S', Rw R 3 (I (p + 1)), vb, sz, 2, 4 + l.length, by omega, by omega, rfl, rfl, e2, by omega, e3, hR.mv (by omega), e4, FR.rw R (.inl rfl) _, Rw_1n _ _ (by decide), .inl rfl, by omega, by omega⟩
theorem q_bad (hT : Tx t n) (h : SQ b0 S rd sb vb t n p l sz) (hR : RQ R t n p hb u0 l) (hp : p ≤ n) (hc : ch t n p ≠ 34) :
    SOutL b0 S rd sb vb sz t n p R hb u0 (x_R_readQuoted_115 N b0 K rd sz S) (some (0, Rw R 4 (I p))) := by
  have hn := hT.1
  unfold x_R_readQuoted_115
  rw [h.1.ifk, take_eq h.1 hn (by omega) _ (by decide), if_neg hc]
  simp only [b2_some]
  rw [if_pos trivial]
  exact SOutL.bad h hR hp
theorem pr_quoted_i (hT : Tx t n) : ∀ (k k' p : Nat) (S : cS) (R : rS) (l : List Int32) (vb sz : Nat), p ≤ n → n - p < k → n - p + 1 < k' → l.length ≤ 30 → SQ b0 S rd sb vb t n p l sz → RQ R t n p hb u0 l →
    SOutL b0 S rd sb vb sz t n p R hb u0 (x_R_readQuoted_20 N b0 K k' rd 1 sz S) (m_string_19 N k 34 R) := by
  have hn := hT.1
  intro k
  induction k with
  | zero => intro k' p S R l vb sz _ h; omega
  | succ k ih =>
    intro k' p S R l vb sz hp hk hk' hl hS hR
    obtain ⟨k', rfl⟩ : ∃ j, k' = j + 1 := ⟨k' - 1, by omega⟩
    unfold x_R_readQuoted_20 x_R_readQuoted_20F m_string_19 m_string_19F m_string_54 m_fail
    rw [if_neg (by decide), hS.sb_]
    simp only [b1_some, hS.ifk, hS.2.2.1.len, here_eq hR.1 hn (show p ≤ 1000 by omega), hS.1.ifk, rP_eq, b2_some]
    by_cases h34 : ch t n p = 34
    · rw [if_pos h34]
      have he := q_end (N := N) (K := K) hT hS hR hl hp h34
      simp only [rP_eq, b1_some] at he
      have hc34 : ¬ (p < n ∧ t p ≠ 34 ∧ t p ≠ 10) := by
        rintro ⟨a, b, c⟩; rw [ch_in a] at h34; exact b h34
      rw [goes0 hS.1 hn (by omega) hc34]
      simp only [b1_some, if_true, ite_self]
      exact he
    · rw [if_neg h34]
      have hb' := q_bad (N := N) (K := K) hT hS hR hp h34
      by_cases hlim : 30 ≤ l.length
      · rw [if_pos (show (30 : Int32) ≤ I l.length from I_le1 (a := 30) hlim (by omega))]
        rw [hR.2.2.2.2.1, if_pos (show I l.length = 30 by rw [show l.length = 30 by omega]; rfl), hR.1.2.1]
        simp only [if_true, true_or, ite_self]
        exact hb'
      · rw [if_neg (show ¬ (30 : Int32) ≤ I l.length from I_le0 (a := 30) (by omega) (by omega))]
        rw [hR.1.1, hR.1.2.1]
        by_cases hpn : p < n
        · rw [if_neg (I_le0 hpn (by omega)), ch_in hpn]
          rw [ch_in hpn] at h34
          by_cases h10 : t p = 10
          · rw [if_pos h10, goes0 hS.1 hn (by omega) (by rintro ⟨_, _, h⟩; exact h h10)]
            simp only [b1_some, if_true, true_or]
            exact hb'
          · rw [if_neg h10, goes1 hS.1 hn (by omega) ⟨hpn, h34, h10⟩]
            simp only [b1_some]
            rw [if_neg (show ¬ (1 : Int32) = 0 by decide), hS.1.txt, hS.1.at_]
            simp only [b1_some]
            rw [hS.1.chr hn hpn]
            simp only [b1_some]
            rw [hR.2.2.2.2.1, if_neg (show ¬ I l.length = 30 from fun e => by have := (I_inj (b := 30) (by omega) (by omega)).1 e; omega)]
            simp only [if_true]
            by_cases h92 : t p = 92
            · rw [if_pos h92, if_pos h92, hS.1.put]
              simp only [b1_some, I_1]
              have hS1 := hS.mv (p + 1)
              have hu := hR.2.2.2.2.2.2.1
              have hR1 := hR.mv (q := p + 1) (by omega)
              rw [hS1.1.ifk, peek_eq hS1.1 hn (by omega), here_eq hR1.1 hn (by omega)]
              simp only [b1_some]
              -- the letter behind the bar
              have hesc : ∃ c, x_R_escaped N b0 K (pk t n (p + 1)) (sI S rd 6 (I (p + 1))) = some c ∧ m_behindBar N (ch t n (p + 1)) (Rw R 3 (I (p + 1))) = some c ∧ ((c = 0 ∧ ch t n (p + 1) ≠ 34) ∨ (p + 1 < n ∧ c ≠ 0 ∧ 0 ≤ c.toInt ∧ c.toInt < 128)) := by
                unfold x_R_escaped m_behindBar
                by_cases hp1 : p + 1 < n
                · rw [pkIn hp1, ch_in hp1]
                  by_cases g1 : t (p + 1) = 34
                  · rw [g1, if_pos rfl, if_pos rfl]; exact ⟨34, rfl, rfl, .inr ⟨hp1, by decide, by decide, by decide⟩⟩
                  · rw [if_neg g1, if_neg g1]
                    by_cases g2 : t (p + 1) = 92
                    · rw [g2, if_pos rfl]; exact ⟨92, rfl, rfl, .inr ⟨hp1, by decide, by decide, by decide⟩⟩
                    · rw [if_neg g2, if_neg g2]
                      by_cases g3 : t (p + 1) = 110
                      · rw [if_pos g3]; exact ⟨10, rfl, rfl, .inr ⟨hp1, by decide, by decide, by decide⟩⟩
                      · rw [if_neg g3]
                        by_cases g4 : t (p + 1) = 116
                        · rw [if_pos g4]; exact ⟨9, rfl, rfl, .inr ⟨hp1, by decide, by decide, by decide⟩⟩
                        · rw [if_neg g4]; exact ⟨0, rfl, rfl, .inl ⟨rfl, g1⟩⟩
                · rw [pk_out hp1, ch_out hp1]; exact ⟨0, by decide, by decide, .inl ⟨rfl, by decide⟩⟩
              obtain ⟨c, g1, g2, g3⟩ := hesc
              rw [g1, g2]
              simp only [b1_some]
              unfold x_R_readQuoted_79 x_R_readQuoted_88 x_R_readQuoted_112
              rcases g3 with ⟨rfl, g3⟩ | ⟨hp1, g3, g4⟩
              · rw [if_pos rfl, if_pos rfl, if_pos rfl, Rw_1]
                obtain ⟨k', rfl⟩ : ∃ j, k' = j + 1 := ⟨k' - 1, by omega⟩
                unfold x_R_readQuoted_20 x_R_readQuoted_20F
                rw [if_pos rfl]
                simp only [true_or, if_true]
                have hb2 := q_bad (N := N) (K := K) hT hS1 hR1 (by omega) g3
                have := SOutL.step (dc := 0) (ds := 0) (S := S) (vb := vb) (p := p) (sz := sz) (R := R) hb2 (by omega) (FrC.mv S (.inl rfl) _) (FR.rw R (.inl rfl) _) (Rw_1n _ _ (by decide)) (.inl ⟨rfl, rfl, rfl, rfl⟩)
                have e0 : ∀ (C : Option (Option Nat × cS × Nat × Nat)), wr4 0 0 C = C := by
                  intro C; rcases C with _ | ⟨x, y, z, w⟩ <;> simp [wr4]
                rw [e0] at this
                exact this
              · rw [if_neg g3, if_neg (show ¬ (1 : Int32) = 0 by decide), if_neg g3, hS1.sb_]
                simp only [b1_some, hS1.ifk]
                obtain ⟨S2, vb2, dc, ds, f1, f2, f3, f4, f5, f6⟩ := hS1.app (N := N) (K := K) g4 (by omega) (p + 1 + 1)
                rw [f1]
                simp only [b4_some]
                rw [f2]
                simp only [b1_some, I_1]
                rw [f3]
                simp only [b1_some]
                obtain ⟨R2, r1, r2, r3, r4, r5⟩ := hR1.add (N := N) (pl := I p) hT (by omega) (c := c) (by omega)
                unfold m_string_125
                rw [r1]
                simp only [b2_some]
                rw [if_neg (by decide), rP_eq, r4, Rw_1, I_1]
                simp only [b1_some]
                have hrec := ih k' (p + 1 + 1) _ _ (l ++ [c]) vb2 (sz + dc) (by omega) (by omega) (by omega) (by simp; omega) f4 (r2 (p + 1 + 1) (by omega))
                refine SOutL.step hrec (by omega) ((FrC.mv S (.inl rfl) _).trans f5 (Nat.le_refl _) (.inl rfl)) (((FR.rw R (.inl rfl) _).trans r3).at3) ?_ f6
                rw [Rw_1n _ _ (by decide), r5, Rw_1n _ _ (by decide)]
            · rw [if_neg h92, if_neg h92]
              unfold x_R_readQuoted_79 x_R_readQuoted_88 x_R_readQuoted_112
              have hne0 := hT.ne0 hpn
              rw [if_neg hne0, if_neg (show ¬ (1 : Int32) = 0 by decide), hS.sb_]
              simp only [b1_some, hS.ifk]
              obtain ⟨S2, vb2, dc, ds, f1, f2, f3, f4, f5, f6⟩ := hS.app (N := N) (K := K) (lo_of hT hpn) (by omega) (p + 1)
              rw [f1]
              simp only [b4_some]
              rw [f2]
              simp only [b1_some, I_1]
              rw [f3]
              simp only [b1_some]
              obtain ⟨R2, r1, r2, r3, r4, r5⟩ := hR.add (N := N) (pl := I p) hT (by omega) (c := t p) (by omega)
              unfold m_string_125
              rw [r1]
              simp only [b2_some]
              rw [if_neg (by decide), rP_eq, r4, hR.1.2.1, I_1]
              simp only [b1_some]
              have hu := hR.2.2.2.2.2.2.1
              have hrec := ih k' (p + 1) _ _ (l ++ [t p]) vb2 (sz + dc) (by omega) (by omega) (by omega) (by simp; omega) f4 (r2 (p + 1) (by omega))
              refine SOutL.step hrec (by omega) f5 r3.at3 ?_ f6
              rw [Rw_1n _ _ (by decide), r5]
        · rw [if_pos (I_le1 (by omega) (by omega)), goes0 hS.1 hn (by omega) (by rintro ⟨h, _⟩; exact hpn h)]
          simp only [b1_some, if_true, true_or]
          exact hb'
end
