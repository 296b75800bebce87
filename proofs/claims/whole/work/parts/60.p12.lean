section
variable {b0 N : Nat} {K S S' : cS} {rd sb vb vb' sz sz' : Nat} {t : Nat → Int32} {n p q : Nat} {R R' : rS} {l : List Int32} {hb u0 : Nat}
theorem p_end (hT : Tx t n) (h : SQ b0 S rd sb vb t n p l sz) (hR : RQ R t n p hb u0 l) (hl : l.length ≤ 30) (hp : p ≤ n) (hc : ch t n p = 39) :
    SOutL b0 S rd sb vb sz t n p R hb u0 (x_R_readPlainlyQuoted_69 N b0 K rd sz S) (some (1, Rw R 3 (I (p + 1)))) := by
  have hn := hT.1
  have hpn : p < n := by
    rcases Nat.lt_or_ge p n with g | g
    · exact g
    · rw [ch_out (by omega)] at hc; exact absurd hc (by decide)
  unfold x_R_readPlainlyQuoted_69
  rw [h.1.ifk, take_eq h.1 hn (by omega) _ (by decide), if_pos hc]
  simp only [b2_some]
  rw [if_neg (by decide)]
  obtain ⟨S', e1, e2, e3, e4⟩ := str_end (N := N) (K := K) hT h hl hpn
  rw [e1]
  have hu := hR.2.2.2.2.2.2.1
  exact .inl ⟨p + 1, l, S', Rw R 3 (I (p + 1)), vb, sz, 2, 4 + l.length, by omega, by omega, rfl, rfl, e2, by omega, e3, hR.mv (by omega), e4, FR.rw R (.inl rfl) _, Rw_1n _ _ (by decide), .inl rfl, by omega, by omega⟩
theorem p_bad (hT : Tx t n) (h : SQ b0 S rd sb vb t n p l sz) (hR : RQ R t n p hb u0 l) (hp : p ≤ n) (hc : ch t n p ≠ 39) :
    SOutL b0 S rd sb vb sz t n p R hb u0 (x_R_readPlainlyQuoted_69 N b0 K rd sz S) (some (0, Rw R 4 (I p))) := by
  have hn := hT.1
  unfold x_R_readPlainlyQuoted_69
  rw [h.1.ifk, take_eq h.1 hn (by omega) _ (by decide), if_neg hc]
  simp only [b2_some]
  rw [if_pos trivial]
  exact SOutL.bad h hR hp
theorem pr_plain_i (hT : Tx t n) : ∀ (k k' p : Nat) (S : cS) (R : rS) (l : List Int32) (vb sz : Nat), p ≤ n → n - p < k → n - p < k' → l.length ≤ 30 → SQ b0 S rd sb vb t n p l sz → RQ R t n p hb u0 l →
    SOutL b0 S rd sb vb sz t n p R hb u0 (x_R_readPlainlyQuoted_18 N b0 K k' rd sz S) (m_string_19 N k 39 R) := by
  have hn := hT.1
  intro k
  induction k with
  | zero => intro k' p S R l vb sz _ h; omega
  | succ k ih =>
    intro k' p S R l vb sz hp hk hk' hl hS hR
    obtain ⟨k', rfl⟩ : ∃ j, k' = j + 1 := ⟨k' - 1, by omega⟩
    unfold x_R_readPlainlyQuoted_18 x_R_readPlainlyQuoted_18F m_string_19 m_string_19F m_string_54 m_fail
    rw [hS.sb_]
    simp only [b1_some, hS.ifk, hS.2.2.1.len, here_eq hR.1 hn (show p ≤ 1000 by omega), hS.1.ifk, rP_eq, b2_some]
    by_cases h39 : ch t n p = 39
    · rw [if_pos h39]
      have he := p_end (N := N) (K := K) hT hS hR hl hp h39
      have hc39 : ¬ (p < n ∧ t p ≠ 39 ∧ t p ≠ 10) := by
        rintro ⟨a, b, c⟩; rw [ch_in a] at h39; exact b h39
      rw [goes0 hS.1 hn (by omega) hc39, hR.1.2.1, I_1]
      simp only [b1_some, if_true, ite_self]
      exact he
    · rw [if_neg h39]
      have hb' := p_bad (N := N) (K := K) hT hS hR hp h39
      by_cases hlim : 30 ≤ l.length
      · rw [if_pos (show (30 : Int32) ≤ I l.length from I_le1 (a := 30) hlim (by omega))]
        rw [hR.2.2.2.2.1, if_pos (show I l.length = 30 by rw [show l.length = 30 by omega]; rfl), hR.1.2.1]
        simp only [if_true, true_or, ite_self]
        exact hb'
      · rw [if_neg (show ¬ (30 : Int32) ≤ I l.length from I_le0 (a := 30) (by omega) (by omega))]
        rw [hR.1.1, hR.1.2.1]
        by_cases hpn : p < n
        · rw [if_neg (I_le0 hpn (by omega)), ch_in hpn]
          rw [ch_in hpn] at h39
          by_cases h10 : t p = 10
          · rw [if_pos h10, goes0 hS.1 hn (by omega) (by rintro ⟨_, _, h⟩; exact h h10)]
            simp only [b1_some, if_true, true_or]
            exact hb'
          · rw [if_neg h10, goes1 hS.1 hn (by omega) ⟨hpn, h39, h10⟩]
            simp only [b1_some]
            rw [if_neg (show ¬ (1 : Int32) = 0 by decide), hS.1.txt, hS.1.at_]
            simp only [b1_some]
            rw [hS.1.chr hn hpn]
            simp only [b1_some, hS.ifk]
            rw [hR.2.2.2.2.1, if_neg (show ¬ I l.length = 30 from fun e => by have := (I_inj (b := 30) (by omega) (by omega)).1 e; omega), if_neg (show ¬ (39 : Int32) = 34 by decide)]
            obtain ⟨S2, vb2, dc, ds, f1, f2, f3, f4, f5, f6⟩ := hS.app (N := N) (K := K) (lo_of hT hpn) (by omega) (p + 1)
            rw [f1]
            simp only [b4_some]
            rw [f2]
            simp only [b1_some, I_1]
            rw [f3]
            simp only [b1_some]
            obtain ⟨R2, r1, r2, r3, r4, r5⟩ := hR.add (N := N) (pl := I p) hT (by omega) (c := t p) (by omega)
            unfold m_string_125
            rw [r1]
            simp only [b2_some]
            rw [if_neg (by decide), rP_eq, r4, hR.1.2.1, I_1]
            simp only [b1_some]
            have hu := hR.2.2.2.2.2.2.1
            have hrec := ih k' (p + 1) _ _ (l ++ [t p]) vb2 (sz + dc) (by omega) (by omega) (by omega) (by simp; omega) f4 (r2 (p + 1) (by omega))
            refine SOutL.step hrec (by omega) f5 r3.at3 ?_ f6
            rw [Rw_1n _ _ (by decide), r5]
        · rw [if_pos (I_le1 (by omega) (by omega)), goes0 hS.1 hn (by omega) (by rintro ⟨h, _⟩; exact hpn h)]
          simp only [b1_some, if_true, true_or]
          exact hb'
/-- Before a string or a bare key: the reference. -/
def RB (R : rS) (t : Nat → Int32) (n p hb u0 : Nat) : Prop := RT R t n p ∧ R.1 19 = I hb ∧ hb ≤ 1 ∧ R.2 12 hb = I u0 ∧ u0 ≤ p
def begR (R : rS) (hb u0 : Nat) : rS := Rw (Rw R 24 (I (300 * hb + u0))) 25 0
theorem RB.beg (h : RB R t n p hb u0) (hn : n ≤ 240) : m_begin N R = some (begR R hb u0) := by
  obtain ⟨h1, h2, h3, h4, h5⟩ := h
  unfold m_begin begR
  rw [h2, rL_eq (by show _ < 2; omega) (by omega), h4]
  simp only [b1_some, rP_eq]
  rw [show (300 : Int32) = I 300 from rfl, I_mul, I_add]
theorem RB.rq (h : RB R t n p hb u0) : RQ (begR R hb u0) t n p hb u0 [] := by
  obtain ⟨h1, h2, h3, h4, h5⟩ := h
  unfold begR
  exact ⟨(h1.wr (by decide) _).wr (by decide) _, by rw [Rw_1n _ _ (by decide), Rw_1n _ _ (by decide)]; exact h2, h3, by rw [Rw_1n _ _ (by decide), Rw_1], Rw_1 _ _ _, h4, h5, by intro j c hj; cases hj⟩
theorem FR.beg : FR R (begR R hb u0) hb u0 := (FR.rw R (.inr (.inr (.inl rfl))) _).trans (FR.rw _ (.inr (.inr (.inr rfl))) _)
theorem wr4_0 (C : Option (Option Nat × cS × Nat × Nat)) : wr4 0 0 C = C := by rcases C with _ | ⟨x, y, z, w⟩ <;> simp [wr4]
theorem SQ.set0 (h : SQ b0 S rd sb vb t n p l sz) : ∃ S', x_SB_setLength N b0 K sb 0 sz S = some (S', 0, 0) ∧ SQ b0 S' rd sb vb t n p [] sz ∧ FrC S S' rd sb vb sz ∧ S'.2.1 vb = S.2.1 vb := by
  obtain ⟨n1, n2, n3, n4, n5⟩ := h.ne
  obtain ⟨S', e1, e2, e3⟩ := h.2.2.1.set0 (N := N) (K := K) (sz := sz)
  have hF : FrC S S' rd sb vb sz := FrC.of (M := fun _ => True) (fun a _ a2 _ => e3 a a2) h.2.2.2.2.1 n1 n2
  have g := e3 rd n1
  exact ⟨S', e1, ⟨h.1.keep hF (by rw [g.2.2.1]; exact h.1.2.2.2.2.2.2.1) (by have := h.2.2.2.1; omega) n3 n4, by rw [g.2.2.2]; exact h.2.1, e2, h.2.2.2⟩, hF, (e3 vb (fun e => h.2.2.1.2.2.1 e.symm)).2.1⟩
theorem pr_quoted (hT : Tx t n) (hN : 1000 ≤ N) (hp : p ≤ n) (h34 : ch t n p = 34) (hS : SQ b0 S rd sb vb t n p l sz) (hR : RB R t n p hb u0) :
    SOut b0 S rd sb vb sz t n p R hb u0 (x_R_readQuoted N b0 K rd sz S) (m_string N R) := by
  have hn := hT.1
  have hpn : p < n := by
    rcases Nat.lt_or_ge p n with g | g
    · exact g
    · rw [ch_out (by omega)] at h34; exact absurd h34 (by decide)
  unfold x_R_readQuoted m_string
  rw [hS.sb_, here_eq hR.1 hn (by omega)]
  simp only [b1_some, hS.ifk]
  obtain ⟨S1, e1, e2, e3, e4⟩ := hS.set0 (N := N) (K := K)
  rw [e1, hR.beg hn]
  simp only [b3_some, b1_some, wr4_0]
  rw [e2.1.at_]
  simp only [b1_some, e2.1.put, I_1, rP_eq]
  have q0 := hR.rq
  rw [q0.1.2.1, I_1, h34]
  have hu := hR.2.2.2.2
  have hL := pr_quoted_i (N := N) (K := K) hT N N (p + 1) _ _ [] vb sz (by omega) (by omega) (by omega) (by simp) (e2.mv (p + 1)) (q0.mv (q := p + 1) (by simp; omega))
  have := SOutL.step (dc := 0) (ds := 0) (S := S) (vb := vb) (p := p) (sz := sz) (R := R) hL (by omega) (e3.trans (FrC.mv S1 (.inl rfl) _) (Nat.le_refl _) (.inl rfl)) FR.beg.at3 (by unfold begR; rw [Rw_1n _ _ (by decide), Rw_1n _ _ (by decide), Rw_1n _ _ (by decide)]) (.inl ⟨rfl, rfl, rfl, e4⟩)
  rw [wr4_0] at this
  exact this.out
theorem pr_plain (hT : Tx t n) (hN : 1000 ≤ N) (hp : p ≤ n) (h39 : ch t n p = 39) (hS : SQ b0 S rd sb vb t n p l sz) (hR : RB R t n p hb u0) :
    SOut b0 S rd sb vb sz t n p R hb u0 (x_R_readPlainlyQuoted N b0 K rd sz S) (m_string N R) := by
  have hn := hT.1
  have hpn : p < n := by
    rcases Nat.lt_or_ge p n with g | g
    · exact g
    · rw [ch_out (by omega)] at h39; exact absurd h39 (by decide)
  unfold x_R_readPlainlyQuoted m_string
  rw [hS.sb_, here_eq hR.1 hn (by omega)]
  simp only [b1_some, hS.ifk]
  obtain ⟨S1, e1, e2, e3, e4⟩ := hS.set0 (N := N) (K := K)
  rw [e1, hR.beg hn]
  simp only [b3_some, b1_some, wr4_0]
  rw [e2.1.at_]
  simp only [b1_some, e2.1.put, I_1, rP_eq]
  have q0 := hR.rq
  rw [q0.1.2.1, I_1, h39]
  have hu := hR.2.2.2.2
  have hL := pr_plain_i (N := N) (K := K) hT N N (p + 1) _ _ [] vb sz (by omega) (by omega) (by omega) (by simp) (e2.mv (p + 1)) (q0.mv (q := p + 1) (by simp; omega))
  have := SOutL.step (dc := 0) (ds := 0) (S := S) (vb := vb) (p := p) (sz := sz) (R := R) hL (by omega) (e3.trans (FrC.mv S1 (.inl rfl) _) (Nat.le_refl _) (.inl rfl)) FR.beg.at3 (by unfold begR; rw [Rw_1n _ _ (by decide), Rw_1n _ _ (by decide), Rw_1n _ _ (by decide)]) (.inl ⟨rfl, rfl, rfl, e4⟩)
  rw [wr4_0] at this
  exact this.out
/-! Bare keys. -/
theorem bare_pk (hT : Tx t n) : x_T_isBareLetter N b0 K (pk t n p) S = some (bareI (ch t n p)) ∧ m_isBare N (ch t n p) R = some (bareI (ch t n p)) := by
  by_cases hc : p < n
  · rw [pkIn hc, ch_in hc]
    obtain ⟨k, hk, -, e⟩ := ch_code hT hc
    exact bareC ⟨k, by omega, e⟩
  · rw [pk_out hc, ch_out hc, bare0]
    exact ⟨bareM, by have := (bareC (N := N) (b0 := b0) (K := K) (S := S) (R := R) (c := 0) ⟨0, by omega, rfl⟩).2; rw [bare0] at this; exact this⟩
theorem b_end (hT : Tx t n) (h : SQ b0 S rd sb vb t n p l sz) (hR : RQ R t n p hb u0 l) (hl : l.length ≤ 30) (hp : p ≤ n) {p0 : Nat} (hp0 : l.length ≠ 0 → p0 < p) (hc : bareI (ch t n p) = 0) (hpp : p0 ≤ p) :
    SOutL b0 S rd sb vb sz t n p0 R hb u0 (x_R_readBare_76 N b0 K rd sz S) (if 0 < R.1 25 then some (1, R) else some (0, Rw R 4 (I p))) := by
  have hn := hT.1
  unfold x_R_readBare_76 x_R_readBare_96 x_R_wrong
  rw [h.sb_]
  simp only [b1_some, h.ifk, h.2.2.1.len]
  by_cases h0 : l.length = 0
  · rw [if_pos (show I l.length = 0 by rw [h0]; rfl), hR.2.2.2.2.1, if_neg (show ¬ (0 : Int32) < I l.length by rw [h0]; decide), h.1.at_]
    simp only [b1_some, h.1.ifk, h.1.put, b2_some]
    rcases SOutL.bad h hR hp with ⟨q, l, S', R', vb', s, dc, ds, h1, h2, h3, h4, h5, h6, h7, h8, h9, h10, h11, h12, h13, h14⟩ | g
    · cases h3
    · exact .inr g
  · rw [if_neg (I_ne0 h0 (by omega)), hR.2.2.2.2.1, if_pos (show (0 : Int32) < I l.length from I_lt1 (a := 0) (by omega) (by omega)), h.1.ifk, peek_eq h.1 hn (by omega)]
    simp only [b1_some]
    rw [(bare_pk (R := R) hT).1, hc]
    simp only [b1_some, if_true, h.ifk]
    obtain ⟨S', e1, e2, e3, e4, e5, e6⟩ := h.2.2.1.str (N := N) (K := K) (by omega) h.2.2.2.1 h.2.2.2.2.2.1 h.2.2.2.2.2.2
    rw [e1]
    simp only [b4_some, wr4_some]
    obtain ⟨n1, n2, n3, n4, n5⟩ := h.ne
    have hz := h.2.2.2.1
    have hF : FrC S S' rd sb vb sz := FrC.of (M := fun _ => True) (fun a a1 _ _ => e6 a a1) h.2.2.2.2.1 n1 n2
    refine .inl ⟨p, l, S', R, vb, sz, 2, 4 + l.length, hp0 h0, hp, rfl, rfl, ?_, by omega, ?_, hR, hF, FR.refl R, rfl, .inl rfl, by omega, by omega⟩
    · obtain ⟨g1, g2, g3, g4, v, g5, g6, g7, g8⟩ := e2
      have o0 : ownC b0 sz := .inl hz
      have o1 : ownC b0 (sz + 1) := .inl (by omega)
      rw [eK_own o0] at g2 g5
      rw [e3] at g5; cases g5
      rw [eK_own o1] at g7
      have hv := h.2.2.2.2.2.2
      refine ⟨sz + 1, by omega, by omega, by omega, by omega, by omega, e4, g2, e3, e5, g7, hl, fun j c hj => ⟨?_, g4 j c hj⟩⟩
      have := g8 j c hj
      rw [eK_own o1] at this; exact this
    · have gr := e6 rd h.2.2.2.2.1
      exact ⟨h.1.keep hF (by rw [gr.2.2.1]; exact h.1.2.2.2.2.2.2.1) (by omega) n3 n4, by rw [gr.2.2.2]; exact h.2.1, h.2.2.1.keep (e6 sb h.2.2.2.2.2.1) (e6 vb h.2.2.2.2.2.2), by omega, by have := h.2.2.2.2.1; omega, by have := h.2.2.2.2.2.1; omega, by have := h.2.2.2.2.2.2; omega⟩
theorem pr_bare_i (hT : Tx t n) {p0 : Nat} : ∀ (k k' p : Nat) (S : cS) (R : rS) (l : List Int32) (vb sz : Nat), p ≤ n → p0 ≤ p → (l.length ≠ 0 → p0 < p) → n - p < k → n - p < k' → l.length ≤ 30 → SQ b0 S rd sb vb t n p l sz → RQ R t n p hb u0 l →
    SOutL b0 S rd sb vb sz t n p0 R hb u0 (x_R_readBare_8 N b0 K k' rd sz S) (m_bare_4 N k R) := by
  have hn := hT.1
  intro k
  induction k with
  | zero => intro k' p S R l vb sz _ _ _ h; omega
  | succ k ih =>
    intro k' p S R l vb sz hp hp0 hp1 hk hk' hl hS hR
    obtain ⟨k', rfl⟩ : ∃ j, k' = j + 1 := ⟨k' - 1, by omega⟩
    unfold x_R_readBare_8 x_R_readBare_8F m_bare_4 m_bare_4F m_fail
    rw [hS.sb_]
    simp only [b1_some, hS.ifk, hS.2.2.1.len, here_eq hR.1 hn (show p ≤ 1000 by omega), hS.1.ifk, rP_eq, b2_some]
    rw [(bare_pk (b0 := b0) (N := N) (K := K) (S := S) hT).2, hS.1.at_, hS.1.len, hS.1.txt, hR.1.2.1]
    simp only [b1_some, if_true]
    rcases bare01 (ch t n p) with h0 | h1
    · have he := b_end (N := N) (K := K) hT hS hR hl hp hp1 h0 hp0
      rw [h0, if_pos rfl]
      by_cases hlim : 30 ≤ l.length
      · rw [if_pos (show (30 : Int32) ≤ I l.length from I_le1 (a := 30) hlim (by omega))]
        exact he
      · rw [if_neg (show ¬ (30 : Int32) ≤ I l.length from I_le0 (a := 30) (by omega) (by omega))]
        by_cases hpn : p < n
        · rw [if_neg (I_le0 hpn (by omega)), hS.1.chr hn hpn]
          simp only [b1_some]
          have := (bare_pk (b0 := b0) (N := N) (K := K) (S := S) (R := R) (p := p) hT).1
          rw [pkIn hpn] at this
          rw [this, h0]
          simp only [b1_some, if_true]
          exact he
        · rw [if_pos (I_le1 (by omega) (by omega))]
          exact he
    · have hpn : p < n := by
        rcases Nat.lt_or_ge p n with g | g
        · exact g
        · rw [ch_out (by omega), bare0] at h1; exact absurd h1 (by decide)
      rw [h1, if_neg (show ¬ (1 : Int32) = 0 by decide)]
      by_cases hlim : 30 ≤ l.length
      · rw [if_pos (show (30 : Int32) ≤ I l.length from I_le1 (a := 30) hlim (by omega))]
        unfold x_R_readBare_76 x_R_readBare_96 x_R_wrong m_add m_fail
        rw [hS.sb_]
        simp only [b1_some, hS.ifk, hS.2.2.1.len]
        rw [if_neg (I_ne0 (by omega) (by omega)), hS.1.ifk, peek_eq hS.1 hn (by omega)]
        simp only [b1_some]
        rw [(bare_pk (R := R) hT).1, h1]
        simp only [b1_some]
        rw [if_neg (show ¬ (1 : Int32) = 0 by decide), hS.1.at_]
        simp only [b1_some, hS.1.ifk, hS.1.put, b2_some, rP_eq]
        rw [hR.2.2.2.2.1, if_pos (show I l.length = 30 by rw [show l.length = 30 by omega]; rfl)]
        simp only [true_or, if_true, b2_some]
        rcases SOutL.bad hS hR hp with ⟨q, l, S', R', vb', s, dc, ds, h1, h2, h3, h4, h5, h6, h7, h8, h9, h10, h11, h12, h13, h14⟩ | g
        · cases h3
        · exact .inr g
      · rw [if_neg (show ¬ (30 : Int32) ≤ I l.length from I_le0 (a := 30) (by omega) (by omega)), if_neg (I_le0 hpn (by omega)), hS.1.chr hn hpn]
        simp only [b1_some]
        have := (bare_pk (b0 := b0) (N := N) (K := K) (S := S) (R := R) (p := p) hT).1
        rw [pkIn hpn] at this
        rw [this, h1]
        simp only [b1_some]
        rw [if_neg (show ¬ (1 : Int32) = 0 by decide)]
        obtain ⟨S2, vb2, dc, ds, f1, f2, f3, f4, f5, f6⟩ := hS.app (N := N) (K := K) (lo_of hT hpn) (by omega) (p + 1)
        rw [f1]
        simp only [b4_some]
        rw [f2]
        simp only [b1_some, I_1]
        rw [f3]
        simp only [b1_some]
        rw [ch_in hpn]
        obtain ⟨R2, r1, r2, r3, r4, r5⟩ := hR.add (N := N) (pl := I p) hT (by omega) (c := t p) (by omega)
        rw [r1]
        simp only [b2_some]
        rw [if_neg (by decide), r4, hR.1.2.1, I_1]
        have hu := hR.2.2.2.2.2.2.1
        have hrec := ih k' (p + 1) _ _ (l ++ [t p]) vb2 (sz + dc) (by omega) (by omega) (by omega) (by omega) (by omega) (by simp; omega) f4 (r2 (p + 1) (by omega))
        refine SOutL.step hrec (by omega) f5 r3.at3 ?_ f6
        rw [Rw_1n _ _ (by decide), r5]
theorem pr_bare (hT : Tx t n) (hN : 1000 ≤ N) (hp : p ≤ n) (hS : SQ b0 S rd sb vb t n p l sz) (hR : RB R t n p hb u0) :
    SOut b0 S rd sb vb sz t n p R hb u0 (x_R_readBare N b0 K rd sz S) (m_bare N R) := by
  have hn := hT.1
  unfold x_R_readBare m_bare
  rw [hS.sb_]
  simp only [b1_some, hS.ifk]
  obtain ⟨S1, e1, e2, e3, e4⟩ := hS.set0 (N := N) (K := K)
  rw [e1, hR.beg hn]
  simp only [b3_some, b1_some, wr4_0]
  have q0 := hR.rq
  have hL := pr_bare_i (N := N) (K := K) (p0 := p) hT N N p _ _ [] vb sz hp (by omega) (by intro h; exact absurd rfl h) (by omega) (by omega) (by simp) e2 q0
  have := SOutL.step (dc := 0) (ds := 0) (S := S) (vb := vb) (p := p) (sz := sz) (R := R) hL (by omega) e3 FR.beg (by unfold begR; rw [Rw_1n _ _ (by decide), Rw_1n _ _ (by decide)]) (.inl ⟨rfl, rfl, rfl, e4⟩)
  rw [wr4_0] at this
  exact this.out
end
