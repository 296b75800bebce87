section
variable {b0 N : Nat} {K S S' : cS} {sz : Nat} {t : Nat → Int32} {n : Nat} {R R' : rS} {u : Nat} {T T' : Ar} {ad : Nat → Nat} {m : Nat} {kd : Nat → List Nat} {o : Nat → Int32} {w c hf : Nat}
/-- The digits of a number, from the one of 10^e on. -/
def dgl (v : Nat) : Nat → List Int32
  | 0 => [I (48 + v % 10)]
  | e + 1 => I (48 + v / 10 ^ (e + 1) % 10) :: dgl v e
theorem dgl_len (v : Nat) : ∀ e, (dgl v e).length = e + 1
  | 0 => rfl
  | e + 1 => by unfold dgl; rw [List.length_cons, dgl_len v e]
theorem p10 {e : Nat} (h : e ≤ 8) : 10 ^ e ≤ 100000000 := by
  have := Nat.pow_le_pow_right (n := 10) (by decide) h
  exact this
theorem p10p (e : Nat) : 0 < 10 ^ e := Nat.pow_pos (by decide)
theorem dig_i {v : Nat} (hv : v < 1000000000) {e : Nat} (he : e ≤ 8) : (48 + ((I v / I (10 ^ e)) - (I v / I (10 ^ e)) / 10 * 10)) = I (48 + v / 10 ^ e % 10) := by
  have := p10 he
  have h2 : v / 10 ^ e ≤ v := Nat.div_le_self _ _
  rw [I_div (by omega) (by omega), show (10 : Int32) = I 10 from rfl, I_mod (by omega) (by omega), show (48 : Int32) = I 48 from rfl, I_add]
theorem nar16 : ∀ k, k < 256 → ((I k).toUInt32 % 65536).toInt32 = I k := by decide +kernel
theorem p10ne {e : Nat} (he : e ≤ 8) : ¬ I (10 ^ e) ≤ 0 ∧ ¬ I (10 ^ e) = 0 := by
  have := p10 he
  have := p10p e
  exact ⟨show ¬ I (10 ^ e) ≤ I 0 from I_le0 (by omega) (by omega), I_ne0 (by omega) (by omega)⟩
theorem digC_i {v : Nat} (hv : v < 1000000000) : ∀ (e f : Nat) (S : cS) (o : Nat → Int32) (w : Nat), e ≤ 8 → e + 1 < f → w + e < 1000000 → CS b0 S sz t n o w T kd ad m c → x_P_putDigits_37 N b0 K f (b0 + 2) (I v) (I (10 ^ e)) S = some (cw b0 w (dgl v e) S) := by
  intro e
  induction e with
  | zero =>
    intro f S o w he hf hw hC
    obtain ⟨f, rfl⟩ : ∃ x, f = x + 2 := ⟨f - 2, by omega⟩
    unfold x_P_putDigits_37 x_P_putDigits_37F
    rw [if_neg (p10ne he).1, if_neg (p10ne he).2, ifk_own (obA2 b0) hC.k5, dig_i hv he, nar16 _ (by omega), pC hC (by omega) ⟨_, by omega, rfl⟩, b1_some]
    unfold x_P_putDigits_37 x_P_putDigits_37F
    rw [if_pos (by decide), Nat.pow_zero, Nat.div_one]
    rfl
  | succ e ih =>
    intro f S o w he hf hw hC
    obtain ⟨f, rfl⟩ : ∃ x, f = x + 1 := ⟨f - 1, by omega⟩
    unfold x_P_putDigits_37 x_P_putDigits_37F
    have h8 := p10 he
    rw [if_neg (p10ne he).1, if_neg (p10ne he).2, ifk_own (obA2 b0) hC.k5, dig_i hv he, nar16 _ (by omega), pC hC (by omega) ⟨_, by omega, rfl⟩, b1_some, show (10 : Int32) = I 10 from rfl, I_div (by omega) (by omega), show 10 ^ (e + 1) / 10 = 10 ^ e by rw [Nat.pow_succ]; omega]
    rw [ih f _ _ (w + 1) (by omega) (by omega) (by omega) (hC.cwA _)]
    rfl
theorem digR_i {v : Nat} (hv : v < 1000000000) : ∀ (e f : Nat) (R : rS) (w : Nat), e ≤ 8 → e + 1 < f → w + e < 1000000 → R.1 29 = I w → m_putNumber_41 N f (I v) (I (10 ^ e)) R = some (rwl w (dgl v e) R) := by
  intro e
  have h29 : ∀ (w : Nat) (x : Int32) (R : rS), (rw1 w x R).1 29 = I (w + 1) := fun w x R => by unfold rw1; split <;> exact Rw_1 _ _ _
  induction e with
  | zero =>
    intro f R w he hf hw hR
    obtain ⟨f, rfl⟩ : ∃ x, f = x + 2 := ⟨f - 2, by omega⟩
    unfold m_putNumber_41 m_putNumber_41F
    rw [if_neg (p10ne he).1, if_neg (p10ne he).2, dig_i hv he, pRw hR (by omega), b1_some]
    unfold m_putNumber_41 m_putNumber_41F
    rw [if_pos (by decide), Nat.pow_zero, Nat.div_one]
    rfl
  | succ e ih =>
    intro f R w he hf hw hR
    obtain ⟨f, rfl⟩ : ∃ x, f = x + 1 := ⟨f - 1, by omega⟩
    unfold m_putNumber_41 m_putNumber_41F
    have h8 := p10 he
    rw [if_neg (p10ne he).1, if_neg (p10ne he).2, dig_i hv he, pRw hR (by omega), b1_some, show (10 : Int32) = I 10 from rfl, I_div (by omega) (by omega), show 10 ^ (e + 1) / 10 = 10 ^ e by rw [Nat.pow_succ]; omega]
    rw [ih f _ (w + 1) (by omega) (by omega) (by omega) (h29 _ _ _)]
    rfl
/-- How many digits: both agree. -/
theorem digs_C {v : Nat} (hv : v < 1000000000) {q : Nat} (hq : 1 ≤ q) (hq8 : q ≤ 8) {E : Nat} (hE : E ≤ 8) (h1 : q ≤ E + 1) (h2 : v < 10 ^ (E + 1)) (h3 : ∀ e, q ≤ e + 1 → e < E → 10 ^ (e + 1) ≤ v) : ∀ (d e f : Nat), e + d = E → d < f → x_P_putDigits_5 N b0 K f (b0 + 2) (I v) (I q) (I (10 ^ e)) (I (e + 1)) S = x_P_putDigits_37 N b0 K N (b0 + 2) (I v) (I (10 ^ E)) S := by
  intro d
  induction d with
  | zero =>
    intro e f he hf
    have : e = E := by omega
    subst this
    obtain ⟨f, rfl⟩ : ∃ x, f = x + 1 := ⟨f - 1, by omega⟩
    unfold x_P_putDigits_5 x_P_putDigits_5F
    have h8 := p10 hE
    by_cases h9 : 9 ≤ e + 1
    · rw [if_pos (show (9 : Int32) ≤ I (e + 1) from I_le1 (a := 9) h9 (by omega))]
    · rw [if_neg (show ¬ (9 : Int32) ≤ I (e + 1) from I_le0 (a := 9) (by omega) (by omega)), if_neg (I_lt0 (by omega) (by omega)), show (10 : Int32) = I 10 from rfl, I_div (by omega) (by omega), if_pos (I_lt1 (by rw [Nat.pow_succ] at h2; omega) (by omega))]
  | succ d ih =>
    intro e f he hf
    obtain ⟨f, rfl⟩ : ∃ x, f = x + 1 := ⟨f - 1, by omega⟩
    have h8 := p10 (e := e + 1) (by omega)
    have hst : x_P_putDigits_26 N b0 K (x_P_putDigits_5 N b0 K f) (b0 + 2) (I v) (I q) (I (10 ^ e)) (I (e + 1)) S = x_P_putDigits_37 N b0 K N (b0 + 2) (I v) (I (10 ^ E)) S := by
      unfold x_P_putDigits_26
      rw [show (10 : Int32) = I 10 from rfl, I_mul, ← Nat.pow_succ, I_1]
      exact ih (e + 1) f (by omega) (by omega)
    unfold x_P_putDigits_5 x_P_putDigits_5F
    rw [if_neg (show ¬ (9 : Int32) ≤ I (e + 1) from I_le0 (a := 9) (by omega) (by omega)), hst]
    by_cases hlt : e + 1 < q
    · rw [if_pos (I_lt1 hlt (by omega))]
    · have hp := p10 (e := e) (by omega)
      have := h3 e (by omega) (by omega)
      rw [if_neg (I_lt0 (by omega) (by omega)), show (10 : Int32) = I 10 from rfl, I_div (by omega) (by omega), if_neg (I_lt0 (by rw [Nat.pow_succ] at this; omega) (by omega))]
theorem digs_R2 {v : Nat} (hv : v < 1000000000) {q : Nat} {E : Nat} (hE : E ≤ 8) (h2 : v < 10 ^ (E + 1)) (h3 : ∀ e, q ≤ e + 1 → e < E → 10 ^ (e + 1) ≤ v) : ∀ (d e f : Nat), q ≤ e + 1 → e + d = E → d < f → m_putNumber_22 N f (I v) (I (10 ^ e)) R = m_putNumber_41 N N (I v) (I (10 ^ E)) R := by
  intro d
  induction d with
  | zero =>
    intro e f hqe he hf
    have : e = E := by omega
    subst this
    obtain ⟨f, rfl⟩ : ∃ x, f = x + 1 := ⟨f - 1, by omega⟩
    unfold m_putNumber_22 m_putNumber_22F
    have h8 := p10 hE
    have hlt : v / 10 ^ e < 10 := by rw [Nat.div_lt_iff_lt_mul (p10p e), Nat.mul_comm, ← Nat.pow_succ]; exact h2
    rw [if_neg (p10ne hE).2, I_div (by omega) (by omega), if_pos (show I (v / 10 ^ e) ≤ 9 from I_le1 (b := 9) (by omega) (by omega))]
  | succ d ih =>
    intro e f hqe he hf
    obtain ⟨f, rfl⟩ : ∃ x, f = x + 1 := ⟨f - 1, by omega⟩
    have hp := p10 (e := e) (by omega)
    have h3' := h3 e hqe (by omega)
    have hge : 10 ≤ v / 10 ^ e := by rw [Nat.le_div_iff_mul_le (p10p e), Nat.mul_comm, ← Nat.pow_succ]; exact h3'
    have hle : v / 10 ^ e ≤ v := Nat.div_le_self _ _
    unfold m_putNumber_22 m_putNumber_22F
    rw [if_neg (p10ne (by omega)).2, I_div (by omega) (by omega), if_neg (show ¬ I (v / 10 ^ e) ≤ 9 from I_le0 (b := 9) (by omega) (by omega)), show (10 : Int32) = I 10 from rfl, I_mul, ← Nat.pow_succ]
    exact ih (e + 1) f (by omega) (by omega) (by omega)
theorem digs_R {v : Nat} (hv : v < 1000000000) (hN : 1000 ≤ N) {q : Nat} (hq : 1 ≤ q) (hq8 : q ≤ 8) {E : Nat} (hE : E ≤ 8) (h1 : q ≤ E + 1) (h2 : v < 10 ^ (E + 1)) (h3 : ∀ e, q ≤ e + 1 → e < E → 10 ^ (e + 1) ≤ v) : ∀ (d e f : Nat), e + 1 + d = q → d < f → m_putNumber_5 N f (I v) (I q) (I (10 ^ e)) (I (e + 1)) R = m_putNumber_41 N N (I v) (I (10 ^ E)) R := by
  intro d
  induction d with
  | zero =>
    intro e f he hf
    obtain ⟨f, rfl⟩ : ∃ x, f = x + 1 := ⟨f - 1, by omega⟩
    unfold m_putNumber_5 m_putNumber_5F
    rw [if_pos (I_le1 (by omega) (by omega))]
    exact digs_R2 hv hE h2 h3 (E - e) e N (by omega) (by omega) (by omega)
  | succ d ih =>
    intro e f he hf
    obtain ⟨f, rfl⟩ : ∃ x, f = x + 1 := ⟨f - 1, by omega⟩
    unfold m_putNumber_5 m_putNumber_5F
    rw [if_neg (I_le0 (by omega) (by omega)), show (10 : Int32) = I 10 from rfl, I_mul, ← Nat.pow_succ, I_1]
    exact ih (e + 1) f (by omega) (by omega)
theorem exE {v : Nat} (hv : v < 1000000000) {q : Nat} (hq : 1 ≤ q) (hq8 : q ≤ 8) : ∃ E, E ≤ 8 ∧ q ≤ E + 1 ∧ v < 10 ^ (E + 1) ∧ ∀ e, q ≤ e + 1 → e < E → 10 ^ (e + 1) ≤ v := by
  have go : ∀ d e, e + d = 8 → q ≤ e + 1 → (∀ e', q ≤ e' + 1 → e' < e → 10 ^ (e' + 1) ≤ v) → ∃ E, E ≤ 8 ∧ q ≤ E + 1 ∧ v < 10 ^ (E + 1) ∧ ∀ e, q ≤ e + 1 → e < E → 10 ^ (e + 1) ≤ v := by
    intro d
    induction d with
    | zero => intro e he hqe h; exact ⟨8, by omega, by omega, hv, fun e' a b => h e' a (by omega)⟩
    | succ d ih =>
      intro e he hqe h
      by_cases hlt : v < 10 ^ (e + 1)
      · exact ⟨e, by omega, hqe, hlt, h⟩
      · refine ih (e + 1) (by omega) (by omega) (fun e' a b => ?_)
        by_cases g : e' = e
        · rw [g]; omega
        · exact h e' a (by omega)
  exact go (8 - (q - 1)) (q - 1) (by omega) (by omega) (fun e' a b => by omega)
/-- A number, of at least so many digits: both. -/
theorem putNum {v : Nat} (hv : v < 1000000000) (hN : 1000 ≤ N) {q : Nat} (hq : 1 ≤ q) (hq8 : q ≤ 8) : ∃ l : List Int32, l.length ≤ 9 ∧ (∀ (S : cS) (o : Nat → Int32) (w : Nat), w + 9 ≤ 1000000 → CS b0 S sz t n o w T kd ad m c → x_P_putDigits N b0 K (b0 + 2) (I v) (I q) S = some (cw b0 w l S)) ∧ (∀ (R : rS) (w : Nat), w + 9 ≤ 1000000 → R.1 29 = I w → m_putNumber N (I v) (I q) R = some (rwl w l R)) := by
  obtain ⟨E, h8, h1, h2, h3⟩ := exE hv hq hq8
  refine ⟨dgl v E, by rw [dgl_len]; omega, fun S o w hw hC => ?_, fun R w hw hR => ?_⟩
  · have e := digs_C (N := N) (b0 := b0) (K := K) (S := S) hv hq hq8 h8 h1 h2 h3 E 0 N (by omega) (by omega)
    unfold x_P_putDigits
    exact e.trans (digC_i hv E N S o w h8 (by omega) (by omega) hC)
  · have e := digs_R (N := N) (R := R) hv hN hq hq8 h8 h1 h2 h3 (q - 1) 0 N (by omega) (by omega)
    unfold m_putNumber
    exact e.trans (digR_i hv E N R w h8 (by omega) (by omega) hR)
end
