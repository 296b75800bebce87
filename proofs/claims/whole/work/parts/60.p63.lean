section
variable {b0 N : Nat} {K S S' : cS} {sz : Nat} {t : Nat → Int32} {n : Nat} {R R' : rS} {u : Nat} {T T' : Ar} {ad : Nat → Nat} {m : Nat} {kd : Nat → List Nat} {o : Nat → Int32} {w c hf : Nat}
/-- Class and reference between two calls of the law, with n characters typed. -/
def Bo (b0 : Nat) (S : cS) (sz : Nat) (R : rS) (n : Nat) : Prop :=
  ∃ t o w T kd ad m c hf u, CS b0 S sz t n o w T kd ad m c ∧ RS R t n o w T hf m u c ∧ Tx t n
theorem CS.mono {sz' : Nat} (h : CS b0 S sz t n o w T kd ad m c) (hz : sz ≤ sz') : CS b0 S sz' t n o w T kd ad m c := by
  obtain ⟨c1, c2, c3, c4, c5, c6, c7, c8, c9, c10, c11, c12, c13, c14, c15, c16, c17, c18, c19, c20, c21, c22⟩ := h
  exact ⟨by omega, c2, c3, c4, c5, c6, c7, c8, c9, c10, c11, c12, c13, c14, c15, c16, c17.same (fun a _ _ => Same.refl _ _) hz, c18, c19, c20, c21, c22⟩
theorem Bo.mono {sz' : Nat} (h : Bo b0 S sz R n) (hz : sz ≤ sz') : Bo b0 S sz' R n := by
  obtain ⟨t, o, w, T, kd, ad, m, c, hf, u, h1, h2, h3⟩ := h
  exact ⟨t, o, w, T, kd, ad, m, c, hf, u, h1.mono hz, h2, h3⟩
theorem Bo.le (h : Bo b0 S sz R n) : n ≤ 240 ∧ b0 + 26 ≤ sz := by
  obtain ⟨t, o, w, T, kd, ad, m, c, hf, u, h1, h2, h3⟩ := h
  exact ⟨h3.1, h1.1⟩
theorem bo_new (h : S.1 b0 = 1) (g1 : R.1 1 = 0) (g5 : R.1 5 = 0) (g18 : R.1 18 = 0) (g29 : R.1 29 = 0) (h3 : R.2 3 0 = 7) (h5 : R.2 5 0 = -1) (h6 : R.2 6 0 = -1) (h4 : R.2 4 0 = 0) (h9 : R.2 9 0 = 0) : ∃ S', x_T_init N b0 K b0 (b0 + 1) S = some (S', 4, 850) ∧ Bo b0 S' (b0 + 26) R 0 := by
  obtain ⟨S', e1, e2⟩ := pr_new (N := N) (K := K) (t := fun _ => 0) (o := fun _ => 0) h
  exact ⟨S', e1, _, _, _, _, _, _, _, _, _, _, e2, pr_newR g1 g5 g18 g29 h3 h5 h6 h4 h9, by omega, fun i hi => by omega⟩
theorem bo_type (hN : 1000 ≤ N) (p1 : Int64) (p2 : Int32) (h : Bo b0 S sz R n) :
    (∃ x S' R' n', x_T_type N b0 K b0 p1 p2 S = some (x, S') ∧ m_type N p1 p2 R = some (x, R') ∧ R'.1 0 = 0 ∧ Bo b0 S' sz R' n' ∧ n' ≤ n + 8) ∨
    (∃ x R' e, xt_T_type N b0 K b0 p1 p2 S = some e ∧ e ≤ 1 ∧ m_type N p1 p2 R = some (x, R') ∧ R'.1 0 = I (e + 1) ∧ Bo b0 S sz R' n) := by
  obtain ⟨t, o, w, T, kd, ad, m, c, hf, u, h1, h2, h3⟩ := h
  rcases pr_type (N := N) (K := K) hN p1 p2 h3 h1 h2 with ⟨x, S', R', t', n', a1, a2, a3, a4, a5, a6, a7⟩ | ⟨x, R', e, a1, a2, a3, a4, a5⟩
  · exact .inl ⟨x, S', R', n', a1, a2, a3, ⟨t', o, w, T, kd, ad, m, c, hf, u, a4, a5, a6⟩, a7⟩
  · exact .inr ⟨x, R', e, a1, a2, a3, a4, ⟨t, o, w, T, kd, ad, m, c, hf, u, h1, a5, h3⟩⟩
theorem bo_read (hK : KF b0 K) (hN : 200000 ≤ N) (h : Bo b0 S sz R n) : ∃ x S' dc ds R', x_T_read N b0 K b0 sz S = some (x, S', dc, ds) ∧ m_read N R = some (x, R') ∧ Bo b0 S' (sz + dc) R' 0 ∧ dc ≤ 17 + 12 * n ∧ ds ≤ 539 + 500 * n := by
  obtain ⟨t, o, w, T, kd, ad, m, c, hf, u, h1, h2, h3⟩ := h
  obtain ⟨x, S', dc, ds, R', T', kd', ad', m', u', hf', c', a1, a2, a3, a4, a5, a6⟩ := pr_read hK h3 hN h1 h2
  exact ⟨x, S', dc, ds, R', a1, a2, ⟨t, o, w, T', kd', ad', m', c', hf', u', a3, a4, by omega, fun i hi => by omega⟩, a5, a6⟩
theorem bo_write (hK : KF b0 K) (hN : 200000 ≤ N) (h : Bo b0 S sz R n) : ∃ x S' R', x_T_write N b0 K b0 S = some (x, S') ∧ m_write N R = some (x, R') ∧ Bo b0 S' sz R' n := by
  obtain ⟨t, o, w, T, kd, ad, m, c, hf, u, h1, h2, h3⟩ := h
  obtain ⟨x, S', R', o', w', a1, a2, a3, a4, a5⟩ := pr_write hK hN h1 h2
  exact ⟨x, S', R', a1, a2, t, o', w', T, kd, ad, m, c, hf, u, a4, a5, h3⟩
theorem bo_written (p1 : Int32) (h : Bo b0 S sz R n) :
    (∃ x R', x_T_written N b0 K b0 p1 S = some x ∧ m_written N p1 R = some (x, R') ∧ R'.1 0 = 0 ∧ Bo b0 S sz R' n) ∨
    (∃ x R', xt_T_written N b0 K b0 p1 S = some 2 ∧ m_written N p1 R = some (x, R') ∧ R'.1 0 = 1 ∧ Bo b0 S sz R' n) := by
  obtain ⟨t, o, w, T, kd, ad, m, c, hf, u, h1, h2, h3⟩ := h
  rcases pr_written (N := N) (K := K) p1 h1 h2 with ⟨x, R', a1, a2, a3, a4⟩ | ⟨x, R', a1, a2, a3, a4⟩
  · exact .inl ⟨x, R', a1, a2, a3, t, o, w, T, kd, ad, m, c, hf, u, h1, a4, h3⟩
  · exact .inr ⟨x, R', a1, a2, a3, t, o, w, T, kd, ad, m, c, hf, u, h1, a4, h3⟩
theorem bo_top (h : Bo b0 S sz R n) : ∃ x S' R', x_T_top N b0 K b0 S = some (x, S') ∧ m_top N R = some (x, R') ∧ Bo b0 S' sz R' n := by
  obtain ⟨t, o, w, T, kd, ad, m, c, hf, u, h1, h2, h3⟩ := h
  obtain ⟨x, S', R', a1, a2, a3, a4⟩ := pr_top (N := N) (K := K) h1 h2
  exact ⟨x, S', R', a1, a2, t, o, w, T, kd, ad, m, 0, hf, u, a3, a4, h3⟩
theorem bo_kind (h : Bo b0 S sz R n) : ∃ x R', x_T_kind N b0 K b0 S = some x ∧ m_kind N R = some (x, R') ∧ Bo b0 S sz R' n := by
  obtain ⟨t, o, w, T, kd, ad, m, c, hf, u, h1, h2, h3⟩ := h
  obtain ⟨x, a1, a2⟩ := pr_kind (N := N) (K := K) h1 h2
  exact ⟨x, _, a1, a2, t, o, w, T, kd, ad, m, c, hf, u, h1, h2.th 0, h3⟩
theorem bo_value (h : Bo b0 S sz R n) : ∃ x R', x_T_value N b0 K b0 S = some x ∧ m_value N R = some (x, R') ∧ Bo b0 S sz R' n := by
  obtain ⟨t, o, w, T, kd, ad, m, c, hf, u, h1, h2, h3⟩ := h
  obtain ⟨x, a1, a2⟩ := pr_value (N := N) (K := K) h1 h2
  exact ⟨x, _, a1, a2, t, o, w, T, kd, ad, m, c, hf, u, h1, h2.th 0, h3⟩
theorem bo_down (hN : 1000 ≤ N) (p1 : Int32) (h : Bo b0 S sz R n) :
    (∃ x S' R', x_T_down N b0 K b0 p1 S = some (x, S') ∧ m_down N p1 R = some (x, R') ∧ R'.1 0 = 0 ∧ Bo b0 S' sz R' n) ∨
    (∃ x R', xt_T_down N b0 K b0 p1 S = some 2 ∧ m_down N p1 R = some (x, R') ∧ R'.1 0 = 1 ∧ Bo b0 S sz R' n) := by
  obtain ⟨t, o, w, T, kd, ad, m, c, hf, u, h1, h2, h3⟩ := h
  rcases pr_down (N := N) (K := K) hN p1 h1 h2 with ⟨x, S', R', c', a1, a2, a3, a4, a5⟩ | ⟨x, R', a1, a2, a3, a4⟩
  · exact .inl ⟨x, S', R', a1, a2, a3, t, o, w, T, kd, ad, m, c', hf, u, a4, a5, h3⟩
  · exact .inr ⟨x, R', a1, a2, a3, t, o, w, T, kd, ad, m, c, hf, u, h1, a4, h3⟩
theorem bo_up (h : Bo b0 S sz R n) :
    (∃ x S' R', x_T_up N b0 K b0 S = some (x, S') ∧ m_up N R = some (x, R') ∧ R'.1 0 = 0 ∧ Bo b0 S' sz R' n) ∨
    (∃ x R', xt_T_up N b0 K b0 S = some 1 ∧ m_up N R = some (x, R') ∧ R'.1 0 = 1 ∧ Bo b0 S sz R' n) := by
  obtain ⟨t, o, w, T, kd, ad, m, c, hf, u, h1, h2, h3⟩ := h
  rcases pr_up (N := N) (K := K) h1 h2 with ⟨x, S', R', c', a1, a2, a3, a4, a5⟩ | ⟨x, R', a1, a2, a3, a4⟩
  · exact .inl ⟨x, S', R', a1, a2, a3, t, o, w, T, kd, ad, m, c', hf, u, a4, a5, h3⟩
  · exact .inr ⟨x, R', a1, a2, a3, t, o, w, T, kd, ad, m, c, hf, u, h1, a4, h3⟩
theorem bo_letter (p1 : Int32) (h : Bo b0 S sz R n) :
    (∃ x R', x_T_letter N b0 K b0 p1 S = some x ∧ m_letter N p1 R = some (x, R') ∧ R'.1 0 = 0 ∧ Bo b0 S sz R' n) ∨
    (∃ x R' e, xt_T_letter N b0 K b0 p1 S = some e ∧ (e = 1 ∨ e = 2) ∧ m_letter N p1 R = some (x, R') ∧ R'.1 0 = I e ∧ Bo b0 S sz R' n) := by
  obtain ⟨t, o, w, T, kd, ad, m, c, hf, u, h1, h2, h3⟩ := h
  rcases pr_letter (N := N) (K := K) p1 h1 h2 with ⟨x, R', a1, a2, a3, a4⟩ | ⟨x, R', e, a1, a2, a3, a4, a5⟩
  · exact .inl ⟨x, R', a1, a2, a3, t, o, w, T, kd, ad, m, c, hf, u, h1, a4, h3⟩
  · exact .inr ⟨x, R', e, a1, a2, a3, a4, t, o, w, T, kd, ad, m, c, hf, u, h1, a5, h3⟩
theorem bo_key (p1 : Int32) (h : Bo b0 S sz R n) :
    (∃ x R', x_T_key N b0 K b0 p1 S = some x ∧ m_key N p1 R = some (x, R') ∧ R'.1 0 = 0 ∧ Bo b0 S sz R' n) ∨
    (∃ x R', xt_T_key N b0 K b0 p1 S = some 1 ∧ m_key N p1 R = some (x, R') ∧ R'.1 0 = 1 ∧ Bo b0 S sz R' n) := by
  obtain ⟨t, o, w, T, kd, ad, m, c, hf, u, h1, h2, h3⟩ := h
  rcases pr_key (N := N) (K := K) p1 h1 h2 with ⟨x, R', a1, a2, a3, a4⟩ | ⟨x, R', a1, a2, a3, a4⟩
  · exact .inl ⟨x, R', a1, a2, a3, t, o, w, T, kd, ad, m, c, hf, u, h1, a4, h3⟩
  · exact .inr ⟨x, R', a1, a2, a3, t, o, w, T, kd, ad, m, c, hf, u, h1, a4, h3⟩
end
