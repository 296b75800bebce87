section
variable {b0 N : Nat} {K S S' : cS} {sz : Nat} {t : Nat → Int32} {n : Nat} {R R' : rS} {u : Nat} {T T' : Ar} {ad : Nat → Nat} {m : Nat} {kd : Nat → List Nat} {o : Nat → Int32} {w c hf : Nat} {s : Nat} {l : List Int32} {v f0 : Nat}
theorem CS.nc (hC : CS b0 S sz t n o w T kd ad m c) {i : Nat} (hi : i < m) : NodeC b0 S T ad sz 0 i := hC.2.2.2.2.2.2.2.2.2.2.2.2.2.2.2.2.1.1 i hi
theorem CS.wf (hC : CS b0 S sz t n o w T kd ad m c) : WF T kd m := hC.2.2.2.2.2.2.2.2.2.2.2.2.2.2.2.2.2.1
theorem RS.nr (hR : RS R t n o w T hf m u c) {i : Nat} (hi : i < m) : NodeR R T hf u i := hR.2.2.2.2.2.2.2.1.1 i hi
theorem tab0 (hC : CS b0 S sz t n o w T kd ad m c) {i : Nat} (hi : i < m) : x_N_isTable N b0 K (ad i) S = some (if T.1 i < 7 then 0 else 1) := by
  have h := hC.nc hi
  unfold x_N_isTable
  rw [gI_own h.1 h.2.2.1, b1_some, h.2.2.2.1]
  split <;> rfl
theorem lis0 (hC : CS b0 S sz t n o w T kd ad m c) {i : Nat} (hi : i < m) : x_N_isList N b0 K (ad i) S = some (if T.1 i = 5 ∨ T.1 i = 6 then 1 else 0) := by
  have h := hC.nc hi
  unfold x_N_isList
  rw [gI_own h.1 h.2.2.1, b1_some, b1_some, h.2.2.2.1]
  by_cases h5 : T.1 i = 5
  · rw [if_pos h5, if_pos (.inl h5)]
  · rw [if_neg h5]
    by_cases h6 : T.1 i = 6
    · rw [if_pos h6, if_pos (.inr h6)]
    · rw [if_neg h6, if_neg (fun g => g.elim h5 h6)]
theorem truR_i {a : Int32} (ha : a = 0 ∨ a = 1) (hv : v < 520) (hl : 5 - a = I l.length) (hl5 : l.length ≤ 5) (hlt : ∀ (j : Nat) (x : Int32) (R : rS), l[j]? = some x → m_letterOf N a (I j) R = some x) : ∀ (d j f : Nat) (R : rS) (w : Nat), j + d = l.length → d < f → w + d ≤ 1000000 → R.1 29 = I w → R.2 4 v = a → m_putHead_67 N f (I v) (I j) R = some (rwl w (l.drop j) R) := by
  intro d
  induction d with
  | zero =>
    intro j f R w hj hf hw hR h
    obtain ⟨f, rfl⟩ : ∃ x, f = x + 1 := ⟨f - 1, by omega⟩
    unfold m_putHead_67 m_putHead_67F
    rw [rL_eq hv (by omega), b1_some, h, hl, if_pos (I_le1 (by omega) (by omega)), List.drop_eq_nil_of_le (by omega)]
    rfl
  | succ d ih =>
    intro j f R w hj hf hw hR h
    obtain ⟨f, rfl⟩ : ∃ x, f = x + 1 := ⟨f - 1, by omega⟩
    have hx : l[j]? = some l[j] := List.getElem?_eq_getElem (by omega)
    have hst : m_putHead_96 N (m_putHead_67 N f) (I v) (I j) a R = some (rwl w (l.drop j) R) := by
      unfold m_putHead_96
      rw [hlt j _ R hx, b1_some, pRw hR (by omega), b1_some, I_1, ih (j + 1) f _ (w + 1) (by omega) (by omega) (by omega) (rw1_29 _ _ _) (by rw [rw1_n _ _ _ (by decide)]; exact h), List.drop_eq_getElem_cons (show j < l.length by omega)]
      rfl
    unfold m_putHead_67 m_putHead_67F
    rw [rL_eq hv (by omega), b1_some, h, hl, if_neg (I_le0 (by omega) (by omega)), b1_some]
    rcases ha with g | g
    · rw [g, if_neg (show ¬ (0 : Int32) = 1 by decide), ← g]; exact hst
    · rw [g, if_pos rfl, ← g]; exact hst
theorem Int32_neg_neg_ (x : Int32) : - -x = x := Int32.neg_neg
theorem negI {y : Nat} (h0 : 0 < y) (h : y < 1000000000) : ¬ (0 : Int32) ≤ -(I y) := by
  rw [Int32.le_iff_toInt_le, I_neg0, show (0 : Int32) - I y = I 0 - I y from rfl, I_subI (by omega) (by omega)]
  have : (0 : Int32).toInt = 0 := by decide
  omega
theorem okn {x : Int32} (h : ∃ y, y < 1000000000 ∧ (x = I y ∨ x = -(I y))) : (∃ y, y < 1000000000 ∧ x = I y) ∨ (∃ y, 0 < y ∧ y < 1000000000 ∧ x = -(I y)) := by
  obtain ⟨y, hy, g | g⟩ := h
  · exact .inl ⟨y, hy, g⟩
  · rcases Nat.eq_zero_or_pos y with e | e
    · exact .inl ⟨0, by omega, by rw [g, e]; rfl⟩
    · exact .inr ⟨y, e, hy, g⟩
/-- How a value begins: in both the same. -/
theorem pr_head (hK : KF b0 K) (hN : 200000 ≤ N) (hC : CS b0 S sz t n o w T kd ad m c) (hR : RS R t n o w T hf m u c) {i : Nat} (hi : i < m) (hw : w + 100 ≤ 1000000) :
    ∃ q : List Int32, q.length ≤ 62 ∧ x_P_putBeginning_21 N b0 K (b0 + 2) (ad i) S = some (cw b0 w q S) ∧ m_putHead N (I (260 * hf + i)) R = some (rwl w q R) := by
  have nc := hC.nc hi
  have nr := hR.nr hi
  have hf1 : hf ≤ 1 := hR.2.2.2.2.1
  have hm : m ≤ 242 := hR.2.2.2.2.2.2.2.2.1
  have h29 : R.1 29 = I w := hR.2.2.1
  have hv := hC.wf.2.2.2.2 i hi
  have k5 := hC.k5
  have hv5 : 260 * hf + i < 520 := by omega
  unfold x_P_putBeginning_21 m_putHead
  rw [ifk_own nc.1 nc.2.2.1, tab0 hC hi, b1_some, rL_eq hv5 (by omega), b1_some, nr.1]
  rcases hv with ⟨hv, hvn⟩ | ⟨h3, ls, hls, hamt⟩ | ⟨hv, hvn⟩
  · have hs0 := nc.2.2.2.2.2.2.1.1 hvn
    rcases hv with ⟨hk, hy⟩ | ⟨hk, hy⟩ | ⟨hk, y, hy, hx⟩
    · -- a number
      have e4 : R.2 4 (260 * hf + i) = T.2.1 i := nr.2.2.1 (by rw [hk]; rintro (g | g); exact absurd g (by decide); exact absurd g (by decide))
      rw [hk, if_pos (show (1 : Int32) < 7 by decide), if_pos rfl, ifk_own nc.1 nc.2.2.1, lis0 hC hi, b1_some, hk, if_neg (show ¬ ((1 : Int32) = 5 ∨ (1 : Int32) = 6) by decide), if_pos rfl, gR_own nc.1 nc.2.2.1, b1_some, hs0, om_none, gI_own nc.1 nc.2.2.1, b1_some, nc.2.2.2.1, hk, if_neg (show ¬ (1 : Int32) = 2 by decide), b1_some, if_neg (show ¬ (1 : Int32) = 4 by decide), gI_own nc.1 nc.2.2.1, b1_some, nc.2.2.2.2.1, ifk_own (obA2 b0) k5, if_pos rfl, rL_eq hv5 (by omega), b1_some, e4]
      rcases okn hy with ⟨y, hy, hx⟩ | ⟨y, hy0, hy, hx⟩
      · obtain ⟨q, hq, g1, g2⟩ := putNum (b0 := b0) (K := K) (sz := sz) (t := t) (n := n) (T := T) (kd := kd) (ad := ad) (m := m) (c := c) (N := N) hy (by omega) (q := 1) (by omega) (by omega)
        refine ⟨q, by omega, ?_, ?_⟩
        · unfold x_P_putNumber x_P_putNumber_10 x_Ma_abs
          rw [hx, if_pos (I_nn' (by omega)), if_pos (I_nn' (by omega)), b1_some, ifk_own (obA2 b0) k5, show (1 : Int32) = I 1 from rfl, g1 S o w (by omega) hC, b1_some, b1_some]
        · unfold m_putHead_27 m_putHead_53
          rw [hx, if_pos (I_nn' (by omega)), rL_eq hv5 (by omega), b1_some, e4, hx, if_pos (I_nn' (by omega)), b1_some, show (1 : Int32) = I 1 from rfl, g2 R w (by omega) h29, b1_some]
      · obtain ⟨q, hq, g1, g2⟩ := putNum (b0 := b0) (K := K) (sz := sz) (t := t) (n := n) (T := T) (kd := kd) (ad := ad) (m := m) (c := c) (N := N) hy (by omega) (q := 1) (by omega) (by omega)
        refine ⟨45 :: q, by rw [List.length_cons]; omega, ?_, ?_⟩
        · unfold x_P_putNumber x_P_putNumber_10 x_Ma_abs
          rw [hx, if_neg (negI hy0 hy), ifk_own (obA2 b0) k5, pC (x := 45) hC (by omega) ⟨45, by omega, rfl⟩, b1_some, if_neg (negI hy0 hy), b1_some, Int32_neg_neg_, ifk_own (obA2 b0) (hC.cwA 45).k5, show (1 : Int32) = I 1 from rfl, g1 _ _ (w + 1) (by omega) (hC.cwA 45), b1_some, b1_some]
          rfl
        · unfold m_putHead_27 m_putHead_53
          rw [hx, if_neg (negI hy0 hy), pRw h29 (by omega), b1_some, rL_eq hv5 (by omega), b1_some, rw1_n _ _ _ (by decide), e4, hx, if_neg (negI hy0 hy), b1_some, Int32_neg_neg_, show (1 : Int32) = I 1 from rfl, g2 _ (w + 1) (by omega) (rw1_29 _ _ _), b1_some]
          rfl
    · -- a truth
      have e4 : R.2 4 (260 * hf + i) = T.2.1 i := nr.2.2.1 (by rw [hk]; rintro (g | g); exact absurd g (by decide); exact absurd g (by decide))
      rw [hk, if_pos (show (2 : Int32) < 7 by decide), if_pos rfl, ifk_own nc.1 nc.2.2.1, lis0 hC hi, b1_some, hk, if_neg (show ¬ ((2 : Int32) = 5 ∨ (2 : Int32) = 6) by decide), if_pos rfl, gR_own nc.1 nc.2.2.1, b1_some, hs0, om_none, gI_own nc.1 nc.2.2.1, b1_some, nc.2.2.2.1, hk, if_pos rfl, gI_own nc.1 nc.2.2.1, b1_some, nc.2.2.2.2.1, if_neg (show ¬ (2 : Int32) = 1 by decide), if_pos rfl]
      unfold x_P_putBeginning_95
      rcases hy with hy | hy
      · obtain ⟨a, ha, -, hst⟩ := hK.2.2.2.2.2.2.2.2.1
        refine ⟨falseL, by decide, ?_, ?_⟩
        · rw [hy, if_neg (show ¬ (0 : Int32) = 1 by decide), show K.2.2.2 0 7 = some a from ha, b1_some, ifk_own (obA2 b0) k5, putAllS hN (by show w + 5 ≤ _; omega) hC (hst S), b1_some]
        · exact truR_i (l := falseL) (a := 0) (.inl rfl) hv5 (by decide) (by decide) (fun j x R h => (letF j x h).1) 5 0 N R w (by decide) (by omega) (by omega) h29 (by rw [e4, hy])
      · obtain ⟨a, ha, -, hst⟩ := hK.2.2.2.2.2.2.2.1
        refine ⟨trueL, by decide, ?_, ?_⟩
        · rw [hy, if_pos rfl, show K.2.2.2 0 6 = some a from ha, b1_some, ifk_own (obA2 b0) k5, putAllS hN (by show w + 4 ≤ _; omega) hC (hst S), b1_some]
        · exact truR_i (l := trueL) (a := 1) (.inr rfl) hv5 (by decide) (by decide) (fun j x R h => (letT j x h).1) 4 0 N R w (by decide) (by omega) (by omega) h29 (by rw [e4, hy])
    · -- a date
      have e4 : R.2 4 (260 * hf + i) = T.2.1 i := nr.2.2.1 (by rw [hk]; rintro (g | g); exact absurd g (by decide); exact absurd g (by decide))
      rw [hk, if_pos (show (4 : Int32) < 7 by decide), if_pos rfl, ifk_own nc.1 nc.2.2.1, lis0 hC hi, b1_some, hk, if_neg (show ¬ ((4 : Int32) = 5 ∨ (4 : Int32) = 6) by decide), if_pos rfl, gR_own nc.1 nc.2.2.1, b1_some, hs0, om_none, gI_own nc.1 nc.2.2.1, b1_some, nc.2.2.2.1, hk, if_neg (show ¬ (4 : Int32) = 2 by decide), b1_some, if_pos rfl, gI_own nc.1 nc.2.2.1, b1_some, nc.2.2.2.2.1, ifk_own (obA2 b0) k5, if_neg (show ¬ (4 : Int32) = 1 by decide), if_neg (show ¬ (4 : Int32) = 3 by decide), if_pos rfl, rL_eq hv5 (by omega), b1_some, e4]
      have d1 : T.2.1 i / 10000 = I (y / 10000) := by rw [hx, show (10000 : Int32) = I 10000 from rfl, I_div (by omega) (by omega)]
      have d2 : T.2.1 i / 100 - T.2.1 i / 100 / 100 * 100 = I (y / 100 % 100) := by rw [hx, show (100 : Int32) = I 100 from rfl, I_div (by omega) (by omega), I_mod (by omega) (by omega)]
      have d3 : T.2.1 i - T.2.1 i / 100 * 100 = I (y % 100) := by rw [hx, show (100 : Int32) = I 100 from rfl, I_mod (by omega) (by omega)]
      obtain ⟨q1, hq1, a1, a2⟩ := putNum (b0 := b0) (K := K) (sz := sz) (t := t) (n := n) (T := T) (kd := kd) (ad := ad) (m := m) (c := c) (N := N) (v := y / 10000) (by omega) (by omega) (q := 4) (by omega) (by omega)
      obtain ⟨q2, hq2, a3, a4⟩ := putNum (b0 := b0) (K := K) (sz := sz) (t := t) (n := n) (T := T) (kd := kd) (ad := ad) (m := m) (c := c) (N := N) (v := y / 100 % 100) (by omega) (by omega) (q := 2) (by omega) (by omega)
      obtain ⟨q3, hq3, a5, a6⟩ := putNum (b0 := b0) (K := K) (sz := sz) (t := t) (n := n) (T := T) (kd := kd) (ad := ad) (m := m) (c := c) (N := N) (v := y % 100) (by omega) (by omega) (q := 2) (by omega) (by omega)
      refine ⟨q1 ++ (45 :: (q2 ++ (45 :: q3))), by simp only [List.length_append, List.length_cons]; omega, ?_, ?_⟩
      · unfold x_P_putDate
        have s1 := hC.cwL q1
        have s2 := s1.cwA 45
        have s3 := s2.cwL q2
        have s4 := s3.cwA 45
        rw [d1, d2, d3, ifk_own (obA2 b0) k5, show (4 : Int32) = I 4 from rfl, show (2 : Int32) = I 2 from rfl, a1 S o w (by omega) hC, b1_some, ifk_own (obA2 b0) s1.k5, pC (x := 45) s1 (by omega) ⟨45, by omega, rfl⟩, b1_some, ifk_own (obA2 b0) s2.k5, a3 _ _ _ (by omega) s2, b1_some, ifk_own (obA2 b0) s3.k5, pC (x := 45) s3 (by omega) ⟨45, by omega, rfl⟩, b1_some, ifk_own (obA2 b0) s4.k5, a5 _ _ _ (by omega) s4, b1_some, b1_some]
        rw [cw_app]
        show _ = some (cw b0 _ (q2 ++ (45 :: q3)) _)
        rw [cw_app]
        rfl
      · have r1 := rwl_29 q1 w R h29
        have r2 := rw1_29 (w + q1.length) 45 (rwl w q1 R)
        have r3 := rwl_29 q2 _ _ r2
        have r4 := rw1_29 (w + q1.length + 1 + q2.length) 45 (rwl (w + q1.length + 1) q2 (rw1 (w + q1.length) 45 (rwl w q1 R)))
        have f1 : (rw1 (w + q1.length) 45 (rwl w q1 R)).2 4 (260 * hf + i) = T.2.1 i := by rw [rw1_n _ _ _ (by decide), rwl_n _ _ _ (by decide)]; exact e4
        have f2 : (rw1 (w + q1.length + 1 + q2.length) 45 (rwl (w + q1.length + 1) q2 (rw1 (w + q1.length) 45 (rwl w q1 R)))).2 4 (260 * hf + i) = T.2.1 i := by rw [rw1_n _ _ _ (by decide), rwl_n _ _ _ (by decide)]; exact f1
        rw [d1, show (4 : Int32) = I 4 from rfl, show (2 : Int32) = I 2 from rfl, a2 R w (by omega) h29, b1_some, pRw r1 (by omega), b1_some, rL_eq hv5 (by omega), b1_some, f1, d2, a4 _ _ (by omega) r2, b1_some, pRw r3 (by omega), b1_some, rL_eq hv5 (by omega), b1_some, f2, d3, a6 _ _ (by omega) r4, b1_some]
        rw [rwl_app]
        show _ = some (rwl _ (q2 ++ (45 :: q3)) _)
        rw [rwl_app]
        rfl
  · -- a string
    obtain ⟨s, e1, e2⟩ := nc.2.2.2.2.2.2.1.2 ls hls
    have hs : Str b0 K S s ls := e2.str
    obtain ⟨q1, ⟨f, q2, q3, q4, q5⟩, q6⟩ := nr.2.2.2.2.2.2.2.1 ls hls
    have hl30 : ls.length ≤ 30 := by obtain ⟨v, g⟩ := e2; exact g.2.2.2.2.2.2.2.2.2.2.1
    have hu : u ≤ 300 := hR.2.2.2.2.2.2.2.2.2
    have e9 : R.2 9 (260 * hf + i) = I ls.length := by rw [nr.2.1 (.inl q1), q6]
    rw [h3, if_pos (show (3 : Int32) < 7 by decide), if_pos rfl, ifk_own nc.1 nc.2.2.1, lis0 hC hi, b1_some, h3, if_neg (show ¬ ((3 : Int32) = 5 ∨ (3 : Int32) = 6) by decide), if_pos rfl, gR_own nc.1 nc.2.2.1, b1_some, e1, om_some, b1_some, ifk_own (obA2 b0) k5, if_neg (show ¬ (3 : Int32) = 1 by decide), if_neg (show ¬ (3 : Int32) = 2 by decide), if_pos rfl, rL_eq hv5 (by omega), b1_some, q2, rL_eq hv5 (by omega), b1_some, e9]
    have hq := qtl_len ls
    refine ⟨34 :: qtl ls, by rw [List.length_cons]; omega, ?_, ?_⟩
    · rw [quoC hK hN (by omega) hC hs, b1_some]
    · rw [quoR (by omega) (by omega) h29 ⟨by omega, q5⟩, b1_some]
  · -- a list or a table
    have hh : (T.1 i = 5 ∨ T.1 i = 6) ∨ (T.1 i = 7 ∨ T.1 i = 8 ∨ T.1 i = 9 ∨ T.1 i = 10) := by
      rcases hv with g | ⟨g, _⟩ | g | g | g | g
      · exact .inl (.inl g)
      · exact .inl (.inr g)
      · exact .inr (.inl g)
      · exact .inr (.inr (.inl g))
      · exact .inr (.inr (.inr (.inl g)))
      · exact .inr (.inr (.inr (.inr g)))
    rcases hh with hh | hh
    · have z : T.1 i < 7 ∧ T.1 i ≤ 6 ∧ T.1 i ≠ 1 ∧ T.1 i ≠ 2 ∧ T.1 i ≠ 3 ∧ T.1 i ≠ 4 := by rcases hh with g | g <;> rw [g] <;> decide
      refine ⟨[91], by decide, ?_, ?_⟩
      · rw [if_pos z.1, if_pos rfl, ifk_own nc.1 nc.2.2.1, lis0 hC hi, b1_some, if_pos hh, if_neg (show ¬ (1 : Int32) = 0 by decide), ifk_own (obA2 b0) k5, pC (x := 91) hC (by omega) ⟨91, by omega, rfl⟩, b1_some]
        rfl
      · unfold m_putHead_216
        rw [if_neg z.2.2.1, if_neg z.2.2.2.1, if_neg z.2.2.2.2.1, if_neg z.2.2.2.2.2, if_pos z.2.1, pRw h29 (by omega), b1_some]
        rfl
    · have z : ¬ T.1 i < 7 ∧ ¬ T.1 i ≤ 6 ∧ T.1 i ≠ 1 ∧ T.1 i ≠ 2 ∧ T.1 i ≠ 3 ∧ T.1 i ≠ 4 := by rcases hh with g | g | g | g <;> rw [g] <;> decide
      refine ⟨[123], by decide, ?_, ?_⟩
      · rw [if_neg z.1, if_neg (show ¬ (1 : Int32) = 0 by decide), ifk_own (obA2 b0) k5, pC (x := 123) hC (by omega) ⟨123, by omega, rfl⟩, b1_some]
        rfl
      · unfold m_putHead_216
        rw [if_neg z.2.2.1, if_neg z.2.2.2.1, if_neg z.2.2.2.2.1, if_neg z.2.2.2.2.2, if_neg z.2.1, pRw h29 (by omega), b1_some]
        rfl
end
