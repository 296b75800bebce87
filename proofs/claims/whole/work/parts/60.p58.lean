section
variable {b0 N : Nat} {K S S' : cS} {sz : Nat} {t : Nat → Int32} {n : Nat} {R R' : rS} {u : Nat} {T T' : Ar} {ad : Nat → Nat} {m : Nat} {kd : Nat → List Nat} {o : Nat → Int32} {w c hf : Nat} {s : Nat} {l : List Int32} {v f0 : Nat}
/-- An entry: its key, where it has one, and how its value begins. -/
theorem pr_ent (hK : KF b0 K) (hN : 200000 ≤ N) (hC : CS b0 S sz t n o w T kd ad m c) (hR : RS R t n o w T hf m u c) {i h : Nat} (hi : i < m) (h4 : T.2.2.1 i 4 = some h) (hw : w + 300 ≤ 1000000) :
    ∃ q1 q2 : List Int32, q1.length + q2.length ≤ 127 ∧ x_P_putBeginning N b0 K (b0 + 2) (some (ad i)) S = some (cw b0 w (q1 ++ q2) S) ∧ (6 < T.1 h → m_putKey N (I (260 * hf + i)) R = some (rwl w q1 R)) ∧ m_putHead N (I (260 * hf + i)) (rwl w q1 R) = some (rwl (w + q1.length) q2 (rwl w q1 R)) ∧ m_putEntry N (I (260 * hf + i)) R = some (rwl w (q1 ++ q2) R) := by
  have nc := hC.nc hi
  have nr := hR.nr hi
  have hf1 : hf ≤ 1 := hR.2.2.2.2.1
  have hm : m ≤ 242 := hR.2.2.2.2.2.2.2.2.1
  have hu : u ≤ 300 := hR.2.2.2.2.2.2.2.2.2
  have h29 : R.1 29 = I w := hR.2.2.1
  have hh := (hC.wf.2.2.1 i h hi h4).1
  have nh := hR.nr hh
  have w0 := hC.wf.2.2.2.1 i hi
  have hent : ∀ z : Int32, m_isTable N (I (260 * hf + h)) R = some z → m_putEntry N (I (260 * hf + i)) R = if z = 0 then m_putEntry_18 N (I (260 * hf + i)) R else b1 (m_putKey N (I (260 * hf + i)) R) (fun S6 => m_putEntry_18 N (I (260 * hf + i)) S6) := by
    intro z hz
    unfold m_putEntry
    rw [rL_eq (by show _ < 520; omega) (by omega), b1_some, nr.2.2.2.1, h4, show enc hf (some h) = I (260 * hf + h) from rfl, hz, b1_some]
  have hz : m_isTable N (I (260 * hf + h)) R = if T.1 h ≤ 6 then some 0 else some 1 := by
    unfold m_isTable
    rw [rL_eq (by show _ < 520; omega) (by omega), b1_some, nh.1]
  unfold x_P_putBeginning
  rw [b1_some, gR_own nc.1 nc.2.2.1, b1_some]
  cases hl : T.2.2.2.2 i with
  | none =>
    have hnt : ¬ 6 < T.1 h := fun g => (w0.2 ⟨h, h4, g⟩) hl
    obtain ⟨q2, g1, g2, g3⟩ := pr_head hK hN hC hR hi (by omega)
    rw [if_pos (Int32.not_lt.1 hnt)] at hz
    refine ⟨[], q2, by show 0 + _ ≤ _; omega, ?_, fun g => absurd g hnt, g3, ?_⟩
    · rw [nc.2.2.2.2.2.2.2.1 hl, om_none]; exact g2
    · rw [hent 0 hz, if_pos rfl]
      unfold m_putEntry_18
      rw [g3, b1_some]; rfl
  | some ls =>
    obtain ⟨h', e4, h6⟩ := w0.1 (by rw [hl]; simp)
    rw [h4] at e4; cases e4
    obtain ⟨s, e1, e2⟩ := nc.2.2.2.2.2.2.2.2 ls hl
    have hs : Str b0 K S s ls := e2.str
    obtain ⟨⟨f, q2, q3, q4, q5⟩, q6⟩ := nr.2.2.2.2.2.2.2.2 ls hl
    have hl30 : ls.length ≤ 30 := by obtain ⟨v, g⟩ := e2; exact g.2.2.2.2.2.2.2.2.2.2.1
    have hky : KyR R (260 * hf + i) f ls := ⟨by omega, q2, q6, by omega, q5⟩
    obtain ⟨q, a1, a2, a3⟩ := pr_name hK hN hC hs h29 hky (by omega)
    have C1 := hC.cwL (q ++ eqL)
    have R1 := hR.rwL (q ++ eqL)
    have hql : (q ++ eqL).length = q.length + 3 := by rw [List.length_append]; rfl
    obtain ⟨p2, g1, g2, g3⟩ := pr_head hK hN C1 R1 hi (by omega)
    rw [if_neg (fun g => Int32.not_lt.2 g h6)] at hz
    obtain ⟨a, ha, -, hst⟩ := hK.2.2.2.2.2.2.1
    have C0 := hC.cwL q
    refine ⟨q ++ eqL, p2, by omega, ?_, fun _ => a3, g3, ?_⟩
    · rw [e1, om_some, b1_some, ifk_own (obA2 b0) hC.k5, a2, b1_some, show K.2.2.2 0 5 = some a from ha, b1_some, ifk_own (obA2 b0) C0.k5, putAllS hN (by show w + q.length + 3 ≤ _; omega) C0 (hst _), b1_some, show cw b0 (w + q.length) [32, 61, 32] (cw b0 w q S) = cw b0 w (q ++ eqL) S from (cw_app _ _ _ _).symm, g2, cw_app (q ++ eqL) p2 w S]
    · rw [hent 1 hz, if_neg (show ¬ (1 : Int32) = 0 by decide), a3, b1_some]
      unfold m_putEntry_18
      rw [g3, b1_some, rwl_app (q ++ eqL) p2 w R]
def endL (k : Int32) : List Int32 := if 6 < k then [125] else if 4 < k then [93] else []
theorem endL_len (k : Int32) : (endL k).length ≤ 1 := by unfold endL; split <;> (try split) <;> simp
theorem kinds (hC : CS b0 S sz t n o w T kd ad m c) {i : Nat} (hi : i < m) : (T.1 i = 1 ∨ T.1 i = 2 ∨ T.1 i = 3 ∨ T.1 i = 4) ∨ (T.1 i = 5 ∨ T.1 i = 6) ∨ (T.1 i = 7 ∨ T.1 i = 8 ∨ T.1 i = 9 ∨ T.1 i = 10) := by
  rcases hC.wf.2.2.2.2 i hi with ⟨hv, hvn⟩ | ⟨h3, ls, hls, hamt⟩ | ⟨hv, hvn⟩
  · rcases hv with ⟨hk, hy⟩ | ⟨hk, hy⟩ | ⟨hk, y, hy, hx⟩
    · exact .inl (.inl hk)
    · exact .inl (.inr (.inl hk))
    · exact .inl (.inr (.inr (.inr hk)))
  · exact .inl (.inr (.inr (.inl h3)))
  · rcases hv with g | ⟨g, _⟩ | g | g | g | g
    · exact .inr (.inl (.inl g))
    · exact .inr (.inl (.inr g))
    · exact .inr (.inr (.inl g))
    · exact .inr (.inr (.inr (.inl g)))
    · exact .inr (.inr (.inr (.inr (.inl g))))
    · exact .inr (.inr (.inr (.inr (.inr g))))
theorem endC (hC : CS b0 S sz t n o w T kd ad m c) {i : Nat} (hi : i < m) (hw : w < 1000000) : x_P_putEnd N b0 K (b0 + 2) (some (ad i)) S = some (cw b0 w (endL (T.1 i)) S) := by
  have nc := hC.nc hi
  have k5 := hC.k5
  unfold x_P_putEnd endL
  rw [b1_some, ifk_own nc.1 nc.2.2.1, tab0 hC hi, b1_some, ifk_own nc.1 nc.2.2.1, lis0 hC hi, b1_some]
  rcases kinds hC hi with hk | hk | hk
  · have z : T.1 i < 7 ∧ ¬ (T.1 i = 5 ∨ T.1 i = 6) ∧ ¬ 6 < T.1 i ∧ ¬ 4 < T.1 i := by rcases hk with g | g | g | g <;> rw [g] <;> decide
    rw [if_pos z.1, if_pos rfl, if_neg z.2.1, if_pos rfl, if_neg z.2.2.1, if_neg z.2.2.2]; rfl
  · have z : T.1 i < 7 ∧ ¬ 6 < T.1 i ∧ 4 < T.1 i := by rcases hk with g | g <;> rw [g] <;> decide
    rw [if_pos z.1, if_pos rfl, if_pos hk, if_neg (show ¬ (1 : Int32) = 0 by decide), if_neg z.2.1, if_pos z.2.2, ifk_own (obA2 b0) k5, pC (x := 93) hC hw ⟨93, by omega, rfl⟩, b1_some]; rfl
  · have z : ¬ T.1 i < 7 ∧ 6 < T.1 i := by rcases hk with g | g | g | g <;> rw [g] <;> decide
    rw [if_neg z.1, if_neg (show ¬ (1 : Int32) = 0 by decide), if_pos z.2, ifk_own (obA2 b0) k5, pC (x := 125) hC hw ⟨125, by omega, rfl⟩, b1_some]; rfl
theorem endR (hC : CS b0 S sz t n o w T kd ad m c) (hR : RS R t n o w T hf m u c) {i : Nat} (hi : i < m) (hw : w < 1000000) {G : Int32 → Int32 → Int32 → Int32 → rS → Option rS} {y : Int32} : m_putValue_54 N G y (I (260 * hf + i)) R = m_putValue_84 N G y (I (260 * hf + i)) (rwl w (endL (T.1 i)) R) := by
  have nr := hR.nr hi
  have hf1 : hf ≤ 1 := hR.2.2.2.2.1
  have hm : m ≤ 242 := hR.2.2.2.2.2.2.2.2.1
  have h29 : R.1 29 = I w := hR.2.2.1
  unfold m_putValue_54 m_putValue_81 m_holds endL
  rw [rL_eq (by show _ < 520; omega) (by omega), b1_some, b1_some, nr.1]
  rcases kinds hC hi with hk | hk | hk
  · have z : T.1 i ≤ 4 ∧ ¬ 6 < T.1 i ∧ ¬ 4 < T.1 i := by rcases hk with g | g | g | g <;> rw [g] <;> decide
    rw [if_pos z.1, b1_some, if_pos rfl, if_neg z.2.1, if_neg z.2.2]; rfl
  · have z : ¬ T.1 i ≤ 4 ∧ ¬ 6 < T.1 i ∧ 4 < T.1 i ∧ T.1 i ≤ 6 := by rcases hk with g | g <;> rw [g] <;> decide
    rw [if_neg z.1, b1_some, if_neg (show ¬ (1 : Int32) = 0 by decide), if_neg z.2.1, if_pos z.2.2.1, if_pos z.2.2.2, pRw h29 hw, b1_some]; rfl
  · have z : ¬ T.1 i ≤ 4 ∧ 6 < T.1 i ∧ ¬ T.1 i ≤ 6 := by rcases hk with g | g | g | g <;> rw [g] <;> decide
    rw [if_neg z.1, b1_some, if_neg (show ¬ (1 : Int32) = 0 by decide), if_pos z.2.1, if_neg z.2.2, pRw h29 hw, b1_some]; rfl
/-- A line of the text, or not. -/
theorem lineC (hC : CS b0 S sz t n o w T kd ad m c) {i h : Nat} (hi : i < m) (h4 : T.2.2.1 i 4 = some h) : x_P_isLine N b0 K (some (ad i)) S = some (if T.2.2.1 h 4 = none then 1 else 0) := by
  have nc := hC.nc hi
  have hh := (hC.wf.2.2.1 i h hi h4).1
  have nh := hC.nc hh
  unfold x_P_isLine
  rw [b1_some, gR_own nc.1 nc.2.2.1, b1_some, nc.2.2.2.2.2.1 4 (by omega) (by omega), h4, Option.map_some, om_some, b1_some, b1_some, gR_own nh.1 nh.2.2.1, b1_some, nh.2.2.2.2.2.1 4 (by omega) (by omega)]
  cases T.2.2.1 h 4 with
  | none => rw [Option.map_none, om_none, if_pos rfl]
  | some k => rw [Option.map_some, om_some, if_neg (by simp)]
/-- The root stands in nothing; all else that stands in something stands later than it. -/
theorem root4 (hC : CS b0 S sz t n o w T kd ad m c) : T.2.2.1 0 4 = none := by
  cases h : T.2.2.1 0 4 with
  | none => rfl
  | some k =>
    obtain ⟨hk, hm⟩ := hC.wf.2.2.1 0 k hC.2.2.2.2.2.2.2.2.2.2.2.2.2.2.2.2.2.2.1 h
    obtain ⟨j, hj⟩ := List.getElem?_of_mem hm
    have := ((hC.wf.1 k hk).2.2.1 j 0 hj).2.2.1
    omega
end
