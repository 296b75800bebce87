section
variable {b0 N : Nat} {K S S' : cS} {sz : Nat} {t : Nat → Int32} {n : Nat} {R R' : rS} {u : Nat} {T T' : Ar} {ad : Nat → Nat} {m : Nat} {kd : Nat → List Nat} {o : Nat → Int32} {w c hf : Nat} {s : Nat} {l : List Int32} {v f0 : Nat}
/-- A value has begun: what the class does then. -/
def CAw (N b0 : Nat) (K : cS) (ad : Nat → Nat) (f v y : Nat) (S : cS) : Option cS :=
  b1 (gR b0 K S 2 5 (ad v)) (fun q5 => om q5 (ifk b0 K S 5 (b0 + 2) (b2 (x_P_putEndings N b0 K (b0 + 2) (some (ad v)) S) (fun q10 S11 => x_P_fill_47 N b0 K (x_P_fill_12 N b0 K f) (b0 + 2) (I y) q10 S11))) (fun a8 => b1 (gR b0 K S 2 5 (ad v)) (fun q12 => x_P_fill_47 N b0 K (x_P_fill_12 N b0 K f) (b0 + 2) (I y) q12 S)))
/-- A value has ended. -/
def CEw (N b0 : Nat) (K : cS) (ad : Nat → Nat) (f fe v y : Nat) (S : cS) : Option cS :=
  b2 (x_P_putEndings_7 N b0 K fe (b0 + 2) (some (ad v)) S) (fun q10 S11 => x_P_fill_47 N b0 K (x_P_fill_12 N b0 K f) (b0 + 2) (I y) q10 S11)
def RAw (N hf g z v : Nat) (R : rS) : Option rS := m_putValue_12 N g (I (260 * hf + z)) (I (260 * hf + v)) 1 1 R
def REw (N hf g z v : Nat) (R : rS) : Option rS := m_putValue_84 N (m_putValue_12 N g) (I (260 * hf + z)) (I (260 * hf + v)) R
/-- The next value begins: the class. -/
theorem begC {q : List Int32} {a y f : Nat} (hC : CS b0 S sz t n o w T kd ad m c) (hy : y < 480) (he : x_P_putBeginning N b0 K (b0 + 2) (some (ad a)) S = some (cw b0 w q S)) : x_P_fill_12 N b0 K (f + 1) (b0 + 2) (some (ad a)) (I y) S = CAw N b0 K ad f a y (cw b0 w q S) := by
  unfold x_P_fill_12 x_P_fill_12F CAw
  rw [om_some, if_neg (show ¬ (480 : Int32) ≤ I y from I_le0 (a := 480) hy (by omega)), ifk_own (obA2 b0) hC.k5, he, b1_some]
/-- What the two of a value's tree do. -/
def SubW (N b0 : Nat) (K : cS) (sz : Nat) (t : Nat → Int32) (n : Nat) (T : Ar) (kd : Nat → List Nat) (ad : Nat → Nat) (m c hf u z v x D e : Nat) : Prop :=
  ∀ (f y g : Nat) (S : cS) (R : rS) (o : Nat → Int32) (w : Nat), CS b0 S sz t n o w T kd ad m c → RS R t n o w T hf m u c → D ≤ f → y + D ≤ 480 → 2 * D < g → w + 400 * D ≤ 900000 →
    ∃ f' y' fe g' S' R' o' w', CAw N b0 K ad f v y S = CEw N b0 K ad f' fe x y' S' ∧ RAw N hf g z v R = REw N hf g' z x R' ∧ CS b0 S' sz t n o' w' T kd ad m c ∧ RS R' t n o' w' T hf m u c ∧ R'.1 0 = R.1 0 ∧ f + 1 ≤ f' + D ∧ y' + 1 ≤ y + D ∧ g + e / 200 ≤ g' + 2 * D ∧ w' + e ≤ w + 400 * D ∧ N ≤ fe + (m - x)
theorem kids_w (hK : KF b0 K) (hN : 200000 ≤ N) {z : Nat} (hz : z < m) (hz4 : T.2.2.1 z 4 = some 0) (hW : WF T kd m) (hv : v < m) (hv0 : 0 < v) {h4 : Nat} (hv4 : T.2.2.1 v 4 = some h4)
    (IH : ∀ a, a ∈ kd v → SubW N b0 K sz t n T kd ad m c hf u z a a (dsz T m a) 200) : ∀ (e j a : Nat), j + e + 1 = (kd v).length → (kd v)[j]? = some a → SubW N b0 K sz t n T kd ad m c hf u z a v (ksz T m (kd v) j) 0 := by
  intro e
  have hks := hW.1 v hv
  induction e with
  | zero =>
    intro j a hj ha f y g S R o w hC hR hf_ hy hg hw
    obtain ⟨k1, k2, k3, k4⟩ := hks.2.2.1 j a ha
    have hdn := dsz_next hW hv ha
    have hm : m ≤ 242 := hR.2.2.2.2.2.2.2.2.1
    have hf1 : hf ≤ 1 := hR.2.2.2.2.1
    obtain ⟨f1, y1, fe1, g1, S1, R1, o1, w1, e1, e2, C1, R1', e3, e4, e5, e6, e7, e8⟩ := IH a (List.mem_of_getElem? ha) f y g S R o w hC hR (by omega) (by omega) (by omega) (by omega)
    have nc := C1.nc k4
    have nr := R1'.nr k4
    have hnone : T.2.2.1 a 7 = none := by rw [k1]; exact List.getElem?_eq_none (by omega)
    obtain ⟨fe, rfl⟩ : ∃ x, fe1 = x + 1 := ⟨fe1 - 1, by omega⟩
    obtain ⟨g2, rfl⟩ : ∃ x, g1 = x + 1 := ⟨g1 - 1, by omega⟩
    have hel := endL_len (T.1 v)
    refine ⟨f1, y1, fe, g2, _, _, _, _, ?_, ?_, C1.cwL (endL (T.1 v)), R1'.rwL (endL (T.1 v)), by rw [rwl_0]; exact e3, by omega, by omega, by omega, by omega, by omega⟩
    · rw [e1]
      unfold CEw
      conv => lhs; unfold x_P_putEndings_7 x_P_putEndings_7F
      rw [b1_some, gR_own nc.1 nc.2.2.1, b1_some, nc.2.2.2.2.2.1 7 (by omega) (by omega), hnone, Option.map_none, om_none, lineC C1 k4 k2, hv4, if_neg (show ¬ (some h4 = none) by simp), b1_some, if_pos rfl, gR_own nc.1 nc.2.2.1, b1_some, nc.2.2.2.2.2.1 4 (by omega) (by omega), k2, Option.map_some, ifk_own (obA2 b0) C1.k5, endC C1 hv (by omega), b1_some]
    · rw [e2]
      unfold REw
      conv => lhs; unfold m_putValue_84 m_putValue_94 m_putValue_115 m_putValue_116
      have hne : ¬ I (260 * hf + a) = I (260 * hf + z) := fun g => by
        have := (I_inj (by omega) (by omega)).1 g
        have : a = z := by omega
        rw [this, hz4] at k2; cases k2; omega
      rw [if_neg hne, if_neg (show ¬ (1 : Int32) = 0 by decide), rL_eq (by show _ < 520; omega) (by omega), b1_some, nr.2.2.2.2.2.2.1 (by omega), hnone, if_pos (show enc hf none = -1 from rfl), if_pos rfl, if_neg (show ¬ (1 : Int32) = 0 by decide), rL_eq (by show _ < 520; omega) (by omega), b1_some, nr.2.2.2.1, k2, show enc hf (some v) = I (260 * hf + v) from rfl]
      unfold m_putValue_12 m_putValue_12F
      rw [if_neg (show ¬ (1 : Int32) = 0 by decide), if_pos rfl, endR C1 R1' hv (by omega)]
  | succ e ih =>
    intro j a hj ha f y g S R o w hC hR hf_ hy hg hw
    obtain ⟨k1, k2, k3, k4⟩ := hks.2.2.1 j a ha
    have hdn := dsz_next hW hv ha
    have hm : m ≤ 242 := hR.2.2.2.2.2.2.2.2.1
    have hf1 : hf ≤ 1 := hR.2.2.2.2.1
    obtain ⟨b, hb⟩ : ∃ b, (kd v)[j + 1]? = some b := ⟨_, List.getElem?_eq_getElem (by omega)⟩
    obtain ⟨j1, j2, j3, j4⟩ := hks.2.2.1 (j + 1) b hb
    have hdb := dsz_next hW hv hb
    have hdp : 1 ≤ dsz T m b := dsz_pos j4
    obtain ⟨f1, y1, fe1, g1, S1, R1, o1, w1, e1, e2, C1, R1', e3, e4, e5, e6, e7, e8⟩ := IH a (List.mem_of_getElem? ha) f y g S R o w hC hR (by omega) (by omega) (by omega) (by omega)
    have nc := C1.nc k4
    have nr := R1'.nr k4
    have hsome : T.2.2.1 a 7 = some b := by rw [k1, hb]
    obtain ⟨fe, rfl⟩ : ∃ x, fe1 = x + 1 := ⟨fe1 - 1, by omega⟩
    obtain ⟨f2, rfl⟩ : ∃ x, f1 = x + 1 := ⟨f1 - 1, by omega⟩
    have C2 := C1.cwL [44, 32]
    have R2 := R1'.rwL [44, 32]
    have nc2 := C2.nc k4
    have l2 : ([44, 32] : List Int32).length = 2 := rfl
    obtain ⟨q1, q2, hq, a1, -, -, a2⟩ := pr_ent hK hN C2 R2 j4 j2 (by rw [l2]; omega)
    have C3 := C2.cwL (q1 ++ q2)
    have R3 := R2.rwL (q1 ++ q2)
    have hqq : (q1 ++ q2).length ≤ 127 := by rw [List.length_append]; omega
    obtain ⟨f', y', fe', g', S', R', o', w', d1, d2, C', R'', d3, d4, d5, d6, d7, d8⟩ := ih (j + 1) b (by omega) hb f2 (y1 + 1) g1 _ _ _ _ C3 R3 (by omega) (by omega) (by omega) (by rw [l2]; omega)
    refine ⟨f', y', fe', g', S', R', o', w', ?_, ?_, C', R'', by rw [d3, rwl_0, rwl_0]; exact e3, by omega, by omega, by omega, by rw [l2] at d7; omega, d8⟩
    · rw [e1, ← d1]
      obtain ⟨ac, hac, -, hst⟩ := hK.2.2.2.2.2.2.2.2.2.2
      unfold CEw x_P_putEndings_7 x_P_putEndings_7F
      rw [b1_some, gR_own nc.1 nc.2.2.1, b1_some, nc.2.2.2.2.2.1 7 (by omega) (by omega), hsome, Option.map_some, om_some]
      unfold x_P_putEndings_34 x_P_putEndings_49
      rw [lineC C1 k4 k2, hv4, if_neg (show ¬ (some h4 = none) by simp), b1_some, if_pos rfl, show K.2.2.2 0 9 = some ac from hac, b1_some, ifk_own (obA2 b0) C1.k5, putAllS hN (by show w1 + 2 ≤ _; omega) C1 (hst _), b1_some, gR_own nc2.1 nc2.2.2.1, b1_some, nc2.2.2.2.2.2.1 7 (by omega) (by omega), hsome, Option.map_some]
      rw [b2_some]
      unfold x_P_fill_47
      rw [I_1]
      exact begC C2 (by omega) a1
    · rw [e2, ← d2]
      unfold REw RAw m_putValue_84 m_putValue_94 m_putValue_116
      have hne : ¬ I (260 * hf + a) = I (260 * hf + z) := fun g => by
        have := (I_inj (by omega) (by omega)).1 g
        have : a = z := by omega
        rw [this, hz4] at k2; cases k2; omega
      have h29 : R1.1 29 = I w1 := R1'.2.2.1
      have e8' : (rw1 (w1 + 1) 32 (rw1 w1 44 R1)).2 8 (260 * hf + a) = I (260 * hf + b) := by
        rw [rw1_n _ _ _ (by decide), rw1_n _ _ _ (by decide), nr.2.2.2.2.2.2.1 (by omega), hsome]; rfl
      rw [if_neg hne, if_neg (show ¬ (1 : Int32) = 0 by decide), rL_eq (by show _ < 520; omega) (by omega), b1_some, nr.2.2.2.2.2.2.1 (by omega), hsome, if_neg (show ¬ enc hf (some b) = -1 from ne_neg (by omega)), if_neg (show ¬ (1 : Int32) = 0 by decide), pRw h29 (by omega), b1_some, pRw (rw1_29 _ _ _) (by omega), b1_some, rL_eq (by show _ < 520; omega) (by omega), b1_some, e8', show rw1 (w1 + 1) 32 (rw1 w1 44 R1) = rwl w1 [44, 32] R1 from rfl, a2, b1_some]
theorem sub_w (hK : KF b0 K) (hN : 200000 ≤ N) {z : Nat} (hz : z < m) (hz4 : T.2.2.1 z 4 = some 0) (hW : WF T kd m) : ∀ (d v h4 : Nat), m - v ≤ d → v < m → 0 < v → T.2.2.1 v 4 = some h4 → SubW N b0 K sz t n T kd ad m c hf u z v v (dsz T m v) 200 := by
  intro d
  induction d with
  | zero => intro v h4 hd hv; omega
  | succ d IHd =>
    intro v h4 hd hv hv0 hv4
    have hks := hW.1 v hv
    have IH : ∀ a, a ∈ kd v → SubW N b0 K sz t n T kd ad m c hf u z a a (dsz T m a) 200 := by
      intro a ha
      obtain ⟨j, hj⟩ := List.getElem?_of_mem ha
      obtain ⟨k1, k2, k3, k4⟩ := hks.2.2.1 j a hj
      exact IHd a v (by omega) k4 (by omega) k2
    have hkids := kids_w (n := n) (t := t) (sz := sz) (c := c) (hf := hf) (u := u) hK hN hz hz4 hW hv hv0 hv4 IH
    have hdk := dsz_kids hW hv
    have hdv : 1 ≤ dsz T m v := dsz_pos hv
    intro f y g S R o w hC hR hf_ hy hg hw
    have hm : m ≤ 242 := hR.2.2.2.2.2.2.2.2.1
    have hf1 : hf ≤ 1 := hR.2.2.2.2.1
    have nc := hC.nc hv
    have nr := hR.nr hv
    obtain ⟨g2, rfl⟩ : ∃ x, g = x + 1 := ⟨g - 1, by omega⟩
    have hel := endL_len (T.1 v)
    cases hkl : (kd v)[0]? with
    | none =>
      refine ⟨f, y, N, g2, _, _, _, _, ?_, ?_, hC.cwL (endL (T.1 v)), hR.rwL (endL (T.1 v)), by rw [rwl_0], by omega, by omega, by omega, by omega, by omega⟩
      · unfold CAw CEw x_P_putEndings
        rw [gR_own nc.1 nc.2.2.1, b1_some, nc.2.2.2.2.2.1 5 (by omega) (by omega), hks.1, hkl, Option.map_none, om_none, ifk_own (obA2 b0) hC.k5, ifk_own (obA2 b0) hC.k5, endC hC hv (by omega), b1_some]
      · unfold RAw REw
        conv => lhs; unfold m_putValue_12 m_putValue_12F
        rw [if_neg (show ¬ (1 : Int32) = 0 by decide), if_neg (show ¬ (1 : Int32) = 0 by decide), rL_eq (i := 260 * hf + v) (by show _ < 520; omega) (by omega), b1_some, nr.2.2.2.2.1, hks.1, hkl, if_pos (show enc hf none = -1 from rfl), endR hC hR hv (by omega)]
        unfold m_holds
        rw [rL_eq (by show _ < 520; omega) (by omega), b1_some]
        split
        · rw [b1_some, if_pos rfl]
        · rw [b1_some, if_neg (show ¬ (1 : Int32) = 0 by decide)]
    | some a =>
      obtain ⟨k1, k2, k3, k4⟩ := hks.2.2.1 0 a hkl
      have hda := dsz_next hW hv hkl
      have hdp : 1 ≤ dsz T m a := dsz_pos k4
      have hk4 : 4 < T.1 v := by
        rcases Classical.em (4 < T.1 v) with g | g
        · exact g
        · rw [hks.2.2.2.2.2 g] at hkl; cases hkl
      have hlen := glt hkl
      obtain ⟨f2, rfl⟩ : ∃ x, f = x + 1 := ⟨f - 1, by omega⟩
      obtain ⟨q1, q2, hq, a1, -, -, a2⟩ := pr_ent hK hN hC hR k4 k2 (by omega)
      have C3 := hC.cwL (q1 ++ q2)
      have R3 := hR.rwL (q1 ++ q2)
      have hqq : (q1 ++ q2).length ≤ 127 := by rw [List.length_append]; omega
      obtain ⟨f', y', fe', g', S', R', o', w', d1, d2, C', R'', d3, d4, d5, d6, d7, d8⟩ := hkids ((kd v).length - 1) 0 a (by omega) hkl f2 (y + 1) g2 _ _ _ _ C3 R3 (by omega) (by omega) (by omega) (by omega)
      refine ⟨f', y', fe', g', S', R', o', w', ?_, ?_, C', R'', by rw [d3, rwl_0], by omega, by omega, by omega, by omega, d8⟩
      · rw [← d1]
        conv => lhs; unfold CAw x_P_fill_47
        rw [gR_own nc.1 nc.2.2.1, b1_some, nc.2.2.2.2.2.1 5 (by omega) (by omega), hks.1, hkl, Option.map_some, om_some, b1_some, I_1]
        exact begC hC (by omega) a1
      · rw [← d2]
        unfold RAw
        conv => lhs; unfold m_putValue_12 m_putValue_12F m_holds
        rw [if_neg (show ¬ (1 : Int32) = 0 by decide), if_neg (show ¬ (1 : Int32) = 0 by decide), rL_eq (i := 260 * hf + v) (by show _ < 520; omega) (by omega), rL_eq (i := 260 * hf + v) (by show _ < 520; omega) (by omega), b1_some, nr.1, if_neg (fun g => (le4 _).1 g hk4), b1_some, if_neg (show ¬ (1 : Int32) = 0 by decide), b1_some, nr.2.2.2.2.1, hks.1, hkl, if_neg (show ¬ enc hf (some a) = -1 from ne_neg (by omega)), b1_some, show enc hf (some a) = I (260 * hf + a) from rfl, a2, b1_some]
end
