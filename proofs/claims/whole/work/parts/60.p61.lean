section
variable {b0 N : Nat} {K S S' : cS} {sz : Nat} {t : Nat → Int32} {n : Nat} {R R' : rS} {u : Nat} {T T' : Ar} {ad : Nat → Nat} {m : Nat} {kd : Nat → List Nat} {o : Nat → Int32} {w c hf : Nat} {s : Nat} {l : List Int32} {v f0 : Nat}
/-- A line has begun: what the reference does then. -/
def RLw (N hf g a : Nat) (R : rS) : Option (Int32 × rS) :=
  b1 (m_putValue_12 N N (I (260 * hf + a)) (I (260 * hf + a)) 1 1 R) (fun S4 => b1 (m_put N 10 S4) (fun S6 => b1 (rL S6 8 (I (260 * hf + a))) (fun x7 => m_write_24 N g x7 S6)))
theorem begR_w {q1 q2 : List Int32} {a g : Nat} (ha : 260 * hf + a < 520) (e1 : m_putKey N (I (260 * hf + a)) R = some (rwl w q1 R)) (e2 : m_putHead N (I (260 * hf + a)) (rwl w q1 R) = some (rwl (w + q1.length) q2 (rwl w q1 R))) : m_write_24 N (g + 1) (I (260 * hf + a)) R = RLw N hf g a (rwl w (q1 ++ q2) R) := by
  unfold m_write_24 m_write_24F RLw
  rw [if_neg (ne_neg (by omega)), e1, b1_some, rwl_app]
  unfold m_putValue
  rw [e2, b1_some]
theorem lines_w (hK : KF b0 K) (hN : 200000 ≤ N) (hW : WF T kd m) (h0 : 0 < m) (h06 : 6 < T.1 0) : ∀ (e j a : Nat), j + e + 1 = (kd 0).length → (kd 0)[j]? = some a →
    ∀ (f y g : Nat) (S : cS) (R : rS) (o : Nat → Int32) (w : Nat), CS b0 S sz t n o w T kd ad m c → RS R t n o w T hf m u c → ksz T m (kd 0) j ≤ f → y + ksz T m (kd 0) j ≤ 480 → e < g → w + 400 * ksz T m (kd 0) j ≤ 900000 →
    ∃ S' R' o' w', CAw N b0 K ad f a y S = some S' ∧ RLw N hf g a R = some (I w', R') ∧ CS b0 S' sz t n o' w' T kd ad m c ∧ RS R' t n o' w' T hf m u c ∧ R'.1 0 = R.1 0 := by
  intro e
  have hks := hW.1 0 h0
  induction e with
  | zero =>
    intro j a hj ha f y g S R o w hC hR hf_ hy hg hw
    obtain ⟨k1, k2, k3, k4⟩ := hks.2.2.1 j a ha
    have hdn := dsz_next hW h0 ha
    have hdp : 1 ≤ dsz T m a := dsz_pos k4
    have hm : m ≤ 242 := hR.2.2.2.2.2.2.2.2.1
    have hf1 : hf ≤ 1 := hR.2.2.2.2.1
    have hdm : dsz T m a ≤ m := dsz_le
    obtain ⟨f1, y1, fe1, g1, S1, R1, o1, w1, e1, e2, C1, R1', e3, e4, e5, e6, e7, e8⟩ := sub_w (c := c) hK hN k4 k2 hW m a 0 (by omega) k4 k3 k2 f y N S R o w hC hR (by omega) (by omega) (by omega) (by omega)
    have nc := C1.nc k4
    have nr := R1'.nr k4
    have hnone : T.2.2.1 a 7 = none := by rw [k1]; exact List.getElem?_eq_none (by omega)
    obtain ⟨fe, rfl⟩ : ∃ x, fe1 = x + 1 := ⟨fe1 - 1, by omega⟩
    obtain ⟨f2, rfl⟩ : ∃ x, f1 = x + 1 := ⟨f1 - 1, by omega⟩
    obtain ⟨g2, rfl⟩ : ∃ x, g1 = x + 1 := ⟨g1 - 1, by omega⟩
    obtain ⟨g, rfl⟩ : ∃ x, g = x + 1 := ⟨g - 1, by omega⟩
    have C2 := C1.cwL [10]
    have R2 := R1'.rwL [10]
    have nc2 := C2.nc k4
    refine ⟨_, _, _, _, ?_, ?_, C2, R2, by rw [rwl_0]; exact e3⟩
    · rw [e1]
      obtain ⟨ac, hac, -, hst⟩ := hK.2.2.2.2.2.2.2.2.2.1
      unfold CEw x_P_putEndings_7 x_P_putEndings_7F
      rw [b1_some, gR_own nc.1 nc.2.2.1, b1_some, nc.2.2.2.2.2.1 7 (by omega) (by omega), hnone, Option.map_none, om_none, lineC C1 k4 k2, if_pos (root4 C1), b1_some, if_neg (show ¬ (1 : Int32) = 0 by decide)]
      unfold x_P_putEndings_34 x_P_putEndings_49
      rw [lineC C1 k4 k2, if_pos (root4 C1), b1_some, if_neg (show ¬ (1 : Int32) = 0 by decide), show K.2.2.2 0 8 = some ac from hac, b1_some, ifk_own (obA2 b0) C1.k5, putAllS hN (by show w1 + 1 ≤ _; omega) C1 (hst _), b1_some, gR_own nc2.1 nc2.2.2.1, b1_some, nc2.2.2.2.2.2.1 7 (by omega) (by omega), hnone, Option.map_none, b2_some]
      unfold x_P_fill_47 x_P_fill_12 x_P_fill_12F
      rw [om_none]
    · have e2' : m_putValue_12 N N (I (260 * hf + a)) (I (260 * hf + a)) 1 1 R = _ := e2
      have h29 : R1.1 29 = I w1 := R1'.2.2.1
      have hE : REw N hf (g2 + 1) a a R1 = some R1 := by
        unfold REw m_putValue_84 m_putValue_94 m_putValue_115 m_putValue_116
        rw [if_pos rfl, if_pos rfl, if_pos rfl, if_pos rfl]
        unfold m_putValue_12 m_putValue_12F
        rw [if_pos rfl]
      unfold RLw
      rw [e2', hE, b1_some, pRw h29 (by omega), b1_some, rL_eq (by show _ < 520; omega) (by omega), b1_some, rw1_n _ _ _ (by decide), nr.2.2.2.2.2.2.1 (by omega), hnone]
      unfold m_write_24 m_write_24F
      rw [if_pos (show enc hf none = -1 from rfl), rw1_29]
      rfl
  | succ e ih =>
    intro j a hj ha f y g S R o w hC hR hf_ hy hg hw
    obtain ⟨k1, k2, k3, k4⟩ := hks.2.2.1 j a ha
    have hdn := dsz_next hW h0 ha
    have hdp : 1 ≤ dsz T m a := dsz_pos k4
    have hm : m ≤ 242 := hR.2.2.2.2.2.2.2.2.1
    have hf1 : hf ≤ 1 := hR.2.2.2.2.1
    have hdm : dsz T m a ≤ m := dsz_le
    obtain ⟨b, hb⟩ : ∃ b, (kd 0)[j + 1]? = some b := ⟨_, List.getElem?_eq_getElem (by omega)⟩
    obtain ⟨j1, j2, j3, j4⟩ := hks.2.2.1 (j + 1) b hb
    have hdb := dsz_next hW h0 hb
    have hdbp : 1 ≤ dsz T m b := dsz_pos j4
    obtain ⟨f1, y1, fe1, g1, S1, R1, o1, w1, e1, e2, C1, R1', e3, e4, e5, e6, e7, e8⟩ := sub_w (c := c) hK hN k4 k2 hW m a 0 (by omega) k4 k3 k2 f y N S R o w hC hR (by omega) (by omega) (by omega) (by omega)
    have nc := C1.nc k4
    have nr := R1'.nr k4
    have hsome : T.2.2.1 a 7 = some b := by rw [k1, hb]
    obtain ⟨fe, rfl⟩ : ∃ x, fe1 = x + 1 := ⟨fe1 - 1, by omega⟩
    obtain ⟨f2, rfl⟩ : ∃ x, f1 = x + 1 := ⟨f1 - 1, by omega⟩
    obtain ⟨g2, rfl⟩ : ∃ x, g1 = x + 1 := ⟨g1 - 1, by omega⟩
    obtain ⟨g, rfl⟩ : ∃ x, g = x + 1 := ⟨g - 1, by omega⟩
    have C2 := C1.cwL [10]
    have R2 := R1'.rwL [10]
    have nc2 := C2.nc k4
    have l1 : ([10] : List Int32).length = 1 := rfl
    obtain ⟨q1, q2, hq, a1, a2, a3, -⟩ := pr_ent hK hN C2 R2 j4 j2 (by rw [l1]; omega)
    have C3 := C2.cwL (q1 ++ q2)
    have R3 := R2.rwL (q1 ++ q2)
    have hqq : (q1 ++ q2).length ≤ 127 := by rw [List.length_append]; omega
    obtain ⟨S', R', o', w', d1, d2, C', R'', d3⟩ := ih (j + 1) b (by omega) hb f2 (y1 + 1) g _ _ _ _ C3 R3 (by omega) (by omega) (by omega) (by rw [l1]; omega)
    refine ⟨S', R', o', w', ?_, ?_, C', R'', by rw [d3, rwl_0, rwl_0]; exact e3⟩
    · rw [e1, ← d1]
      obtain ⟨ac, hac, -, hst⟩ := hK.2.2.2.2.2.2.2.2.2.1
      unfold CEw x_P_putEndings_7 x_P_putEndings_7F
      rw [b1_some, gR_own nc.1 nc.2.2.1, b1_some, nc.2.2.2.2.2.1 7 (by omega) (by omega), hsome, Option.map_some, om_some]
      unfold x_P_putEndings_34 x_P_putEndings_49
      rw [lineC C1 k4 k2, if_pos (root4 C1), b1_some, if_neg (show ¬ (1 : Int32) = 0 by decide), show K.2.2.2 0 8 = some ac from hac, b1_some, ifk_own (obA2 b0) C1.k5, putAllS hN (by show w1 + 1 ≤ _; omega) C1 (hst _), b1_some, gR_own nc2.1 nc2.2.2.1, b1_some, nc2.2.2.2.2.2.1 7 (by omega) (by omega), hsome, Option.map_some, b2_some]
      unfold x_P_fill_47
      rw [I_1]
      exact begC C2 (by omega) a1
    · have e2' : m_putValue_12 N N (I (260 * hf + a)) (I (260 * hf + a)) 1 1 R = _ := e2
      have h29 : R1.1 29 = I w1 := R1'.2.2.1
      have hE : REw N hf (g2 + 1) a a R1 = some R1 := by
        unfold REw m_putValue_84 m_putValue_94 m_putValue_115 m_putValue_116
        rw [if_pos rfl, if_pos rfl, if_pos rfl, if_pos rfl]
        unfold m_putValue_12 m_putValue_12F
        rw [if_pos rfl]
      rw [← d2]
      conv => lhs; unfold RLw
      rw [e2', hE, b1_some, pRw h29 (by omega), b1_some, rL_eq (by show _ < 520; omega) (by omega), b1_some, rw1_n _ _ _ (by decide), nr.2.2.2.2.2.2.1 (by omega), hsome, show enc hf (some b) = I (260 * hf + b) from rfl]
      exact begR_w (by omega) (a2 h06) a3
theorem CS.w0 (h : CS b0 S sz t n o w T kd ad m c) : CS b0 (sI S (b0 + 2) 1 0) sz t n o 0 T kd ad m c := by
  obtain ⟨c1, c2, c3, c4, c5, c6, c7, c8, c9, c10, c11, c12, c13, c14, c15, c16, c17, c18, c19, c20, c21, c22⟩ := h
  have hsm : ∀ a, a ≠ b0 + 2 → Same S (sI S (b0 + 2) 1 0) a := fun a h1 => Same.sI _ h1
  exact ⟨c1, c2, c3, c4, by rw [(hsm b0 (by omega)).2.2.1]; exact c5, c6, c7, c8, c9, by rw [(hsm (b0 + 1) (by omega)).2.2.1]; exact c10, c11, c12, up2_at _ _ _ _, c14, c15, fun i hi => by omega, c17.same (fun a ha hk => hsm a (fun g => by rw [g, c11] at hk; omega)) (Nat.le_refl _), c18, c19, c20, c21, c22⟩
theorem RS.w0 (h : RS R t n o w T hf m u c) : RS (Rw R 29 0) t n o 0 T hf m u c := by
  obtain ⟨h1, h2, h3, h4, h5, h6, h7, h8, h9, h10⟩ := h
  exact ⟨by rw [Rw_1n _ _ (by decide)]; exact h1, h2, Rw_1 _ _ _, fun i hi => by omega, h5, by rw [Rw_1n _ _ (by decide)]; exact h6, by rw [Rw_1n _ _ (by decide)]; exact h7, h8.keep (fun _ _ _ _ _ => rfl) (fun _ _ _ => rfl) (Nat.le_refl _), h9, h10⟩
/-- write. -/
theorem pr_write (hK : KF b0 K) (hN : 200000 ≤ N) (hC : CS b0 S sz t n o w T kd ad m c) (hR : RS R t n o w T hf m u c) :
    ∃ x S' R' o' w', x_T_write N b0 K b0 S = some (x, S') ∧ m_write N R = some (x, R') ∧ R'.1 0 = 0 ∧ CS b0 S' sz t n o' w' T kd ad m c ∧ RS R' t n o' w' T hf m u c := by
  have hW := hC.wf
  have h0 : 0 < m := hC.2.2.2.2.2.2.2.2.2.2.2.2.2.2.2.2.2.2.1
  have h06 : 6 < T.1 0 := hC.2.2.2.2.2.2.2.2.2.2.2.2.2.2.2.2.2.2.2.2.1
  have hks := hW.1 0 h0
  have C1 := hC.w0
  have R1 := (hR.th 0).w0
  have hm : m ≤ 242 := hR.2.2.2.2.2.2.2.2.1
  have hf1 : hf ≤ 1 := hR.2.2.2.2.1
  have nc := C1.nc h0
  have nr := R1.nr h0
  have hdk := dsz_kids hW h0
  have hdm : dsz T m 0 ≤ m := dsz_le
  -- what the two come to
  have main : ∃ S' R' o' w', x_P_fill N b0 K (b0 + 2) (some (ad 0)) S = some S' ∧ m_write N R = some (I w', R') ∧ CS b0 S' sz t n o' w' T kd ad m c ∧ RS R' t n o' w' T hf m u c ∧ R'.1 0 = 0 := by
    obtain ⟨N', hN'⟩ : ∃ x, N = x + 1 := ⟨N - 1, by omega⟩
    unfold x_P_fill m_write
    rw [pI_own (obA2 b0) hC.k5, b1_some, b1_some, gR_own nc.1 nc.2.2.1, b1_some, nc.2.2.2.2.2.1 5 (by omega) (by omega), hks.1, rP_eq, b1_some, rP_eq, b1_some, Rw_1n _ _ (by decide), Rw_1n _ _ (by decide), hR.2.2.2.2.2.1, show (260 : Int32) * I hf = I (260 * hf + 0) by rw [show (260 : Int32) = I 260 from rfl, I_mul]; rfl, rL_eq (by show _ < 520; omega) (by omega), b1_some, nr.2.2.2.2.1, hks.1]
    cases hkl : (kd 0)[0]? with
    | none =>
      refine ⟨_, _, _, 0, ?_, ?_, C1, R1, by rw [Rw_1n _ _ (by decide), Rw_1]⟩
      · rw [Option.map_none]
        conv => lhs; arg 4; rw [hN']
        unfold x_P_fill_12 x_P_fill_12F
        rw [om_none]
      · conv => lhs; arg 2; rw [hN']
        unfold m_write_24 m_write_24F
        rw [if_pos (show enc hf none = -1 from rfl), Rw_1]; rfl
    | some a =>
      obtain ⟨k1, k2, k3, k4⟩ := hks.2.2.1 0 a hkl
      have hda := dsz_next hW h0 hkl
      have hdp : 1 ≤ dsz T m a := dsz_pos k4
      have hlen := glt hkl
      have hkl2 := hW.klen h0
      obtain ⟨q1, q2, hq, a1, a2, a3, -⟩ := pr_ent hK hN C1 R1 k4 k2 (by omega)
      have C3 := C1.cwL (q1 ++ q2)
      have R3 := R1.rwL (q1 ++ q2)
      have hqq : (q1 ++ q2).length ≤ 127 := by rw [List.length_append]; omega
      obtain ⟨S', R', o', w', d1, d2, C', R'', d3⟩ := lines_w hK hN hW h0 h06 ((kd 0).length - 1) 0 a (by omega) hkl N' 0 N' _ _ _ _ C3 R3 (by omega) (by omega) (by omega) (by omega)
      refine ⟨S', R', o', w', ?_, ?_, C', R'', by rw [d3, rwl_0, Rw_1n _ _ (by decide), Rw_1]⟩
      · rw [← d1, Option.map_some]
        conv => lhs; arg 4; rw [hN']
        exact begC (y := 0) C1 (by omega) a1
      · rw [← d2, show enc hf (some a) = I (260 * hf + a) from rfl]
        conv => lhs; arg 2; rw [hN']
        exact begR_w (by omega) (a2 h06) a3
  obtain ⟨S', R', o', w', m1, m2, m3, m4, m5⟩ := main
  refine ⟨I w', S', R', o', w', ?_, m2, m5, m3, m4⟩
  obtain ⟨c1, c2, c3, c4, c5, c6, c7, c8, c9, c10, c11, c12, c13, -⟩ := hC
  obtain ⟨b1', b2', b3', b4', b5', b6', b7', b8', b9', b10', b11', b12', b13', -⟩ := m3
  unfold x_T_write
  rw [gR_own (obA0 b0) c2, c4, b1_some, gR_own (obA0 b0) c2, c6, b1_some, b1_some, ifk_own (obA2 b0) c11, m1, b1_some, gR_own (obA0 b0) b2', b4', b1_some, b1_some, gI_own (obA2 b0) b11', b13', b1_some]
end
