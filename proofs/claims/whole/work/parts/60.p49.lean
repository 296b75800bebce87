section
variable {b0 N : Nat} {K S S' : cS} {sz : Nat} {t : Nat → Int32} {n : Nat} {R R' : rS} {u : Nat} {T T' : Ar} {ad : Nat → Nat} {m : Nat} {kd : Nat → List Nat} {o : Nat → Int32} {w c hf : Nat}
theorem nneg {x : Int32} (h : ¬ x < 0) : ∃ i, i < 2147483648 ∧ x = I i := by
  have h0 : 0 ≤ x.toInt := by
    rw [Int32.lt_iff_toInt_lt] at h
    have : (0 : Int32).toInt = 0 := by decide
    omega
  have h2 := Int32.toInt_lt x
  exact ⟨x.toNatClampNeg, by show x.toInt.toNat < _; omega, of_nn h0⟩
theorem inner_i (hr : RelC b0 S T ad m sz 0) {ks : List Nat} (hks : Kds T m c ks) {i : Nat} (hi : i < 2147483648) : ∀ (d j f : Nat), j + d = ks.length → j ≤ i → d + 1 < f → x_N_inner_13 N b0 K f (I i) ((ks[j]?).map ad) (I j) S = some ((ks[i]?).map ad) := by
  intro d
  induction d with
  | zero =>
    intro j f hj hji hf
    obtain ⟨f, rfl⟩ : ∃ x, f = x + 1 := ⟨f - 1, by omega⟩
    unfold x_N_inner_13 x_N_inner_13F
    have e1 : ks[j]? = none := List.getElem?_eq_none (by omega)
    have e2 : ks[i]? = none := List.getElem?_eq_none (by omega)
    rw [e1, e2, Option.map_none]
    simp only [om_none, ite_self]
  | succ d ih =>
    intro j f hj hji hf
    obtain ⟨f, rfl⟩ : ∃ x, f = x + 1 := ⟨f - 1, by omega⟩
    obtain ⟨a, ha⟩ : ∃ a, ks[j]? = some a := ⟨_, List.getElem?_eq_getElem (by omega)⟩
    obtain ⟨g1, g2, g3, g4⟩ := hks.2.2.1 j a ha
    have na := hr.1 a g4
    unfold x_N_inner_13 x_N_inner_13F
    by_cases hij : i ≤ j
    · have : i = j := by omega
      subst this
      rw [if_pos (I_le1 (Nat.le_refl _) (by omega))]
    · rw [if_neg (I_le0 (by omega) hi), ha]
      simp only [Option.map_some, om_some]
      rw [gR_own na.1 na.2.2.1, na.2.2.2.2.2.1 7 (by omega) (by omega), b1_some, g1, I_1]
      exact ih (j + 1) f (by omega) (by omega) (by omega)
theorem down_i (hr : RelR R T hf m u) (hm : m ≤ 242) (hf1 : hf ≤ 1) {ks : List Nat} (hks : Kds T m c ks) {i v : Nat} (hi : ks[i]? = some v) : ∀ (d j f : Nat) (a : Nat), j + d = i → ks[j]? = some a → d < f → m_down_58 N f (I i) (I (260 * hf + a)) (I j) R = some (R.2 3 (260 * hf + v), Rw R 18 (I (260 * hf + v))) := by
  intro d
  have hil := glt hi
  have hbig : ∀ (j a : Nat), ks[j]? = some a → a < m := fun j a ha => (hks.2.2.1 j a ha).2.2.2
  have hlen : ks.length ≤ m := by
    have : ∀ (j a : Nat), ks[j]? = some a → j ≤ a := by
      intro j
      induction j with
      | zero => intro a _; omega
      | succ j ih =>
        intro a ha
        have hj := glt ha
        have e : ks[j]? = some ks[j] := List.getElem?_eq_getElem (by omega)
        have := ih _ e
        have := hks.2.2.2.1 j (j + 1) _ a (by omega) e ha
        omega
    have e : ks[ks.length - 1]? = some ks[ks.length - 1] := List.getElem?_eq_getElem (by omega)
    have a1 := this _ _ e
    have a2 := hbig _ _ e
    omega
  induction d with
  | zero =>
    intro j f a hj ha hfu
    obtain ⟨f, rfl⟩ : ∃ x, f = x + 1 := ⟨f - 1, by omega⟩
    have : j = i := by omega
    subst this
    rw [hi] at ha; cases ha
    have hvm := hbig j v hi
    unfold m_down_58 m_down_58F
    rw [if_pos (I_le1 (Nat.le_refl _) (by omega)), rP_eq, b1_some, rL_eq (by show _ < 520; omega) (by omega), b1_some]; rfl
  | succ d ih =>
    intro j f a hj ha hfu
    obtain ⟨f, rfl⟩ : ∃ x, f = x + 1 := ⟨f - 1, by omega⟩
    obtain ⟨g1, g2, g3, g4⟩ := hks.2.2.1 j a ha
    obtain ⟨a', ha'⟩ : ∃ a', ks[j + 1]? = some a' := ⟨_, List.getElem?_eq_getElem (by omega)⟩
    have ra := hr.1 a g4
    unfold m_down_58 m_down_58F
    rw [if_neg (I_le0 (by omega) (by omega)), rL_eq (by show _ < 520; omega) (by omega), b1_some, ra.2.2.2.2.2.2.1 (by omega), g1, ha', show enc hf (some a') = I (260 * hf + a') from rfl, I_1]
    exact ih (j + 1) f a' (by omega) ha' (by omega)
theorem pr_down (hN : 1000 ≤ N) (p1 : Int32) (hC : CS b0 S sz t n o w T kd ad m c) (hR : RS R t n o w T hf m u c) :
    (∃ x S' R' c', x_T_down N b0 K b0 p1 S = some (x, S') ∧ m_down N p1 R = some (x, R') ∧ R'.1 0 = 0 ∧ CS b0 S' sz t n o w T kd ad m c' ∧ RS R' t n o w T hf m u c') ∨
    (∃ x R', xt_T_down N b0 K b0 p1 S = some 2 ∧ m_down N p1 R = some (x, R') ∧ R'.1 0 = 1 ∧ RS R' t n o w T hf m u c) := by
  have hC' := hC
  have hR' := hR
  obtain ⟨c1, c2, c3, c4, c5, c6, c7, c8, c9, c10, c11, c12, c13, c14, c15, c16, c17, c18, c19, c20, c21, c22⟩ := hC'
  obtain ⟨h1, h2, h3, h4, h5, h6, h7, h8, h9, h10⟩ := hR'
  have n0 := c17.1 c c20
  have r0 := h8.1 c c20
  have hks := c18.1 c c20
  have hkl := c18.klen c20
  -- the class's way
  have hcls : ∀ (q : Option Nat), x_N_inner N b0 K (ad c) p1 S = some q → (∀ a, q = some a → ∃ v, v < m ∧ a = ad v) → (∃ v, v < m ∧ q = some (ad v) ∧ x_T_down N b0 K b0 p1 S = some (T.1 v, sR S b0 4 (some (ad v)))) ∨ (q = none ∧ xt_T_down N b0 K b0 p1 S = some 2) := by
    intro q hq hqa
    cases q with
    | none =>
      right
      refine ⟨rfl, ?_⟩
      unfold xt_T_down
      rw [gR_own (obA0 b0) c2, c7, b1_some, b1_some, ifk_own n0.1 n0.2.2.1, hq, b1_some, om_none]
    | some a =>
      left
      obtain ⟨v, hv, rfl⟩ := hqa a rfl
      have nv := c17.1 v hv
      refine ⟨v, hv, rfl, ?_⟩
      unfold x_T_down
      rw [gR_own (obA0 b0) c2, c7, b1_some, b1_some, ifk_own n0.1 n0.2.2.1, hq, b1_some, om_some, pR_own (obA0 b0) c2, b1_some, gR_own (obA0 b0) (by exact c2), show (sR S b0 4 (some (ad v))).2.2.2 b0 4 = some (ad v) from up2_at _ _ _ _, b1_some, b1_some, gI_own nv.1 (by exact nv.2.2.1), b1_some, show (sR S b0 4 (some (ad v))).2.2.1 (ad v) 0 = T.1 v from nv.2.2.2.1]
  have href : ∀ z : Int32, (z = 0 ∨ z = 1) → m_down_34 N p1 z R = if z = 0 then (b1 (rL (Rw R 0 z) 6 (I (260 * hf + c))) (fun x3 => m_down_58 N N p1 x3 0 (Rw R 0 z))) else some (0, Rw R 0 z) := by
    intro z hz
    unfold m_down_34
    rw [rP_eq, b1_some, Rw_1, Rw_1n _ _ (by decide), h7]
  have hthrow : m_down_34 N p1 1 R = some (0, Rw R 0 1) := by rw [href 1 (.inr rfl), if_neg (by decide)]
  unfold m_down m_down_29 m_holds
  rw [h7, rL_eq (by show _ < 520; omega) (by omega), b1_some, r0.1]
  by_cases hk4 : 4 < T.1 c
  · rw [if_neg (fun g => (le4 _).1 g hk4), b1_some, if_neg (show ¬ (1 : Int32) = 0 by decide)]
    have hcnt := r0.2.1 (.inr hk4)
    rw [hks.2.2.2.2.1 hk4] at hcnt
    by_cases hneg : p1 < 0
    · rw [if_pos hneg, hthrow]
      right
      have hin : x_N_inner N b0 K (ad c) p1 S = some none := by
        unfold x_N_inner
        rw [if_neg (fun g => by rw [Int32.lt_iff_toInt_lt] at hneg; rw [Int32.le_iff_toInt_le] at g; omega)]
      rcases hcls none hin (by intro a h; cases h) with ⟨v, _, h, _⟩ | ⟨_, h⟩
      · cases h
      · exact ⟨_, _, h, rfl, Rw_1 _ _ _, hR.th 1⟩
    · obtain ⟨i, hi, rfl⟩ := nneg hneg
      rw [if_neg hneg, rL_eq (by show _ < 520; omega) (by omega), b1_some, hcnt]
      have hin : x_N_inner N b0 K (ad c) (I i) S = some (((kd c)[i]?).map ad) := by
        unfold x_N_inner
        rw [if_pos (I_nn' hi), gR_own n0.1 n0.2.2.1, n0.2.2.2.2.2.1 5 (by omega) (by omega), b1_some, hks.1]
        exact inner_i c17 hks hi (kd c).length 0 N (by omega) (by omega) (by omega)
      have hqa : ∀ a, ((kd c)[i]?).map ad = some a → ∃ v, v < m ∧ a = ad v := by
        intro a ha
        cases hx : (kd c)[i]? with
        | none => rw [hx] at ha; cases ha
        | some v => rw [hx] at ha; cases ha; exact ⟨v, (hks.2.2.1 i v hx).2.2.2, rfl⟩
      by_cases hil : i < (kd c).length
      · left
        obtain ⟨v, hv⟩ : ∃ v, (kd c)[i]? = some v := ⟨_, List.getElem?_eq_getElem hil⟩
        have hvm := (hks.2.2.1 i v hv).2.2.2
        rw [if_pos (I_lt1 hil (by omega)), href 0 (.inl rfl), if_pos rfl, rL_eq (by show _ < 520; omega) (by omega), b1_some]
        rcases hcls _ hin hqa with ⟨v', hv', e1, e2⟩ | ⟨e1, e2⟩
        · have hvv : v' = v := by
            rw [hv] at e1
            exact (c17.2.1 v' v hv' hvm (Option.some.inj e1).symm)
          subst hvv
          obtain ⟨a0, ha0⟩ : ∃ a, (kd c)[0]? = some a := ⟨_, List.getElem?_eq_getElem (by omega)⟩
          have e6 : (Rw R 0 0).2 6 (260 * hf + c) = I (260 * hf + a0) := by rw [Rw_2, r0.2.2.2.2.1, hks.1, ha0]; rfl
          rw [e6]
          have hd : m_down_58 N N (I i) (I (260 * hf + a0)) 0 (Rw R 0 0) = _ := down_i (N := N) (R := Rw R 0 0) (h8.keep (fun _ _ _ _ _ => rfl) (fun _ _ _ => rfl) (Nat.le_refl _)) h9 h5 hks hv i 0 N a0 (by omega) ha0 (by omega)
          refine ⟨_, _, _, v', e2, ?_, ?_, hC.cu hv', (hR.th 0).cu v'⟩
          · rw [hd, Rw_2, (h8.1 v' hv').1]
          · rw [Rw_1n _ _ (by decide), Rw_1]
        · rw [hv] at e1; cases e1
      · right
        have hnone : (kd c)[i]? = none := List.getElem?_eq_none (by omega)
        rw [if_neg (I_lt0 (by omega) hi), hthrow]
        rw [hnone] at hin
        rcases hcls none hin (by intro a h; cases h) with ⟨v, _, h, _⟩ | ⟨_, h⟩
        · cases h
        · exact ⟨_, _, h, rfl, Rw_1 _ _ _, hR.th 1⟩
  · rw [if_pos ((le4 _).2 hk4), b1_some, if_pos rfl, hthrow]
    right
    have hkn : kd c = [] := hks.2.2.2.2.2 hk4
    have hin : x_N_inner N b0 K (ad c) p1 S = some none := by
      unfold x_N_inner
      by_cases hneg : p1 < 0
      · rw [if_neg (fun g => by rw [Int32.lt_iff_toInt_lt] at hneg; rw [Int32.le_iff_toInt_le] at g; omega)]
      · obtain ⟨i, hi, rfl⟩ := nneg hneg
        rw [if_pos (I_nn' hi), gR_own n0.1 n0.2.2.1, n0.2.2.2.2.2.1 5 (by omega) (by omega), b1_some, hks.1]
        have hx : x_N_inner_13 N b0 K N (I i) (((kd c)[0]?).map ad) 0 S = _ := inner_i c17 hks hi (kd c).length 0 N (by omega) (by omega) (by omega)
        rw [hx, hkn]; rfl
    rcases hcls none hin (by intro a h; cases h) with ⟨v, _, h, _⟩ | ⟨_, h⟩
    · cases h
    · exact ⟨_, _, h, rfl, Rw_1 _ _ _, hR.th 1⟩
end
