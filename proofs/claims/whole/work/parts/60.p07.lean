section
variable {b0 N : Nat} {K S : cS} {rd : Nat} {t : Nat → Int32} {n p : Nat} {R : rS}
/-- What does not touch a string leaves it. -/
def Same (S S' : cS) (a : Nat) : Prop := S'.1 a = S.1 a ∧ S'.2.1 a = S.2.1 a ∧ S'.2.2.1 a = S.2.2.1 a ∧ S'.2.2.2 a = S.2.2.2 a
theorem Same.refl (S : cS) (a : Nat) : Same S S a := ⟨rfl, rfl, rfl, rfl⟩
theorem Same.trans {S S' S'' : cS} {a : Nat} (h : Same S S' a) (h' : Same S' S'' a) : Same S S'' a :=
  ⟨h'.1.trans h.1, h'.2.1.trans h.2.1, h'.2.2.1.trans h.2.2.1, h'.2.2.2.trans h.2.2.2⟩
theorem Same.sI {a b k : Nat} (v : Int32) (h : a ≠ b) : Same S (sI S b k v) a := by
  refine ⟨rfl, rfl, ?_, rfl⟩
  funext j; exact up2_nn _ _ (.inl h)
theorem Same.sR {a b k : Nat} (v : Option Nat) (h : a ≠ b) : Same S (sR S b k v) a := by
  refine ⟨rfl, rfl, rfl, ?_⟩
  funext j; exact up2_nn _ _ (.inl h)
theorem Same.nO {a b z : Nat} (h : a ≠ b) : Same S (nO S z b) a :=
  ⟨va_ne _ _ h, rfl, va_ne _ _ h, va_ne _ _ h⟩
theorem Same.nA {a b z n : Nat} (h : a ≠ b) : Same S (nA S z b n) a :=
  ⟨va_ne _ _ h, va_ne _ _ h, va_ne _ _ h, va_ne _ _ h⟩
theorem Same.nd {a b : Nat} {k x : Int32} (h : a ≠ b) : Same S (nd S b k x) a :=
  (Same.nO h).trans ((Same.sI _ h).trans (Same.sI _ h))
theorem Same.eq {S' : cS} {a : Nat} (h : Same S S' a) : kd b0 K S' a = kd b0 K S a ∧ (eK b0 K S' a).2.1 a = (eK b0 K S a).2.1 a ∧ (eK b0 K S' a).2.2.1 a = (eK b0 K S a).2.2.1 a ∧ (eK b0 K S' a).2.2.2 a = (eK b0 K S a).2.2.2 a := by
  unfold kd ck eK
  refine ⟨?_, ?_, ?_, ?_⟩
  · rw [h.1]
  · split; · rfl
    exact h.2.1
  · split; · rfl
    exact h.2.2.1
  · split; · rfl
    exact h.2.2.2
/-- A literal of the class. -/
def Lit (b0 : Nat) (K : cS) (j : Nat) (l : List Int32) : Prop := ∃ a, K.2.2.2 0 (j + 1) = some a ∧ a < b0 ∧ ∀ S, Str b0 K S a l
theorem tk_ne {c : Int32} (h : 0 < c.toInt) : c ≠ 0 := fun e => by rw [e] at h; exact absurd h (by decide)
/-- The word of a truth: letter by letter. -/
theorem pr_truth_i (hT : Tx t n) {v sz : Nat} (hv : v < 520) (hs : ownC b0 sz) {a : Nat} {l : List Int32} (hl : ∀ S, Str b0 K S a l) {y : Int32} (is : Int32)
    (hlen : l.length = if is = 0 then 5 else 4) (hlet : ∀ (j : Nat) (c : Int32), l[j]? = some c → m_letterOf N is (I j) R = some c ∧ c ≠ 0) (hy : y = if is = 0 then 0 else 1) : ∀ (m j k k' p : Nat) (S : cS) (R' : rS), j + m = l.length → m < k → m < k' → p ≤ n → (m = 0 → 0 < p) → CT b0 S rd t n p → RT R' t n p →
    ((∃ q, q = p + m ∧ q ≤ n ∧ x_R_readTruth_2 N b0 K k rd (some a) y (I j) sz S = some (some sz, nd (sI S rd 6 (I q)) sz 2 y, 1, 8) ∧ m_truth_17 N k' (I v) is (I j) R' = some (1, Ra (Ra (Rw R' 3 (I q)) 3 v 2) 4 v y)) ∨
    (∃ q, q ≤ n ∧ x_R_readTruth_2 N b0 K k rd (some a) y (I j) sz S = some (none, sI (sI S rd 6 (I q)) rd 7 (I q), 0, 0) ∧ m_truth_17 N k' (I v) is (I j) R' = some (0, Rw (Rw R' 3 (I q)) 4 (I q)))) := by
  have hn := hT.1
  have hl5 : l.length ≤ 5 := by rw [hlen]; split <;> omega
  intro m
  induction m with
  | zero =>
    intro j k k' p S R' hj hk hk' hp h0 hC hR
    obtain ⟨k, rfl⟩ : ∃ i, k = i + 1 := ⟨k - 1, by omega⟩
    obtain ⟨k', rfl⟩ : ∃ i, k' = i + 1 := ⟨k' - 1, by omega⟩
    unfold x_R_readTruth_2 x_R_readTruth_2F m_truth_17 m_truth_17F m_truth_27 m_truth_89
    simp only [b1_some]
    rw [ifk_kd (hl S).1, (hl S).len]
    simp only [b1_some]
    rw [if_pos (I_le1 (by omega) (by omega)), init_nd hs, rT_eq (by show _ < 520; omega) (by omega)]
    simp only [b1_some]
    refine .inl ⟨p, by omega, hp, by rw [hC.stay]; rfl, ?_⟩
    rw [hR.stay]
    by_cases h : is = 0
    · have hj5 : (5 : Int32) ≤ I j := by
        rw [if_pos h] at hlen; exact I_le1 (a := 5) (by omega) (by omega)
      rw [if_pos h, if_pos hj5, if_pos h, rT_eq (by show _ < 520; omega) (by omega), hy, if_pos h]; rfl
    · have hj5 : (4 : Int32) ≤ I j := by
        rw [if_neg h] at hlen; exact I_le1 (a := 4) (by omega) (by omega)
      rw [if_neg h, if_pos hj5, if_neg h, rT_eq (by show _ < 520; omega) (by omega), hy, if_neg h]; rfl
  | succ m ih =>
    intro j k k' p S R' hj hk hk' hp h0 hC hR
    obtain ⟨k, rfl⟩ : ∃ i, k = i + 1 := ⟨k - 1, by omega⟩
    obtain ⟨k', rfl⟩ : ∃ i, k' = i + 1 := ⟨k' - 1, by omega⟩
    have hjl : j < l.length := by omega
    have g1 : l[j]? = some l[j] := List.getElem?_eq_getElem hjl
    obtain ⟨g2, g3⟩ := hlet j _ g1
    have g2' : m_letterOf N is (I j) R' = some l[j] := g2
    unfold x_R_readTruth_2 x_R_readTruth_2F m_truth_17 m_truth_17F m_truth_27 m_fail
    simp only [b1_some]
    rw [ifk_kd (hl S).1, ifk_kd (hl S).1, (hl S).len, (hl S).at_ g1]
    simp only [b1_some]
    rw [if_neg (I_le0 hjl (by omega)), hC.ifk, take_eq hC hn (by omega) _ g3]
    simp only [here_eq hR hn (show p ≤ 1000 by omega), b1_some, g2', rP_eq, b2_some, hR.2.1, I_1]
    have hh : ∀ (A B : Option (Int32 × rS)), (if is = 0 then (if (5 : Int32) ≤ I j then A else B) else (if (4 : Int32) ≤ I j then A else B)) = B := by
      intro A B
      by_cases h : is = 0
      · rw [if_pos h] at hlen
        rw [if_pos h, if_neg (show ¬ (5 : Int32) ≤ I j from I_le0 (a := 5) (by omega) (by omega))]
      · rw [if_neg h] at hlen
        rw [if_neg h, if_neg (show ¬ (4 : Int32) ≤ I j from I_le0 (a := 4) (by omega) (by omega))]
    rw [hh]
    by_cases hc : ch t n p = l[j]
    · have hpn : p < n := by
        rcases Nat.lt_or_ge p n with h | h
        · exact h
        · rw [ch_out (by omega)] at hc; exact absurd hc.symm g3
      rw [if_pos hc, if_pos hc]
      simp only [b2_some, if_neg (show ¬ (1 : Int32) = 0 by decide)]
      rcases ih (j + 1) k k' (p + 1) _ _ (by omega) (by omega) (by omega) (by omega) (by omega) (hC.mv (p + 1)) (hR.mv (p + 1)) with ⟨q, h1, h2, h3, h4⟩ | ⟨q, h2, h3, h4⟩
      · exact .inl ⟨q, by omega, h2, by rw [h3, sI_twice], by rw [h4, Rw_twice]⟩
      · exact .inr ⟨q, h2, by rw [h3, sI_twice], by rw [h4, Rw_twice]⟩
    · rw [if_neg hc, if_neg hc]
      simp only [b2_some, if_true]
      exact .inr ⟨p, hp, by rw [hC.stay], by rw [hR.stay]; rfl⟩
def trueL : List Int32 := [116, 114, 117, 101]
def falseL : List Int32 := [102, 97, 108, 115, 101]
theorem lt_list {l : List Int32} {j : Nat} {c : Int32} (h : l[j]? = some c) : j < l.length := by
  rcases Nat.lt_or_ge j l.length with g | g
  · exact g
  · rw [List.getElem?_eq_none g] at h; cases h
theorem letT (j : Nat) (c : Int32) (h : trueL[j]? = some c) : m_letterOf N 1 (I j) R = some c ∧ c ≠ 0 := by
  have : j < 4 := lt_list h
  have : j = 0 ∨ j = 1 ∨ j = 2 ∨ j = 3 := by omega
  rcases this with rfl | rfl | rfl | rfl <;> cases h <;> exact ⟨by unfold m_letterOf; decide, by decide⟩
theorem letF (j : Nat) (c : Int32) (h : falseL[j]? = some c) : m_letterOf N 0 (I j) R = some c ∧ c ≠ 0 := by
  have : j < 5 := lt_list h
  have : j = 0 ∨ j = 1 ∨ j = 2 ∨ j = 3 ∨ j = 4 := by omega
  rcases this with rfl | rfl | rfl | rfl | rfl <;> cases h <;> exact ⟨by unfold m_letterOf; decide, by decide⟩
theorem pr_truth (hT : Tx t n) (hN : 1000 ≤ N) {v sz : Nat} (hv : v < 520) (hs : ownC b0 sz) {a : Nat} {l : List Int32} (hl : ∀ S, Str b0 K S a l) {y : Int32}
    (hc : (ch t n p = 116 ∧ l = trueL ∧ y = 1) ∨ (ch t n p = 102 ∧ l = falseL ∧ y = 0)) (hp : p ≤ n) (hC : CT b0 S rd t n p) (hR : RT R t n p) :
    Leaf S rd sz R v t n p (x_R_readTruth N b0 K rd (some a) y sz S) (m_truth N (I v) R) := by
  have hn := hT.1
  unfold x_R_readTruth m_truth m_truth_14
  rw [here_eq hR hn (by omega)]
  simp only [b1_some]
  rcases hc with ⟨h1, rfl, rfl⟩ | ⟨h1, rfl, rfl⟩
  · rw [if_pos h1]
    rcases pr_truth_i (N := N) (R := R) hT hv hs hl (y := 1) 1 rfl letT rfl 4 0 N N p S R rfl (by omega) (by omega) hp (by omega) hC hR with ⟨q, e, h2, h3, h4⟩ | ⟨q, h2, h3, h4⟩
    · exact .inl ⟨q, 2, 1, by omega, h2, .inr (.inl ⟨rfl, .inr rfl⟩), h3, h4⟩
    · exact .inr (.inl ⟨q, q, _, h2, h3, h4, Rw_1 _ _ _, FrB.mk2 _ _ _⟩)
  · rw [if_neg (by rw [h1]; decide)]
    rcases pr_truth_i (N := N) (R := R) hT hv hs hl (y := 0) 0 rfl letF rfl 5 0 N N p S R rfl (by omega) (by omega) hp (by omega) hC hR with ⟨q, e, h2, h3, h4⟩ | ⟨q, h2, h3, h4⟩
    · exact .inl ⟨q, 2, 0, by omega, h2, .inr (.inl ⟨rfl, .inl rfl⟩), h3, h4⟩
    · exact .inr (.inl ⟨q, q, _, h2, h3, h4, Rw_1 _ _ _, FrB.mk2 _ _ _⟩)
end
