section
variable {b0 N : Nat} {K S : cS} {rd : Nat} {t : Nat → Int32} {n p : Nat} {R : rS}
theorem I_div {a b : Nat} (ha : a < 2147483648) (hb : b < 2147483648) : I a / I b = I (a / b) := by
  apply Int32.toInt_inj.1
  have h1 : a / b ≤ a := Nat.div_le_self _ _
  rw [Int32.toInt_div, I_toInt ha, I_toInt hb, I_toInt (by omega)]
  have : ((a : Int).tdiv (b : Int)) = ((a / b : Nat) : Int) := by rw [Int.tdiv_eq_ediv_of_nonneg (by omega)]; simp
  rw [this]
  generalize a / b = m at h1
  exact Int.bmod_eq_of_le (by omega) (by omega)
theorem ite_iff {α : Type} {P Q : Prop} [Decidable P] [Decidable Q] (h : P ↔ Q) (a b : α) : (if P then a else b) = if Q then a else b := by
  by_cases hp : P
  · rw [if_pos hp, if_pos (h.1 hp)]
  · rw [if_neg hp, if_neg (fun q => hp (h.2 q))]
theorem I_ne0 {a : Nat} (h : a ≠ 0) (ha : a < 2147483648) : ¬ I a = 0 := fun e => h ((I_inj (b := 0) ha (by omega)).1 e)
theorem I_mod {a b : Nat} (ha : a < 2147483648) (hb : b < 2147483648) : I a - I a / I b * I b = I (a % b) := by
  rw [I_div ha hb, I_mul, I_sub (Nat.div_mul_le_self _ _)]
  congr 1
  have := Nat.div_add_mod' a b
  omega
/-! Strings, the class's ownC or literals. -/
def Str (b0 : Nat) (K S : cS) (s : Nat) (l : List Int32) : Prop :=
  kd b0 K S s = 6 ∧ (eK b0 K S s).2.2.1 s 1 = 0 ∧ l.length < 100000 ∧ (∀ (j : Nat) (c : Int32), l[j]? = some c → 0 ≤ c.toInt ∧ c.toInt < 128) ∧
  ∃ v, (eK b0 K S s).2.2.2 s 0 = some v ∧ kd b0 K S v = 12 ∧ (eK b0 K S v).2.1 v = l.length ∧ ∀ (j : Nat) (c : Int32), l[j]? = some c → (eK b0 K S v).2.2.1 v j = c
variable {s s' : Nat} {l l' : List Int32}
theorem nb0 : narrow .byte (.int (0 : Int32)) = .int 0 := by decide
theorem gI_kd {z k a : Nat} (h : kd b0 K S a = z) : gI b0 K S z k a = some ((eK b0 K S a).2.2.1 a k) := by unfold gI; rw [if_pos h]
theorem gR_kd {z k a : Nat} (h : kd b0 K S a = z) : gR b0 K S z k a = some ((eK b0 K S a).2.2.2 a k) := by unfold gR; rw [if_pos h]
theorem aN_kd {z a : Nat} (h : kd b0 K S a = z) : aN b0 K S z a = some (I ((eK b0 K S a).2.1 a)) := by unfold aN; rw [if_pos h]
theorem ifk_kd {α : Type} {z a : Nat} {o : Option α} (h : kd b0 K S a = z) : ifk b0 K S z a o = o := by unfold ifk; rw [if_pos h]
theorem aL_kd {z a i : Nat} (h : kd b0 K S a = z) (hi : i < (eK b0 K S a).2.1 a) (hb : i < 2147483648) : aL b0 K S z a (I i) = some ((eK b0 K S a).2.2.1 a i) := by
  unfold aL; rw [I_toInt hb, I_nat hb, if_pos ⟨h, by omega, by omega⟩]
theorem Str.len (h : Str b0 K S s l) : x_Str_length N b0 K s S = some (I l.length) := by
  obtain ⟨h1, h2, h3, h4, v, h5, h6, h7, h8⟩ := h
  unfold x_Str_length x_Str_coder
  rw [gR_kd h1, h5]
  simp only [b1_some]
  rw [aN_kd h6]
  simp only [b1_some]
  rw [ifk_kd h1, gI_kd h1, h2]
  simp only [b1_some]
  rw [if_pos nb0, h7]
  simp only [b1_some]
  have : (0 : Int32) &&& 31 = 0 := by decide
  rw [this, Int32.shiftRight_zero]
theorem Str.empty (h : Str b0 K S s l) : x_Str_isEmpty N b0 K s S = some (if l.length = 0 then 1 else 0) := by
  obtain ⟨h1, h2, h3, h4, v, h5, h6, h7, h8⟩ := h
  unfold x_Str_isEmpty
  rw [gR_kd h1, h5]
  simp only [b1_some]
  rw [aN_kd h6, h7]
  simp only [b1_some]
  by_cases e : l.length = 0
  · rw [if_pos e, e]; rfl
  · rw [if_neg e, if_neg (I_ne0 e (by omega))]
theorem and255 : ∀ k, k < 128 → ((I k &&& 255).toUInt32 % 65536).toInt32 = I k ∧ narrow .char (.int (I k)) = .int (I k) := by decide +kernel
theorem lo128 {c : Int32} (h : 0 ≤ c.toInt ∧ c.toInt < 128) : ∃ k, k < 128 ∧ c = I k :=
  ⟨c.toNatClampNeg, by show c.toInt.toNat < _; omega, of_nn h.1⟩
theorem Str.at_ (h : Str b0 K S s l) {j : Nat} {c : Int32} (hj : l[j]? = some c) : x_Str_charAt N b0 K s (I j) S = some c := by
  obtain ⟨h1, h2, h3, h4, v, h5, h6, h7, h8⟩ := h
  have hl : j < l.length := by
    rcases Nat.lt_or_ge j l.length with h | h
    · exact h
    · rw [List.getElem?_eq_none h] at hj; cases hj
  unfold x_Str_charAt x_Str_isLatin1 x_L1_charAt x_Str_checkIndex x_Pc_checkIndex
  rw [ifk_kd h1, gI_kd h1, h2, gR_kd h1, h5]
  simp only [b1_some, if_true]
  rw [if_neg (by decide), aN_kd h6, h7]
  simp only [b1_some]
  rw [if_neg (I_nn (by omega)), if_pos (I_lt1 hl (by omega)), aL_kd h6 (by omega) (by omega), h8 j c hj]
  simp only [b1_some]
  obtain ⟨k, hk, rfl⟩ := lo128 (h4 j c hj)
  obtain ⟨g1, g2⟩ := and255 k hk
  rw [g1, if_pos g2]
  simp only [b1_some]
  rw [if_pos g2]
theorem eqs_i {v v' : Nat} (hv : kd b0 K S v = 12) (hv' : kd b0 K S v' = 12) (e : (eK b0 K S v).2.1 v = l.length) (e' : (eK b0 K S v').2.1 v' = l'.length) (hl : l.length = l'.length) (hb : l.length < 100000)
    (h : ∀ (j : Nat) (c : Int32), l[j]? = some c → (eK b0 K S v).2.2.1 v j = c) (h' : ∀ (j : Nat) (c : Int32), l'[j]? = some c → (eK b0 K S v').2.2.1 v' j = c) : ∀ (k j : Nat), j ≤ l.length → l.length - j < k →
    x_L1_equals_9 N b0 K k v v' (I j) S = some (if ∀ i, i < l.length → j ≤ i → l[i]? = l'[i]? then 1 else 0) := by
  intro k
  induction k with
  | zero => intro j _ h; omega
  | succ k ih =>
    intro j hj hk
    unfold x_L1_equals_9 x_L1_equals_9F
    rw [aN_kd hv, e]
    simp only [b1_some]
    by_cases hc : j < l.length
    · rw [if_neg (I_le0 hc (by omega)), aL_kd hv (by omega) (by omega), aL_kd hv' (by omega) (by omega)]
      simp only [b1_some]
      have g1 : l[j]? = some l[j] := List.getElem?_eq_getElem hc
      have g2 : l'[j]? = some l'[j] := List.getElem?_eq_getElem (by omega)
      rw [h j _ g1, h' j _ g2]
      by_cases hh : l[j] = l'[j]
      · rw [if_pos hh, I_1, ih (j + 1) (by omega) (by omega)]
        congr 1
        refine ite_iff ?_ _ _
        constructor
        · intro g i hi hji
          by_cases e3 : i = j
          · subst e3; rw [g1, g2, hh]
          · exact g i hi (by omega)
        · intro g i hi hji; exact g i hi (by omega)
      · rw [if_neg hh, if_neg]
        intro g
        have := g j hc (by omega)
        rw [g1, g2] at this
        exact hh (Option.some.inj this)
    · rw [if_pos (I_le1 (by omega) (by omega)), if_pos]
      intro i hi hji; omega
theorem Str.eqs (hN : 200000 ≤ N) (h : Str b0 K S s l) (h' : Str b0 K S s' l') : x_Str_equals N b0 K s (some s') S = some (if l = l' then 1 else 0) := by
  unfold x_Str_equals
  by_cases e : some s = some s'
  · cases e
    obtain ⟨h1, h2, h3, h4, v, h5, h6, h7, h8⟩ := h
    obtain ⟨h1', h2', h3', h4', v', h5', h6', h7', h8'⟩ := h'
    rw [if_pos rfl, if_pos]
    rw [h5] at h5'; cases h5'
    apply List.ext_getElem?
    intro j
    rcases Nat.lt_or_ge j l.length with hj | hj
    · have g1 : l[j]? = some l[j] := List.getElem?_eq_getElem hj
      have g2 : l'[j]? = some l'[j] := List.getElem?_eq_getElem (by omega)
      have a1 := h8 j _ g1
      have a2 := h8' j _ g2
      rw [g1, g2, ← a1, ← a2]
    · rw [List.getElem?_eq_none hj, List.getElem?_eq_none (by omega)]
  · rw [if_neg e]
    simp only [b1_some]
    have H := h
    have H' := h'
    obtain ⟨h1, h2, h3, h4, v, h5, h6, h7, h8⟩ := h
    obtain ⟨h1', h2', h3', h4', v', h5', h6', h7', h8'⟩ := h'
    rw [ifk_kd h1', ifk_kd h1', gI_kd h1, gI_kd h1', h2, h2']
    simp only [b1_some, if_true]
    unfold x_Str_equals_36 x_L1_equals
    rw [gR_kd h1, gR_kd h1', h5, h5']
    simp only [b1_some]
    rw [aN_kd h6, aN_kd h6', h7, h7']
    simp only [b1_some]
    by_cases hl : l.length = l'.length
    · rw [if_pos (by rw [hl])]
      have g0 := eqs_i (N := N) h6 h6' h7 h7' hl h3 h8 h8' N 0 (by omega) (by omega)
      rw [show I 0 = (0 : Int32) from rfl] at g0
      rw [g0]
      simp only [b1_some]
      by_cases hh : l = l'
      · rw [if_pos hh, if_pos (fun i _ _ => by rw [hh]), if_neg (by decide)]
      · have g : ¬ ∀ (i : Nat), i < l.length → 0 ≤ i → l[i]? = l'[i]? := by
          intro g
          apply hh
          apply List.ext_getElem?
          intro j
          rcases Nat.lt_or_ge j l.length with hj | hj
          · exact g j hj (by omega)
          · rw [List.getElem?_eq_none hj, List.getElem?_eq_none (by omega)]
        rw [if_neg hh, if_neg g, if_pos rfl]
    · rw [if_neg (fun g => hl ((I_inj (by omega) (by omega)).1 g))]
      simp only [b1_some, if_true]
      rw [if_neg (fun g => hl (by rw [g]))]
end
