section
variable {T : Ar} {m : Nat} {kd : Nat → List Nat} {v a b i : Nat}
def ancS (T : Ar) (v : Nat) : Nat → Nat → Prop
  | 0, i => i = v
  | k + 1, i => i = v ∨ ∃ h, T.2.2.1 i 4 = some h ∧ ancS T v k h
def AnS (T : Ar) (v i : Nat) : Prop := ∃ k, ancS T v k i
noncomputable def cnt (p : Nat → Prop) : Nat → Nat
  | 0 => 0
  | k + 1 => cnt p k + @ite Nat (p k) (Classical.propDecidable _) 1 0
theorem ite1 (P : Prop) : (P ∧ @ite Nat P (Classical.propDecidable _) 1 0 = 1) ∨ (¬ P ∧ @ite Nat P (Classical.propDecidable _) 1 0 = 0) := by
  by_cases h : P
  · exact .inl ⟨h, @if_pos P (Classical.propDecidable _) h Nat 1 0⟩
  · exact .inr ⟨h, @if_neg P (Classical.propDecidable _) h Nat 1 0⟩
theorem cnt_le (p : Nat → Prop) : ∀ k, cnt p k ≤ k
  | 0 => Nat.le_refl _
  | k + 1 => by
    have := cnt_le p k
    unfold cnt
    rcases ite1 (p k) with ⟨_, g⟩ | ⟨_, g⟩ <;> rw [g] <;> omega
theorem cnt_add {p q r : Nat → Prop} : ∀ k, (∀ i, i < k → p i → q i → False) → (∀ i, i < k → p i → r i) → (∀ i, i < k → q i → r i) → cnt p k + cnt q k ≤ cnt r k
  | 0, _, _, _ => Nat.le_refl _
  | k + 1, h1, h2, h3 => by
    have ih := cnt_add k (fun i hi => h1 i (by omega)) (fun i hi => h2 i (by omega)) (fun i hi => h3 i (by omega))
    unfold cnt
    rcases ite1 (p k) with ⟨a, g⟩ | ⟨a, g⟩ <;> rw [g] <;> rcases ite1 (q k) with ⟨b, g'⟩ | ⟨b, g'⟩ <;> rw [g'] <;> rcases ite1 (r k) with ⟨c, g''⟩ | ⟨c, g''⟩ <;> rw [g'']
    · exact (h1 k (by omega) a b).elim
    · exact (h1 k (by omega) a b).elim
    · omega
    · exact absurd (h2 k (by omega) a) c
    · omega
    · exact absurd (h3 k (by omega) b) c
    · omega
    · omega
theorem cnt_one {p : Nat → Prop} : ∀ k, (∃ i, i < k ∧ p i) → 1 ≤ cnt p k
  | 0, ⟨i, h, _⟩ => by omega
  | k + 1, ⟨i, h, hp⟩ => by
    unfold cnt
    by_cases e : i = k
    · rcases ite1 (p k) with ⟨_, g⟩ | ⟨g, _⟩
      · rw [g]; omega
      · rw [e] at hp; exact absurd hp g
    · have := cnt_one k ⟨i, by omega, hp⟩
      omega
theorem hold_lt (hW : WF T kd m) {h : Nat} (hi : i < m) (h4 : T.2.2.1 i 4 = some h) : h < i ∧ h < m := by
  obtain ⟨hk, hm⟩ := hW.2.2.1 i h hi h4
  obtain ⟨j, hj⟩ := List.getElem?_of_mem hm
  exact ⟨((hW.1 h hk).2.2.1 j i hj).2.2.1, hk⟩
theorem anS_le (hW : WF T kd m) : ∀ k i, i < m → ancS T a k i → a ≤ i
  | 0, i, hi, h => by have : i = a := h; omega
  | k + 1, i, hi, h => by
    rcases h with h | ⟨h', e, h⟩
    · omega
    · have := hold_lt hW hi e
      have := anS_le hW k h' this.2 h
      omega
theorem anS_up (h4 : T.2.2.1 a 4 = some v) : ∀ k i, ancS T a k i → AnS T v i
  | 0, i, h => ⟨1, .inr ⟨v, by have : i = a := h; rw [this]; exact h4, rfl⟩⟩
  | k + 1, i, h => by
    rcases h with h | ⟨h', e, h⟩
    · exact ⟨1, .inr ⟨v, by rw [h]; exact h4, rfl⟩⟩
    · obtain ⟨k', g⟩ := anS_up h4 k h' h
      exact ⟨k' + 1, .inr ⟨h', e, g⟩⟩
theorem anS_lin (hW : WF T kd m) (hab : a < b) : ∀ k i, i < m → ancS T b k i → AnS T a i → AnS T a b
  | 0, i, hi, h, g => by have : i = b := h; rw [this] at g; exact g
  | k + 1, i, hi, h, g => by
    rcases h with h | ⟨h', e, h⟩
    · rw [h] at g; exact g
    · obtain ⟨k', g⟩ := g
      have hb : b ≤ i := by have := hold_lt hW hi e; have := anS_le hW k h' this.2 h; omega
      cases k' with
      | zero => have : i = a := g; omega
      | succ k' =>
        rcases g with g | ⟨h'', e', g⟩
        · omega
        · rw [e] at e'; cases e'
          exact anS_lin hW hab k h' (hold_lt hW hi e).2 h ⟨k', g⟩
theorem an_dis (hW : WF T kd m) (hab : a < b) (hb : b < m) (h1 : T.2.2.1 a 4 = some v) (h2 : T.2.2.1 b 4 = some v) (hi : i < m) (g1 : AnS T a i) (g2 : AnS T b i) : False := by
  obtain ⟨k, g2⟩ := g2
  obtain ⟨k', g⟩ := anS_lin hW hab k i hi g2 g1
  have hva := hold_lt hW (show a < m by omega) h1
  cases k' with
  | zero => have : b = a := g; omega
  | succ k' =>
    rcases g with g | ⟨h', e, g⟩
    · omega
    · rw [h2] at e; cases e
      have := anS_le hW k' v hva.2 g
      omega
/-- How many values stand in a value, itself among them. -/
noncomputable def dsz (T : Ar) (m v : Nat) : Nat := cnt (AnS T v) m
/-- The same of the later ones of a list of children. -/
noncomputable def ksz (T : Ar) (m : Nat) (ks : List Nat) (j : Nat) : Nat := cnt (fun i => ∃ p a, j ≤ p ∧ ks[p]? = some a ∧ AnS T a i) m
theorem dsz_kids (hW : WF T kd m) (hv : v < m) : ksz T m (kd v) 0 + 1 ≤ dsz T m v := by
  have hks := hW.1 v hv
  have h1 : 1 ≤ cnt (fun i => i = v) m := cnt_one m ⟨v, hv, rfl⟩
  have := cnt_add (p := fun i => ∃ p a, 0 ≤ p ∧ (kd v)[p]? = some a ∧ AnS T a i) (q := fun i => i = v) (r := AnS T v) m (fun i hi ⟨p, a, _, ha, k, g⟩ e => by
      have h1 := anS_le hW k i hi g
      have h2 := (hks.2.2.1 p a ha).2.2.1
      omega) (fun i hi ⟨p, a, _, ha, k, g⟩ => anS_up (hks.2.2.1 p a ha).2.1 k i g) (fun i hi e => ⟨0, e⟩)
  unfold ksz dsz
  omega
theorem dsz_next (hW : WF T kd m) (hv : v < m) {j : Nat} (hj : (kd v)[j]? = some a) : dsz T m a + ksz T m (kd v) (j + 1) ≤ ksz T m (kd v) j := by
  have hks := hW.1 v hv
  unfold ksz dsz
  refine cnt_add m (fun i hi g1 ⟨p, b, hp, hb, g2⟩ => ?_) (fun i hi g => ⟨j, a, Nat.le_refl _, hj, g⟩) (fun i hi ⟨p, b, hp, hb, g2⟩ => ⟨p, b, by omega, hb, g2⟩)
  exact an_dis hW (hks.2.2.2.1 j p a b (by omega) hj hb) (hks.2.2.1 p b hb).2.2.2 (hks.2.2.1 j a hj).2.1 (hks.2.2.1 p b hb).2.1 hi g1 g2
theorem dsz_pos (hv : v < m) : 1 ≤ dsz T m v := cnt_one m ⟨v, hv, 0, rfl⟩
theorem dsz_le : dsz T m v ≤ m := cnt_le _ _
end
