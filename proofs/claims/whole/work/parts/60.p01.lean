section
variable {b0 N : Nat} {K S : cS} {rd : Nat} {t : Nat → Int32} {n p : Nat} {R : rS}
/-! One char of the class, in place. -/
theorem CT.skip (h : CT b0 S rd t n p) (hn : n ≤ 240) (hp : p ≤ 1000) {α : Type} {A : Option α} {f : Int32 → Option α} :
    (b1 (gI b0 K S 4 6 rd) (fun x1 => b1 (gI b0 K S 4 1 rd) (fun x3 => if x3 ≤ x1 then A else (b1 (gR b0 K S 4 0 rd) (fun q5 => b1 (gI b0 K S 4 6 rd) (fun x7 => b1 q5 (fun a9 => b1 (aL b0 K S 11 a9 x7) (fun x12 => f x12))))))) ) = if p < n then f (t p) else A := by
  rw [h.at_, h.len, h.txt]
  simp only [b1_some]
  by_cases hc : p < n
  · rw [if_neg (I_le0 hc (by omega)), if_pos hc, h.chr hn hc]; rfl
  · rw [if_pos (I_le1 (by omega) (by omega)), if_neg hc]
theorem ch_in (h : p < n) : ch t n p = t p := if_pos h
theorem ch_out (h : ¬ p < n) : ch t n p = 0 := if_neg h
theorem pkIn (h : p < n) : pk t n p = t p := if_pos h
theorem pk_out (h : ¬ p < n) : pk t n p = -1 := if_neg h
theorem Tx.ne0 (hT : Tx t n) (h : p < n) : t p ≠ 0 := by
  rcases hT.2 p h with e | ⟨h1, h2⟩
  · rw [e]; decide
  · intro e; rw [e] at h1; revert h1; decide
theorem Tx.nem (hT : Tx t n) (h : p < n) : t p ≠ -1 := by
  rcases hT.2 p h with e | ⟨h1, h2⟩
  · rw [e]; decide
  · intro e; rw [e] at h1; revert h1; decide
theorem pkEq (c : Int32) (h0 : c ≠ 0) (h1 : c ≠ -1) : (pk t n p = c) ↔ (ch t n p = c) := by
  unfold pk ch
  by_cases h : p < n
  · rw [if_pos h, if_pos h]
  · rw [if_neg h, if_neg h]; exact ⟨fun e => absurd e.symm h1, fun e => absurd e.symm h0⟩
theorem pr_blanks_i (hT : Tx t n) : ∀ (k p : Nat) (S : cS) (R : rS), p ≤ n → n - p < k → CT b0 S rd t n p → RT R t n p →
    ∃ q, p ≤ q ∧ q ≤ n ∧ ch t n q ≠ 32 ∧ x_R_skipBlanks_0 N b0 K k rd S = some (sI S rd 6 (I q)) ∧ m_blanks_0 N k R = some (Rw R 3 (I q)) := by
  intro k
  induction k with
  | zero => intro p S R _ h; omega
  | succ k ih =>
    intro p S R hp hk hC hR
    unfold x_R_skipBlanks_0 m_blanks_0 x_R_skipBlanks_0F m_blanks_0F
    rw [hC.skip hT.1 (by have := hT.1; omega), here_eq hR hT.1 (by have := hT.1; omega)]
    simp only [b1_some, rP_eq]
    by_cases hc : p < n
    · rw [if_pos hc, ch_in hc]
      by_cases h32 : t p = 32
      · rw [if_pos h32, if_pos h32, hC.at_, hR.2.1]
        simp only [b1_some, hC.put, I_1]
        obtain ⟨q, h1, h2, h3, h4, h5⟩ := ih (p + 1) _ _ (by omega) (by omega) (hC.mv (p + 1)) (hR.mv (p + 1))
        refine ⟨q, by omega, h2, h3, ?_, ?_⟩
        · rw [h4, sI_twice]
        · rw [h5, Rw_twice]
      · rw [if_neg h32, if_neg h32]
        exact ⟨p, by omega, hp, by rw [ch_in hc]; exact h32, by rw [hC.stay], by rw [hR.stay]⟩
    · rw [if_neg hc, ch_out hc, if_neg (by decide)]
      exact ⟨p, by omega, hp, by rw [ch_out hc]; decide, by rw [hC.stay], by rw [hR.stay]⟩
theorem pr_blanks (hT : Tx t n) (hN : 1000 ≤ N) (hp : p ≤ n) (hC : CT b0 S rd t n p) (hR : RT R t n p) :
    ∃ q, p ≤ q ∧ q ≤ n ∧ ch t n q ≠ 32 ∧ x_R_skipBlanks N b0 K rd S = some (sI S rd 6 (I q)) ∧ m_blanks N R = some (Rw R 3 (I q)) :=
  pr_blanks_i hT N p S R hp (by have := hT.1; omega) hC hR
/-- What a comment passes over: the reference's loop and the class's. -/
theorem pr_comment_i (hT : Tx t n) : ∀ (k p : Nat) (S : cS) (R : rS), p ≤ n → n - p < k → CT b0 S rd t n p → RT R t n p →
    ∃ q, p ≤ q ∧ q ≤ n ∧ (q = n ∨ t q = 10) ∧ (∀ i, p ≤ i → i < q → t i ≠ 10) ∧ x_R_skipComment_9 N b0 K k rd S = some (sI S rd 6 (I q)) ∧ m_comment_0 N k R = some (Rw R 3 (I q)) := by
  intro k
  induction k with
  | zero => intro p S R _ h; omega
  | succ k ih =>
    intro p S R hp hk hC hR
    have hb := hT.1
    unfold x_R_skipComment_9 m_comment_0 x_R_skipComment_9F m_comment_0F
    rw [hC.skip hT.1 (by omega), here_eq hR hT.1 (by omega)]
    simp only [b1_some, rP_eq]
    by_cases hc : p < n
    · rw [if_pos hc, ch_in hc]
      by_cases h32 : t p = 10
      · rw [if_pos h32, if_pos h32]
        exact ⟨p, by omega, hp, .inr h32, by omega, by rw [hC.stay], by rw [hR.stay]⟩
      · rw [if_neg h32, if_neg h32, hC.at_, hR.2.1, hR.1, if_neg (I_le0 hc (by omega))]
        simp only [b1_some, hC.put, I_1]
        obtain ⟨q, h1, h2, h3, h6, h4, h5⟩ := ih (p + 1) _ _ (by omega) (by omega) (hC.mv (p + 1)) (hR.mv (p + 1))
        refine ⟨q, by omega, h2, h3, ?_, ?_, ?_⟩
        · intro i h7 h8
          by_cases e : i = p
          · rw [e]; exact h32
          · exact h6 i (by omega) h8
        · rw [h4, sI_twice]
        · rw [h5, Rw_twice]
    · rw [if_neg hc, ch_out hc, if_neg (by decide), hR.1, hR.2.1, if_pos (I_le1 (by omega) (by omega))]
      exact ⟨p, by omega, hp, .inl (by omega), by omega, by rw [hC.stay], by rw [hR.stay]⟩
theorem pr_comment (hT : Tx t n) (hN : 1000 ≤ N) (hp : p ≤ n) (hC : CT b0 S rd t n p) (hR : RT R t n p) :
    ∃ q, p ≤ q ∧ q ≤ n ∧ (ch t n p = 35 → q = n ∨ t q = 10) ∧ (ch t n p ≠ 35 → q = p) ∧ x_R_skipComment N b0 K rd S = some (sI S rd 6 (I q)) ∧
      (b1 (m_here N R) (fun x => if x = 35 then b1 (m_comment N R) (fun S => some S) else some R)) = some (Rw R 3 (I q)) := by
  have hb := hT.1
  unfold x_R_skipComment m_comment
  rw [hC.ifk, peek_eq hC hb (by omega), here_eq hR hb (by omega)]
  simp only [b1_some]
  by_cases h : ch t n p = 35
  · rw [if_pos ((pkEq 35 (by decide) (by decide)).2 h), if_pos h]
    obtain ⟨q, h1, h2, h3, h6, h4, h5⟩ := pr_comment_i (K := K) (N := N) hT N p S R hp (by omega) hC hR
    exact ⟨q, h1, h2, fun _ => h3, fun e => absurd h e, h4, by rw [h5]; rfl⟩
  · rw [if_neg (fun e => h ((pkEq 35 (by decide) (by decide)).1 e)), if_neg h]
    exact ⟨p, by omega, hp, fun e => absurd e h, fun _ => rfl, by rw [hC.stay], by rw [hR.stay]⟩
/-! Room: blanks, lines and comments. The class keeps a flag, the reference a loop in the loop. -/
theorem x_cm (hT : Tx t n) : ∀ (k p : Nat) (R : rS), p ≤ n → n - p < k → RT R t n p →
    ∃ q, p ≤ q ∧ q ≤ n ∧ (q = n ∨ t q = 10) ∧ (∀ i, p ≤ i → i < q → t i ≠ 10) ∧ m_comment_0 N k R = some (Rw R 3 (I q)) := by
  intro k
  induction k with
  | zero => intro p R _ h; omega
  | succ k ih =>
    intro p R hp hk hR
    have hb := hT.1
    unfold m_comment_0 m_comment_0F
    rw [here_eq hR hT.1 (by omega)]
    simp only [b1_some, rP_eq]
    by_cases hc : p < n
    · rw [ch_in hc]
      by_cases h32 : t p = 10
      · rw [if_pos h32]
        exact ⟨p, by omega, hp, .inr h32, by omega, by rw [hR.stay]⟩
      · rw [if_neg h32, hR.2.1, hR.1, if_neg (I_le0 hc (by omega))]
        simp only [I_1]
        obtain ⟨q, h1, h2, h3, h6, h5⟩ := ih (p + 1) _ (by omega) (by omega) (hR.mv (p + 1))
        refine ⟨q, by omega, h2, h3, ?_, by rw [h5, Rw_twice]⟩
        intro i h7 h8
        by_cases e : i = p
        · rw [e]; exact h32
        · exact h6 i (by omega) h8
    · rw [ch_out hc, if_neg (by decide), hR.1, hR.2.1, if_pos (I_le1 (by omega) (by omega))]
      exact ⟨p, by omega, hp, .inl (by omega), by omega, by rw [hR.stay]⟩
/-- The class's loop with the flag set runs to the end of the line. -/
theorem x_room1 (hT : Tx t n) (q : Nat) (hq : q = n ∨ t q = 10) : ∀ (k p : Nat) (S : cS), p ≤ q → q ≤ n → q - p < k → (∀ i, p ≤ i → i < q → t i ≠ 10) → CT b0 S rd t n p →
    x_R_skipBlanksLinesAndComments_2 N b0 K k rd 1 S = x_R_skipBlanksLinesAndComments_2 N b0 K (k - (q - p)) rd 1 (sI S rd 6 (I q)) := by
  intro k
  induction k with
  | zero => intro p S _ _ h; omega
  | succ k ih =>
    intro p S hp hqn hk hi hC
    have hb := hT.1
    by_cases e : p = q
    · subst e; rw [hC.stay]; congr 1; omega
    · have hc : p < n := by omega
      conv => lhs; unfold x_R_skipBlanksLinesAndComments_2 x_R_skipBlanksLinesAndComments_2F
      rw [hC.skip hT.1 (by omega), if_pos hc, if_neg (hi p (by omega) (by omega)), if_neg (by decide : ¬ (1 : Int32) = 0)]
      simp only [ite_self]
      unfold x_R_skipBlanksLinesAndComments_56
      rw [hC.at_]
      simp only [b1_some, hC.put, I_1]
      rw [ih (p + 1) _ (by omega) hqn (by omega) (fun i h1 h2 => hi i (by omega) h2) (hC.mv (p + 1)), sI_twice]
      congr 1; omega
theorem pr_room_i (hT : Tx t n) (hN : 1000 ≤ N) : ∀ (d p k k' : Nat) (S : cS) (R : rS), p ≤ n → n - p ≤ d → n - p < k → n - p < k' → CT b0 S rd t n p → RT R t n p →
    ∃ q, p ≤ q ∧ q ≤ n ∧ (ch t n q ≠ 32 ∧ ch t n q ≠ 10 ∧ ch t n q ≠ 35) ∧ x_R_skipBlanksLinesAndComments_2 N b0 K k rd 0 S = some (sI S rd 6 (I q)) ∧ m_room_0 N k' R = some (Rw R 3 (I q)) := by
  intro d
  induction d with
  | zero =>
    intro p k k' S R hp hd hk hk' hC hR
    have hb := hT.1
    obtain ⟨k, rfl⟩ : ∃ j, k = j + 1 := ⟨k - 1, by omega⟩
    obtain ⟨k', rfl⟩ : ∃ j, k' = j + 1 := ⟨k' - 1, by omega⟩
    have hc : ¬ p < n := by omega
    unfold x_R_skipBlanksLinesAndComments_2 m_room_0 x_R_skipBlanksLinesAndComments_2F m_room_0F
    rw [hC.skip hT.1 (by omega), if_neg hc, here_eq hR hT.1 (by omega), ch_out hc]
    simp only [b1_some]
    rw [if_neg (by decide), if_neg (by decide), if_neg (by decide)]
    exact ⟨p, by omega, hp, ⟨by rw [ch_out hc]; decide, by rw [ch_out hc]; decide, by rw [ch_out hc]; decide⟩, by rw [hC.stay], by rw [hR.stay]⟩
  | succ d ih =>
    intro p k k' S R hp hd hk hk' hC hR
    have hb := hT.1
    by_cases hc : p < n
    case neg => exact ih p k k' S R hp (by omega) hk hk' hC hR
    obtain ⟨k, rfl⟩ : ∃ j, k = j + 1 := ⟨k - 1, by omega⟩
    obtain ⟨k', rfl⟩ : ∃ j, k' = j + 1 := ⟨k' - 1, by omega⟩
    unfold x_R_skipBlanksLinesAndComments_2 m_room_0 x_R_skipBlanksLinesAndComments_2F m_room_0F m_room_27 x_R_skipBlanksLinesAndComments_56
    rw [hC.skip hT.1 (by omega), if_pos hc, here_eq hR hT.1 (by omega), ch_in hc]
    simp only [b1_some, rP_eq, hR.2.1, I_1]
    rw [hC.at_]
    simp only [b1_some, hC.put, I_1]
    by_cases h35 : t p = 35
    · rw [h35]
      rw [if_neg (by decide), if_pos rfl, if_neg (by decide), if_neg (by decide), if_pos rfl, if_pos rfl]
      obtain ⟨q, h1, h2, h3, h4, h5⟩ := x_cm (N := N) hT N p R hp (by omega) hR
      unfold m_comment
      rw [h5]
      simp only [b1_some]
      have hpq : p < q := by
        rcases h3 with h3 | h3
        · omega
        · rcases Nat.lt_or_eq_of_le h1 with h | h
          · exact h
          · rw [← h, h35] at h3; exact absurd h3 (by decide)
      rw [x_room1 (K := K) (N := N) hT q h3 k (p + 1) _ (by omega) h2 (by omega) (fun i h1 h2 => h4 i (by omega) h2) (hC.mv (p + 1)), sI_twice]
      by_cases e : q = n
      · subst e
        have hC' := hC.mv q
        have hR' := hR.mv q
        obtain ⟨q', h1', h2', h3', h4', h5'⟩ := ih q 1 k' _ _ (by omega) (by omega) (by omega) (by omega) hC' hR'
        have e2 : q' = q := by omega
        subst e2
        obtain ⟨k2, e3⟩ : ∃ j, k - (q' - (p + 1)) = j + 1 := ⟨k - (q' - (p + 1)) - 1, by omega⟩
        refine ⟨q', by omega, h2', h3', ?_, ?_⟩
        · rw [e3]
          unfold x_R_skipBlanksLinesAndComments_2 x_R_skipBlanksLinesAndComments_2F
          rw [hC'.skip hT.1 (by omega), if_neg (by omega)]
        · rw [h5', Rw_twice]
      · have h10 : t q = 10 := h3.resolve_left e
        have hC' := hC.mv q
        have hR' := hR.mv q
        have hC'' := hC.mv (q + 1)
        have hR'' := hR.mv (q + 1)
        obtain ⟨k2, e3⟩ : ∃ j, k - (q - (p + 1)) = j + 1 := ⟨k - (q - (p + 1)) - 1, by omega⟩
        obtain ⟨k3, e4⟩ : ∃ j, k' = j + 1 := ⟨k' - 1, by omega⟩
        obtain ⟨q', h1', h2', h3', h4', h5'⟩ := ih (q + 1) k2 k3 _ _ (by omega) (by omega) (by omega) (by omega) hC'' hR''
        refine ⟨q', by omega, h2', h3', ?_, ?_⟩
        · rw [e3]
          unfold x_R_skipBlanksLinesAndComments_2 x_R_skipBlanksLinesAndComments_2F x_R_skipBlanksLinesAndComments_56
          rw [hC'.skip hT.1 (by omega), if_pos (by omega), if_pos h10, hC'.at_]
          simp only [b1_some, hC'.put, I_1, sI_twice]
          rw [h4', sI_twice]
        · rw [e4]
          unfold m_room_0 m_room_0F m_room_27
          rw [here_eq hR' hT.1 (by omega), ch_in (by omega), h10]
          simp only [b1_some, rP_eq, hR'.2.1, I_1]
          rw [if_neg (by decide), if_pos trivial, if_neg (by decide), Rw_twice, h5', Rw_twice]
    · rw [if_neg h35, if_neg h35]
      by_cases h32 : t p = 32
      · rw [if_neg (by rw [h32]; decide), if_pos h32, if_pos h32]
        obtain ⟨q, h1, h2, h3, h4, h5⟩ := ih (p + 1) k k' _ _ (by omega) (by omega) (by omega) (by omega) (hC.mv (p + 1)) (hR.mv (p + 1))
        exact ⟨q, by omega, h2, h3, by rw [h4, sI_twice], by rw [h5, Rw_twice]⟩
      · by_cases h10 : t p = 10
        · rw [if_pos h10, if_neg h32, if_pos h10]
          obtain ⟨q, h1, h2, h3, h4, h5⟩ := ih (p + 1) k k' _ _ (by omega) (by omega) (by omega) (by omega) (hC.mv (p + 1)) (hR.mv (p + 1))
          exact ⟨q, by omega, h2, h3, by rw [h4, sI_twice], by rw [h5, Rw_twice]⟩
        · rw [if_neg h10, if_neg h32, if_neg h32, if_neg h10]
          simp only [if_true]
          exact ⟨p, by omega, hp, ⟨by rw [ch_in hc]; exact h32, by rw [ch_in hc]; exact h10, by rw [ch_in hc]; exact h35⟩, by rw [hC.stay], by rw [if_neg h35, hR.stay]⟩
theorem pr_room (hT : Tx t n) (hN : 1000 ≤ N) (hp : p ≤ n) (hC : CT b0 S rd t n p) (hR : RT R t n p) :
    ∃ q, p ≤ q ∧ q ≤ n ∧ (ch t n q ≠ 32 ∧ ch t n q ≠ 10 ∧ ch t n q ≠ 35) ∧ x_R_skipBlanksLinesAndComments N b0 K rd S = some (sI S rd 6 (I q)) ∧ m_room N R = some (Rw R 3 (I q)) :=
  pr_room_i hT hN n p N N S R hp (by omega) (by have := hT.1; omega) (by have := hT.1; omega) hC hR
end
