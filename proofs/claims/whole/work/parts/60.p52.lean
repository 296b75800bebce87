section
variable {b0 N : Nat} {K S S' : cS} {sz : Nat} {t : Nat → Int32} {n : Nat} {R R' : rS} {u : Nat} {T T' : Ar} {ad : Nat → Nat} {m : Nat} {kd : Nat → List Nat} {o : Nat → Int32} {w c hf : Nat}
def tup (t : Nat → Int32) (n : Nat) (x : Int32) : Nat → Int32 := fun i => if i = n then x else t i
theorem CS.txt (h : CS b0 S sz t n o w T kd ad m c) (x : Int32) : CS b0 (sI (sI S (b0 + 1) n x) b0 2 (I (n + 1))) sz (tup t n x) (n + 1) o w T kd ad m c := by
  obtain ⟨c1, c2, c3, c4, c5, c6, c7, c8, c9, c10, c11, c12, c13, c14, c15, c16, c17, c18, c19, c20, c21, c22⟩ := h
  have hsm : ∀ a, a ≠ b0 → a ≠ b0 + 1 → Same S (sI (sI S (b0 + 1) n x) b0 2 (I (n + 1))) a := fun a h1 h2 => (Same.sI _ h2).trans (Same.sI _ h1)
  have s2 := hsm (b0 + 2) (by omega) (by omega)
  have s3 := hsm (b0 + 3) (by omega) (by omega)
  refine ⟨c1, c2, c3, c4, up2_at _ _ _ _, c6, c7, c8, c9, ?_, c11, c12, by rw [s2.2.2.1]; exact c13, c14, c15, by rw [s3.2.2.1]; exact c16, c17.same (fun a ha hk => hsm a (fun g => by rw [g, c2] at hk; omega) (fun g => by rw [g, c8] at hk; omega)) (Nat.le_refl _), c18, c19, c20, c21, c22⟩
  intro i hi
  show up2 _ _ _ _ _ _ = _
  rw [up2_nn _ _ (.inl (by omega))]
  show up2 _ _ _ _ _ _ = _
  unfold tup
  by_cases hin : i = n
  · rw [if_pos hin, hin, up2_at]
  · rw [if_neg hin, up2_nn _ _ (.inr hin)]; exact c10 i (by omega)
theorem RS.txt (h : RS R t n o w T hf m u c) (x : Int32) : RS (Rw (Ra R 1 n x) 1 (I (n + 1))) (tup t n x) (n + 1) o w T hf m u c := by
  obtain ⟨h1, h2, h3, h4, h5, h6, h7, h8, h9, h10⟩ := h
  refine ⟨Rw_1 _ _ _, fun i hi => ?_, by rw [Rw_1n _ _ (by decide)]; exact h3, fun i h h' => by rw [Rw_2, Ra_ne _ (.inl (by decide))]; exact h4 i h h', h5, by rw [Rw_1n _ _ (by decide)]; exact h6, by rw [Rw_1n _ _ (by decide)]; exact h7, h8.keep (fun j i h _ _ => by rw [Rw_2, Ra_ne _ (.inl (by omega))]) (fun i _ _ => by rw [Rw_2, Ra_ne _ (.inl (by omega))]) (Nat.le_refl _), h9, h10⟩
  rw [Rw_2, Ra_get]
  unfold tup
  by_cases hin : i = n
  · rw [if_pos ⟨rfl, hin⟩, if_pos hin]
  · rw [if_neg (fun g => hin g.2), if_neg hin]; exact h2 i (by omega)
def okc (x : Int32) : Prop := x = 10 ∨ (32 ≤ x.toInt ∧ x.toInt ≤ 126)
theorem Tx.tupA (h : Tx t n) (hn : n + 1 ≤ 240) {x : Int32} (hx : okc x) : Tx (tup t n x) (n + 1) := by
  refine ⟨hn, fun i hi => ?_⟩
  unfold tup
  by_cases hin : i = n
  · rw [if_pos hin]; exact hx
  · rw [if_neg hin]; exact h.2 i (by omega)
theorem I_m1 (d : Nat) : I (d + 1) + (-1) = I d := by
  rw [show (-1 : Int32) = -(I 1) from rfl, ← Int32.sub_eq_add_neg, I_sub (by omega)]; rfl
theorem m1_ng : I 0 + (-1) < 0 := by decide
theorem type_i (p1 : Int64) : ∀ (d f n : Nat) (t : Nat → Int32) (S : cS) (R : rS), d ≤ 8 → d < f → n + d ≤ 240 → CS b0 S sz t n o w T kd ad m c → RS R t n o w T hf m u c → Tx t n → (∀ j, j < d → okc (byt p1 j)) →
    ∃ S' R' t', x_T_type_52 N b0 K f b0 p1 (I d + (-1)) S = some (I (n + d), S') ∧ m_type_124 N f p1 (I d + (-1)) R = some (I (n + d), R') ∧ R'.1 0 = R.1 0 ∧ CS b0 S' sz t' (n + d) o w T kd ad m c ∧ RS R' t' (n + d) o w T hf m u c ∧ Tx t' (n + d) := by
  intro d
  induction d with
  | zero =>
    intro f n t S R hd hf hnd hC hR hT hok
    obtain ⟨f, rfl⟩ : ∃ x, f = x + 1 := ⟨f - 1, by omega⟩
    unfold x_T_type_52 x_T_type_52F m_type_124 m_type_124F
    rw [if_pos m1_ng, if_pos m1_ng, gI_own (obA0 b0) hC.2.1, hC.2.2.2.2.1, b1_some, hR.1]
    exact ⟨S, R, t, rfl, rfl, rfl, hC, hR, hT⟩
  | succ d ih =>
    intro f n t S R hd hf hnd hC hR hT hok
    obtain ⟨f, rfl⟩ : ∃ x, f = x + 1 := ⟨f - 1, by omega⟩
    have hC' := hC
    obtain ⟨c1, c2, c3, c4, c5, c6, c7, c8, c9, c10, -⟩ := hC'
    obtain ⟨k, hk, hb⟩ := byt_lt p1 d
    unfold x_T_type_52 x_T_type_52F m_type_124 m_type_124F x_T_byteAt
    rw [I_m1, if_neg (I_nn (by omega)), if_neg (I_nn (by omega)), gR_own (obA0 b0) c2, c3, b1_some, gI_own (obA0 b0) c2, c5, b1_some, byte_eq p1 (by omega), b1_some, b1_some, hb, nar256 k hk]
    rw [aT_own (obA1 b0) c8 (by omega) (by omega), b1_some, gI_own (obA0 b0) (by exact c2), b1_some, pI_own (obA0 b0) (by exact c2), b1_some]
    rw [show (sI S (b0 + 1) n (I k)).2.2.1 b0 2 = I n by show up2 _ _ _ _ _ _ = _; rw [up2_nn _ _ (.inl (by omega))]; exact c5, I_1]
    rw [hR.1, show ((p1 >>> ((8 * I d).toInt64 &&& 63)) &&& 255).toInt32 = I k from hb, rT_eq (by show _ < 240; omega) (by omega), b1_some, rP_eq, b1_some, Ra_1, hR.1, I_1]
    have hok' := hok d (by omega)
    rw [hb] at hok'
    obtain ⟨S', R', t', e1, e2, e3, e4, e5, e6⟩ := ih f (n + 1) (tup t n (I k)) _ _ (by omega) (by omega) (by omega) (hC.txt (I k)) (hR.txt (I k)) (hT.tupA (by omega) hok') (fun j hj => hok j (by omega))
    have en : n + 1 + d = n + (d + 1) := by omega
    rw [en] at e1 e2 e4 e5 e6
    exact ⟨S', R', t', e1, e2, by rw [e3, Rw_1n _ _ (by decide), Ra_1], e4, e5, e6⟩
theorem all_i (p1 : Int64) {p : Nat} (hp : p ≤ 8) : ∀ (d j f f' : Nat), j + d = p → d < f → d + 1 < f' →
    (x_T_allAreCharacters_2 N b0 K f p1 (I p) (I j) S = some 1 ∧ m_type_21 N f' p1 (I p) 0 (I j) R = m_type_80 N p1 (I p) 0 R ∧ ∀ i, j ≤ i → i < p → okc (byt p1 i)) ∨
    (x_T_allAreCharacters_2 N b0 K f p1 (I p) (I j) S = some 0 ∧ m_type_21 N f' p1 (I p) 0 (I j) R = m_type_80 N p1 (I p) 1 R) := by
  intro d
  induction d with
  | zero =>
    intro j f f' hj hf hf'
    obtain ⟨f, rfl⟩ : ∃ x, f = x + 1 := ⟨f - 1, by omega⟩
    obtain ⟨f', rfl⟩ : ∃ x, f' = x + 1 := ⟨f' - 1, by omega⟩
    unfold x_T_allAreCharacters_2 x_T_allAreCharacters_2F m_type_21 m_type_21F
    rw [if_pos (I_le1 (by omega) (by omega)), if_pos (I_le1 (by omega) (by omega))]
    exact .inl ⟨rfl, rfl, fun i h1 h2 => by omega⟩
  | succ d ih =>
    intro j f f' hj hf hf'
    obtain ⟨f, rfl⟩ : ∃ x, f = x + 1 := ⟨f - 1, by omega⟩
    obtain ⟨f', rfl⟩ : ∃ x, f' = x + 1 := ⟨f' - 1, by omega⟩
    have hnle : ¬ I p ≤ I j := I_le0 (by omega) (by omega)
    have e32 : (32 : Int32).toInt = 32 := by decide
    have e126 : (126 : Int32).toInt = 126 := by decide
    have go : okc (byt p1 j) → (x_T_allAreCharacters_2 N b0 K f p1 (I p) (I (j + 1)) S = some 1 ∧ m_type_21 N f' p1 (I p) 0 (I (j + 1)) R = m_type_80 N p1 (I p) 0 R ∧ ∀ i, j ≤ i → i < p → okc (byt p1 i)) ∨
        (x_T_allAreCharacters_2 N b0 K f p1 (I p) (I (j + 1)) S = some 0 ∧ m_type_21 N f' p1 (I p) 0 (I (j + 1)) R = m_type_80 N p1 (I p) 1 R) := by
      intro hk
      rcases ih (j + 1) f f' (by omega) (by omega) (by omega) with ⟨a, b, c⟩ | ⟨a, b⟩
      · exact .inl ⟨a, b, fun i h1 h2 => by
          by_cases h : i = j
          · rw [h]; exact hk
          · exact c i (by omega) h2⟩
      · exact .inr ⟨a, b⟩
    have bad : m_type_21 N f' p1 (I p) 1 (I (j + 1)) R = m_type_80 N p1 (I p) 1 R := by
      obtain ⟨f', rfl⟩ : ∃ x, f' = x + 1 := ⟨f' - 1, by omega⟩
      unfold m_type_21 m_type_21F
      rw [if_neg (show ¬ (1 : Int32) = 0 by decide), ite_self]
    unfold x_T_allAreCharacters_2 x_T_allAreCharacters_2F m_type_21 m_type_21F x_T_byteAt x_T_allAreCharacters_37 m_type_71 m_type_67 m_type_72
    rw [if_neg hnle, if_neg hnle, byte_eq p1 (by omega), b1_some, if_pos (show (0 : Int32) = 0 from rfl)]
    simp only [show ((p1 >>> ((8 * I j).toInt64 &&& 63)) &&& 255).toInt32 = byt p1 j from rfl, I_1]
    by_cases h10 : byt p1 j = 10
    · simp only [if_pos h10]
      exact go (.inl h10)
    · simp only [if_neg h10]
      by_cases h32 : byt p1 j < 32
      · simp only [if_pos h32]
        exact .inr ⟨trivial, bad⟩
      · simp only [if_neg h32]
        by_cases h126 : byt p1 j ≤ 126
        · simp only [if_pos h126]
          rw [Int32.lt_iff_toInt_lt] at h32
          rw [Int32.le_iff_toInt_le] at h126
          exact go (.inr ⟨by omega, by omega⟩)
        · simp only [if_neg h126]
          exact .inr ⟨trivial, bad⟩
/-- type. -/
theorem pr_type (hN : 1000 ≤ N) (p1 : Int64) (p2 : Int32) (hT : Tx t n) (hC : CS b0 S sz t n o w T kd ad m c) (hR : RS R t n o w T hf m u c) :
    (∃ x S' R' t' n', x_T_type N b0 K b0 p1 p2 S = some (x, S') ∧ m_type N p1 p2 R = some (x, R') ∧ R'.1 0 = 0 ∧ CS b0 S' sz t' n' o w T kd ad m c ∧ RS R' t' n' o w T hf m u c ∧ Tx t' n' ∧ n' ≤ n + 8) ∨
    (∃ x R' e, xt_T_type N b0 K b0 p1 p2 S = some e ∧ e ≤ 1 ∧ m_type N p1 p2 R = some (x, R') ∧ R'.1 0 = I (e + 1) ∧ RS R' t n o w T hf m u c) := by
  have bad : ∀ R, m_type_80 N p1 p2 1 R = some (0, Rw R 0 1) := by
    intro R
    unfold m_type_80 m_type_107
    rw [if_neg (by decide), rP_eq, b1_some, Rw_1, if_neg (by decide)]
  have bad2 : m_type_11 N p1 p2 R = some (0, Rw R 0 1) := by
    obtain ⟨f, rfl⟩ : ∃ x, N = x + 1 := ⟨N - 1, by omega⟩
    unfold m_type_11 m_type_16 m_type_21 m_type_21F
    rw [if_neg (show ¬ (1 : Int32) = 0 by decide), ite_self, bad]
  unfold x_T_type xt_T_type m_type
  by_cases h1 : p2 < 1
  · rw [if_pos h1, if_pos h1, if_pos h1, bad2]
    exact .inr ⟨_, _, 0, rfl, by omega, rfl, Rw_1 _ _ _, hR.th 1⟩
  · rw [if_neg h1, if_neg h1, if_neg h1]
    by_cases h8 : 8 < p2
    · rw [if_pos h8, if_pos h8, if_neg (fun g => Int32.not_lt.2 g h8), bad2]
      exact .inr ⟨_, _, 0, rfl, by omega, rfl, Rw_1 _ _ _, hR.th 1⟩
    · have h8' : p2 ≤ 8 := Int32.not_lt.1 h8
      rw [if_neg h8, if_neg h8, if_pos h8']
      have h0 : ¬ p2 < 0 := fun g => h1 (by
        rw [Int32.lt_iff_toInt_lt] at g ⊢
        have e0 : (0 : Int32).toInt = 0 := by decide
        have e1 : (1 : Int32).toInt = 1 := by decide
        omega)
      obtain ⟨p, hp, rfl⟩ := nneg h0
      have hp8 : p ≤ 8 := (I_le (b := 8) hp (by omega)).1 h8'
      have hp1 : 1 ≤ p := by
        rcases Nat.lt_or_ge p 1 with g | g
        · exact absurd (I_lt1 (b := 1) g (by omega)) h1
        · exact g
      have hall := all_i (N := N) (b0 := b0) (K := K) (S := S) (R := R) p1 hp8 p 0 N N (by omega) (by omega) (by omega)
      unfold x_T_allAreCharacters m_type_16
      have hn := hT.1
      rcases hall with ⟨a, b, okk⟩ | ⟨a, b⟩
      · rw [show x_T_allAreCharacters_2 N b0 K N p1 (I p) 0 S = some 1 from a, show m_type_21 N N p1 (I p) 0 0 R = _ from b]
        simp only [b1_some, if_neg (show ¬ (1 : Int32) = 0 by decide)]
        rw [gI_own (obA0 b0) hC.2.1, hC.2.2.2.2.1]
        simp only [b1_some]
        unfold m_type_80
        rw [if_pos rfl, hR.1, I_add]
        by_cases hfit : n + p ≤ 240
        · left
          have hf : I (n + p) ≤ 240 := I_le1 (b := 240) hfit (by omega)
          rw [if_pos hf, if_pos hf]
          unfold m_type_107
          rw [rP_eq, b1_some, if_pos (Rw_1 _ _ _), Int32.sub_eq_add_neg]
          obtain ⟨S', R', t', e1, e2, e3, e4, e5, e6⟩ := type_i (N := N) (K := K) p1 p N n t S (Rw R 0 0) hp8 (by omega) hfit hC (hR.th 0) hT (fun j hj => okk j (by omega) hj)
          exact ⟨_, S', R', t', n + p, e1, e2, by rw [e3, Rw_1], e4, e5, e6, by omega⟩
        · right
          have hf : ¬ I (n + p) ≤ 240 := I_le0 (b := 240) (by omega) (by omega)
          rw [if_neg hf, if_neg hf]
          unfold m_type_107
          rw [rP_eq, b1_some, if_neg (by rw [Rw_1]; decide)]
          exact ⟨_, _, 1, rfl, by omega, rfl, Rw_1 _ _ _, hR.th 2⟩
      · rw [show x_T_allAreCharacters_2 N b0 K N p1 (I p) 0 S = some 0 from a, show m_type_21 N N p1 (I p) 0 0 R = _ from b, bad]
        exact .inr ⟨_, _, 0, rfl, by omega, rfl, Rw_1 _ _ _, hR.th 1⟩
end
