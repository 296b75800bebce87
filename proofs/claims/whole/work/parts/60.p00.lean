/-! Small numbers as ints; reading and writing of the two states. -/
abbrev I (n : Nat) : Int32 := Int32.ofNat n
theorem I_toInt {a : Nat} (h : a < 2147483648) : (I a).toInt = a := Int32.toInt_ofNat_of_lt h
theorem I_nat {a : Nat} (h : a < 2147483648) : (I a).toNatClampNeg = a := by
  show (I a).toInt.toNat = a
  rw [I_toInt h]; rfl
theorem I_le {a b : Nat} (ha : a < 2147483648) (hb : b < 2147483648) : (I a ≤ I b) ↔ a ≤ b := by
  rw [Int32.le_iff_toInt_le, I_toInt ha, I_toInt hb]; omega
theorem I_lt {a b : Nat} (ha : a < 2147483648) (hb : b < 2147483648) : (I a < I b) ↔ a < b := by
  rw [Int32.lt_iff_toInt_lt, I_toInt ha, I_toInt hb]; omega
theorem I_le1 {a b : Nat} (h : a ≤ b) (hb : b < 2147483648) : I a ≤ I b := (I_le (by omega) hb).2 h
theorem I_le0 {a b : Nat} (h : b < a) (ha : a < 2147483648) : ¬ I a ≤ I b := fun x => by have := (I_le ha (by omega)).1 x; omega
theorem I_lt1 {a b : Nat} (h : a < b) (hb : b < 2147483648) : I a < I b := (I_lt (by omega) hb).2 h
theorem I_lt0 {a b : Nat} (h : b ≤ a) (ha : a < 2147483648) : ¬ I a < I b := fun x => by have := (I_lt ha (by omega)).1 x; omega
theorem I_inj {a b : Nat} (ha : a < 2147483648) (hb : b < 2147483648) : (I a = I b) ↔ a = b := by
  constructor
  · intro h
    have := congrArg Int32.toInt h
    rw [I_toInt ha, I_toInt hb] at this; omega
  · intro h; rw [h]
theorem I_add (a b : Nat) : I a + I b = I (a + b) := (Int32.ofNat_add a b).symm
theorem I_1 (a : Nat) : I a + 1 = I (a + 1) := I_add a 1
theorem I_sub {a b : Nat} (h : b ≤ a) : I a - I b = I (a - b) := by
  have : I a = I (a - b) + I b := by rw [I_add]; congr 1; omega
  rw [this]; exact Int32.add_sub_cancel _ _
theorem I_mul (a b : Nat) : I a * I b = I (a * b) := (Int32.ofNat_mul a b).symm
theorem I_lit (a : Nat) : (OfNat.ofNat a : Int32) = I a := rfl
theorem of_nn {x : Int32} (h : 0 ≤ x.toInt) : x = I x.toNatClampNeg := by
  apply Int32.toInt_inj.1
  have h2 := Int32.toInt_lt x
  rw [I_toInt (by show x.toInt.toNat < _; omega)]
  show x.toInt = (x.toInt.toNat : Int)
  omega
theorem ne_neg {a : Nat} (h : a < 2147483648) : I a ≠ -1 := by
  intro e
  have := congrArg Int32.toInt e
  rw [I_toInt h] at this
  have h2 : (-1 : Int32).toInt = -1 := by decide
  omega
theorem va_same {α : Type} {f : Nat → α} {k : Nat} {v : α} (h : f k = v) : va_up f k v = f := by
  funext j; unfold va_up; split
  · rename_i e; rw [e, h]
  · rfl
theorem va_twice {α : Type} (f : Nat → α) (k : Nat) (v w : α) : va_up (va_up f k v) k w = va_up f k w := by
  funext j; unfold va_up; split <;> rfl
theorem va_at_ {α : Type} (f : Nat → α) (k : Nat) (v : α) : va_up f k v k = v := by unfold va_up; simp
theorem va_ne {α : Type} (f : Nat → α) {k j : Nat} (v : α) (h : j ≠ k) : va_up f k v j = f j := by unfold va_up; simp [h]
theorem up2_at {α : Type} (f : Nat → Nat → α) (a k : Nat) (v : α) : up2 f a k v a k = v := by unfold up2; simp
theorem up2_nn {α : Type} (f : Nat → Nat → α) {a k b j : Nat} (v : α) (h : b ≠ a ∨ j ≠ k) : up2 f a k v b j = f b j := by
  unfold up2; rw [if_neg]; rintro ⟨h1, h2⟩; rcases h with h | h <;> contradiction
theorem up2_same {α : Type} {f : Nat → Nat → α} {a k : Nat} {v : α} (h : f a k = v) : up2 f a k v = f := by
  funext b j; unfold up2; split
  · rename_i e; rw [e.1, e.2, h]
  · rfl
theorem up2_twice {α : Type} (f : Nat → Nat → α) (a k : Nat) (v w : α) : up2 (up2 f a k v) a k w = up2 f a k w := by
  funext b j; unfold up2; split <;> rfl
def sI (S : cS) (a k : Nat) (v : Int32) : cS := (S.1, S.2.1, up2 S.2.2.1 a k v, S.2.2.2)
def sR (S : cS) (a k : Nat) (v : Option Nat) : cS := (S.1, S.2.1, S.2.2.1, up2 S.2.2.2 a k v)
theorem sI_same {S : cS} {a k : Nat} {v : Int32} (h : S.2.2.1 a k = v) : sI S a k v = S := by
  unfold sI; rw [up2_same h]
theorem sI_twice (S : cS) (a k : Nat) (v w : Int32) : sI (sI S a k v) a k w = sI S a k w := by
  unfold sI; simp only [up2_twice]
def Rw (R : rS) (k : Nat) (v : Int32) : rS := (va_up R.1 k v, R.2)
theorem Rw_same {R : rS} {k : Nat} {v : Int32} (h : R.1 k = v) : Rw R k v = R := by unfold Rw; rw [va_same h]
theorem Rw_twice (R : rS) (k : Nat) (v w : Int32) : Rw (Rw R k v) k w = Rw R k w := by unfold Rw; simp only [va_twice]
theorem rP_eq (R : rS) (k : Nat) (v : Int32) : rP R k v = some (Rw R k v) := rfl
theorem Rw_1 (R : rS) (k : Nat) (v : Int32) : (Rw R k v).1 k = v := va_at_ _ _ _
theorem Rw_1n (R : rS) {k j : Nat} (v : Int32) (h : j ≠ k) : (Rw R k v).1 j = R.1 j := va_ne _ _ h
theorem Rw_2 (R : rS) (k : Nat) (v : Int32) : (Rw R k v).2 = R.2 := rfl
theorem b1_some {α β : Type} (x : α) (f : α → Option β) : b1 (some x) f = f x := rfl
theorem b2_some {α β γ : Type} (x : α) (y : β) (f : α → β → Option γ) : b2 (some (x, y)) f = f x y := rfl
theorem b3_some {α β γ δ : Type} (x : α) (y : β) (z : γ) (f : α → β → γ → Option δ) : b3 (some (x, y, z)) f = f x y z := rfl
theorem b4_some {α β γ δ ε : Type} (x : α) (y : β) (z : γ) (w : δ) (f : α → β → γ → δ → Option ε) : b4 (some (x, y, z, w)) f = f x y z w := rfl
theorem om_some {α : Type} (a : Nat) (A : α) (f : Nat → α) : om (some a) A f = f a := rfl
theorem om_none {α : Type} (A : α) (f : Nat → α) : om none A f = A := rfl
theorem wr3_some (n k : Nat) (S : cS) (a b : Nat) : wr3 n k (some (S, a, b)) = some (S, n + a, k + b) := rfl
theorem wr4_some {α : Type} (n k : Nat) (x : α) (S : cS) (a b : Nat) : wr4 n k (some (x, S, a, b)) = some (x, S, n + a, k + b) := rfl
/-! A cell that is the class's: above the reference's ownC, or the first five. -/
def ownC (b0 a : Nat) : Prop := b0 + 26 ≤ a ∨ (b0 ≤ a ∧ a < b0 + 5)
theorem ck_own {b0 a : Nat} (h : ownC b0 a) (S : cS) : ck b0 S a = S.1 a := by
  unfold ck; rw [if_neg]; rcases h with h | h <;> omega
theorem kd_own {b0 a : Nat} (h : ownC b0 a) (K S : cS) : kd b0 K S a = S.1 a := by
  unfold kd; rw [if_neg (by rcases h with h | h <;> omega), ck_own h]
theorem eK_own {b0 a : Nat} (h : ownC b0 a) (K S : cS) : eK b0 K S a = S := by
  unfold eK; rw [if_neg (by rcases h with h | h <;> omega)]
theorem gI_own {b0 a z k : Nat} {K S : cS} (h : ownC b0 a) (hk : S.1 a = z) : gI b0 K S z k a = some (S.2.2.1 a k) := by
  unfold gI; rw [kd_own h, if_pos hk, eK_own h]
theorem gR_own {b0 a z k : Nat} {K S : cS} (h : ownC b0 a) (hk : S.1 a = z) : gR b0 K S z k a = some (S.2.2.2 a k) := by
  unfold gR; rw [kd_own h, if_pos hk, eK_own h]
theorem pI_own {b0 a z k : Nat} {S : cS} {v : Int32} (h : ownC b0 a) (hk : S.1 a = z) : pI b0 S z k a v = some (sI S a k v) := by
  unfold pI sI; rw [ck_own h, if_pos hk]
theorem pR_own {b0 a z k : Nat} {S : cS} {v : Option Nat} (h : ownC b0 a) (hk : S.1 a = z) : pR b0 S z k a v = some (sR S a k v) := by
  unfold pR sR; rw [ck_own h, if_pos hk]
theorem aL_own {b0 a z i : Nat} {K S : cS} (h : ownC b0 a) (hk : S.1 a = z) (hi : i < S.2.1 a) (hb : i < 2147483648) : aL b0 K S z a (I i) = some (S.2.2.1 a i) := by
  unfold aL; rw [kd_own h, eK_own h, I_toInt hb, I_nat hb, if_pos ⟨hk, by omega, by omega⟩]
theorem aN_own {b0 a z : Nat} {K S : cS} (h : ownC b0 a) (hk : S.1 a = z) : aN b0 K S z a = some (I (S.2.1 a)) := by
  unfold aN; rw [kd_own h, if_pos hk, eK_own h]
theorem ifk_own {α : Type} {b0 a z : Nat} {K S : cS} {o : Option α} (h : ownC b0 a) (hk : S.1 a = z) : ifk b0 K S z a o = o := by
  unfold ifk; rw [kd_own h, if_pos hk]
theorem ifc_own {α : Type} {b0 a z : Nat} {S : cS} {o : Option α} (h : ownC b0 a) (hk : S.1 a = z) : ifc b0 S z a o = o := by
  unfold ifc; rw [ck_own h, if_pos hk]
theorem nOo_own {b0 a z : Nat} {S : cS} (h : ownC b0 a) : nOo b0 S z a = some (nO S z a) := by
  unfold nOo; rw [if_pos]; rcases h with h | h <;> omega
theorem nAo_own {b0 a z n : Nat} {S : cS} (h : ownC b0 a) (hn : n < 100000) : nAo b0 S z a (I n) = some (nA S z a n) := by
  unfold nAo; rw [I_toInt (by omega), I_nat (by omega), if_pos ⟨by rcases h with h | h <;> omega, by omega, by omega⟩]
theorem aT_own {b0 a z i : Nat} {S : cS} {x : Int32} (h : ownC b0 a) (hk : S.1 a = z) (hi : i < S.2.1 a) (hb : i < 2147483648) : aT b0 S z a (I i) x = some (sI S a i x) := by
  unfold aT sI; rw [ck_own h, I_toInt hb, I_nat hb, if_pos ⟨hk, by omega, by omega⟩]
/-! The text, and the place, in both. -/
def Tx (t : Nat → Int32) (n : Nat) : Prop := n ≤ 240 ∧ ∀ i, i < n → t i = 10 ∨ (32 ≤ (t i).toInt ∧ (t i).toInt ≤ 126)
def ch (t : Nat → Int32) (n p : Nat) : Int32 := if p < n then t p else 0
def pk (t : Nat → Int32) (n p : Nat) : Int32 := if p < n then t p else -1
def CT (b0 : Nat) (S : cS) (rd : Nat) (t : Nat → Int32) (n p : Nat) : Prop :=
  b0 + 26 ≤ rd ∧ S.1 rd = 4 ∧ S.2.2.2 rd 0 = some (b0 + 1) ∧ S.1 (b0 + 1) = 11 ∧ S.2.1 (b0 + 1) = 240 ∧ S.2.2.1 rd 1 = I n ∧ S.2.2.1 rd 6 = I p ∧ (∀ i, i < n → S.2.2.1 (b0 + 1) i = t i)
def RT (R : rS) (t : Nat → Int32) (n p : Nat) : Prop := R.1 1 = I n ∧ R.1 3 = I p ∧ ∀ i, i < n → R.2 1 i = t i
theorem CT.ownC {b0 : Nat} {S : cS} {rd : Nat} {t : Nat → Int32} {n p : Nat} (h : CT b0 S rd t n p) : ownC b0 rd := .inl h.1
theorem own1 (b0 : Nat) : ownC b0 (b0 + 1) := .inr ⟨by omega, by omega⟩
section
variable {b0 N : Nat} {K S : cS} {rd : Nat} {t : Nat → Int32} {n p : Nat} {R : rS}
theorem CT.at_ (h : CT b0 S rd t n p) : gI b0 K S 4 6 rd = some (I p) := by rw [gI_own h.ownC h.2.1, h.2.2.2.2.2.2.1]
theorem CT.len (h : CT b0 S rd t n p) : gI b0 K S 4 1 rd = some (I n) := by rw [gI_own h.ownC h.2.1, h.2.2.2.2.2.1]
theorem CT.txt (h : CT b0 S rd t n p) : gR b0 K S 4 0 rd = some (some (b0 + 1)) := by rw [gR_own h.ownC h.2.1, h.2.2.1]
theorem CT.chr (h : CT b0 S rd t n p) (hn : n ≤ 240) {q : Nat} (hq : q < n) : aL b0 K S 11 (b0 + 1) (I q) = some (t q) := by
  rw [aL_own (own1 b0) h.2.2.2.1 (by rw [h.2.2.2.2.1]; omega) (by omega), h.2.2.2.2.2.2.2 q hq]
theorem CT.put (h : CT b0 S rd t n p) (k : Nat) (v : Int32) : pI b0 S 4 k rd v = some (sI S rd k v) := pI_own h.ownC h.2.1
theorem CT.ifk {α : Type} {o : Option α} (h : CT b0 S rd t n p) : ifk b0 K S 4 rd o = o := ifk_own h.ownC h.2.1
theorem CT.mv (h : CT b0 S rd t n p) (q : Nat) : CT b0 (sI S rd 6 (I q)) rd t n q := by
  refine ⟨h.1, h.2.1, h.2.2.1, h.2.2.2.1, h.2.2.2.2.1, ?_, ?_, fun i hi => ?_⟩
  · show up2 _ _ _ _ _ _ = _; rw [up2_nn _ _ (.inr (by decide))]; exact h.2.2.2.2.2.1
  · show up2 _ _ _ _ _ _ = _; rw [up2_at]
  · show up2 _ _ _ _ _ _ = _; rw [up2_nn _ _ (.inl (by have := h.1; omega))]; exact h.2.2.2.2.2.2.2 i hi
theorem CT.wr (h : CT b0 S rd t n p) (v : Int32) : CT b0 (sI S rd 7 v) rd t n p := by
  refine ⟨h.1, h.2.1, h.2.2.1, h.2.2.2.1, h.2.2.2.2.1, ?_, ?_, fun i hi => ?_⟩
  · show up2 _ _ _ _ _ _ = _; rw [up2_nn _ _ (.inr (by decide))]; exact h.2.2.2.2.2.1
  · show up2 _ _ _ _ _ _ = _; rw [up2_nn _ _ (.inr (by decide))]; exact h.2.2.2.2.2.2.1
  · show up2 _ _ _ _ _ _ = _; rw [up2_nn _ _ (.inl (by have := h.1; omega))]; exact h.2.2.2.2.2.2.2 i hi
theorem CT.stay (h : CT b0 S rd t n p) : sI S rd 6 (I p) = S := sI_same h.2.2.2.2.2.2.1
theorem RT.mv (h : RT R t n p) (q : Nat) : RT (Rw R 3 (I q)) t n q := ⟨by rw [Rw_1n _ _ (by decide)]; exact h.1, Rw_1 _ _ _, h.2.2⟩
theorem RT.wr (h : RT R t n p) {k : Nat} (hk : k ≠ 1 ∧ k ≠ 3) (v : Int32) : RT (Rw R k v) t n p := ⟨by rw [Rw_1n _ _ (by omega)]; exact h.1, by rw [Rw_1n _ _ (by omega)]; exact h.2.1, h.2.2⟩
theorem RT.stay (h : RT R t n p) : Rw R 3 (I p) = R := Rw_same h.2.1
theorem here_eq (h : RT R t n p) (hn : n ≤ 240) (hp : p ≤ 1000) : m_here N R = some (ch t n p) := by
  unfold m_here ch
  rw [h.1, h.2.1]
  by_cases hc : p < n
  · rw [if_neg (I_le0 hc (by omega)), if_pos hc]
    unfold rL
    rw [I_toInt (by omega), I_nat (by omega), if_pos ⟨by omega, by show (p : Int) < (240 : Nat); omega⟩, h.2.2 p hc]; rfl
  · rw [if_pos (I_le1 (by omega) (by omega)), if_neg hc]
theorem peek_eq (h : CT b0 S rd t n p) (hn : n ≤ 240) (hp : p ≤ 1000) : x_R_peek N b0 K rd S = some (pk t n p) := by
  unfold x_R_peek pk
  rw [h.at_, h.len, h.txt]
  simp only [b1_some]
  by_cases hc : p < n
  · rw [if_neg (I_le0 hc (by omega)), if_pos hc, h.chr hn hc]; rfl
  · rw [if_pos (I_le1 (by omega) (by omega)), if_neg hc]
end
