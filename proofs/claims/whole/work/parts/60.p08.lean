section
variable {b0 N : Nat} {K S : cS} {sb vb sz : Nat} {l : List Int32}
theorem I_subI {a b : Nat} (ha : a < 2147483648) (hb : b < 2147483648) : (I a - I b).toInt = (a : Int) - b := by
  rw [Int32.toInt_sub, I_toInt ha, I_toInt hb]
  exact Int.bmod_eq_of_le (by omega) (by omega)
theorem I_sub_le0 {a b : Nat} (ha : a < 2147483648) (hb : b < 2147483648) : (I a - I b ≤ 0) ↔ a ≤ b := by
  rw [Int32.le_iff_toInt_le, I_subI ha hb]
  have : (0 : Int32).toInt = 0 := by decide
  rw [this]; omega
def fitB (x : Int32) : Prop := fits .byte (.int x) = true
theorem fit128 {c : Int32} (h : 0 ≤ c.toInt ∧ c.toInt < 128) : fitB c := by
  obtain ⟨k, hk, rfl⟩ := lo128 h
  have : ∀ k, k < 128 → fits .byte (.int (I k)) = true := by decide +kernel
  exact this k hk
/-- The builder of letters: its cell, the cell of its bytes, its letters. -/
def SB (b0 : Nat) (S : cS) (sb vb : Nat) (l : List Int32) : Prop :=
  ownC b0 sb ∧ ownC b0 vb ∧ sb ≠ vb ∧ S.1 sb = 7 ∧ S.1 vb = 12 ∧ S.2.2.1 sb 1 = 0 ∧ S.2.2.1 sb 3 = I l.length ∧ S.2.2.2 sb 0 = some vb ∧ (S.2.1 vb = 16 ∨ S.2.1 vb = 34) ∧ l.length ≤ S.2.1 vb ∧
  (∀ (j : Nat) (c : Int32), l[j]? = some c → S.2.2.1 vb j = c ∧ 0 ≤ c.toInt ∧ c.toInt < 128) ∧ ∀ j, j < S.2.1 vb → fitB (S.2.2.1 vb j)
theorem SB.keep {S' : cS} (h : SB b0 S sb vb l) (h1 : Same S S' sb) (h2 : Same S S' vb) : SB b0 S' sb vb l := by
  obtain ⟨a1, a2, a3, a4, a5, a6, a7, a8, a9, a10, a11, a12⟩ := h
  refine ⟨a1, a2, a3, by rw [h1.1, a4], by rw [h2.1, a5], by rw [h1.2.2.1, a6], by rw [h1.2.2.1, a7], by rw [h1.2.2.2, a8], by rw [h2.2.1]; exact a9, by rw [h2.2.1]; exact a10, ?_, ?_⟩
  · rw [h2.2.2.1]; exact a11
  · rw [h2.2.1, h2.2.2.1]; exact a12
theorem SB.len (h : SB b0 S sb vb l) : x_SB_length N b0 K sb S = some (I l.length) := by
  obtain ⟨a1, a2, a3, a4, a5, a6, a7, a8, a9, a10, a11, a12⟩ := h
  unfold x_SB_length x_AB_length
  rw [ifk_own a1 a4, gI_own a1 a4, a7]; rfl
theorem z31 : (0 : Int32) &&& 31 = 0 := by decide
theorem SB.ens (h : SB b0 S sb vb l) {m : Nat} (hm : m ≤ S.2.1 vb) : x_AB_ensureCapacityInternal N b0 K sb (I m) sz S = some (S, 0, 0) := by
  obtain ⟨a1, a2, a3, a4, a5, a6, a7, a8, a9, a10, a11, a12⟩ := h
  have hc : S.2.1 vb < 100 := by omega
  unfold x_AB_ensureCapacityInternal
  rw [gR_own a1 a4, a8]
  simp only [b1_some]
  rw [aN_own a2 a5, gI_own a1 a4, a6]
  simp only [b1_some]
  rw [z31, Int32.shiftRight_zero, if_pos ((I_sub_le0 (by omega) (by omega)).2 hm)]
theorem SB.set0 (h : SB b0 S sb vb l) : ∃ S', x_SB_setLength N b0 K sb 0 sz S = some (S', 0, 0) ∧ SB b0 S' sb vb [] ∧ ∀ a, a ≠ sb → Same S S' a := by
  have h0 := h.ens (N := N) (K := K) (sz := sz) (m := 0) (by omega)
  obtain ⟨a1, a2, a3, a4, a5, a6, a7, a8, a9, a10, a11, a12⟩ := h
  have hl : l.length ≤ 34 := by omega
  unfold x_SB_setLength x_AB_setLength x_AB_setLength_76
  rw [ifk_own a1 a4, if_pos (by decide), ifk_own a1 a4, show (0 : Int32) = I 0 from rfl, h0]
  simp only [b3_some]
  rw [gI_own a1 a4, a7]
  simp only [b1_some]
  rw [if_pos (I_le1 (by omega) (by omega))]
  have hS : SB b0 (sI S sb 3 0) sb vb [] := by
    refine ⟨a1, a2, a3, a4, a5, ?_, ?_, a8, a9, by simp, by simp, ?_⟩
    · show up2 _ _ _ _ _ _ = _; rw [up2_nn _ _ (.inr (by decide))]; exact a6
    · show up2 _ _ _ _ _ _ = _; rw [up2_at]; rfl
    · intro j hj; show fitB (up2 _ _ _ _ _ _); rw [up2_nn _ _ (.inl (fun e => a3 e.symm))]; exact a12 j hj
  by_cases hl0 : l.length = 0
  · rw [if_pos (I_le1 (by omega) (by omega)), pI_own a1 a4]
    exact ⟨_, rfl, hS, fun a ha => Same.sI _ ha⟩
  · rw [if_neg (I_le0 (by omega) (by omega)), pI_own a1 a4]
    simp only [b1_some]
    rw [pI_own a1 (by exact a4)]
    refine ⟨_, rfl, ?_, fun a ha => (Same.sI _ ha).trans (Same.sI _ ha)⟩
    refine ⟨a1, a2, a3, a4, a5, ?_, ?_, a8, a9, by simp, by simp, ?_⟩
    · show up2 _ _ _ _ _ _ = _; rw [up2_nn _ _ (.inr (by decide))]; show up2 _ _ _ _ _ _ = _; rw [up2_nn _ _ (.inr (by decide))]; exact a6
    · show up2 _ _ _ _ _ _ = _; rw [up2_at]; rfl
    · intro j hj; show fitB (up2 _ _ _ _ _ _); rw [up2_nn _ _ (.inl (fun e => a3 e.symm))]; show fitB (up2 _ _ _ _ _ _); rw [up2_nn _ _ (.inl (fun e => a3 e.symm))]; exact a12 j hj
theorem nar128 : ∀ k, k < 128 → vp_nar .byte (I k).toInt8.toInt32 = I k := by decide +kernel
/-- The tail of an append, where there is room. -/
theorem SB.app1 {sz : Nat} (h : SB b0 S sb vb l) {c : Int32} (hc : 0 ≤ c.toInt ∧ c.toInt < 128) (hl : l.length < S.2.1 vb) :
    ∃ S', (ifk b0 K S 7 sb (b1 (x_AB_isLatin1 N b0 K sb S) (fun x8 => if x8 = 0 then (none) else (b1 (x_L1_canEncode N b0 K c S) (fun x10 => if x10 = 0 then (none) else (b1 (gR b0 K S 7 0 sb) (fun q11 => b1 (gI b0 K S 7 3 sb) (fun x13 => b1 (pI b0 S 7 3 sb (x13 + 1)) (fun S15 => b1 q11 (fun a17 => b1 (aT b0 S15 12 a17 x13 (vp_nar .byte c.toInt8.toInt32)) (fun S20 => some (some sb, S20, 0, 0)))))))))))) = some (some sb, S', (0 : Nat), (0 : Nat)) ∧ SB b0 S' sb vb (l ++ [c]) ∧ ∀ a, a ≠ sb → a ≠ vb → Same S S' a := by
  obtain ⟨a1, a2, a3, a4, a5, a6, a7, a8, a9, a10, a11, a12⟩ := h
  have hcap : S.2.1 vb ≤ 34 := by omega
  obtain ⟨k, hk, rfl⟩ := lo128 hc
  unfold x_AB_isLatin1 x_L1_canEncode
  rw [ifk_own a1 a4, gI_own a1 a4, a6]
  simp only [b1_some, if_true]
  have h255 : ¬ (255 : Int32) < I k := I_lt0 (a := 255) (by omega) (by omega)
  rw [if_neg (by decide), if_neg h255]
  simp only [b1_some]
  rw [if_neg (by decide), gR_own a1 a4, gI_own a1 a4, a8, a7]
  simp only [b1_some]
  rw [pI_own a1 a4]
  simp only [b1_some]
  rw [aT_own a2 (by exact a5) (by exact hl) (by omega), nar128 k hk]
  refine ⟨_, rfl, ?_, fun a h1 h2 => (Same.sI _ h1).trans (Same.sI _ h2)⟩
  refine ⟨a1, a2, a3, a4, a5, ?_, ?_, a8, a9, ?_, ?_, ?_⟩
  · show up2 _ _ _ _ _ _ = _; rw [up2_nn _ _ (.inl a3)]; show up2 _ _ _ _ _ _ = _; rw [up2_nn _ _ (.inr (by decide))]; exact a6
  · show up2 _ _ _ _ _ _ = _; rw [up2_nn _ _ (.inl a3)]; show up2 _ _ _ _ _ _ = _; rw [up2_at, I_1]; simp
  · simp only [List.length_append, List.length_singleton]; exact hl
  · intro j c hj
    show up2 _ _ _ _ _ _ = _ ∧ _
    by_cases e : j = l.length
    · subst e
      rw [up2_at]
      simp at hj
      exact ⟨hj, by rw [← hj]; exact hc⟩
    · rw [up2_nn _ _ (.inr e)]
      show up2 _ _ _ _ _ _ = _ ∧ _
      rw [up2_nn _ _ (.inl (fun e => a3 e.symm))]
      have : j < l.length := by have := lt_list hj; simp at this; omega
      rw [List.getElem?_append_left this] at hj
      exact a11 j c hj
  · intro j hj
    show fitB (up2 _ _ _ _ _ _)
    by_cases e : j = l.length
    · subst e; rw [up2_at]; exact fit128 hc
    · rw [up2_nn _ _ (.inr e)]
      show fitB (up2 _ _ _ _ _ _)
      rw [up2_nn _ _ (.inl (fun e => a3 e.symm))]; exact a12 j hj
theorem nA_k (S : cS) (z a n : Nat) : (nA S z a n).1 a = z := va_at_ _ _ _
theorem nA_n (S : cS) (z a n : Nat) : (nA S z a n).2.1 a = n := va_at_ _ _ _
theorem nA_v (S : cS) (z a n : Nat) (j : Nat) : (nA S z a n).2.2.1 a j = 0 := by show (va_up S.2.2.1 a (fun _ => (0 : Int32))) a j = 0; rw [va_at_]
theorem cpB_own {a a0 k : Nat} (h0 : ownC b0 a0) (h1 : ownC b0 a) (k0 : S.1 a0 = 12) (k1 : S.1 a = 12) (hn0 : k ≤ S.2.1 a0) (hn1 : k ≤ S.2.1 a) (hk : k < 100000) (hf : ∀ i, i < k → fitB (S.2.2.1 a0 i)) :
    cpB b0 S a0 0 a 0 (I k) = some (S.1, S.2.1, va_up S.2.2.1 a (va_cpy (S.2.2.1 a0) (S.2.2.1 a) 0 0 k), S.2.2.2) := by
  unfold cpB
  have e0 : (0 : Int32).toNatClampNeg = 0 := by decide
  rw [ck_own h0, ck_own h1, e0, I_nat (by omega), if_pos]
  refine ⟨⟨k0, k1⟩, ⟨by decide, by decide, I_nn (by omega)⟩, ⟨by omega, by omega⟩, ?_⟩
  intro i hi
  rw [Nat.zero_add]; exact hf i hi
theorem va_cpy_lo {α : Type} (f g : Nat → α) {k j : Nat} (h : j < k) : va_cpy f g 0 0 k j = f j := by
  unfold va_cpy; rw [if_pos ⟨by omega, by omega⟩]; congr 1; omega
theorem va_cpy_hi {α : Type} (f g : Nat → α) {k j : Nat} (h : ¬ j < k) : va_cpy f g 0 0 k j = g j := by
  unfold va_cpy; rw [if_neg (by omega)]
theorem fit0 : fitB 0 := by unfold fitB; decide
theorem SB.app (h : SB b0 S sb vb l) {c : Int32} (hc : 0 ≤ c.toInt ∧ c.toInt < 128) (hl : l.length < 30) (hs : ownC b0 sz) (h1 : sb < sz) (h2 : vb < sz) :
    ∃ S' vb' dc ds, x_SB_append N b0 K sb c sz S = some (some sb, S', dc, ds) ∧ SB b0 S' sb vb' (l ++ [c]) ∧ (∀ a, a ≠ sb → a ≠ vb → a < sz → Same S S' a) ∧ ((vb' = vb ∧ dc = 0 ∧ ds = 0) ∨ (vb' = sz ∧ dc = 1 ∧ ds = 34 ∧ S.2.1 vb = 16 ∧ S'.2.1 vb' = 34)) ∧ (vb' = vb → S'.2.1 vb' = S.2.1 vb) := by
  have H := h
  obtain ⟨a1, a2, a3, a4, a5, a6, a7, a8, a9, a10, a11, a12⟩ := h
  unfold x_SB_append x_AB_append
  rw [ifk_own a1 a4, gI_own a1 a4, a7]
  simp only [b1_some]
  rw [ifk_own a1 a4, I_1]
  by_cases hr : l.length < S.2.1 vb
  · rw [H.ens (by omega)]
    simp only [b3_some]
    obtain ⟨S', g1, g2, g3⟩ := H.app1 (N := N) (K := K) (sz := sz) hc hr
    rw [g1]
    refine ⟨S', vb, 0, 0, rfl, g2, fun a b c _ => g3 a b c, .inl ⟨rfl, rfl, rfl⟩, fun _ => ?_⟩
    have hx : x_AB_isLatin1 N b0 K sb S = some 1 := by unfold x_AB_isLatin1; rw [gI_own a1 a4, a6]; rfl
    -- the size of the bytes stays: read it off the tail
    rw [ifk_own a1 a4, hx] at g1
    simp only [b1_some] at g1
    rw [if_neg (by decide)] at g1
    unfold x_L1_canEncode at g1
    obtain ⟨k, hk, rfl⟩ := lo128 hc
    rw [if_neg (show ¬ (255 : Int32) < I k from I_lt0 (a := 255) (by omega) (by omega))] at g1
    simp only [b1_some] at g1
    rw [if_neg (by decide), gR_own a1 a4, gI_own a1 a4, a8, a7] at g1
    simp only [b1_some] at g1
    rw [pI_own a1 a4] at g1
    simp only [b1_some] at g1
    rw [aT_own a2 (by exact a5) (by exact hr) (by omega)] at g1
    cases g1; rfl
  · have hcap : S.2.1 vb = 16 := by omega
    have hll : l.length = 16 := by omega
    -- it grows
    have hg : ∃ S1, x_AB_ensureCapacityInternal N b0 K sb (I (l.length + 1)) sz S = some (S1, 1, 34) ∧ SB b0 S1 sb sz l ∧ S1.2.1 sz = 34 ∧ ∀ a, a ≠ sb → a ≠ sz → Same S S1 a := by
      unfold x_AB_ensureCapacityInternal x_AB_newCapacity
      rw [gR_own a1 a4, a8]
      simp only [b1_some]
      rw [aN_own a2 a5, gI_own a1 a4, a6, hcap, hll]
      simp only [b1_some]
      rw [if_neg (show ¬ I (16 + 1) - I 16 >>> ((0 : Int32) &&& 31) ≤ 0 by decide), ifk_own a1 a4]
      have hnl : x_AS_newLength N b0 K (I 16) ((I (16 + 1) <<< ((0 : Int32) &&& 31)) - I 16) (I 16 + (2 <<< ((0 : Int32) &&& 31))) S = some (I 34) := by
        unfold x_AS_newLength x_Ma_max; decide
      rw [hnl]
      simp only [b1_some]
      rw [if_neg (by decide)]
      simp only [b1_some]
      rw [show (I 34 >>> ((0 : Int32) &&& 31)) <<< ((0 : Int32) &&& 31) = I 34 by decide]
      unfold x_Ar_copyOf x_Ma_min
      simp only [b1_some]
      rw [aN_own a2 a5, hcap]
      simp only [b1_some]
      rw [if_neg (show ¬ I 34 = I 16 by decide), nAo_own hs (by omega)]
      simp only [b1_some]
      have q2 : Same S (nA S 12 sz 34) vb := Same.nA (by omega)
      have q1 : Same S (nA S 12 sz 34) sb := Same.nA (by omega)
      rw [aN_own a2 (by rw [q2.1]; exact a5), q2.2.1, hcap]
      simp only [b1_some]
      rw [if_neg (show ¬ I 34 < I 16 by decide)]
      simp only [b1_some]
      rw [cpB_own a2 hs (by rw [q2.1]; exact a5) (nA_k _ _ _ _) (by rw [q2.2.1]; omega) (by rw [nA_n]; omega) (by omega) (by intro i hi; rw [q2.2.2.1]; exact a12 i (by omega))]
      simp only [b1_some, wr4_some, b4_some]
      rw [pR_own a1 (by show (nA S 12 sz 34).1 sb = 7; rw [q1.1]; exact a4)]
      refine ⟨_, rfl, ?_, ?_, ?_⟩
      · have e1 : ∀ j, (va_up (nA S 12 sz 34).2.2.1 sz (va_cpy ((nA S 12 sz 34).2.2.1 vb) ((nA S 12 sz 34).2.2.1 sz) 0 0 16)) sb j = S.2.2.1 sb j := by
          intro j; rw [va_ne _ _ (by omega), q1.2.2.1]
        refine ⟨a1, hs, by omega, by show (nA S 12 sz 34).1 sb = 7; rw [q1.1]; exact a4, nA_k S 12 sz 34, (e1 1).trans a6, (e1 3).trans a7, ?_, .inr (nA_n S 12 sz 34), ?_, ?_, ?_⟩
        · show up2 _ _ _ _ _ _ = _; rw [up2_at]
        · show _ ≤ (nA S 12 sz 34).2.1 sz; rw [nA_n]; omega
        · intro j c hj
          show (va_up (nA S 12 sz 34).2.2.1 sz (va_cpy ((nA S 12 sz 34).2.2.1 vb) ((nA S 12 sz 34).2.2.1 sz) 0 0 16)) sz j = _ ∧ _
          rw [va_at_, va_cpy_lo _ _ (by have := lt_list hj; omega), q2.2.2.1]
          exact a11 j c hj
        · intro j hj
          show fitB ((va_up (nA S 12 sz 34).2.2.1 sz (va_cpy ((nA S 12 sz 34).2.2.1 vb) ((nA S 12 sz 34).2.2.1 sz) 0 0 16)) sz j)
          rw [va_at_]
          by_cases e : j < 16
          · rw [va_cpy_lo _ _ e, q2.2.2.1]; exact a12 j (by omega)
          · rw [va_cpy_hi _ _ e, nA_v]; exact fit0
      · exact nA_n S 12 sz 34
      · intro a h1 h2
        refine (Same.nA (S := S) (z := 12) (n := 34) h2).trans ⟨rfl, rfl, ?_, ?_⟩
        · show (va_up (nA S 12 sz 34).2.2.1 sz _) a = _; rw [va_ne _ _ h2]
        · funext j; show up2 _ _ _ _ _ _ = _; rw [up2_nn _ _ (.inl h1)]
    obtain ⟨S1, e1, e2, e3, e4⟩ := hg
    rw [e1]
    simp only [b3_some]
    obtain ⟨S', g1, g2, g3⟩ := e2.app1 (N := N) (K := K) (sz := sz) hc (by omega)
    rw [g1]
    have hsz : S'.2.1 sz = 34 := by
      obtain ⟨b1', b2', b3', b4', b5', b6', b7', b8', b9', b10', b11', b12'⟩ := g2
      have : (l ++ [c]).length = 17 := by simp [hll]
      omega
    refine ⟨S', sz, 1, 34, rfl, g2, fun a b c d => (e4 a b (by omega)).trans (g3 a b (by omega)), .inr ⟨rfl, rfl, rfl, hcap, hsz⟩, fun e => by omega⟩
end
