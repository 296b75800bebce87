section
variable {b0 N : Nat} {K S S' : cS} {rd sb al vb vb' sz sz' sz0 : Nat} {t : Nat → Int32} {n p q : Nat} {R R' : rS} {l : List Int32} {hb u0 u : Nat} {T T' : Ar} {ad : Nat → Nat} {m lo e : Nat} {kd : Nat → List Nat} {xs : List Nat} {S0 : cS} {R0 : rS}
/-- What is read first, when a reading begins. -/
theorem bc_start (hK : KF b0 K) {o : Nat → Int32} {w c : Nat} (h : CS b0 S sz t n o w T kd ad m c) {d : Nat} (hd : K.2.2.2 0 102 = some d) :
    BC b0 K sz (sz + 1) (sz + 3) t n sz (rdS S b0 sz d n) (rdS S b0 sz d n) (sz + 2) d (sz + 5) ar0 (fun _ => []) (fun _ => sz + 4) 1 [] 0 := by
  obtain ⟨c1, c2, c3, c4, c5, c6, c7, c8, c9, c10, -⟩ := h
  have hb : b0 < sz := by omega
  obtain ⟨k1, k2, k3, k4, k5, k6⟩ := rdS_k (S := S) (n := n) d hb
  have kn := rdS_n (S := S) (b0 := b0) (sz := sz) (n := n) d
  obtain ⟨i1, i2, i3, i4, i5, i6, i7, i8, i9⟩ := rdS_i (S := S) (n := n) d hb
  obtain ⟨r1, r2, r3, r4, r5, r6, r7, r8, r9⟩ := rdS_r (S := S) (n := n) d hb
  have st : Same S (rdS S b0 sz d n) (b0 + 1) := rdS_old (by omega) (by omega)
  obtain ⟨-, ⟨d', hd1, hd2, hd3, hd4⟩, -⟩ := hK
  rw [hd] at hd1; cases hd1
  refine ⟨⟨[], ⟨⟨c1, k1, r1, by rw [st.1, c8], by rw [st.2.1, c9], i1, i2, fun i hi => by rw [st.2.2.1]; exact c10 i hi⟩, r2, ⟨.inl (by omega), .inl (by omega), by omega, k2, k3, i3, i4, r6, .inl kn, by rw [kn]; simp, (by intro j c hj; cases hj), fun j _ => by rw [i5]; exact fit0⟩, by omega, by omega, by omega, by omega⟩⟩, r3, ⟨.inl (by omega), k4, i6, r7, by simp, .inl ⟨rfl, hd, hd2, hd3, hd4⟩⟩, by omega, by omega, ⟨fun i hi => ?_, fun i j hi hj _ => by omega, fun i hi f j _ _ e => by cases e⟩, wf0, (by intro i hi; cases hi), fun a ha => Same.refl _ a, c1, by omega, by omega, by omega, by omega, by omega, .inr hd2, (fun i _ => show sz ≤ sz + 4 by omega), by omega, by simp, (fun i hi g => absurd (show (7 : Int32) = 6 from g) (by decide)), rfl⟩
  exact ⟨.inl (show b0 + 26 ≤ sz + 4 by omega), (show sz + 4 < sz + 5 by omega), k5, i7, i8, fun f _ _ => r8 f, ⟨fun _ => r8 2, (fun ls e => by cases e)⟩, ⟨fun _ => r8 3, (fun ls e => by cases e)⟩⟩
/-- The reader's beginning. -/
def rdI (S : cS) (b0 sz d n : Nat) : cS :=
  sI (sI (sR (sR (nd (sR (sR (sI (nO (sR (sI (sR (nA (nO (sI (sR (nO S 4 sz) sz 0 (some (b0 + 1))) sz 1 (I n)) 7 (sz + 1)) 12 (sz + 2) 16) (sz + 1) 0 (some (sz + 2))) (sz + 1) 1 0) sz 2 (some (sz + 1))) 8 (sz + 3)) (sz + 3) 0 0) (sz + 3) 1 (some d)) sz 3 (some (sz + 3))) (sz + 4) 7 0) sz 4 (some (sz + 4))) sz 5 (some (sz + 4))) sz 6 0) sz 7 (-1)
theorem rdI_eq {d : Nat} (hz : b0 + 26 ≤ sz) (hd : K.2.2.2 0 102 = some d) : x_R_init N b0 K sz (some (b0 + 1)) (I n) (sz + 1) (nO S 4 sz) = some (rdI S b0 sz d n, 4, 31) := by
  have os : ownC b0 sz := .inl hz
  have os1 : ownC b0 (sz + 1) := .inl (by omega)
  have os2 : ownC b0 (sz + 2) := .inl (by omega)
  have os3 : ownC b0 (sz + 3) := .inl (by omega)
  have os4 : ownC b0 (sz + 4) := .inl (by omega)
  unfold x_R_init
  rw [pR_own os (nO_k _ _ _), b1_some, pI_own os (by exact nO_k _ _ _), b1_some, nOo_own os1, b1_some]
  unfold x_SB_init x_AB_init
  rw [show (16 : Int32) = I 16 from rfl, show sz + 1 + 1 = sz + 2 by omega, nAo_own os2 (by omega), b1_some, pR_own os1 (by simp [sI, sR, nO, nA, va_up]), b1_some, pI_own os1 (by simp [sI, sR, nO, nA, va_up]), b1_some, wr3_some, b3_some, wr3_some, b3_some, pR_own os (by simp [sI, sR, nO, nA, va_up]), b1_some, I_nat (by omega)]
  rw [show sz + 2 + (1 + 0 + 0) = sz + 3 by omega, show sz + 3 + 1 = sz + 4 by omega, nOo_own os3, b1_some]
  unfold x_AL_init x_AbL_init x_AbC_init
  rw [b1_some, pI_own os3 (nO_k _ _ _), b1_some, b1_some, hd, b1_some, pR_own os3 (by exact nO_k _ _ _), b1_some, b1_some, pR_own os (by simp [sI, sR, nO, nA, va_up]), b1_some, init_nd os4, pR_own os (by simp [nd, sI, sR, nO, nA, va_up]), b1_some, gR_own os (by simp [nd, sI, sR, nO, nA, va_up]), b1_some, pR_own os (by simp [nd, sI, sR, nO, nA, va_up]), b1_some, pI_own os (by simp [nd, sI, sR, nO, nA, va_up]), b1_some, pI_own os (by simp [nd, sI, sR, nO, nA, va_up]), b1_some, wr3_some, wr3_some, wr3_some, wr3_some]
  have e4 : ∀ (X : cS) (a : Nat) (v : Option Nat), (sR X a 4 v).2.2.2 a 4 = v := fun X a v => up2_at _ _ _ _
  rw [e4]
  rfl
/-- The class's read, up to its reader's lines. -/
theorem cls_start (hK : KF b0 K) {o : Nat → Int32} {w c : Nat} (h : CS b0 S sz t n o w T kd ad m c) {d : Nat} (hd : K.2.2.2 0 102 = some d) :
    x_T_read N b0 K b0 sz S = wr4 5 39 (b4 (x_R_readDocument N b0 K sz (sz + 5) (rdS S b0 sz d n)) (fun q14 S15 c16 d17 => wr4 c16 d17 (om q14 (b1 (gI b0 K S15 4 7 sz) (fun x20 => some (x20, S15, 0, 0))) (fun a19 => b1 (pR b0 S15 1 3 b0 (some a19)) (fun S22 => b1 (pR b0 S22 1 4 b0 (some a19)) (fun S24 => some ((-1), S24, 0, 0))))))) := by
  have hB := bc_start hK h hd
  obtain ⟨c1, c2, c3, c4, c5, c6, c7, c8, c9, c10, -⟩ := h
  have o0 : ownC b0 b0 := .inr ⟨by omega, by omega⟩
  have os : ownC b0 sz := .inl c1
  have hb : b0 ≠ sz := by omega
  have sb0 : Same S (nO S 4 sz) b0 := Same.nO hb
  have k0 : (rdI S b0 sz d n).1 b0 = 1 := by
    have := (rdS_k (S := S) (n := n) d (show b0 < sz by omega)).2.2.2.2.2
    have e : (rdS S b0 sz d n).1 b0 = (rdI S b0 sz d n).1 b0 := rfl
    rw [← e, this]; exact c2
  unfold x_T_read
  rw [nOo_own os, b1_some, gR_own o0 (by rw [sb0.1]; exact c2), sb0.2.2.2, c3, b1_some, gI_own o0 (by rw [sb0.1]; exact c2), sb0.2.2.1, c5, b1_some, rdI_eq c1 hd, b3_some, pI_own o0 k0, b1_some]
  have e18 : sI (rdI S b0 sz d n) b0 2 0 = rdS S b0 sz d n := rfl
  rw [e18, hB.ct.ifk, wr4_wr4]
end
