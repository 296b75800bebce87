section
variable {b0 N : Nat} {K S : cS} {sb vb sz : Nat} {l : List Int32}
theorem own_up {a b : Nat} (h : b0 + 26 ≤ a) (h2 : a ≤ b) : ownC b0 b := .inl (by omega)
theorem va_get2 {f : Nat → Nat → Int32} {a j : Nat} {g : Nat → Int32} : (va_up f a g) a j = g j := by rw [va_at_]
/-- The copy of a part of the bytes, or of all. -/
theorem cpRange (h0 : ownC b0 vb) (k0 : S.1 vb = 12) {n : Nat} (hn : n ≤ S.2.1 vb) (hb : S.2.1 vb < 100000) (hf : ∀ i, i < S.2.1 vb → fitB (S.2.2.1 vb i)) (hs : ownC b0 sz) (hv : vb < sz) :
    ∃ S', x_Ar_copyOfRange N b0 K (some vb) 0 (I n) sz S = some (some sz, S', 1, n) ∧ S'.1 sz = 12 ∧ S'.2.1 sz = n ∧ (∀ j, j < n → S'.2.2.1 sz j = S.2.2.1 vb j) ∧ ∀ a, a ≠ sz → Same S S' a := by
  unfold x_Ar_copyOfRange
  rw [if_pos rfl]
  simp only [b1_some]
  rw [aN_own h0 k0]
  simp only [b1_some]
  by_cases h : n = S.2.1 vb
  · rw [if_pos (by rw [h])]
    unfold cLb
    rw [if_pos ⟨by rcases hs with h | h <;> omega, by rw [ck_own h0]; exact k0, hf⟩]
    simp only [b1_some]
    rw [ifc_own hs (va_at_ _ _ _)]
    rw [wr4_some, h]
    exact ⟨_, rfl, va_at_ _ _ _, va_at_ _ _ _, fun j _ => va_get2, fun a ha => ⟨va_ne _ _ ha, va_ne _ _ ha, va_ne _ _ ha, va_ne _ _ ha⟩⟩
  · rw [if_neg (fun e => h ((I_inj (by omega) (by omega)).1 e))]
    unfold x_Ar_copyOfRange_10 x_Ar_copyOfRangeByte x_Ar_checkLength x_Ma_min
    have e0 : I n - 0 = I n := Int32.sub_zero _
    have e1 : ∀ x : Int32, x - 0 = x := Int32.sub_zero
    rw [if_pos (show (0 : Int32) ≤ I n from I_nn' (by omega)), e0]
    simp only [b1_some]
    rw [nAo_own hs (by omega)]
    simp only [b1_some]
    have q2 : Same S (nA S 12 sz n) vb := Same.nA (by omega)
    rw [aN_own h0 (by rw [q2.1]; exact k0), q2.2.1]
    simp only [b1_some, e1]
    rw [if_pos (show I n < I (S.2.1 vb) from I_lt1 (by omega) (by omega))]
    simp only [b1_some]
    rw [cpB_own h0 hs (by rw [q2.1]; exact k0) (nA_k _ _ _ _) (by rw [q2.2.1]; omega) (by rw [nA_n]; omega) (by omega) (by intro i hi; rw [q2.2.2.1]; exact hf i (by omega))]
    simp only [b1_some, wr4_some, b4_some]
    rw [I_nat (by omega)]
    refine ⟨_, rfl, nA_k S 12 sz n, nA_n S 12 sz n, ?_, ?_⟩
    · intro j hj
      show (va_up (nA S 12 sz n).2.2.1 sz _) sz j = _
      rw [va_at_, va_cpy_lo _ _ hj, q2.2.2.1]
    · intro a ha
      refine (Same.nA (S := S) (z := 12) (n := n) ha).trans ⟨rfl, rfl, ?_, rfl⟩
      show (va_up (nA S 12 sz n).2.2.1 sz _) a = _; rw [va_ne _ _ ha]
/-- A string of the builder's letters. -/
theorem SB.str (h : SB b0 S sb vb l) (hl : l.length ≤ 34) (hs : b0 + 26 ≤ sz) (h1 : sb < sz) (h2 : vb < sz) :
    ∃ S', x_SB_toString N b0 K sb sz S = some (some sz, S', 2, 4 + l.length) ∧ Str b0 K S' sz l ∧ S'.2.2.2 sz 0 = some (sz + 1) ∧ S'.1 sz = 6 ∧ S'.1 (sz + 1) = 12 ∧ ∀ a, a < sz → Same S S' a := by
  have H := h
  obtain ⟨a1, a2, a3, a4, a5, a6, a7, a8, a9, a10, a11, a12⟩ := h
  have o0 : ownC b0 sz := .inl hs
  have o1 : ownC b0 (sz + 1) := .inl (by omega)
  unfold x_SB_toString
  rw [nOo_own o0]
  simp only [b1_some]
  have qb : Same S (nO S 6 sz) sb := Same.nO (by omega)
  have qv : Same S (nO S 6 sz) vb := Same.nO (by omega)
  have H1 := H.keep qb qv
  unfold x_Str_initSB x_Str_initAB x_AB_getValue x_AB_isLatin1
  simp only [b1_some]
  rw [ifk_own a1 H1.2.2.2.1, gR_own a1 H1.2.2.2.1, H1.2.2.2.2.2.2.2.1]
  simp only [b1_some]
  rw [ifk_own a1 H1.2.2.2.1, H1.len]
  simp only [b1_some]
  rw [ifk_own a1 H1.2.2.2.1, gI_own a1 H1.2.2.2.1, H1.2.2.2.2.2.1]
  simp only [b1_some, if_true]
  rw [if_neg (by decide), pI_own o0 (nO_k _ _ _)]
  simp only [b1_some]
  have rv : Same S (sI (nO S 6 sz) sz 1 0) vb := qv.trans (Same.sI _ (by omega))
  obtain ⟨S2, e1, e2, e3, e4, e5⟩ := cpRange (S := sI (nO S 6 sz) sz 1 0) (b0 := b0) (N := N) (K := K) (vb := vb) (n := l.length) (sz := sz + 1) a2 (by rw [rv.1]; exact a5) (by rw [rv.2.1]; exact a10) (by rw [rv.2.1]; omega) (by rw [rv.2.1, rv.2.2.1]; exact a12) o1 (by omega)
  rw [e1]
  simp only [b4_some]
  have r0 := e5 sz (by omega)
  rw [pR_own o0 (by rw [r0.1]; exact nO_k _ _ _)]
  simp only [b1_some, wr3_some, b3_some, wr4_some]
  have k6 : S2.1 sz = 6 := by rw [r0.1]; exact nO_k _ _ _
  have c0 : S2.2.2.1 sz 1 = 0 := by rw [r0.2.2.1]; show up2 _ _ _ _ _ _ = _; rw [up2_at]
  refine ⟨sR S2 sz 0 (some (sz + 1)), rfl, ?_, ?_, k6, e2, ?_⟩
  · refine ⟨by rw [kd_own o0]; exact k6, by rw [eK_own o0]; exact c0, by omega, fun j c hj => (a11 j c hj).2, sz + 1, ?_, by rw [kd_own o1]; exact e2, by rw [eK_own o1]; exact e3, ?_⟩
    · rw [eK_own o0]; show up2 _ _ _ _ _ _ = _; rw [up2_at]
    · intro j c hj
      rw [eK_own o1]
      show S2.2.2.1 (sz + 1) j = c
      rw [e4 j (lt_list hj), rv.2.2.1]
      exact (a11 j c hj).1
  · show up2 _ _ _ _ _ _ = _; rw [up2_at]
  · intro a ha
    exact (((Same.nO (by omega)).trans (Same.sI _ (by omega))).trans (e5 a (by omega))).trans (Same.sR _ (by omega))
/-! The list of tables that entries went through. -/
def capL : List Nat := [10, 15, 22, 33, 49, 73, 109, 163, 244]
def AL (b0 : Nat) (K S : cS) (al : Nat) (xs : List Nat) (e : Nat) : Prop :=
  ownC b0 al ∧ S.1 al = 8 ∧ S.2.2.1 al 2 = I xs.length ∧ S.2.2.2 al 1 = some e ∧ xs.length ≤ 240 ∧
  ((xs = [] ∧ K.2.2.2 0 102 = some e ∧ e < b0 ∧ K.1 e = 13 ∧ K.2.1 e = 0) ∨
   (ownC b0 e ∧ al ≠ e ∧ K.2.2.2 0 102 ≠ some e ∧ S.1 e = 13 ∧ S.2.1 e ∈ capL ∧ xs.length ≤ S.2.1 e ∧ (∀ (j a : Nat), xs[j]? = some a → S.2.2.2 e j = some a ∧ ownC b0 a ∧ S.1 a = 2) ∧ ∀ j, xs.length ≤ j → S.2.2.2 e j = none))
variable {al e : Nat} {xs : List Nat}
theorem AL.keep {S' : cS} (h : AL b0 K S al xs e) (h1 : Same S S' al) (h2 : Same S S' e) (h3 : ∀ a, a ∈ xs → S'.1 a = S.1 a) : AL b0 K S' al xs e := by
  obtain ⟨a1, a2, a3, a4, a5, a6⟩ := h
  refine ⟨a1, by rw [h1.1, a2], by rw [h1.2.2.1, a3], by rw [h1.2.2.2, a4], a5, ?_⟩
  rcases a6 with a6 | ⟨b1', b2', b7', b3', b4', b5', b6', b8'⟩
  · exact .inl a6
  · refine .inr ⟨b1', b2', b7', by rw [h2.1, b3'], by rw [h2.2.1]; exact b4', by rw [h2.2.1]; exact b5', ?_, ?_⟩
    · intro j a hj
      rw [h2.2.2.2, h3 a (List.mem_of_getElem? hj)]
      exact b6' j a hj
    · rw [h2.2.2.2]; exact b8'
theorem AL.size (h : AL b0 K S al xs e) : x_AL_size N b0 K al S = some (I xs.length) := by
  obtain ⟨a1, a2, a3, a4, a5, a6⟩ := h
  unfold x_AL_size; rw [gI_own a1 a2, a3]; rfl
theorem AL.get (h : AL b0 K S al xs e) {j a : Nat} (hj : xs[j]? = some a) : x_AL_get N b0 K al (I j) S = some (some a) := by
  have hl : j < xs.length := by
    rcases Nat.lt_or_ge j xs.length with g | g
    · exact g
    · rw [List.getElem?_eq_none g] at hj; cases hj
  obtain ⟨a1, a2, a3, a4, a5, a6⟩ := h
  rcases a6 with ⟨a6, -⟩ | ⟨b1', b2', b7', b3', b4', b5', b6', b8'⟩
  · subst a6; cases hj
  · unfold x_AL_get x_Ob_checkIndex x_Pc_checkIndex x_AL_elementData
    rw [gI_own a1 a2, a3]
    simp only [b1_some]
    rw [if_neg (I_nn (by omega)), if_pos (I_lt1 hl (by omega))]
    simp only [b1_some]
    rw [ifk_own a1 a2, gR_own a1 a2, a4]
    simp only [b1_some]
    unfold aLR
    rw [ck_own b1', I_toInt (by omega), I_nat (by omega), if_pos ⟨b3', by omega, by omega⟩, (b6' j a hj).1]; rfl
theorem cap_grow : ∀ c, c ∈ capL → c < 240 → x_AS_newLength N b0 K (I c) (I (c + 1) - I c) (I c >>> (1 &&& 31)) S = some (I (c + c / 2)) ∧ c + c / 2 ∈ capL := by
  intro c hc
  unfold x_AS_newLength x_Ma_max
  unfold capL at hc ⊢
  simp only [List.mem_cons, List.not_mem_nil, or_false] at hc
  rcases hc with rfl | rfl | rfl | rfl | rfl | rfl | rfl | rfl | rfl <;> decide
theorem AL.add {mi : Nat} (h : AL b0 K S al xs e) (hlt : ∀ a, a ∈ xs → a < sz) (hK : K.2.2.2 0 101 = some mi) (hKd : ∀ d, K.2.2.2 0 102 = some d → d < b0) {x : Nat} (hx : ownC b0 x) (kx : S.1 x = 2) (hl : xs.length < 240) (hs : b0 + 26 ≤ sz) (ha : al < sz) (he : e < sz) (hxs : x < sz) :
    ∃ S' e' dc ds, x_AL_add N b0 K al (some x) sz S = some (1, S', dc, ds) ∧ AL b0 K S' al (xs ++ [x]) e' ∧ (∀ a, a ≠ al → (a ≠ e ∨ e < b0) → a < sz → Same S S' a) ∧ ((e' = e ∧ dc = 0 ∧ ds = 0) ∨ (e' = sz ∧ dc = 1 ∧ ds ≤ 244)) := by
  have H := h
  have o0 : ownC b0 sz := .inl hs
  obtain ⟨a1, a2, a3, a4, a5, a6⟩ := h
  unfold x_AL_add
  rw [gI_own a1 a2]
  simp only [b1_some]
  rw [pI_own a1 a2]
  simp only [b1_some]
  generalize hS1 : sI S al 0 (S.2.2.1 al 0 + 1) = S1
  have q : ∀ a, a ≠ al → Same S S1 a := fun a ha => by rw [← hS1]; exact Same.sI _ ha
  have k1 : S1.1 al = 8 := by rw [← hS1]; exact a2
  have kn : S1.2.2.1 al 2 = I xs.length := by rw [← hS1]; show up2 _ _ _ _ _ _ = _; rw [up2_nn _ _ (.inr (by decide))]; exact a3
  have ke : S1.2.2.2 al 1 = some e := by rw [← hS1]; exact a4
  have kS : S1.1 = S.1 := by rw [← hS1]; rfl
  rw [gR_own a1 k1, gI_own a1 k1, ke, kn]
  simp only [b1_some]
  rw [ifk_own a1 k1]
  unfold x_AL_add3
  simp only [b1_some]
  -- the end of an add, where there is room
  have fin : ∀ (sz' : Nat) (S2 : cS) (e' : Nat), ownC b0 e' → al ≠ e' → K.2.2.2 0 102 ≠ some e' → S2.1 al = 8 → S2.2.2.2 al 1 = some e' → S2.1 e' = 13 → S2.2.1 e' ∈ capL → xs.length < S2.2.1 e' → (∀ (j a : Nat), xs[j]? = some a → S2.2.2.2 e' j = some a ∧ ownC b0 a ∧ S2.1 a = 2) → (∀ j, xs.length ≤ j → S2.2.2.2 e' j = none) → S2.1 x = 2 →
      ∃ S', x_AL_add3_11 N b0 K al (some x) (some e') (I xs.length) sz' S2 = some (S', 0, 0) ∧ AL b0 K S' al (xs ++ [x]) e' ∧ ∀ a, a ≠ al → a ≠ e' → Same S2 S' a := by
    intro sz' S2 e' c1 c2 c3 c4 c5 c6 c7 c8 c9 c10 c11
    unfold x_AL_add3_11
    simp only [b1_some]
    unfold aTR
    rw [ck_own c1, ck_own hx, I_toInt (by omega), I_nat (by omega), if_pos ⟨⟨c6, c11⟩, by omega, by omega⟩]
    simp only [b1_some]
    rw [pI_own a1 (by exact c4)]
    refine ⟨_, rfl, ⟨a1, c4, ?_, ?_, by simp; omega, .inr ⟨c1, c2, c3, c6, c7, by simp; exact c8, ?_, ?_⟩⟩, ?_⟩
    · show up2 _ _ _ _ _ _ = _; rw [up2_at, I_1]; simp
    · show up2 _ _ _ _ _ _ = _; rw [up2_nn _ _ (.inl c2)]; exact c5
    · intro j a hj
      show up2 _ _ _ _ _ _ = _ ∧ _
      by_cases ej : j = xs.length
      · subst ej
        rw [up2_at]
        simp at hj
        subst hj
        exact ⟨rfl, hx, c11⟩
      · rw [up2_nn _ _ (.inr ej)]
        have : j < xs.length := by
          rcases Nat.lt_or_ge j (xs ++ [x]).length with g | g
          · simp at g; omega
          · rw [List.getElem?_eq_none g] at hj; cases hj
        rw [List.getElem?_append_left this] at hj
        exact c9 j a hj
    · intro j hj
      simp at hj
      show up2 _ _ _ _ _ _ = _
      rw [up2_nn _ _ (.inr (by omega))]
      exact c10 j (by omega)
    · intro a h1 h2
      exact (Same.sR (S := S2) (some x) h2).trans (Same.sI _ h1)
  rcases a6 with ⟨b1', b2', b3', b4', b5'⟩ | ⟨b1', b2', b7', b3', b4', b5', b6', b8'⟩
  · -- the first
    subst b1'
    have hea : al ≠ e := fun h => by rcases a1 with g | g <;> omega
    have ek : kd b0 K S1 e = 13 := by unfold kd; rw [if_pos b3']; exact b4'
    have en : (eK b0 K S1 e).2.1 e = 0 := by unfold eK; rw [if_pos b3']; exact b5'
    rw [aN_kd ek, en]
    simp only [b1_some]
    rw [if_pos (show I ([] : List Nat).length = I 0 from rfl), ifk_own a1 k1]
    unfold x_AL_grow x_AL_grow1 x_Ma_max
    rw [gI_own a1 k1, kn]
    simp only [b1_some]
    rw [ifk_own a1 k1, gR_own a1 k1, ke]
    simp only [b1_some]
    rw [aN_kd ek, en]
    simp only [b1_some]
    rw [if_neg (by decide), b2']
    simp only [b1_some]
    rw [if_pos trivial, show (if (10 : Int32) < I ([] : List Nat).length + 1 then some (I ([] : List Nat).length + 1) else some 10) = some (I 10) by decide]
    simp only [b1_some]
    rw [nAo_own o0 (by omega)]
    simp only [b1_some]
    have q1 : Same S1 (nA S1 13 sz 10) al := Same.nA (by omega)
    rw [pR_own a1 (by rw [q1.1]; exact k1)]
    simp only [b1_some, wr4_some, b4_some]
    have nv : ∀ j, (nA S1 13 sz 10).2.2.2 sz j = none := by
      intro j; show (va_up S1.2.2.2 sz (fun _ => (none : Option Nat))) sz j = none; rw [va_at_]
    obtain ⟨S', f1, f2, f3⟩ := fin (sz + (1 + 0 + 0)) (sR (nA S1 13 sz 10) al 1 (some sz)) sz o0 (by omega) (by intro g; have := hKd _ g; omega) (by show (nA S1 13 sz 10).1 al = 8; rw [q1.1]; exact k1) (by show up2 _ _ _ _ _ _ = _; rw [up2_at]) (nA_k S1 13 sz 10) (by show (nA S1 13 sz 10).2.1 sz ∈ _; rw [nA_n]; decide) (by show _ < (nA S1 13 sz 10).2.1 sz; rw [nA_n]; decide) (by intro j a hj; cases hj)
      (by intro j _; show up2 _ _ _ _ _ _ = _; rw [up2_nn _ _ (.inl (by omega))]; exact nv j) (by show (va_up S1.1 sz 13) x = 2; rw [va_ne _ _ (by omega), kS]; exact kx)
    have e10 : (I 10).toNatClampNeg = 10 := I_nat (by omega)
    rw [f1, e10]
    simp only [wr3_some, b3_some, wr4_some]
    refine ⟨S', sz, 1, 10, rfl, f2, ?_, .inr ⟨rfl, rfl, by omega⟩⟩
    intro a h1 h2 h3
    exact ((q a h1).trans ((Same.nA (by omega)).trans (Same.sR _ h1))).trans (f3 a h1 (by omega))
  · have q2 := q e (fun h => b2' h.symm)
    rw [aN_own b1' (by rw [q2.1]; exact b3'), q2.2.1]
    simp only [b1_some]
    have hcb : S.2.1 e ≤ 244 := by
      unfold capL at b4'; simp only [List.mem_cons, List.not_mem_nil, or_false] at b4'; omega
    by_cases hr : xs.length = S.2.1 e
    · -- it grows
      rw [if_pos (by rw [hr]), ifk_own a1 k1]
      unfold x_AL_grow x_AL_grow1 x_AL_grow1_20
      rw [gI_own a1 k1, kn]
      simp only [b1_some]
      rw [ifk_own a1 k1, gR_own a1 k1, ke]
      simp only [b1_some]
      rw [aN_own b1' (by rw [q2.1]; exact b3'), q2.2.1]
      simp only [b1_some]
      have hpos : 10 ≤ S.2.1 e := by
        unfold capL at b4'; simp only [List.mem_cons, List.not_mem_nil, or_false] at b4'; omega
      rw [if_pos (show (0 : Int32) < I (S.2.1 e) from I_lt1 (a := 0) (by omega) (by omega)), hr, I_1]
      obtain ⟨g1, g2⟩ := cap_grow (N := N) (b0 := b0) (K := K) (S := S1) (S.2.1 e) b4' (by omega)
      rw [g1]
      simp only [b1_some]
      have hcb2 : S.2.1 e + S.2.1 e / 2 ≤ 244 := by
        have : ∀ c, c ∈ capL → c ≤ 244 := by decide
        exact this _ g2
      generalize hc2 : S.2.1 e + S.2.1 e / 2 = c2 at *
      have hc2' : S.2.1 e < c2 := by omega
      unfold x_Ar_copyOfO x_Ar_copyOfC x_Ma_min
      simp only [b1_some]
      rw [ifc_own b1' (by rw [q2.1]; exact b3'), hK]
      simp only [b1_some, if_true]
      rw [nAo_own o0 (by omega)]
      simp only [b1_some]
      have q3 : Same S1 (nA S1 13 sz c2) e := Same.nA (by omega)
      have q4 : Same S1 (nA S1 13 sz c2) al := Same.nA (by omega)
      have ke3 : (nA S1 13 sz c2).1 e = 13 := by rw [q3.1, q2.1]; exact b3'
      have kn3 : (nA S1 13 sz c2).2.1 e = S.2.1 e := by rw [q3.2.1, q2.2.1]
      have kf3 : (nA S1 13 sz c2).2.2.2 e = S.2.2.2 e := by rw [q3.2.2.2, q2.2.2.2]
      rw [aN_own b1' ke3, kn3]
      simp only [b1_some]
      rw [if_neg (I_lt0 (by omega) (by omega))]
      simp only [b1_some]
      have hcp : cpR b0 (nA S1 13 sz c2) e 0 sz 0 (I (S.2.1 e)) = some ((nA S1 13 sz c2).1, (nA S1 13 sz c2).2.1, (nA S1 13 sz c2).2.2.1, va_up (nA S1 13 sz c2).2.2.2 sz (va_cpy ((nA S1 13 sz c2).2.2.2 e) ((nA S1 13 sz c2).2.2.2 sz) 0 0 (S.2.1 e))) := by
        unfold cpR
        have e0 : (0 : Int32).toNatClampNeg = 0 := by decide
        rw [ck_own b1', ck_own o0, e0, I_nat (by omega), if_pos]
        refine ⟨⟨ke3, nA_k _ _ _ _⟩, ⟨by decide, by decide, I_nn (by omega)⟩, ⟨by rw [kn3]; omega, by rw [nA_n]; omega⟩, ?_⟩
        intro i hi
        rw [Nat.zero_add, kf3]
        have hix : xs[i]? = some xs[i] := List.getElem?_eq_getElem (by omega)
        obtain ⟨r1, r2, r3⟩ := b6' i _ hix
        rw [r1]
        unfold isN
        simp only [beq_iff_eq]
        rw [ck_own r2]
        show (va_up S1.1 sz 13) _ = 2
        have hz := hlt xs[i] (List.mem_of_getElem? hix)
        rw [va_ne _ _ (by omega), kS]; exact r3
      rw [hcp]
      simp only [b1_some, wr4_some, b4_some]
      rw [pR_own a1 (by show (nA S1 13 sz c2).1 al = 8; rw [q4.1]; exact k1)]
      simp only [b1_some, wr4_some, b4_some]
      obtain ⟨S', f1, f2, f3⟩ := fin (sz + (1 + 0 + 0 + 0 + 0)) (sR ((nA S1 13 sz c2).1, (nA S1 13 sz c2).2.1, (nA S1 13 sz c2).2.2.1, va_up (nA S1 13 sz c2).2.2.2 sz (va_cpy ((nA S1 13 sz c2).2.2.2 e) ((nA S1 13 sz c2).2.2.2 sz) 0 0 (S.2.1 e))) al 1 (some sz)) sz o0 (by omega) (by intro g; have := hKd _ g; omega) (by show (nA S1 13 sz c2).1 al = 8; rw [q4.1]; exact k1) (by show up2 _ _ _ _ _ _ = _; rw [up2_at]) (nA_k S1 13 sz c2) (by show (nA S1 13 sz c2).2.1 sz ∈ _; rw [nA_n]; exact g2) (by show _ < (nA S1 13 sz c2).2.1 sz; rw [nA_n]; omega)
        (by
          intro j a hj
          have hjl : j < xs.length := by
            rcases Nat.lt_or_ge j xs.length with g | g
            · exact g
            · rw [List.getElem?_eq_none g] at hj; cases hj
          obtain ⟨r1, r2, r3⟩ := b6' j a hj
          refine ⟨?_, r2, ?_⟩
          · show up2 _ _ _ _ _ _ = _
            rw [up2_nn _ _ (.inl (by omega))]
            show (va_up (nA S1 13 sz c2).2.2.2 sz _) sz j = _
            rw [va_at_, va_cpy_lo _ _ (by omega), kf3]; exact r1
          · show (va_up S1.1 sz 13) a = 2
            have := hlt a (List.mem_of_getElem? hj)
            rw [va_ne _ _ (by omega), kS]; exact r3)
        (by
          intro j hj
          show up2 _ _ _ _ _ _ = _
          rw [up2_nn _ _ (.inl (by omega))]
          show (va_up (nA S1 13 sz c2).2.2.2 sz _) sz j = _
          rw [va_at_, va_cpy_hi _ _ (by omega)]
          show (va_up S1.2.2.2 sz (fun _ => (none : Option Nat))) sz j = none; rw [va_at_])
        (by show (va_up S1.1 sz 13) x = 2; rw [va_ne _ _ (by omega), kS]; exact kx)
      have e10 : (I c2).toNatClampNeg = c2 := I_nat (by omega)
      rw [hr] at f1
      rw [f1, e10]
      simp only [wr3_some, b3_some, wr4_some]
      refine ⟨S', sz, 1, c2, rfl, f2, ?_, .inr ⟨rfl, rfl, by omega⟩⟩
      intro a h1 h2 h3
      have w1 : Same S1 (nA S1 13 sz c2) a := Same.nA (by omega)
      have w2 : Same (nA S1 13 sz c2) ((nA S1 13 sz c2).1, (nA S1 13 sz c2).2.1, (nA S1 13 sz c2).2.2.1, va_up (nA S1 13 sz c2).2.2.2 sz (va_cpy ((nA S1 13 sz c2).2.2.2 e) ((nA S1 13 sz c2).2.2.2 sz) 0 0 (S.2.1 e))) a := by
        refine ⟨rfl, rfl, rfl, ?_⟩
        show (va_up (nA S1 13 sz c2).2.2.2 sz _) a = _; rw [va_ne _ _ (by omega)]
      exact (((q a h1).trans w1).trans w2).trans ((Same.sR _ h1).trans (f3 a h1 (by omega)))
    · rw [if_neg (fun g => hr ((I_inj (by omega) (by omega)).1 g))]
      obtain ⟨S', f1, f2, f3⟩ := fin sz S1 e b1' b2' b7' k1 ke (by rw [q2.1]; exact b3') (by rw [q2.2.1]; exact b4') (by rw [q2.2.1]; omega) (by intro j a hj; rw [q2.2.2.2, kS]; exact b6' j a hj) (by rw [q2.2.2.2]; exact b8') (by rw [kS]; exact kx)
      rw [f1]
      simp only [b3_some, wr4_some]
      exact ⟨S', e, 0, 0, rfl, f2, fun a h1 h2 _ => (q a h1).trans (f3 a h1 (by rcases b1' with g | g <;> omega)), .inl ⟨rfl, rfl, rfl⟩⟩
end
