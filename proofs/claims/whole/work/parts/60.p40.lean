section
variable {b0 N : Nat} {K S S' : cS} {rd sb al vb vb' sz sz' sz0 : Nat} {t : Nat → Int32} {n p q : Nat} {R R' : rS} {l : List Int32} {hb u0 u : Nat} {T T' : Ar} {ad : Nat → Nat} {m lo e : Nat} {kd : Nat → List Nat} {xs : List Nat} {S0 : cS} {R0 : rS}
theorem st_entry (hR : BR t n hb R0 R T' m u p) (hn : n ≤ 240) (hp : p ≤ n) {v dd : Nat} (hd6 : dd < 6) (h17 : R.2 17 dd = I (260 * hb + v)) {x : Int32} (h18 : R.2 18 dd = x) (hx : x ≠ 1) (hc : ch t n p ≠ 125 ∨ x = 2) (hbl : m_blanks N R = some R) :
    m_stepTable N (I dd) R = b2 (m_entry N (I (260 * hb + v)) (Ra R 18 dd 1)) (fun x6 S7 => if x6 = 0 ∨ x6 = 1 then (some (x6, S7)) else none) := by
  unfold m_stepTable m_stepTable_112
  rw [rL_eq (by show _ < 6; omega) (by omega), h17, b1_some, hbl, b1_some, here_eq hR.1.1 hn (by omega), b1_some, rL_eq (by show _ < 6; omega) (by omega), h18, b1_some, b1_some, if_neg hx, rT_eq (by show _ < 6; omega) (by omega), b1_some]
  rcases hc with hc | hc
  · rw [if_neg hc]
  · subst hc; rw [if_pos (show (2 : Int32) ≤ 2 by decide), ite_self]
theorem pr_tab_i (hK : KF b0 K) (hT : Tx t n) (hN : 200000 ≤ N) {RV : Nat → Int32 → Nat → cS → Option (Option Nat × cS × Nat × Nat)} {v dd : Nat} (hd6 : dd < 6) (hV : ValP b0 N K rd sb al t n sz0 S0 hb R0 RV (dd + 1)) {S00 : cS} {R00 : rS} {vb00 sz00 : Nat} {T00 T00' : Ar} {kd00 : Nat → List Nat} {ad00 : Nat → Nat} {p00 : Nat} {Fs : Nat → Option (Int32 × rS)} (hGR : GR R0 R00 hb) :
    ∀ (d p k' cnt kk dc ds : Nat) (S : cS) (R : rS) (vb e : Nat) (T T' : Ar) (kd : Nat → List Nat) (ad : Nat → Nat) (m u : Nat) (zs : List Nat), n - p ≤ d → n - p + 1 < k' → p ≤ n → cnt + 1 ≤ p → BC b0 K rd sb al t n sz0 S0 S vb e (sz00 + dc) T kd ad m (xs ++ zs) p → BR t n hb R0 R T' m u p → Agr v T T' m → T.1 v = 10 → R.1 26 = I (dd + 1) → R.2 17 dd = I (260 * hb + v) → TAcc b0 N v dd S00 S R00 R vb00 vb sz00 dc ds T00 T00' T T' kd00 kd ad00 ad m p00 p zs → (∀ f, kk < f → Fs f = tbT N (260 * hb + v) dd R (f - kk)) → kk ≤ p + 1 - p00 →
    COut b0 N K rd sb al t n sz0 S0 S00 hb R0 R00 vb00 sz00 T00 T00' kd00 ad00 (v + 1) xs p00 v dd (wr4 dc ds (x_R_readClosedTable_52 N b0 K RV k' rd (I (dd + 1)) (ad v) (I xs.length) 1 (I cnt) (sz00 + dc) S)) Fs := by
  have hn := hT.1
  intro d
  induction d with
  | zero =>
    intro p k' cnt kk dc ds S R vb e T T' kd ad m u zs hd hk' hp hcnt hC hR hA hk10 hdd h17 hacc hF hkk
    obtain ⟨k', rfl⟩ : ∃ j, k' = j + 1 := ⟨k' - 1, by omega⟩
    have hvm := hacc.2.1
    have a8 := hacc.2.2.2.2.2.2.2.1
    have a9 := hacc.2.2.2.2.2.2.2.2.1
    have hp00 := hacc.1
    unfold x_R_readClosedTable_52 x_R_readClosedTable_52F
    rw [if_neg (show ¬ (1 : Int32) = 0 by decide), if_neg (show ¬ (240 : Int32) ≤ I cnt from I_le0 (a := 240) (by omega) (by omega)), hC.ct.ifk]
    have hO := pr_entry (N := N) (u := u) hK hT hN hV hp hC (hR.stk (.inr rfl) dd 1) hA (tt := v) (Nat.le_refl _) hvm (by rw [hk10]; decide) (by rw [Ra_1]; exact hdd)
    rcases hO with ⟨q, S1, vb1, e1, dc1, ds1, T1, kd1, ad1, m1, ys, k, R2, T1', u1, o1, o2, o3, -⟩ | ⟨S1, dc1, ds1, k, R2, o1, o2, o3, o4, o5, o6⟩ | ⟨q, S1, vb1, e1, dc1, ds1, T1, kd1, ad1, m1, zs', k, R2, o1, o2, o3, -⟩
    · omega
    · rw [o1, b4_some, if_pos rfl, wr4_some, wr4_some]
      refine .inr ⟨S1, _, _, kk + k, R2, rfl, fun f hf => ?_, by omega, o4, by omega, by omega⟩
      rw [hF f (by omega)]
      unfold tbT
      rcases o2 with o2 | ⟨R1, o2, o2'⟩
      · rw [o2, b2_some, if_pos (.inl rfl), b2_some]
        obtain ⟨f', hf'⟩ : ∃ j, f - kk = j + 1 := ⟨f - kk - 1, by omega⟩
        rw [hf']; exact fin_no f'
      · rw [o2, b2_some, if_pos (.inr rfl), b2_some]
        exact o2' (f - kk) (by omega)
    · omega
  | succ d ih =>
    intro p k' cnt kk dc ds S R vb e T T' kd ad m u zs hd hk' hp hcnt hC hR hA hk10 hdd h17 hacc hF hkk
    obtain ⟨k', rfl⟩ : ∃ j, k' = j + 1 := ⟨k' - 1, by omega⟩
    have hacc' := hacc
    obtain ⟨a1, a2, a3, a4, a5, a6, a7, a8, a9, a10, a11, a12⟩ := hacc'
    unfold x_R_readClosedTable_52 x_R_readClosedTable_52F
    rw [if_neg (show ¬ (1 : Int32) = 0 by decide), if_neg (show ¬ (240 : Int32) ≤ I cnt from I_le0 (a := 240) (by omega) (by omega)), hC.ct.ifk]
    have hO := pr_entry (N := N) (u := u) hK hT hN hV hp hC (hR.stk (.inr rfl) dd 1) hA (tt := v) (Nat.le_refl _) a2 (by rw [hk10]; decide) (by rw [Ra_1]; exact hdd)
    -- where the reference has stopped
    have stop : ∀ (k : Nat) (R2 : rS), RF N (m_entry N (I (260 * hb + v)) (Ra R 18 dd 1)) k R2 → ∀ f, kk + k < f → Fs f = some (0, R2) := by
      intro k R2 o2 f hf
      rw [hF f (by omega)]
      unfold tbT
      rcases o2 with o2 | ⟨R1, o2, o2'⟩
      · rw [o2, b2_some, if_pos (.inl rfl), b2_some]
        obtain ⟨f', hf'⟩ : ∃ j, f - kk = j + 1 := ⟨f - kk - 1, by omega⟩
        rw [hf']; exact fin_no f'
      · rw [o2, b2_some, if_pos (.inr rfl), b2_some]
        exact o2' (f - kk) (by omega)
    rcases hO with ⟨q, S1, vb1, e1, dc1, ds1, T1, kd1, ad1, m1, ys, k, R2, T1', u1, o1, o2, o3, o4, o5, o6, o7, o8, o9, o10, o11, o12, r1, r2, r3, r4, r5, r6, r7⟩ | ⟨S1, dc1, ds1, k, R2, o1, o2, o3, o4, o5, o6⟩ | ⟨q, S1, vb1, e1, dc1, ds1, T1, kd1, ad1, m1, zs', k, R2, o1, o2, o3, o4, o5, o6, o7, o8, o9, o10, o11⟩
    · -- an entry
      rw [o1, b4_some, if_neg (show ¬ (1 : Int32) = 0 by decide), wr4_wr4, o4.ct.ifk]
      obtain ⟨q3, j1, j2, j3, j4, j5, j6, j7⟩ := pr_bl (N := N) hT (by omega) o3 o4 r3
      rw [j4, b1_some, j6.ct.ifk, peek_eq j6.ct hn (by omega), b1_some]
      have ez : sz00 + (dc + dc1) = sz00 + dc + dc1 := by omega
      have hd2 : R2.1 26 = I (dd + 1) := by rw [r6, Ra_1]; exact hdd
      have hr7 := r7 dd (by omega)
      have h172 : R2.2 17 dd = I (260 * hb + v) := by rw [hr7.1, Ra_ne _ (.inl (by decide))]; exact h17
      have h182 : R2.2 18 dd = 1 := by rw [hr7.2, Ra_at]
      have hlow : ∀ i, i < dd → R2.2 17 i = R00.2 17 i ∧ R2.2 18 i = R00.2 18 i := fun i hi => by
        obtain ⟨c1, c2⟩ := r7 i (by omega)
        obtain ⟨d1, d2⟩ := a10 i hi
        exact ⟨by rw [c1, Ra_ne _ (.inl (by decide))]; exact d1, by rw [c2, Ra_ne _ (.inr (by omega))]; exact d2⟩
      have hk10' : T1.1 v = 10 := by rw [o9.1 v a2]; exact hk10
      have hmp1 := o4.mp
      have hb1 := hR.1.2.2.1
      have kR2 := (r3.2.2.2.1.1 v (by omega)).1
      rw [r4.kind (Nat.le_refl _) (by omega), hk10'] at kR2
      have sofar : ∀ f, kk + k < f → Fs f = m_finishValue_2 N (f - (kk + k)) 1 R2 := by
        intro f hf
        obtain ⟨R1, c1, c2⟩ := r1
        rw [hF f (by omega)]
        unfold tbT
        rw [c1, b2_some, if_pos (.inr rfl), b2_some, c2 (f - kk) (by omega)]
        congr 1; omega
      obtain ⟨lS3, hS3⟩ := o4.1
      -- the accounts, at a later place
      have acc : ∀ (q4 : Nat) (R4 : rS), q ≤ q4 → (∀ i, i < dd → R4.2 17 i = R00.2 17 i ∧ R4.2 18 i = R00.2 18 i) → TAcc b0 N v dd S00 (sI S1 rd 6 (I q4)) R00 R4 vb00 vb1 sz00 (dc + dc1) (ds + ds1) T00 T00' T1 T1' kd00 kd1 ad00 ad1 m1 p00 q4 (zs ++ ys) := by
        intro q4 R4 hq4 h4
        refine ⟨by omega, by omega, fun i hi => by rw [o6 i (by omega), a3 i hi], a4.trans o7, a5.trans r5, fun i hi => by rw [o8 i hi, a6 i hi], ?_, by omega, by omega, h4, fun x hx => ?_, fun i g1 g2 g3 => ?_⟩
        · rw [ez]
          exact (a7.trans o10 (by omega)).trans (Kp.fr hS3 (FrC.mv S1 (.inl rfl) _) (Nat.le_refl _) (.inl rfl)) (by omega)
        · rcases List.mem_append.1 hx with hx | hx
          · obtain ⟨b1', b2', b3'⟩ := a11 x hx
            exact ⟨b1', by omega, by rw [o9.1 x b2']; exact b3'⟩
          · exact o9.2.1 x hx
        · by_cases g : i < m
          · rw [o9.1 i g] at g3
            exact List.mem_append_left _ (a12 i g1 g g3)
          · exact List.mem_append_right _ (o9.2.2 i (by omega) g2 g3)
      have o4' : BC b0 K rd sb al t n sz0 S0 S1 vb1 e1 (sz00 + (dc + dc1)) T1 kd1 ad1 m1 (xs ++ (zs ++ ys)) q := by rw [ez, ← List.append_assoc]; exact o4
      have j6' : BC b0 K rd sb al t n sz0 S0 (sI S1 rd 6 (I q3)) vb1 e1 (sz00 + (dc + dc1)) T1 kd1 ad1 m1 (xs ++ (zs ++ ys)) q3 := by rw [ez, ← List.append_assoc]; exact j6
      have eav : ad1 v = ad v := o6 v a2
      by_cases h44 : ch t n q3 = 44
      · have hq3n : q3 < n := by
          rcases Nat.lt_or_ge q3 n with g | g
          · exact g
          · rw [ch_out (by omega)] at h44; exact absurd h44 (by decide)
        rw [if_pos ((pkEq 44 (by decide) (by decide)).2 h44)]
        unfold x_R_readClosedTable_94 x_R_readClosedTable_115
        rw [if_neg (show ¬ (1 : Int32) = 0 by decide), j6.ct.at_, b1_some, j6.ct.put, b1_some, I_1, I_1, sI_twice]
        have hst2 : m_stepTable N (I dd) R2 = some (1, Ra (Rw R2 3 (I (q3 + 1))) 18 dd 2) := by
          unfold m_stepTable m_stepTable_112
          rw [rL_eq (by show _ < 6; omega) (by omega), h172, b1_some, j5, b1_some, here_eq j7.1.1 hn (by omega), b1_some, if_neg (by rw [h44]; decide), rL_eq (by show _ < 6; omega) (by omega), Rw_2, h182, b1_some, if_pos rfl, b1_some, if_pos h44, rP_eq, b1_some, j7.1.1.2.1, I_1, Rw_twice, rT_eq (by show _ < 6; omega) (by omega), b1_some]
        have hC4 := o4'.mv (q := q3 + 1) (by omega)
        have hR4 := (r3.mv (q := q3 + 1) (by omega)).stk (.inr rfl) dd 2
        rw [show sz00 + dc + dc1 = sz00 + (dc + dc1) by omega]
        rw [hC4.ct.ifk]
        obtain ⟨q5, n1, n2, n3, n4, n5, n6, n7⟩ := pr_bl (N := N) hT (by omega) (show q3 + 1 ≤ n by omega) hC4 hR4
        rw [n4, b1_some, sI_twice]
        rw [sI_twice] at n6
        have hrec := ih q5 k' (cnt + 1) (kk + k + 2) (dc + dc1) (ds + ds1) (sI S1 rd 6 (I q5)) (Rw (Ra (Rw R2 3 (I (q3 + 1))) 18 dd 2) 3 (I q5)) vb1 e1 T1 T1' kd1 ad1 m1 u1 (zs ++ ys) (by omega) (by omega) n2 (by omega) n6 n7 r4 hk10' (by rw [Rw_1n _ _ (by decide), Ra_1, Rw_1n _ _ (by decide)]; exact hd2) (by rw [Rw_2, Ra_ne _ (.inl (by decide)), Rw_2]; exact h172) (acc q5 _ (by omega) (fun i hi => by
            obtain ⟨c1, c2⟩ := hlow i hi
            exact ⟨by rw [Rw_2, Ra_ne _ (.inl (by decide)), Rw_2]; exact c1, by rw [Rw_2, Ra_ne _ (.inr (by omega)), Rw_2]; exact c2⟩)) (fun f hf => ?_) (by omega)
        · rw [eav] at hrec
          exact hrec
        · rw [sofar f (by omega)]
          obtain ⟨f', hf'⟩ : ∃ j, f - (kk + k) = j + 2 := ⟨f - (kk + k) - 2, by omega⟩
          rw [hf', fin_tab hd2 hd6 h172 (by omega) kR2, hst2, b2_some]
          have hd3 : (Ra (Rw R2 3 (I (q3 + 1))) 18 dd 2).1 26 = I (dd + 1) := by rw [Ra_1, Rw_1n _ _ (by decide)]; exact hd2
          have h173 : (Ra (Rw R2 3 (I (q3 + 1))) 18 dd 2).2 17 dd = I (260 * hb + v) := by rw [Ra_ne _ (.inl (by decide)), Rw_2]; exact h172
          rw [fin_tab hd3 hd6 h173 (by omega) (by rw [Ra_ne _ (.inl (by decide)), Rw_2]; exact kR2)]
          have hst3 : m_stepTable N (I dd) (Ra (Rw R2 3 (I (q3 + 1))) 18 dd 2) = b2 (m_entry N (I (260 * hb + v)) (Ra (Rw (Ra (Rw R2 3 (I (q3 + 1))) 18 dd 2) 3 (I q5)) 18 dd 1)) (fun x6 S7 => if x6 = 0 ∨ x6 = 1 then (some (x6, S7)) else none) := by
            unfold m_stepTable m_stepTable_112
            rw [rL_eq (by show _ < 6; omega) (by omega), h173, b1_some, n5, b1_some, here_eq n7.1.1 hn (by omega), b1_some, rL_eq (by show _ < 6; omega) (by omega), Rw_2, Ra_at, b1_some, b1_some, if_neg (show ¬ (2 : Int32) = 1 by decide), rT_eq (by show _ < 6; omega) (by omega), b1_some, if_pos (show (2 : Int32) ≤ 2 by decide), ite_self]
          rw [hst3]
          unfold tbT
          congr 1
          funext x9 S10
          congr 1; omega
      · rw [if_neg (fun g => h44 ((pkEq 44 (by decide) (by decide)).1 g))]
        unfold x_R_readClosedTable_94 x_R_readClosedTable_115
        rw [if_pos rfl]
        obtain ⟨k', rfl⟩ : ∃ j, k' = j + 1 := ⟨k' - 1, by omega⟩
        unfold x_R_readClosedTable_52 x_R_readClosedTable_52F
        rw [if_pos rfl, show sz00 + dc + dc1 = sz00 + (dc + dc1) by omega]
        by_cases h125 : ch t n q3 = 125
        · have hq3n : q3 < n := by
            rcases Nat.lt_or_ge q3 n with g | g
            · exact g
            · rw [ch_out (by omega)] at h125; exact absurd h125 (by decide)
          have := tab_end (N := N) (RV := RV) (k := kk + k + 1) hT (by omega) hd6 j6' j7 r4 hk10' (acc q3 (Rw R2 3 (I q3)) j1 hlow) h125 hq3n (by rw [Rw_1n _ _ (by decide)]; exact hd2) (Fs := Fs) (fun f hf => ?_) (by omega)
          · rw [eav] at this
            exact this
          · rw [sofar f (by omega)]
            obtain ⟨f', hf'⟩ : ∃ j, f - (kk + k) = j + 1 := ⟨f - (kk + k) - 1, by omega⟩
            rw [hf', fin_tab hd2 hd6 h172 (by omega) kR2]
            have hst2 : m_stepTable N (I dd) R2 = b1 (rP (Rw R2 3 (I q3)) 3 ((Rw R2 3 (I q3)).1 3 + 1)) (fun S9 => b1 (rP S9 26 (S9.1 26 - 1)) (fun S11 => m_stepTable_54 N N (I (260 * hb + v) + 1) S11)) := by
              unfold m_stepTable
              rw [rL_eq (by show _ < 6; omega) (by omega), h172, b1_some, j5, b1_some, here_eq j7.1.1 hn (by omega), b1_some, h125, if_pos rfl, rL_eq (by show _ < 6; omega) (by omega), Rw_2, h182, b1_some, if_neg (show ¬ (2 : Int32) ≤ 1 by decide)]
            rw [hst2]
            congr 1
            funext x9 S10
            congr 1; omega
        · unfold x_R_readClosedTable_121
          rw [j6.ct.ifk, take_eq j6.ct hn (by omega) _ (by decide), if_neg h125, b2_some, if_pos rfl, wr4_some]
          have hst2 : m_stepTable N (I dd) R2 = some (0, Rw (Rw R2 3 (I q3)) 4 (I q3)) := by
            unfold m_stepTable m_stepTable_112 m_fail
            rw [rL_eq (by show _ < 6; omega) (by omega), h172, b1_some, j5, b1_some, here_eq j7.1.1 hn (by omega), b1_some, if_neg h125, rL_eq (by show _ < 6; omega) (by omega), Rw_2, h182, b1_some, if_pos rfl, b1_some, if_neg h44, rP_eq, b1_some, b2_some, if_pos (.inl rfl), j7.1.1.2.1]
          refine .inr ⟨_, _, _, kk + k + 1, _, rfl, fun f hf => ?_, by omega, wr_bad j6 j7 j2, by omega, by omega⟩
          rw [sofar f (by omega)]
          obtain ⟨f', hf'⟩ : ∃ j, f - (kk + k) = j + 2 := ⟨f - (kk + k) - 2, by omega⟩
          rw [hf', fin_tab hd2 hd6 h172 (by omega) kR2, hst2, b2_some]
          exact fin_no f'
    · rw [o1, b4_some, if_pos rfl, wr4_some, wr4_some]
      exact .inr ⟨S1, _, _, kk + k, R2, rfl, fun f hf => stop k R2 o2 f hf, by omega, o4, by omega, by omega⟩
    · rw [o1, b4_some, if_neg (show ¬ (1 : Int32) = 0 by decide), wr4_wr4, o5.ct.ifk, bl_dgu hT (by omega) o5.ct o3 o4, b1_some, o5.ct.ifk, peek_eq o5.ct hn (by omega), b1_some, pkIn o3, if_neg (show ¬ t q = (44 : Int32) from dgu_ne (k := 44) o4 (by omega) (by omega))]
      unfold x_R_readClosedTable_94 x_R_readClosedTable_115
      rw [if_pos rfl]
      obtain ⟨k', rfl⟩ : ∃ j, k' = j + 1 := ⟨k' - 1, by omega⟩
      unfold x_R_readClosedTable_52 x_R_readClosedTable_52F x_R_readClosedTable_121
      rw [if_pos rfl, o5.ct.ifk, take_eq o5.ct hn (by omega) _ (by decide), ch_in o3, if_neg (show ¬ t q = (125 : Int32) from dgu_ne (k := 125) o4 (by omega) (by omega)), b2_some, if_pos rfl, wr4_some]
      refine .inr ⟨_, _, _, kk + k, R2, rfl, fun f hf => stop k R2 o6 f hf, by omega, ?_, by omega, by omega⟩
      exact o5.bad (S' := sI S1 rd 7 (I q)) (R := R2) (R' := R2) o9 (FrC.mv S1 (.inr rfl) _) (GR.refl R2) (w := q) (by omega) (by show up2 _ _ _ _ _ _ = _; rw [up2_at]) o8
end
