section
variable {b0 N : Nat} {K S S' : cS} {rd sb al vb vb' sz sz' sz0 : Nat} {t : Nat → Int32} {n p q : Nat} {R R' : rS} {l : List Int32} {hb u0 u : Nat} {T T' : Ar} {ad : Nat → Nat} {m lo e : Nat} {kd : Nat → List Nat} {xs : List Nat} {S0 : cS} {R0 : rS}
/-- Behind the brackets. -/
theorem pr_hd39 (hT : Tx t n) (hN : 200000 ≤ N) {p0 : Nat} (hp : p ≤ n) (hC : BC b0 K rd sb al t n sz0 S0 S vb e sz T kd ad m xs p) (hR : BR t n hb R0 R T' m u p) (hA : Agr 0 T T' m) (hdoc : S0.2.2.2 rd 4 = some (ad 0)) (h0 : 0 < m) (hk : 6 < T.1 0) {rows : Int32} (hrow : (rows = 0 ∧ m ≤ p ∧ p0 + 1 = p) ∨ (rows = 1 ∧ m + 1 ≤ p ∧ p0 + 2 = p)) :
    HdOut b0 K rd sb al t n sz0 S0 hb R0 sz p0 xs T T' ad m (x_R_readHeader_39 N b0 K rd rows sz S) (b1 (m_blanks N R) (fun S4 => b2 (m_path N S4) (fun x6 S7 => if x6 = 0 then (some ((-1), S7)) else (b2 (m_opened N rows S7) (fun x9 S10 => m_header_64 N N rows x9 0 S10))))) := by
  have hn := hT.1
  unfold x_R_readHeader_39
  rw [hC.ct.ifk]
  obtain ⟨q, h1, h2, h3, h4, h5, h6, h7⟩ := pr_bl (N := N) hT (by omega) hp hC hR
  rw [h4, h5]
  simp only [b1_some]
  rw [h6.ct.ifk]
  rcases pr_pb (N := N) hT (by omega) h2 h6 h7 with ⟨q2, S2, R2, vb2, dc, ds, as, ps, u2, g1, g2, g3, g4, g5, g6, g7, g8, g9, g10, g11, g12, g13, g13', g13'', gkp, g14, g15⟩ | ⟨S2, R2, dc, ds, g1, g2, g3, g4, g5⟩
  · rw [g5, g6]
    simp only [b4_some, b2_some]
    rw [if_neg (show ¬ (1 : Int32) = 0 by decide)]
    have hpos : 0 < ps.length := List.length_pos_iff.2 g3
    obtain ⟨a9, ha9⟩ : ∃ a, as[0]? = some a := ⟨_, List.getElem?_eq_getElem (by rw [g7.1]; exact hpos)⟩
    have hdoc2 : S2.2.2.2 rd 4 = some (ad 0) := by
      obtain ⟨_, _, _, _, _, _, _, _, _, _, _, _, _, _, _, _, _, _, _, _, h21⟩ := g10
      rw [h21]; exact hdoc
    have hO := pr_open (N := N) (rows := rows) (as := as) hT hN (by omega) g3 g2 g12 g10 g11 hA hdoc2 h0 hk (by
      rcases hrow with ⟨a, b, _⟩ | ⟨a, b, _⟩
      · exact .inl ⟨a, by omega⟩
      · exact .inr ⟨a, by omega⟩) g7 g9 g8
    rw [ha9] at hO ⊢
    rw [om_some, g10.ct.ifk]
    rcases hO with ⟨S3, R3, dc3, ds3, T3, T3', kd3, ad3, m3, tt, e3, k1, k2, k3, k4, k5, k6, k7, k8, k9, k10, k11, k12, k13, k14, k15⟩ | ⟨S3, R3, dc3, ds3, k1, k2, k3, k4, k5⟩
    · rw [k1, k2]
      simp only [b4_some, b2_some]
      have hr01 : rows = 0 ∨ rows = 1 := hrow.imp (fun g => g.1) (fun g => g.1)
      rcases hd_end (N := N) (sz := sz + dc + dc3) hT g2 k3 k4 k5 k6 k7 hr01 N (by omega) with ⟨q4, S4, R4, j1, j2, j3, j4, j5, j6⟩ | ⟨S4, R4, j1, j2, j3⟩
      · rw [j3, j4]
        simp only [wr4_some]
        refine .inl ⟨q4, S4, R4, dc + (dc3 + 0), ds + (ds3 + 0), T3, T3', kd3, ad3, m3, tt, e3, vb2, u2, by omega, j2, rfl, rfl, ?_, j6, k5, k6, k7, by omega, by omega, by omega, k13, k14, k15⟩
        rw [show sz + (dc + (dc3 + 0)) = sz + dc + dc3 by omega]; exact j5
      · rw [j1, j2]
        simp only [wr4_some]
        exact .inr ⟨S4, R4, _, _, rfl, rfl, j3, by omega, by omega⟩
    · rw [k1, k2]
      simp only [b4_some, b2_some]
      unfold x_R_readHeader_62
      rw [om_none, wr4_some, wr4_some]
      obtain ⟨N', hN'⟩ : ∃ j, N = j + 1 := ⟨N - 1, by omega⟩
      have : m_header_64 N N rows (-1) 0 R3 = some (-1, R3) := by
        conv => lhs; arg 2; rw [hN']
        unfold m_header_64 m_header_64F m_header_74
        rcases hrow with ⟨rfl, _⟩ | ⟨rfl, _⟩
        · rw [if_pos rfl, if_neg (show ¬ (1 : Int32) ≤ 0 by decide), if_pos rfl]
        · rw [if_neg (show ¬ (1 : Int32) = 0 by decide), if_neg (show ¬ (2 : Int32) ≤ 0 by decide), if_pos rfl]
      rw [this]
      exact .inr ⟨S3, R3, _, _, rfl, rfl, k3, by omega, by omega⟩
  · rw [g1, g2]
    simp only [b4_some, b2_some, if_true]
    unfold x_R_readHeader_62
    rw [om_none, om_none, wr4_some]
    exact .inr ⟨S2, R2, _, _, rfl, rfl, g3, by omega, by omega⟩
theorem pr_header (hT : Tx t n) (hN : 200000 ≤ N) (hpn : p < n) (hC : BC b0 K rd sb al t n sz0 S0 S vb e sz T kd ad m xs p) (hR : BR t n hb R0 R T' m u p) (hA : Agr 0 T T' m) (hdoc : S0.2.2.2 rd 4 = some (ad 0)) (h0 : 0 < m) (hk : 6 < T.1 0) :
    HdOut b0 K rd sb al t n sz0 S0 hb R0 sz p xs T T' ad m (x_R_readHeader N b0 K rd sz S) (m_header N R) := by
  have hn := hT.1
  have hmp := hC.mp
  unfold x_R_readHeader m_header
  rw [hC.ct.at_, hR.1.1.2.1]
  simp only [b1_some, hC.ct.put, I_1, rP_eq]
  have hC1 := hC.mv (q := p + 1) (by omega)
  have hR1 := hR.mv (q := p + 1) (by omega)
  rw [hC1.ct.ifk, peek_eq hC1.ct hn (by omega), here_eq hR1.1.1 hn (by omega)]
  simp only [b1_some]
  unfold x_R_readHeader_24 m_header_24 m_header_39
  by_cases h91 : ch t n (p + 1) = 91
  · have hp1 : p + 1 < n := by
      rcases Nat.lt_or_ge (p + 1) n with g | g
      · exact g
      · rw [ch_out (by omega)] at h91; exact absurd h91 (by decide)
    rw [if_pos ((pkEq 91 (by decide) (by decide)).2 h91), if_pos h91, if_neg (show ¬ (1 : Int32) = 0 by decide), if_neg (show ¬ (1 : Int32) = 0 by decide), hC1.ct.at_, hR1.1.1.2.1]
    simp only [b1_some, hC1.ct.put, I_1, rP_eq, sI_twice, Rw_twice]
    exact pr_hd39 hT hN (show p + 1 + 1 ≤ n by omega) (hC.mv (by omega)) (hR.mv (by omega)) hA hdoc h0 hk (.inr ⟨rfl, by omega, by omega⟩)
  · rw [if_neg (fun g => h91 ((pkEq 91 (by decide) (by decide)).1 g)), if_neg h91, if_pos rfl, if_pos rfl, hR1.1.1.2.1, show I (p + 1) + 0 = I (p + 1) from I_add (p + 1) 0]
    simp only [b1_some, rP_eq, Rw_twice]
    exact pr_hd39 hT hN (show p + 1 ≤ n by omega) hC1 hR1 hA hdoc h0 hk (.inl ⟨rfl, by omega, rfl⟩)
end
