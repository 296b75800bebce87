section
variable {b0 : Nat} {K S : cS} {sz n : Nat} {R : rS}
theorem Bo.k1 (h : Bo b0 S sz R n) : kd b0 K S b0 = 1 := by
  obtain ⟨t, o, w, T, kd', ad, m, c, hf, u, h1, h2, h3⟩ := h
  rw [kd_own (obA0 b0)]; exact h1.2.1
/-- The room that is used: what a call of read needs is paid for by the calls before it. -/
theorem room_read {n dc ds k a b : Nat} (hd : dc ≤ 17 + 12 * n) (hs : ds ≤ 539 + 500 * n) (ha : a + 12 * n ≤ 113 * k) (hb : b + 500 * n ≤ 4539 * k) : (a + dc) + 12 * 0 ≤ 113 * (k + 1) ∧ (b + ds) + 500 * 0 ≤ 4539 * (k + 1) := by omega
theorem room_type {n n' k a b : Nat} (hn : n' ≤ n + 8) (ha : a + 12 * n ≤ 113 * k) (hb : b + 500 * n ≤ 4539 * k) : a + 12 * n' ≤ 113 * (k + 1) ∧ b + 500 * n' ≤ 4539 * (k + 1) := by omega
theorem room_throw {n k a b : Nat} (ha : a + 12 * n ≤ 113 * k) (hb : b + 500 * n ≤ 4539 * k) : (a + 1) + 12 * n ≤ 113 * (k + 1) ∧ (b + 6) + 500 * n ≤ 4539 * (k + 1) := by omega
end
