theorem fr_r {F c : Nat} (h : 1 ≤ c) : F + 1 ≤ F + c := by omega
theorem lo_r {m L c : Nat} (h : 8 + (m + 11) ≤ c) : 8 + (m + 11) + L ≤ L + c := by omega
theorem fr_g {F a c : Nat} (h : a + 1 ≤ c) : F + a + 1 ≤ F + c := by omega
theorem lo_g {m L a c : Nat} (h : 8 + (m + 11) + a ≤ c) : 8 + (m + 11) + (L + a) ≤ L + c := by omega
theorem fr_k {f F c : Nat} (h : f + 1 ≤ c) : f + 1 ≤ F + c := by omega
theorem lo_k {m lo L c : Nat} (h : 8 + (m + 11) + lo ≤ c) : 8 + (m + 11) + lo ≤ L + c := by omega
