/-! ===== a cell behind a store ===== -/
theorem r_wi_eq (h : AH) (a k : Nat) (v : Int32) : gi (wi h a k v) a k = v := by rw [r_gi_wi, if_pos rfl, if_pos rfl]
theorem r_wi_ne (h : AH) {a b : Nat} (k : Nat) (v : Int32) (j : Nat) (hb : b ≠ a) : gi (wi h a k v) b j = gi h b j := by rw [r_gi_wi, if_neg hb]
theorem r_wi_nj (h : AH) (a : Nat) {k j : Nat} (v : Int32) (hj : j ≠ k) : gi (wi h a k v) a j = gi h a j := by rw [r_gi_wi, if_pos rfl, if_neg hj]
