/-! ===== rows for a simp over the flat machine ===== -/
theorem kI_i (x : Int32) (K : Int32 → Prop) : kI (some (.int x)) K = K x := rfl
theorem kL_l (x : Int64) (K : Int64 → Prop) : kL (some (.long x)) K = K x := rfl
theorem kR_r (a : Nat) (K : Option Nat → Prop) : kR (some (.ref a)) K = K (some a) := rfl
theorem kR_n (K : Option Nat → Prop) : kR (some .null) K = K none := rfl
theorem kR_o (x : Option Nat) (K : Option Nat → Prop) : kR (some (va_rf x)) K = K x := by cases x <;> rfl
theorem s1I_i (x : Int32) (r : List Value) (K : Int32 → List Value → Prop) : s1I (.int x :: r) K = K x r := rfl
theorem s2I_i (x y : Int32) (r : List Value) (K : Int32 → Int32 → List Value → Prop) : s2I (.int y :: .int x :: r) K = K x y r := rfl
theorem s1L_l (x : Int64) (r : List Value) (K : Int64 → List Value → Prop) : s1L (.long x :: r) K = K x r := rfl
theorem s2L_l (x y : Int64) (r : List Value) (K : Int64 → Int64 → List Value → Prop) : s2L (.long y :: .long x :: r) K = K x y r := rfl
theorem s1R_r (a : Nat) (r : List Value) (K : Option Nat → List Value → Prop) : s1R (.ref a :: r) K = K (some a) r := rfl
theorem s1R_n (r : List Value) (K : Option Nat → List Value → Prop) : s1R (.null :: r) K = K none r := rfl
theorem s1R_o (x : Option Nat) (r : List Value) (K : Option Nat → List Value → Prop) : s1R (va_rf x :: r) K = K x r := by cases x <;> rfl
theorem s1A_a (a : Nat) (r : List Value) (K : Nat → List Value → Prop) : s1A (.ref a :: r) K = K a r := rfl
theorem rf_s (a : Nat) : va_rf (some a) = .ref a := rfl
theorem rf_n : va_rf none = .null := rfl
theorem kA_s {o : Option (Nat ⊕ (Nat × Nat))} {t n : Nat} (h : o = some (.inr (t, n))) (K : Nat → Prop) : kA o t K = K n := by
  rw [h]
  exact propext ⟨fun h => h.2, fun h => ⟨rfl, h⟩⟩
theorem hdO_a (a : Nat) (r : List Value) (h : AH) (c : Nat) : hdO (.ref a :: r) h c = (gk h a = some (.inl c)) := rfl
theorem r_gi_wi (h : AH) (a k : Nat) (v : Int32) (b j : Nat) : gi (wi h a k v) b j = if b = a then (if j = k then v else gi h b j) else gi h b j := by
  show up (gi h) a (up (gi h a) k v) b j = _
  unfold up
  by_cases e : b = a
  · rw [if_pos e, if_pos e]
    subst e
    rfl
  · rw [if_neg e, if_neg e]
theorem r_gr_wi (h : AH) (a k : Nat) (v : Int32) : gr (wi h a k v) = gr h := rfl
theorem r_gl_wi (h : AH) (a k : Nat) (v : Int32) : gl (wi h a k v) = gl h := rfl
theorem r_gk_wi (h : AH) (a k : Nat) (v : Int32) : gk (wi h a k v) = gk h := rfl
theorem r_gn_wi (h : AH) (a k : Nat) (v : Int32) : gn (wi h a k v) = gn h := rfl
theorem r_gr_wr (h : AH) (a k : Nat) (v : Option Nat) (b j : Nat) : gr (wr h a k v) b j = if b = a then (if j = k then v else gr h b j) else gr h b j := by
  show up (gr h) a (up (gr h a) k v) b j = _
  unfold up
  by_cases e : b = a
  · rw [if_pos e, if_pos e]
    subst e
    rfl
  · rw [if_neg e, if_neg e]
theorem r_gi_wr (h : AH) (a k : Nat) (v : Option Nat) : gi (wr h a k v) = gi h := rfl
theorem r_gl_wr (h : AH) (a k : Nat) (v : Option Nat) : gl (wr h a k v) = gl h := rfl
theorem r_gk_wr (h : AH) (a k : Nat) (v : Option Nat) : gk (wr h a k v) = gk h := rfl
theorem r_gn_wr (h : AH) (a k : Nat) (v : Option Nat) : gn (wr h a k v) = gn h := rfl
theorem r_gi_wa (h : AH) (a : Nat) (f : Nat → Int32) (b : Nat) : gi (wa h a f) b = if b = a then f else gi h b := rfl
theorem r_gr_wa (h : AH) (a : Nat) (f : Nat → Int32) : gr (wa h a f) = gr h := rfl
theorem r_gl_wa (h : AH) (a : Nat) (f : Nat → Int32) : gl (wa h a f) = gl h := rfl
theorem r_gk_wa (h : AH) (a : Nat) (f : Nat → Int32) : gk (wa h a f) = gk h := rfl
theorem r_gn_wa (h : AH) (a : Nat) (f : Nat → Int32) : gn (wa h a f) = gn h := rfl
theorem r_gk_al (h : AH) (kd : Nat ⊕ (Nat × Nat)) (b : Nat) : gk (al h kd) b = if b = gn h then some kd else gk h b := rfl
theorem r_gi_al (h : AH) (kd : Nat ⊕ (Nat × Nat)) (b : Nat) : gi (al h kd) b = if b = gn h then (fun _ => 0) else gi h b := rfl
theorem r_gr_al (h : AH) (kd : Nat ⊕ (Nat × Nat)) (b : Nat) : gr (al h kd) b = if b = gn h then (fun _ => none) else gr h b := rfl
theorem r_gn_al (h : AH) (kd : Nat ⊕ (Nat × Nat)) : gn (al h kd) = gn h + 1 := rfl
theorem kO_s {o : Option (Nat ⊕ (Nat × Nat))} {c : Nat} (h : o = some (.inl c)) : kO o c = True := eq_true h
theorem hdO_s {a : Nat} {h : AH} {c : Nat} (hk : gk h a = some (.inl c)) (r : List Value) : hdO (.ref a :: r) h c = True := eq_true hk
theorem cat_i (x : Int32) : ((Value.int x).category = 1) = True := eq_true rfl
theorem cat_r (a : Nat) : ((Value.ref a).category = 1) = True := eq_true rfl
theorem cat_n : (Value.null.category = 1) = True := eq_true rfl
theorem cat_l (x : Int64) : ((Value.long x).category = 2) = True := eq_true rfl
def bI (b : Bool) : Int32 := if b = true then 1 else 0
/-- the end of a method that answers a truth, nothing changed -/
theorem leafF {b : Bool} (e : b = false) : rtok (some .boolean) (some (some (.int 0))) ∧ some (some (Value.int 0)) = some (some (Value.int (bI b))) := by
  subst e
  exact ⟨Or.inl rfl, rfl⟩
theorem leafT {b : Bool} (e : b = true) : rtok (some .boolean) (some (some (.int 1))) ∧ some (some (Value.int 1)) = some (some (Value.int (bI b))) := by
  subst e
  exact ⟨Or.inr rfl, rfl⟩
theorem leafI {x y : Int32} (e : x = y) : rtok (some .int) (some (some (.int x))) ∧ some (some (Value.int x)) = some (some (Value.int y)) := by
  subst e
  exact ⟨trivial, rfl⟩
