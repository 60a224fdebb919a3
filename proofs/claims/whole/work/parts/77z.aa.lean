/-! ===== arrays of references, lengths ===== -/
theorem aa_e (t0 n0 : Nat) (j : Int32) : (∃ t n, (some (.inr (t0, n0)) : Option (Nat ⊕ (Nat × Nat))) = some (.inr (t, n)) ∧ 4 ≤ t ∧ t < 8 ∧ inb j n) = (4 ≤ t0 ∧ t0 < 8 ∧ inb j n0) := by
  refine propext ⟨fun ⟨t, n, e, q⟩ => ?_, fun q => ⟨t0, n0, rfl, q⟩⟩
  cases e
  exact q
theorem as_e (t0 n0 : Nat) (j : Int32) (A : Prop) (B : Nat → Prop) : (∃ t n, (some (.inr (t0, n0)) : Option (Nat ⊕ (Nat × Nat))) = some (.inr (t, n)) ∧ 4 ≤ t ∧ t < 7 ∧ inb j n ∧ A ∧ B t) = (4 ≤ t0 ∧ t0 < 7 ∧ inb j n0 ∧ A ∧ B t0) := by
  refine propext ⟨fun ⟨t, n, e, q⟩ => ?_, fun q => ⟨t0, n0, rfl, q⟩⟩
  cases e
  exact q
theorem al_e (t0 n0 : Nat) (K : Nat → Prop) : (∃ t n, (some (.inr (t0, n0)) : Option (Nat ⊕ (Nat × Nat))) = some (.inr (t, n)) ∧ K n) = K n0 := by
  refine propext ⟨fun ⟨t, n, e, q⟩ => ?_, fun q => ⟨t0, n0, rfl, q⟩⟩
  cases e
  exact q
