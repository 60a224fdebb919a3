/-! ===== sets as bits: which comes first ===== -/
def pc (x : Nat) : Nat := smN 8 (fun i => x >>> i &&& 1)
def rvN (x : Nat) : Nat := smN 8 (fun i => (x >>> i &&& 1) * 2 ^ (7 - i))
/-- of two sets the one of the lower key comes first -/
def kyN (x : Nat) : Nat := pc x * 256 + (255 - rvN x)
def lbB (a b : Nat) : Bool := decide (¬ (nI (a &&& (a ^^^ b)) &&& -nI (a ^^^ b) = 0))
theorem lb_ky : ∀ a, a < 256 → ∀ b, b < 256 → (pc a < pc b ∨ (pc a = pc b ∧ lbB a b = true) ↔ kyN a < kyN b) := by decide +kernel
theorem ky_inj : ∀ a, a < 256 → ∀ b, b < 256 → kyN a = kyN b → a = b := by decide +kernel
theorem ky_0 : ∀ a, a < 256 → kyN 0 ≤ kyN a := by decide +kernel
theorem pc_le : ∀ a, a < 256 → pc a ≤ 8 := by decide +kernel
theorem ky_sub : ∀ a, a < 256 → ∀ b, b < 256 → a &&& b = a → kyN a ≤ kyN b := by decide +kernel
