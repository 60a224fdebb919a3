/-! ===== numbers of the machine as naturals ===== -/
def tn (x : Int32) : Nat := x.toBitVec.toNat
theorem tn_lt (x : Int32) : tn x < 4294967296 := x.toBitVec.isLt
theorem nI_tn (x : Int32) : nI (tn x) = x := by
  apply Int32.toBitVec_inj.1
  show BitVec.ofNat 32 x.toBitVec.toNat = x.toBitVec
  simp
theorem tn_nI {n : Nat} (h : n < 4294967296) : tn (nI n) = n := by
  show (BitVec.ofNat 32 n).toNat = n
  rw [BitVec.toNat_ofNat]
  exact Nat.mod_eq_of_lt h
def gu (h : AH) (a k : Nat) : Nat := tn (gi h a k)
theorem gi_gu (h : AH) (a k : Nat) : gi h a k = nI (gu h a k) := (nI_tn _).symm
theorem gu_lt (h : AH) (a k : Nat) : gu h a k < 4294967296 := tn_lt _
theorem gu_wi (h : AH) (a k v : Nat) (b j : Nat) (hv : v < 4294967296) : gu (wi h a k (nI v)) b j = if b = a then (if j = k then v else gu h b j) else gu h b j := by
  unfold gu
  rw [r_gi_wi]
  split
  · split
    · rw [tn_nI hv]
    · rfl
  · rfl
theorem gu_wr (h : AH) (a k : Nat) (v : Option Nat) (b j : Nat) : gu (wr h a k v) b j = gu h b j := rfl
theorem oi_n (n : Nat) : Int32.ofInt (no_index (OfNat.ofNat n)) = nI (OfNat.ofNat n) := rfl
theorem oi_m : Int32.ofInt (-1) = -1 := rfl
theorem ix_n {n : Nat} (h : n < 2147483648) : ix (nI n) = n := nI_clamp h
theorem inb_n {n N : Nat} (h : n < N) (hN : N < 2147483648) : inb (nI n) N = True := eq_true ⟨nI_pos' (by omega), by rw [ix_n (by omega)]; exact h⟩
theorem n_sub {a b : Nat} (h : b ≤ a) : nI a - nI b = nI (a - b) := pk_sub h
theorem n_dec {a : Nat} (h : 1 ≤ a) : nI a + -1 = nI (a - 1) := by
  obtain ⟨n, rfl⟩ : ∃ n, a = n + 1 := ⟨a - 1, by omega⟩
  exact pk_m1 n
theorem n_eq {a b : Nat} (ha : a < 2147483648) (hb : b < 2147483648) : (nI a = nI b) = (a = b) := propext (nI_eq ha hb)
theorem n_le {a b : Nat} (ha : a < 2147483648) (hb : b < 2147483648) : (nI a ≤ nI b) = (a ≤ b) := propext (nI_leI ha hb)
theorem n_lt {a b : Nat} (ha : a < 2147483648) (hb : b < 2147483648) : (nI a < nI b) = (a < b) := propext (nI_ltI ha hb)
theorem n_eq0 {a : Nat} (ha : a < 2147483648) : (nI a = 0) = (a = 0) := n_eq ha (b := 0) (by omega)
theorem n_lt0 {a : Nat} (ha : a < 2147483648) : (nI a < 0) = False := eq_false (nI_pos ha)
theorem n_le0 {a : Nat} (ha : a < 2147483648) : (nI a ≤ 0) = (a = 0) := (n_le ha (b := 0) (by omega)).trans (propext ⟨fun h => by omega, fun h => by omega⟩)
theorem n_0lt {a : Nat} (ha : a < 2147483648) : (0 < nI a) = (0 < a) := n_lt (a := 0) (by omega) ha
theorem n_0le {a : Nat} (ha : a < 2147483648) : (0 ≤ nI a) = True := eq_true (nI_pos' ha)
theorem n1_1 : (nI 1 = 1) = True := eq_true rfl
theorem n_eqm {a : Nat} (ha : a < 2147483648) : (nI a = -1) = False := by
  refine eq_false fun e => ?_
  have := nI_pos ha
  rw [e] at this
  exact this (by decide)
theorem m_eqn {a : Nat} (ha : a < 2147483648) : ((-1 : Int32) = nI a) = False := eq_false fun e => (n_eqm ha).mp e.symm
theorem n_ltm {a : Nat} (ha : a < 2147483648) : (nI a < -1) = False := by
  refine eq_false fun e => ?_
  have h1 := nI_toInt (n := a) (by omega)
  rw [Int32.lt_iff_toInt_lt, h1] at e
  have : (-1 : Int32).toInt = -1 := by decide
  omega
theorem n_m1 : (-1 : Int32) = nI 4294967295 := by decide
theorem n_or (a b : Nat) : nI a ||| nI b = nI (a ||| b) := by
  apply Int32.toBitVec_inj.1
  show BitVec.ofNat 32 a ||| BitVec.ofNat 32 b = BitVec.ofNat 32 (a ||| b)
  apply BitVec.eq_of_getLsbD_eq
  intro i hi
  simp [hi]
theorem n_and (a b : Nat) : nI a &&& nI b = nI (a &&& b) := by
  apply Int32.toBitVec_inj.1
  show BitVec.ofNat 32 a &&& BitVec.ofNat 32 b = BitVec.ofNat 32 (a &&& b)
  apply BitVec.eq_of_getLsbD_eq
  intro i hi
  simp [hi]
theorem n_xor (a b : Nat) : nI a ^^^ nI b = nI (a ^^^ b) := by
  apply Int32.toBitVec_inj.1
  show BitVec.ofNat 32 a ^^^ BitVec.ofNat 32 b = BitVec.ofNat 32 (a ^^^ b)
  apply BitVec.eq_of_getLsbD_eq
  intro i hi
  simp [hi]
theorem sm_l : ∀ n, n < 32 → ((nI n &&& 31).toBitVec.smod 32).toNat = n := by decide +kernel
theorem n_shl (a : Nat) {k : Nat} (hk : k < 32) : nI a <<< (nI k &&& 31) = nI (a <<< k) := by
  apply Int32.toBitVec_inj.1
  rw [Int32.toBitVec_shiftLeft]
  show (BitVec.ofNat 32 a) <<< ((nI k &&& 31).toBitVec.smod 32).toNat = BitVec.ofNat 32 (a <<< k)
  rw [sm_l k hk]
  apply BitVec.eq_of_getLsbD_eq
  intro i hi
  simp only [BitVec.getLsbD_shiftLeft, BitVec.getLsbD_ofNat, Nat.testBit_shiftLeft]
  rcases Nat.lt_or_ge i k with h | h
  · simp [hi, h, Nat.not_le.mpr h]
  · simp [hi, Nat.not_lt.mpr h, h]
    omega
theorem n_shr {a k : Nat} (ha : a < 2147483648) (hk : k < 32) : nI a >>> (nI k &&& 31) = nI (a >>> k) := by
  apply Int32.toBitVec_inj.1
  rw [Int32.toBitVec_shiftRight]
  show (BitVec.ofNat 32 a).sshiftRight ((nI k &&& 31).toBitVec.smod 32).toNat = BitVec.ofNat 32 (a >>> k)
  rw [sm_l k hk]
  have hm : (BitVec.ofNat 32 a).msb = false := by
    rw [BitVec.msb_eq_false_iff_two_mul_lt, BitVec.toNat_ofNat]
    rw [Nat.mod_eq_of_lt (by omega)]
    omega
  rw [BitVec.sshiftRight_eq_of_msb_false hm]
  apply BitVec.eq_of_toNat_eq
  have h2 : a >>> k < 4294967296 := by
    rw [Nat.shiftRight_eq_div_pow]
    exact Nat.lt_of_le_of_lt (Nat.div_le_self _ _) (by omega)
  rw [BitVec.toNat_ushiftRight, BitVec.toNat_ofNat, BitVec.toNat_ofNat, Nat.mod_eq_of_lt (by omega), Nat.mod_eq_of_lt (by omega)]
theorem sh1 (x k : Nat) : x >>> k &&& 1 = if x.testBit k = true then 1 else 0 := by
  rw [Nat.testBit_eq_decide_div_mod_eq, Nat.and_one_is_mod, Nat.shiftRight_eq_div_pow]
  simp only [decide_eq_true_eq]
  split <;> omega
theorem tb1 (x k : Nat) : (nI (x >>> k &&& 1) = nI 1) = (x.testBit k = true) := by
  rw [sh1]
  split
  · rename_i h
    exact propext ⟨fun _ => h, fun _ => rfl⟩
  · rename_i h
    exact propext ⟨fun e => absurd e (by decide), fun e => absurd e h⟩
theorem tb0 (x k : Nat) : (nI (x >>> k &&& 1) = 0) = (x.testBit k = false) := by
  rw [sh1]
  split
  · rename_i h
    rw [h]
    exact propext ⟨fun e => absurd e (by decide), fun e => absurd e (by decide)⟩
  · rename_i h
    exact propext ⟨fun _ => by simpa using h, fun _ => rfl⟩
theorem vc_i (x : Int32) : (Value.int x).category = 1 := rfl
theorem vc_r (a : Nat) : (Value.ref a).category = 1 := rfl
theorem vc_n : Value.null.category = 1 := rfl
theorem vc_l (x : Int64) : (Value.long x).category = 2 := rfl
theorem vc_o (x : Option Nat) : (va_rf x).category = 1 := by cases x <;> rfl
theorem kO_e (c : Nat) : kO (some (.inl c)) c = True := eq_true rfl
theorem kA_e (t n : Nat) (K : Nat → Prop) : kA (some (.inr (t, n))) t K = K n := propext ⟨fun h => h.2, fun h => ⟨rfl, h⟩⟩
/-- a truth as the machine has it -/
noncomputable def bP (p : Prop) : Int32 := @ite _ p (Classical.propDecidable p) (nI 1) (nI 0)
theorem bP_t {p : Prop} (h : p) : bP p = nI 1 := if_pos h
theorem bP_f {p : Prop} (h : ¬ p) : bP p = nI 0 := if_neg h
theorem bP_1 (p : Prop) : (bP p = nI 1) = p := by
  by_cases h : p
  · rw [bP_t h]
    exact propext ⟨fun _ => h, fun _ => rfl⟩
  · rw [bP_f h]
    exact propext ⟨fun e => absurd e (by decide), fun e => absurd e h⟩
theorem bP_0 (p : Prop) : (bP p = 0) = ¬ p := by
  by_cases h : p
  · rw [bP_t h]
    exact propext ⟨fun e => absurd e (by decide), fun e => absurd h e⟩
  · rw [bP_f h]
    exact propext ⟨fun _ => h, fun _ => rfl⟩
theorem bP_n0 (p : Prop) : (bP p = nI 0) = ¬ p := bP_0 p
theorem bP_c {p q : Prop} (h : p ↔ q) : bP p = bP q := by rw [propext h]
theorem n1_0 : (nI 1 = 0) = False := eq_false (by decide)
theorem n0_0 : (nI 0 = 0) = True := eq_true rfl
/-- a number or NONE -/
def oN : Option Nat → Int32
  | none => -1
  | some n => nI n
theorem oN_s (n : Nat) : oN (some n) = nI n := rfl
theorem oN_n : oN none = -1 := rfl
/-- what a call gives: a value and a heap -/
def Rt (v : Int32) (H : AH) (r : Option (Option Value)) (h : AH) : Prop := r = some (some (.int v)) ∧ h = H
def Rv (H : AH) (r : Option (Option Value)) (h : AH) : Prop := r = some none ∧ h = H
theorem lfT {k : Nat} {p : Prop} {H h : AH} (hr : mR k = some .boolean) (e : p) (eh : h = H) : rtok (mR k) (some (some (.int (nI 1)))) ∧ Rt (bP p) H (some (some (.int (nI 1)))) h := by
  rw [hr, bP_t e]
  exact ⟨Or.inr rfl, rfl, eh⟩
theorem lfF {k : Nat} {p : Prop} {H h : AH} (hr : mR k = some .boolean) (e : ¬ p) (eh : h = H) : rtok (mR k) (some (some (.int (nI 0)))) ∧ Rt (bP p) H (some (some (.int (nI 0)))) h := by
  rw [hr, bP_f e]
  exact ⟨Or.inl rfl, rfl, eh⟩
theorem lfB {k : Nat} {p q : Prop} {H h : AH} (hr : mR k = some .boolean) (e : p ↔ q) (eh : h = H) : rtok (mR k) (some (some (.int (bP p)))) ∧ Rt (bP q) H (some (some (.int (bP p)))) h := by
  rw [hr]
  refine ⟨?_, by rw [bP_c e], eh⟩
  by_cases h : p
  · rw [bP_t h]
    exact Or.inr rfl
  · rw [bP_f h]
    exact Or.inl rfl
theorem lfI {k : Nat} {x v : Int32} {H h : AH} (hr : mR k = some .int) (e : x = v) (eh : h = H) : rtok (mR k) (some (some (.int x))) ∧ Rt v H (some (some (.int x))) h := by
  rw [hr, e]
  exact ⟨trivial, rfl, eh⟩
theorem lfV {k : Nat} {H h : AH} (hr : mR k = none) (eh : h = H) : rtok (mR k) (some none) ∧ Rv H (some none) h := by
  rw [hr]
  exact ⟨trivial, rfl, eh⟩
/-- a call, by its contract -/
theorem wc {B : Nat → Nat → Prop} {Cc : ((Option (Option Value)) → AH → Prop) → Nat → Nat → Prop} {F : Nat → Nat → Option (Option Value) → AH → Prop} {a b : Nat} {v : Int32} {H : AH} (hM : Cc (Rt v H) a b) (hB : B a b) (hF : F a b (some (some (.int v))) H) : ∃ R a b, Cc R a b ∧ B a b ∧ ∀ v h', R v h' → F a b v h' :=
  ⟨_, _, _, hM, hB, fun v h' hR => by
    obtain ⟨rfl, rfl⟩ := hR
    exact hF⟩
theorem wcv {B : Nat → Nat → Prop} {Cc : ((Option (Option Value)) → AH → Prop) → Nat → Nat → Prop} {F : Nat → Nat → Option (Option Value) → AH → Prop} {a b : Nat} {H : AH} (hM : Cc (Rv H) a b) (hB : B a b) (hF : F a b (some none) H) : ∃ R a b, Cc R a b ∧ B a b ∧ ∀ v h', R v h' → F a b v h' :=
  ⟨_, _, _, hM, hB, fun v h' hR => by
    obtain ⟨rfl, rfl⟩ := hR
    exact hF⟩
theorem u_neg {v : Nat} (h1 : 2147483648 ≤ v) (h2 : v < 4294967296) : (nI v).toInt = (v : Int) - 4294967296 := by
  show (BitVec.ofNat 32 v).toInt = _
  rw [BitVec.toInt_eq_toNat_cond, BitVec.toNat_ofNat, Nat.mod_eq_of_lt (by omega), if_neg (by omega)]
  rfl
theorem u_lt {v b : Nat} (h1 : 2147483648 ≤ v) (h2 : v < 4294967296) (hb : b < 2147483648) : (nI v < nI b) = True := by
  rw [Int32.lt_iff_toInt_lt, u_neg h1 h2, nI_toInt (by omega)]
  exact eq_true (by omega)
theorem u_le {v b : Nat} (h1 : 2147483648 ≤ v) (h2 : v < 4294967296) (hb : b < 2147483648) : (nI v ≤ nI b) = True := by
  rw [Int32.le_iff_toInt_le, u_neg h1 h2, nI_toInt (by omega)]
  exact eq_true (by omega)
theorem u_gt {v b : Nat} (h1 : 2147483648 ≤ v) (h2 : v < 4294967296) (hb : b < 2147483648) : (nI b < nI v) = False := by
  rw [Int32.lt_iff_toInt_lt, u_neg h1 h2, nI_toInt (by omega)]
  exact eq_false (by omega)
theorem u_ge {v b : Nat} (h1 : 2147483648 ≤ v) (h2 : v < 4294967296) (hb : b < 2147483648) : (nI b ≤ nI v) = False := by
  rw [Int32.le_iff_toInt_le, u_neg h1 h2, nI_toInt (by omega)]
  exact eq_false (by omega)
theorem u_lt0 {v : Nat} (h1 : 2147483648 ≤ v) (h2 : v < 4294967296) : (nI v < 0) = True := u_lt (b := 0) h1 h2 (by omega)
theorem u_le0 {v : Nat} (h1 : 2147483648 ≤ v) (h2 : v < 4294967296) : (nI v ≤ 0) = True := u_le (b := 0) h1 h2 (by omega)
theorem u_gt0 {v : Nat} (h1 : 2147483648 ≤ v) (h2 : v < 4294967296) : (0 < nI v) = False := u_gt (b := 0) h1 h2 (by omega)
theorem u_ge0 {v : Nat} (h1 : 2147483648 ≤ v) (h2 : v < 4294967296) : (0 ≤ nI v) = False := u_ge (b := 0) h1 h2 (by omega)
theorem u_eq {a b : Nat} (ha : a < 4294967296) (hb : b < 4294967296) : (nI a = nI b) = (a = b) := by
  refine propext ⟨fun e => ?_, fun e => by rw [e]⟩
  have := congrArg tn e
  rwa [tn_nI ha, tn_nI hb] at this
theorem u_eqm {a : Nat} (ha : a < 4294967296) : (nI a = -1) = (a = 4294967295) := by
  rw [n_m1]
  exact u_eq ha (by omega)
/-! places of a frame that are forgotten -/
theorem lsk {l l' : LL} (a : Option Value) (h : lsub l l') : lsub (a :: l) (a :: l') := by
  refine ⟨congrArg (· + 1) h.1, fun i v e => ?_⟩
  cases i with
  | zero => exact e
  | succ i => exact h.2 i v e
theorem lsf {l l' : LL} (a : Option Value) (h : lsub l l') : lsub (none :: l) (a :: l') := by
  refine ⟨congrArg (· + 1) h.1, fun i v e => ?_⟩
  cases i with
  | zero => cases e
  | succ i => exact h.2 i v e
theorem lsn : lsub [] [] := ⟨rfl, fun i v e => e⟩
