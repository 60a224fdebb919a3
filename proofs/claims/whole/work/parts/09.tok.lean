/-! ===== a token over the machine ===== -/
theorem kI_inv {v : Option Value} {f : Int32 → Prop} (h : kI v f) : ∃ x, v = some (.int x) ∧ f x := by
  match v, h with
  | some (.int x), h => exact ⟨x, rfl, h⟩
theorem kL_inv {v : Option Value} {f : Int64 → Prop} (h : kL v f) : ∃ x, v = some (.long x) ∧ f x := by
  match v, h with
  | some (.long x), h => exact ⟨x, rfl, h⟩
theorem kR_inv {v : Option Value} {f : Option Nat → Prop} (h : kR v f) : ∃ x, v = some (va_rf x) ∧ f x := by
  match v, h with
  | some (.ref a), h => exact ⟨some a, rfl, h⟩
  | some .null, h => exact ⟨none, rfl, h⟩
theorem s1I_inv {st : List Value} {f : Int32 → List Value → Prop} (h : s1I st f) : ∃ x r, st = .int x :: r ∧ f x r := by
  match st, h with
  | .int x :: r, h => exact ⟨x, r, rfl, h⟩
theorem s2I_inv {st : List Value} {f : Int32 → Int32 → List Value → Prop} (h : s2I st f) : ∃ x y r, st = .int y :: .int x :: r ∧ f x y r := by
  match st, h with
  | .int y :: .int x :: r, h => exact ⟨x, y, r, rfl, h⟩
theorem s1L_inv {st : List Value} {f : Int64 → List Value → Prop} (h : s1L st f) : ∃ x r, st = .long x :: r ∧ f x r := by
  match st, h with
  | .long x :: r, h => exact ⟨x, r, rfl, h⟩
theorem s2L_inv {st : List Value} {f : Int64 → Int64 → List Value → Prop} (h : s2L st f) : ∃ x y r, st = .long y :: .long x :: r ∧ f x y r := by
  match st, h with
  | .long y :: .long x :: r, h => exact ⟨x, y, r, rfl, h⟩
theorem s1R_inv {st : List Value} {f : Option Nat → List Value → Prop} (h : s1R st f) : ∃ x r, st = va_rf x :: r ∧ f x r := by
  match st, h with
  | .ref a :: r, h => exact ⟨some a, r, rfl, h⟩
  | .null :: r, h => exact ⟨none, r, rfl, h⟩
theorem s1A_inv {st : List Value} {f : Nat → List Value → Prop} (h : s1A st f) : ∃ x r, st = .ref x :: r ∧ f x r := by
  match st, h with
  | .ref a :: r, h => exact ⟨a, r, rfl, h⟩
theorem kA_inv {o : Option (Nat ⊕ (Nat × Nat))} {t : Nat} {f : Nat → Prop} (h : kA o t f) : ∃ n, o = some (.inr (t, n)) ∧ f n := by
  match o, h with
  | some (.inr (t', n)), h2 =>
    obtain ⟨e, h3⟩ := h2
    subst e
    exact ⟨n, rfl, h3⟩
theorem popn_inv : ∀ (n : Nat) (st acc : List Value) {K : List Value → List Value → Prop}, popn n st acc K → ∃ as r, st = as.reverse ++ r ∧ as.length = n ∧ K (as ++ acc) r := by
  intro n
  induction n with
  | zero => intro st acc K h; exact ⟨[], st, rfl, rfl, h⟩
  | succ n ih =>
    intro st acc K h
    cases st with
    | nil => exact absurd h id
    | cons v st =>
      obtain ⟨as, r, h1, h2, h3⟩ := ih st (v :: acc) h
      refine ⟨as ++ [v], r, ?_, by simp [h2], by simpa using h3⟩
      rw [List.reverse_append, h1]
      rfl
theorem inb_in {j : Int32} {n : Nat} (h : inb j n) : ¬ (j < 0 ∨ n ≤ j.toNatClampNeg) := by
  obtain ⟨h1, h2⟩ := h
  rintro (q | q)
  · exact absurd h1 (Int32.not_le.mpr q)
  · exact absurd h2 (Nat.not_lt.mpr q)
def rmD (d mc ms : Nat) : Room := { frames := d + 6, cells := mc, slots := ms, locals := 60 * d + 200 }
def cW (k : Nat) : Cond := match mH k with
  | [] => .code (mY k) (mB k) (mL k) (mR k)
  | hh => .codeWith (mY k) (mB k) (mL k) (mR k) hh
def WS (k : Nat) : List Cond := cW k :: gw
def PcA (G : GG) (h : AH) (as : List Value) : Array Value → State → Prop := fun av U => av = (as.map (tv G)).toArray ∧ SU G U ∧ RO G U U.heap ∧ RW G h U.heap ∧ ROH (gL G) (gX G) h ∧ gB G ≤ U.heap.size
def QcA (G : GG) (R : Option (Option Value) → AH → Prop) : Array Value → State → Outcome → State → Prop := fun _ st o t => (∃ v h', o = .returned (v.map (tv G)) ∧ R (some v) h' ∧ RW G h' t.heap ∧ ROH (gL G) (gX G) h') ∧ va_F (gZ G) st t
def nseN : String := "java/util/NoSuchElementException"
def XcA (G : GG) (R : Option (Option Value) → AH → Prop) : String → State → State → Prop := fun E st t => E = nseN ∧ (∃ h', R none h' ∧ RW G h' t.heap ∧ ROH (gL G) (gX G) h') ∧ va_F (gZ G) st t
/-- what is known of a call -/
def CSn (G : GG) (l : Launch) (d : Nat) (C : Nat → List Value → AH → Nat → Nat → (Option (Option Value) → AH → Prop) → Prop) : Prop :=
  ∀ k as h a b R, C k as h a b R → as.length = mN k ∧ mtB k = true ∧ vx_Met l (mY k) (WS k) (rmD d a b) (PcA G h as) (QcA G R) (XcA G R) a b (gZ G)
section SND
variable {p : Program} {l : Launch} {e : Env} {R : Room} {s : State} {m : MethodId} {args : Array Value} {below : List Frame} {meth : Method} {c : Code} {FQ : State → Prop} {G : GG} {k mc ms d : Nat}
/-- a frame of method k -/
def Fra (p : Program) (l : Launch) (e : Env) (R : Room) (s : State) (m : MethodId) (args : Array Value) (meth : Method) (c : Code) (G : GG) (k mc ms d : Nat) : Prop :=
  p.tables.exec = Jvm.exec ∧ c.code = mB k ∧ c.maxLocals = mL k ∧ (mT k < 19 → s.vm.findClass (lto (mT k)).1 = some m.cls) ∧ (∀ w ∈ gw, w.before args s = true) ∧ SU G s ∧ RO G s s.heap ∧ ADF G ∧ gB G ≤ s.heap.size ∧
  mc ≤ R.cells ∧ ms ≤ R.slots ∧ d + 6 ≤ R.frames ∧ 60 * d + 200 ≤ R.locals ∧ (ini k = true → meth.name = "<init>")
def MP (p : Program) (l : Launch) (e : Env) (R : Room) (s : State) (m : MethodId) (args : Array Value) (below : List Frame) (meth : Method) (c : Code) (FQ : State → Prop) (G : GG) (k mc ms : Nat) : Nat → LL → List Value → AH → Nat → Nat → Prop := fun pc ls st h c1 z1 =>
  c1 ≤ mc → z1 ≤ ms → ∀ (H : Heap) (locs : List Loc) (mls : Array Slot), RW G h H → ROH (gL G) (gX G) h → va_S (gZ G) s.heap H locs → lrel G (mL k) mls ls → W p l e R s m args below meth c H locs c1 z1 FQ (F0 m pc mls (st.map (tv G)))
def retI : Option Value → Instr
  | some (.int _) => .ireturn
  | some (.long _) => .lreturn
  | some (.ref _) => .areturn
  | some .null => .areturn
  | _ => .return_
theorem tv_rf (G : GG) (x : Option Nat) : tv G (va_rf x) = va_rf (x.map (gA G)) := by cases x <;> rfl
theorem rf_cat (x : Option Nat) : (va_rf x).category = 1 := by cases x <;> rfl
/-- a new cell at the end -/
theorem va_S_grow {A : Nat → Prop} {H0 H H1 : Heap} {locs : List Loc} (hS : va_S A H0 H locs) (hz : H.size ≤ H1.size) (ho : ∀ q, q < H.size → H1[q]? = H[q]?) : va_S A H0 H1 locs :=
  ⟨Nat.le_trans hS.1 hz, fun q h1 h2 => (ho q (Nat.lt_of_lt_of_le h1 hS.1)).trans (hS.2.1 q h1 h2), hS.2.2⟩
theorem RO_at {H : Heap} {locs : List Loc} {U : State} (hRO : RO G U U.heap) (hS : va_S (gZ G) U.heap H locs) : RO G U H := by
  obtain ⟨h1, h2, h3, h4, h5, h6, h7, h8⟩ := hRO
  refine ⟨h1.kept hS.2.1, h2.kept hS.2.1, ?_, h4.kept hS.2.1, h5.kept hS.2.1, h6.kept (hS.2.1 _ h7 h8), Nat.lt_of_lt_of_le h7 hS.1, h8⟩
  rcases h3 with h3 | h3
  · exact Or.inl (h3.kept hS.2.1)
  · exact Or.inr (h3.kept hS.2.1)
/-- the cells of an object -/
theorem ob_cell {h : AH} {H : Heap} {L : Nat} {xs : Nat → Int32} (hR : RW G h H) (hO : ROH L xs h) {a c : Nat} (hc : c < 13) (hk : gk h a = some (.inl c)) : 20 ≤ a ∧ a < gn h ∧ t_OB (gA G a) ((gD G).1 c) (nfc c) ((gD G).2 c) H (fv G h a c) := by
  rcases Nat.lt_or_ge a 20 with q | q
  · rcases ro_low hO q with ⟨i, -, -, e⟩ | ⟨i, -, -, e⟩ | e | ⟨-, e⟩ <;> rw [e] at hk <;> cases hk
    omega
  · obtain ⟨h1, h2⟩ := hR.2.2 a _ q hk
    exact ⟨q, h1, h2.2⟩
theorem st_ob {h : AH} {H : Heap} {L : Nat} {xs : Nat → Int32} (hR : RW G h H) (hO : ROH L xs h) {a : Nat} (hk : gk h a = some (.inl 13)) : ∃ i, i < 9 ∧ a = 2 * i := by
  rcases Nat.lt_or_ge a 20 with q | q
  · rcases ro_low hO q with ⟨i, h1, h2, e⟩ | ⟨i, -, -, e⟩ | e | ⟨-, e⟩
    · exact ⟨i, h1, h2⟩
    all_goals (rw [e] at hk; cases hk)
  · obtain ⟨h1, h2⟩ := hR.2.2 a _ q hk
    exact absurd h2.1 (by decide)
/-- the cell of an array -/
theorem ar_cell {h : AH} {H : Heap} (hR : RW G h H) {a t n : Nat} (ha : 20 ≤ a) (hk : gk h a = some (.inr (t, n))) : a < gn h ∧ t < 8 ∧ n ≤ 65536 ∧ H[gA G a]? = some (arrV (gY G t) n (av G h a t)) := by
  obtain ⟨h1, h2⟩ := hR.2.2 a _ ha hk
  exact ⟨h1, h2.1, h2.2.1, h2.2.2⟩
theorem ar_isA {U : State} (hSU : SU G U) {t : Nat} (ht : t < 8) (n : Nat) (f : Nat → Value) : U.isArrayOf (arrV (gY G t) n f) (ty8 t) := (hSU.1.2 t _ (tys8_at G ht)).1 n f
theorem arrV_unk (cI : ClassId) (N : Nat) (f : Nat → Value) : (arrV cI N f).vm ≠ .unknown := fun h => by cases h
/-- a write of a place of an array: the flat heap goes with it -/
theorem RW_arr {h h' : AH} {H H' : Heap} (hA : ADF G) (hR : RW G h H) {a t n j : Nat} {v : Value} (ha : 20 ≤ a) (hk : gk h a = some (.inr (t, n))) (e1 : H'[gA G a]? = some ((arrV (gY G t) n (av G h a t)).setSlot j v)) (e2 : H'.size = H.size) (e3 : ∀ q, q ≠ gA G a → H'[q]? = H[q]?)
    (hkk : gk h' = gk h) (hn : gn h' = gn h) (h1 : ∀ i, i ≠ a → gi h' i = gi h i) (h2 : ∀ i, i ≠ a → gr h' i = gr h i) (h3 : ∀ i, i ≠ a → gl h' i = gl h i) (hv : ∀ i, av G h' a t i = updV (av G h a t) j v i) : RW G h' H' := by
  refine RW_set hA ha hR e2 e3 hkk hn h1 h2 h3 fun kd hkd => ?_
  rw [hk] at hkd
  cases hkd
  obtain ⟨-, q1, q2, -⟩ := ar_cell hR ha hk
  refine ⟨q1, q2, ?_⟩
  rw [e1, arrV_store]
  congr 2
  funext i
  exact (hv i).symm
theorem RW_fld {h h' : AH} {H H' : Heap} {s : State} {args : Array Value} (hts : ∀ w ∈ gw, w.before args s = true) (hSU : SU G s) (hA : ADF G) (hR : RW G h H) {a cc k0 : Nat} {cell : Cell} {v : Value} (hc : cc < 13) (hk0 : k0 < nfc cc) (ha : 20 ≤ a) (hk : gk h a = some (.inl cc))
    (q1 : H[gA G a]? = some cell) (q2 : cell.cls = (gD G).1 cc) (q3 : cell.vm = .none) (q4 : ∀ k, k < nfc cc → cell.slots[(gD G).2 cc k]? = some (fv G h a cc k))
    (e1 : H'[gA G a]? = some (cell.setSlot ((gD G).2 cc k0) v)) (e2 : H'.size = H.size) (e3 : ∀ q, q ≠ gA G a → H'[q]? = H[q]?)
    (hkk : gk h' = gk h) (hn : gn h' = gn h) (h1 : ∀ i, i ≠ a → gi h' i = gi h i) (h2 : ∀ i, i ≠ a → gr h' i = gr h i) (h3 : ∀ i, i ≠ a → gl h' i = gl h i) (hv : ∀ i, i < nfc cc → updV (fv G h a cc) k0 v i = fv G h' a cc i) : RW G h' H' := by
  refine RW_set hA ha hR e2 e3 hkk hn h1 h2 h3 fun kd hkd => ?_
  rw [hk] at hkd
  cases hkd
  exact ⟨hc, t_OB.to ⟨_, e1, q2, q3, t_set q4 (fd_apart hts hSU hc) hk0 v⟩ hv⟩
theorem cat_le (G : GG) {r : List Value} (h : slk r) : ((r.map (tv G)).map fun v => v.category).sum ≤ 8 := by
  have : ∀ l : List Value, ((l.map (tv G)).map fun v => v.category) = l.map fun v => v.category := by
    intro l
    rw [List.map_map]
    exact List.map_congr_left fun v _ => tv_cat G v
  rw [this]
  exact h
end SND
