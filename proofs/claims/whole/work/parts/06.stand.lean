/-! ===== the flat machine over the machine: what its heap stands for ===== -/
abbrev GG : Type := (Nat → Nat) × va_G × (Nat → ClassId) × Nat × Nat × (Nat → Int32)
def gA (G : GG) : Nat → Nat := G.1
def gD (G : GG) : va_G := G.2.1
def gY (G : GG) : Nat → ClassId := G.2.2.1
def gB (G : GG) : Nat := G.2.2.2.1
def gL (G : GG) : Nat := G.2.2.2.2.1
def gX (G : GG) : Nat → Int32 := G.2.2.2.2.2
/-- the cells that the law makes -/
def gZ (G : GG) : Nat → Prop := fun q => gB G ≤ q
def tv (G : GG) : Value → Value
  | .ref a => .ref (gA G a)
  | v => v
def ty8 : Nat → FieldType
  | 0 => .int
  | 1 => .boolean
  | 2 => .byte
  | 3 => .long
  | 4 => .object "TreeTalk$Matter"
  | 5 => .object "TreeTalk$Text"
  | 6 => .object "TreeTalk$Talk"
  | _ => .array .int
def tys8 (G : GG) : List (ClassId × FieldType) := (List.range 8).map fun t => (gY G t, ty8 t)
theorem tys8_at (G : GG) {t : Nat} (h : t < 8) : (tys8 G)[t]? = some (gY G t, ty8 t) := by
  unfold tys8
  rw [List.getElem?_map, List.getElem?_range h]
  rfl
def sln : List Nat := [0, 3, 2, 5, 10, 2, 3, 2, 2]
def sby : List (List Int32) := [[], [115, 108, 100], [110, 99], [97, 107, 116, 102, 109], [104, 101, 111, 116, 107, 97, 113, 119, 103, 102], [33, 40], [61, 60, 62], [43, 45], [42, 47]]
def va_AOi (U : State) : Prop := (Cond.arrayOver (.array .int)).before #[] U = true
theorem va_AOi.use {A : Array Value} {U : State} (h : va_AOi U) : (Cond.arrayOver (.array .int)).before A U = true := h
theorem va_AOi.moved {u U : State} (hvm : u.vm.Alike U.vm) (h : va_AOi u) : va_AOi U := by
  obtain ⟨comp, c, k, h1, h2, h3, h4, h5⟩ := arrayOverA_spec h
  obtain ⟨k', hk', he⟩ := hvm.2.2 _ _ h3
  have hi0 := (va_idx_bare U.vm comp).symm
  have e0 : U.vm.bare = u.vm.bare := by first | exact hvm.bare_eq | exact hvm.bare_eq.symm
  rw [e0] at hi0
  have hi := hi0.trans ((va_idx_bare u.vm comp).trans h2)
  have hkind : k'.kind = .array comp (.array .int) := by rw [he]; exact h4
  have f1 : U.vm.findClass (FieldType.array .int).toString = some comp := by rw [hvm.findClass]; exact h1
  have f2 : U.vm.findClass ("[" ++ (FieldType.array .int).toString) = some c := by rw [hvm.findClass]; exact h5
  unfold va_AOi Cond.before Cond.holds
  simp only [Cond.value]
  rw [f1, Option.bind_some]
  refine (congrArg (fun o : Option Nat => (o.bind (fun c => (U.vm.classes[c]?).map fun (k : Class) => match k.kind with | .array _ ty => decide (ty = FieldType.array .int) && decide (U.vm.findClass ("[" ++ (FieldType.array .int).toString) = some c) | _ => false) == some true)) hi).trans ?_
  simp [hk', hkind, f2]
/-- words of a throw that tables alone decide -/
def nseW : List Cond := [.declares ⟨"java/lang/RuntimeException", "<init>", "()V"⟩, .declares ⟨"java/lang/Exception", "<init>", "()V"⟩, .declares ⟨"java/lang/Throwable", "<init>", "()V"⟩, .castable "java/util/NoSuchElementException" "java/util/NoSuchElementException"]
def SU (G : GG) (U : State) : Prop := va_K (gD G) vwCl (tys8 G) U ∧ (∀ q ∈ strL, vk_R q.1 q.2.1 q.2.2.2 (gA G q.2.2.1) U) ∧ (∀ w ∈ nestW ++ nseW, va_Nw w U) ∧ (∀ t, 4 ≤ t → t ≤ 6 → va_AO (elm t) U) ∧ va_AOi U
def sioN : String := "jdk/internal/util/Preconditions"
def RO (G : GG) (U : State) (H : Heap) : Prop :=
  vk_S 9 sln sby (fun i => gA G (2 * i)) (fun i => gA G (2 * i + 1)) (gZ G) U H ∧ va_Z "java/lang/String" "COMPACT_STRINGS" "Z" (.int 1) (gZ G) U H ∧
  (va_Z sioN "SIOOBE_FORMATTER" "Ljava/util/function/BiFunction;" .null (gZ G) U H ∨ va_Z sioN "SIOOBE_FORMATTER" "Ljava/util/function/BiFunction;" (.ref (gA G 18)) (gZ G) U H) ∧
  vx_Zq Bundle.tN "UNASSIGNED_STACK" Bundle.steD (gZ G) U H ∧ vx_Zq Bundle.tN "SUPPRESSED_SENTINEL" Bundle.listD (gZ G) U H ∧
  va_X (gA G 19) (gL G) (gX G) U H ∧ gA G 19 < H.size ∧ ¬ gZ G (gA G 19)
def ADF (G : GG) : Prop := ∀ i, 20 ≤ i → gA G i = gB G + (i - 20)
/-- the flat heap's own cells that are there before -/
def roS (h : AH) : Prop := ∀ i, i < 9 → gk h (2 * i) = some (.inl 13) ∧ gk h (2 * i + 1) = some (.inr (2, sln.getD i 0)) ∧ gr h (2 * i) 0 = some (2 * i + 1) ∧ gi h (2 * i) 1 = 0 ∧ ∀ j, j < sln.getD i 0 → gi h (2 * i + 1) j = (sby.getD i []).getD j 0
def ROH (L : Nat) (xs : Nat → Int32) (h : AH) : Prop := roS h ∧ gk h 18 = none ∧ gk h 19 = some (.inr (0, L)) ∧ ∀ j, j < L → gi h 19 j = xs j
def fv (G : GG) (h : AH) (i c k : Nat) : Value := if isR c k = true then tv G (va_rf (gr h i k)) else .int (gi h i k)
def av (G : GG) (h : AH) (i t j : Nat) : Value := if t < 3 then .int (gi h i j) else if t = 3 then .long (gl h i j) else tv G (va_rf (gr h i j))
def CA (G : GG) (h : AH) (H : Heap) (i : Nat) : Nat ⊕ (Nat × Nat) → Prop
  | .inl c => c < 13 ∧ t_OB (gA G i) ((gD G).1 c) (nfc c) ((gD G).2 c) H (fv G h i c)
  | .inr (t, n) => t < 8 ∧ n ≤ 65536 ∧ H[gA G i]? = some (arrV (gY G t) n (av G h i t))
def RW (G : GG) (h : AH) (H : Heap) : Prop := 20 ≤ gn h ∧ H.size = gB G + (gn h - 20) ∧ ∀ i kd, 20 ≤ i → gk h i = some kd → i < gn h ∧ CA G h H i kd
/-- the locals -/
def lrel (G : GG) (nL : Nat) (mls : Array Slot) (l : LL) : Prop := mls.size = nL ∧ lv_wf mls ∧ l.length ≤ nL ∧ ∀ i v, lg l i = some v → mls[i]? = some (.val (tv G v))
def asc (G : GG) : Nat → LL → List (Nat × Value)
  | _, [] => []
  | k, none :: l => asc G (k + 1) l
  | k, some v :: l => (k, tv G v) :: asc G (k + 1) l
theorem asc_mem (G : GG) : ∀ (l : LL) (k : Nat) (q : Nat × Value), q ∈ asc G k l ↔ ∃ j v, q = (k + j, tv G v) ∧ lg l j = some v := by
  intro l
  induction l with
  | nil => intro k q; simp [asc, lg]
  | cons a l ih =>
    intro k q
    cases a with
    | none =>
      simp only [asc]
      rw [ih]
      constructor
      · rintro ⟨j, v, rfl, h⟩
        exact ⟨j + 1, v, by rw [Nat.add_assoc, Nat.add_comm 1 j], h⟩
      · rintro ⟨j, v, rfl, h⟩
        cases j with
        | zero => simp [lg] at h
        | succ j => exact ⟨j, v, by rw [Nat.add_assoc, Nat.add_comm 1 j], h⟩
    | some w =>
      simp only [asc, List.mem_cons]
      rw [ih]
      constructor
      · rintro (rfl | ⟨j, v, rfl, h⟩)
        · exact ⟨0, w, rfl, rfl⟩
        · exact ⟨j + 1, v, by rw [Nat.add_assoc, Nat.add_comm 1 j], h⟩
      · rintro ⟨j, v, rfl, h⟩
        cases j with
        | zero => simp [lg] at h; subst h; exact Or.inl rfl
        | succ j => exact Or.inr ⟨j, v, by rw [Nat.add_assoc, Nat.add_comm 1 j], h⟩
theorem lrel.has {G : GG} {nL : Nat} {mls : Array Slot} {l : LL} (h : lrel G nL mls l) : lv_has mls nL (asc G 0 l) := by
  refine ⟨h.1, h.2.1, fun q hq => ?_⟩
  obtain ⟨j, v, rfl, hj⟩ := (asc_mem G l 0 q).mp hq
  rw [Nat.zero_add]
  exact h.2.2.2 j v hj
theorem lg_len {l : LL} : ∀ {i v}, lg l i = some v → i < l.length := by
  induction l with
  | nil => intro i v h; simp [lg] at h
  | cons a l ih =>
    intro i v h
    cases i with
    | zero => simp
    | succ i => have := ih (i := i) (v := v) h; simp; omega
theorem ls0_len (l : LL) : ∀ i v, (ls0 l i v).length = l.length := by
  induction l with
  | nil => intro i v; rfl
  | cons a l ih => intro i v; cases i <;> simp [ls0, ih]
theorem lg_ls0 (l : LL) : ∀ i v j, lg (ls0 l i v) j = if j = i ∧ i < l.length then v else lg l j := by
  induction l with
  | nil => intro i v j; simp [ls0, lg]
  | cons a l ih =>
    intro i v j
    cases i with
    | zero => cases j <;> simp [ls0, lg]
    | succ i =>
      cases j with
      | zero => simp [ls0, lg]
      | succ j => simp [ls0, lg, ih]
theorem lk_len (l : LL) (i : Nat) : (lk l i).length = l.length := by
  cases i with
  | zero => rfl
  | succ i =>
    simp only [lk]
    split
    · exact ls0_len _ _ _
    · exact ls0_len _ _ _
    · rfl
theorem ls1_len (l : LL) (i : Nat) (v : Value) : (ls1 l i v).length = l.length := by rw [ls1, ls0_len, lk_len]
theorem ls2_len (l : LL) (i : Nat) (v : Value) : (ls2 l i v).length = l.length := by rw [ls2, ls0_len, ls0_len, lk_len]
theorem lg_lk {l : LL} {i j : Nat} {v : Value} (h : lg (lk l i) j = some v) : lg l j = some v ∧ ¬ (j + 1 = i ∧ v.category = 2) := by
  cases i with
  | zero => exact ⟨h, fun q => by omega⟩
  | succ i =>
    have kill : ∀ w, lg l i = some w → lg (ls0 l i none) j = some v → lg l j = some v ∧ ¬ (j + 1 = i + 1 ∧ v.category = 2) := by
      intro w e h
      rw [lg_ls0] at h
      split at h
      · cases h
      · rename_i hn
        exact ⟨h, fun q => hn ⟨by omega, lg_len e⟩⟩
    simp only [lk] at h
    split at h
    · rename_i e
      exact kill _ e h
    · rename_i e
      exact kill _ e h
    · rename_i hn1 hn2
      refine ⟨h, ?_⟩
      rintro ⟨q, hc⟩
      have : j = i := by omega
      subst this
      cases v with
      | long x => exact hn1 x h
      | double x => exact hn2 x h
      | _ => cases hc
theorem tv_cat (G : GG) (v : Value) : (tv G v).category = v.category := by cases v <;> rfl
theorem lrel.st1 {G : GG} {nL : Nat} {mls' : Array Slot} {l : LL} {i : Nat} {v : Value} (hl : l.length ≤ nL) (h : lv_has mls' nL ((i, tv G v) :: (asc G 0 l).filter (fun q => !(q.1 == i) && !(q.1 + 1 == i && q.2.category == 2)))) : lrel G nL mls' (ls1 l i v) := by
  refine ⟨h.1, h.2.1, by rw [ls1_len]; exact hl, fun j w hj => ?_⟩
  rw [ls1, lg_ls0] at hj
  split at hj
  · rename_i hc
    obtain ⟨rfl, -⟩ := hc
    cases hj
    exact h.2.2 (j, tv G v) List.mem_cons_self
  · rename_i hne
    obtain ⟨h1, h2⟩ := lg_lk hj
    have hji : j ≠ i := by
      intro e
      refine hne ⟨e, ?_⟩
      rw [lk_len, ← e]
      exact lg_len h1
    refine h.2.2 (j, tv G w) (List.mem_cons_of_mem _ (List.mem_filter.mpr ⟨(asc_mem G l 0 _).mpr ⟨j, w, by rw [Nat.zero_add], h1⟩, ?_⟩))
    simp only [Bool.and_eq_true, Bool.not_eq_true', beq_eq_false_iff_ne, ne_eq, Bool.and_eq_false_iff]
    refine ⟨hji, ?_⟩
    by_cases hq : j + 1 = i
    · right
      intro hc
      rw [tv_cat] at hc
      exact h2 ⟨hq, hc⟩
    · exact Or.inl hq
theorem lrel.st2 {G : GG} {nL : Nat} {mls' : Array Slot} {l : LL} {i : Nat} {v : Value} (hl : l.length ≤ nL) (h : lv_has mls' nL ((i, tv G v) :: (asc G 0 l).filter (fun q => !(q.1 == i) && (!(q.1 == i + 1) && !(q.1 + 1 == i && q.2.category == 2))))) : lrel G nL mls' (ls2 l i v) := by
  refine ⟨h.1, h.2.1, by rw [ls2_len]; exact hl, fun j w hj => ?_⟩
  rw [ls2, lg_ls0] at hj
  split at hj
  · cases hj
  · rename_i hne1
    rw [lg_ls0] at hj
    split at hj
    · rename_i hc
      obtain ⟨rfl, -⟩ := hc
      cases hj
      exact h.2.2 (j, tv G v) List.mem_cons_self
    · rename_i hne
      obtain ⟨h1, h2⟩ := lg_lk hj
      have hlen := lg_len h1
      have hji : j ≠ i := by
        intro e
        refine hne ⟨e, ?_⟩
        rw [lk_len, ← e]
        exact hlen
      have hji1 : j ≠ i + 1 := by
        intro e
        refine hne1 ⟨e, ?_⟩
        rw [ls0_len, lk_len, ← e]
        exact hlen
      refine h.2.2 (j, tv G w) (List.mem_cons_of_mem _ (List.mem_filter.mpr ⟨(asc_mem G l 0 _).mpr ⟨j, w, by rw [Nat.zero_add], h1⟩, ?_⟩))
      simp only [Bool.and_eq_true, Bool.not_eq_true', beq_eq_false_iff_ne, ne_eq, Bool.and_eq_false_iff]
      refine ⟨hji, hji1, ?_⟩
      by_cases hq : j + 1 = i
      · right
        intro hc
        rw [tv_cat] at hc
        exact h2 ⟨hq, hc⟩
      · exact Or.inl hq
