/-! ===== each token of the flat machine holds over the machine ===== -/
def gw : List Cond := lw_tbl.filter goodWord
theorem tb_in {p : Nat} {w : Cond} (h : tb p w = true) : w ∈ gw := by
  unfold tb at h
  rw [Bool.and_eq_true, decide_eq_true_eq] at h
  exact List.mem_filter.mpr ⟨List.mem_of_getElem? h.1, h.2⟩
theorem lfd_mem : ∀ {L : List LKE} {g a : Nat} {t : Instr}, lfd L g a = some t → ∃ p, (g, a, p, t) ∈ L := by
  intro L
  induction L with
  | nil => intro g a t h; simp [lfd] at h
  | cons e L ih =>
    intro g a t h
    obtain ⟨g', i', p', t'⟩ := e
    simp only [lfd] at h
    split at h
    · rename_i hc
      obtain ⟨rfl, rfl⟩ := hc
      cases h
      exact ⟨p', List.mem_cons_self⟩
    · obtain ⟨p, hp⟩ := ih h
      exact ⟨p, List.mem_cons_of_mem _ hp⟩
theorem lto_ok (t : Nat) : (lto t).2.all (lkB (lto t).1) = true := by
  match t with
  | 0 => exact lk_0
  | 1 => exact lk_1
  | 2 => exact lk_2
  | 3 => exact lk_3
  | 4 => exact lk_4
  | 5 => exact lk_5
  | 6 => exact lk_6
  | 7 => exact lk_7
  | 8 => exact lk_8
  | 9 => exact lk_9
  | 10 => exact lk_10
  | 11 => exact lk_11
  | 12 => exact lk_12
  | 13 => exact lk_13
  | 14 => exact lk_14
  | 15 => exact lk_15
  | 16 => exact lk_16
  | 17 => exact lk_17
  | 18 => exact lk_18
  | t + 19 => rfl
/-- a token that comes by a link -/
theorem inv_lk {b : ByteArray} {t pc n : Nat} {ii : Bool} {i : Instr} (h : insB b t ii pc i n = true) (hi : lkd i = true) : ∃ raw g a g' p, decode b pc = .ok (raw, n) ∧ lkO raw i = some (g, a) ∧ (g' = g ∨ (ii = true ∧ g = 1 ∧ g' = 11) ∨ (g = 4 ∧ g' = 14)) ∧ lkB (lto t).1 (g', a, p, i) = true := by
  have key : (match decode b pc with
    | .ok (raw, len) => decide (len = n) && (if lkd i = true then (match lkO raw i with
      | some (g, a) => decide (lfd (lto t).2 g a = some i) || (ii && decide (g = 1) && decide (lfd (lto t).2 11 a = some i)) || (decide (g = 4) && decide (lfd (lto t).2 14 a = some i))
      | none => false) else ldB pc i raw)
    | _ => false) = true := by
    cases i <;> first | exact h | (simp [lkd] at hi)
  split at key
  · rename_i raw len hdec
    rw [if_pos hi, Bool.and_eq_true, decide_eq_true_eq] at key
    obtain ⟨rfl, key⟩ := key
    split at key
    · rename_i g a hl
      simp only [Bool.or_eq_true, Bool.and_eq_true, decide_eq_true_eq] at key
      have all := lto_ok t
      rw [List.all_eq_true] at all
      rcases key with (k | ⟨⟨k0, k1⟩, k2⟩) | ⟨k1, k2⟩
      · obtain ⟨p, hp⟩ := lfd_mem k
        exact ⟨raw, g, a, g, p, hdec, hl, Or.inl rfl, all _ hp⟩
      · obtain ⟨p, hp⟩ := lfd_mem k2
        exact ⟨raw, g, a, 11, p, hdec, hl, Or.inr (Or.inl ⟨k0, k1, rfl⟩), all _ hp⟩
      · obtain ⟨p, hp⟩ := lfd_mem k2
        exact ⟨raw, g, a, 14, p, hdec, hl, Or.inr (Or.inr ⟨k1, rfl⟩), all _ hp⟩
    · cases key
  · cases key
/-- a token that stands for itself -/
theorem inv_ld {b : ByteArray} {t pc n : Nat} {ii : Bool} {i : Instr} (h : insB b t ii pc i n = true) (hi : lkd i = false) (h1 : ∀ v, i ≠ .jsr v) (h2 : i ≠ .athrow) : ∃ raw, decode b pc = .ok (raw, n) ∧ ldB pc i raw = true := by
  have key : (match decode b pc with
    | .ok (raw, len) => decide (len = n) && (if lkd i = true then (match lkO raw i with
      | some (g, a) => decide (lfd (lto t).2 g a = some i) || (ii && decide (g = 1) && decide (lfd (lto t).2 11 a = some i)) || (decide (g = 4) && decide (lfd (lto t).2 14 a = some i))
      | none => false) else ldB pc i raw)
    | _ => false) = true := by
    cases i <;> first | exact h | exact absurd rfl h2 | exact absurd rfl (h1 _)
  split at key
  · rename_i raw len hdec
    rw [if_neg (by rw [hi]; exact Bool.false_ne_true), Bool.and_eq_true, decide_eq_true_eq] at key
    obtain ⟨rfl, key⟩ := key
    exact ⟨raw, hdec, key⟩
  · cases key
section TOK
variable {p : Program} {l : Launch} {e : Env} {R : Room} {s : State} {m : MethodId} {args : Array Value} {below : List Frame} {meth : Method} {c : Code} {H : Heap} {locs : List Loc} {cells slots : Nat} {Q : State → Prop}
variable {cc : ByteArray} {pc n : Nat} {ls : Array Slot} {rest : List Value}
theorem rq_iadd {j : Nat} {raw : Instr} (h : ldB j .iadd raw = true) : raw = .iadd := by
  cases raw <;> first | rfl | exact absurd h Bool.false_ne_true
theorem rq_isub {j : Nat} {raw : Instr} (h : ldB j .isub raw = true) : raw = .isub := by
  cases raw <;> first | rfl | exact absurd h Bool.false_ne_true
theorem rq_imul {j : Nat} {raw : Instr} (h : ldB j .imul raw = true) : raw = .imul := by
  cases raw <;> first | rfl | exact absurd h Bool.false_ne_true
theorem rq_iand {j : Nat} {raw : Instr} (h : ldB j .iand raw = true) : raw = .iand := by
  cases raw <;> first | rfl | exact absurd h Bool.false_ne_true
theorem rq_ior {j : Nat} {raw : Instr} (h : ldB j .ior raw = true) : raw = .ior := by
  cases raw <;> first | rfl | exact absurd h Bool.false_ne_true
theorem rq_ixor {j : Nat} {raw : Instr} (h : ldB j .ixor raw = true) : raw = .ixor := by
  cases raw <;> first | rfl | exact absurd h Bool.false_ne_true
theorem rq_ishl {j : Nat} {raw : Instr} (h : ldB j .ishl raw = true) : raw = .ishl := by
  cases raw <;> first | rfl | exact absurd h Bool.false_ne_true
theorem rq_ishr {j : Nat} {raw : Instr} (h : ldB j .ishr raw = true) : raw = .ishr := by
  cases raw <;> first | rfl | exact absurd h Bool.false_ne_true
theorem rq_iushr {j : Nat} {raw : Instr} (h : ldB j .iushr raw = true) : raw = .iushr := by
  cases raw <;> first | rfl | exact absurd h Bool.false_ne_true
theorem rq_idiv {j : Nat} {raw : Instr} (h : ldB j .idiv raw = true) : raw = .idiv := by
  cases raw <;> first | rfl | exact absurd h Bool.false_ne_true
theorem rq_irem {j : Nat} {raw : Instr} (h : ldB j .irem raw = true) : raw = .irem := by
  cases raw <;> first | rfl | exact absurd h Bool.false_ne_true
theorem rq_ineg {j : Nat} {raw : Instr} (h : ldB j .ineg raw = true) : raw = .ineg := by
  cases raw <;> first | rfl | exact absurd h Bool.false_ne_true
theorem rq_ladd {j : Nat} {raw : Instr} (h : ldB j .ladd raw = true) : raw = .ladd := by
  cases raw <;> first | rfl | exact absurd h Bool.false_ne_true
theorem rq_lsub {j : Nat} {raw : Instr} (h : ldB j .lsub raw = true) : raw = .lsub := by
  cases raw <;> first | rfl | exact absurd h Bool.false_ne_true
theorem rq_lmul {j : Nat} {raw : Instr} (h : ldB j .lmul raw = true) : raw = .lmul := by
  cases raw <;> first | rfl | exact absurd h Bool.false_ne_true
theorem rq_land {j : Nat} {raw : Instr} (h : ldB j .land raw = true) : raw = .land := by
  cases raw <;> first | rfl | exact absurd h Bool.false_ne_true
theorem rq_lor {j : Nat} {raw : Instr} (h : ldB j .lor raw = true) : raw = .lor := by
  cases raw <;> first | rfl | exact absurd h Bool.false_ne_true
theorem rq_ldiv {j : Nat} {raw : Instr} (h : ldB j .ldiv raw = true) : raw = .ldiv := by
  cases raw <;> first | rfl | exact absurd h Bool.false_ne_true
theorem rq_lshl {j : Nat} {raw : Instr} (h : ldB j .lshl raw = true) : raw = .lshl := by
  cases raw <;> first | rfl | exact absurd h Bool.false_ne_true
theorem rq_lcmp {j : Nat} {raw : Instr} (h : ldB j .lcmp raw = true) : raw = .lcmp := by
  cases raw <;> first | rfl | exact absurd h Bool.false_ne_true
theorem rq_i2l {j : Nat} {raw : Instr} (h : ldB j .i2l raw = true) : raw = .i2l := by
  cases raw <;> first | rfl | exact absurd h Bool.false_ne_true
theorem rq_l2i {j : Nat} {raw : Instr} (h : ldB j .l2i raw = true) : raw = .l2i := by
  cases raw <;> first | rfl | exact absurd h Bool.false_ne_true
theorem rq_i2b {j : Nat} {raw : Instr} (h : ldB j .i2b raw = true) : raw = .i2b := by
  cases raw <;> first | rfl | exact absurd h Bool.false_ne_true
theorem rq_i2c {j : Nat} {raw : Instr} (h : ldB j .i2c raw = true) : raw = .i2c := by
  cases raw <;> first | rfl | exact absurd h Bool.false_ne_true
theorem rq_dup {j : Nat} {raw : Instr} (h : ldB j .dup raw = true) : raw = .dup := by
  cases raw <;> first | rfl | exact absurd h Bool.false_ne_true
theorem rq_dup2 {j : Nat} {raw : Instr} (h : ldB j .dup2 raw = true) : raw = .dup2 := by
  cases raw <;> first | rfl | exact absurd h Bool.false_ne_true
theorem rq_pop {j : Nat} {raw : Instr} (h : ldB j .pop raw = true) : raw = .pop := by
  cases raw <;> first | rfl | exact absurd h Bool.false_ne_true
theorem rq_aconst_null {j : Nat} {raw : Instr} (h : ldB j .aconst_null raw = true) : raw = .aconst_null := by
  cases raw <;> first | rfl | exact absurd h Bool.false_ne_true
theorem rq_iaload {j : Nat} {raw : Instr} (h : ldB j .iaload raw = true) : raw = .iaload := by
  cases raw <;> first | rfl | exact absurd h Bool.false_ne_true
theorem rq_laload {j : Nat} {raw : Instr} (h : ldB j .laload raw = true) : raw = .laload := by
  cases raw <;> first | rfl | exact absurd h Bool.false_ne_true
theorem rq_aaload {j : Nat} {raw : Instr} (h : ldB j .aaload raw = true) : raw = .aaload := by
  cases raw <;> first | rfl | exact absurd h Bool.false_ne_true
theorem rq_iastore {j : Nat} {raw : Instr} (h : ldB j .iastore raw = true) : raw = .iastore := by
  cases raw <;> first | rfl | exact absurd h Bool.false_ne_true
theorem rq_lastore {j : Nat} {raw : Instr} (h : ldB j .lastore raw = true) : raw = .lastore := by
  cases raw <;> first | rfl | exact absurd h Bool.false_ne_true
theorem rq_aastore {j : Nat} {raw : Instr} (h : ldB j .aastore raw = true) : raw = .aastore := by
  cases raw <;> first | rfl | exact absurd h Bool.false_ne_true
theorem rq_arraylength {j : Nat} {raw : Instr} (h : ldB j .arraylength raw = true) : raw = .arraylength := by
  cases raw <;> first | rfl | exact absurd h Bool.false_ne_true
theorem rq_ireturn {j : Nat} {raw : Instr} (h : ldB j .ireturn raw = true) : raw = .ireturn := by
  cases raw <;> first | rfl | exact absurd h Bool.false_ne_true
theorem rq_lreturn {j : Nat} {raw : Instr} (h : ldB j .lreturn raw = true) : raw = .lreturn := by
  cases raw <;> first | rfl | exact absurd h Bool.false_ne_true
theorem rq_areturn {j : Nat} {raw : Instr} (h : ldB j .areturn raw = true) : raw = .areturn := by
  cases raw <;> first | rfl | exact absurd h Bool.false_ne_true
theorem rq_return_ {j : Nat} {raw : Instr} (h : ldB j .return_ raw = true) : raw = .return_ := by
  cases raw <;> first | rfl | exact absurd h Bool.false_ne_true
end TOK
