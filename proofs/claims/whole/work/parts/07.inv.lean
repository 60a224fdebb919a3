/-! ===== each token of the flat machine holds over the machine ===== -/
def gw : List Cond := lw_tbl.filter goodWord
theorem tb_in {p : Nat} {w : Cond} (h : tb p w = true) : w ∈ gw := by
  unfold tb at h
  rw [Bool.and_eq_true, decide_eq_true_eq] at h
  exact List.mem_filter.mpr ⟨List.mem_of_getElem? h.1, h.2⟩
theorem lfd_mem : ∀ {L : List LKE} {g a : Nat} {t : Instr}, lfd L g a = some t → ∃ p, (g, a, p, t) ∈ L := by
  intro L
  induction L with
  | nil => intro g a t h; simp [lfd] at h
  | cons e L ih =>
    intro g a t h
    obtain ⟨g', i', p', t'⟩ := e
    simp only [lfd] at h
    split at h
    · rename_i hc
      obtain ⟨rfl, rfl⟩ := hc
      cases h
      exact ⟨p', List.mem_cons_self⟩
    · obtain ⟨p, hp⟩ := ih h
      exact ⟨p, List.mem_cons_of_mem _ hp⟩
theorem lto_ok (t : Nat) : (lto t).2.all (lkB (lto t).1) = true := by
  match t with
  | 0 => exact lk_0
  | 1 => exact lk_1
  | 2 => exact lk_2
  | 3 => exact lk_3
  | 4 => exact lk_4
  | 5 => exact lk_5
  | 6 => exact lk_6
  | 7 => exact lk_7
  | 8 => exact lk_8
  | 9 => exact lk_9
  | 10 => exact lk_10
  | 11 => exact lk_11
  | 12 => exact lk_12
  | 13 => exact lk_13
  | 14 => exact lk_14
  | 15 => exact lk_15
  | 16 => exact lk_16
  | 17 => exact lk_17
  | 18 => exact lk_18
  | t + 19 => rfl
/-- a token that comes by a link -/
theorem inv_lk {b : ByteArray} {t pc n : Nat} {ii : Bool} {i : Instr} (h : insB b t ii pc i n = true) (hi : lkd i = true) : ∃ raw g a g' p, decode b pc = .ok (raw, n) ∧ lenB raw n = true ∧ t < 19 ∧ lkO raw i = some (g, a) ∧ (g' = g ∨ (ii = true ∧ g = 1 ∧ g' = 11) ∨ (g = 4 ∧ g' = 14)) ∧ lkB (lto t).1 (g', a, p, i) = true := by
  have key : (match decode b pc with
    | .ok (raw, len) => decide (len = n) && (lenB raw n && (if lkd i = true then (match lkO raw i with
      | some (g, a) => decide (lfd (lto t).2 g a = some i) || (ii && decide (g = 1) && decide (lfd (lto t).2 11 a = some i)) || (decide (g = 4) && decide (lfd (lto t).2 14 a = some i))
      | none => false) else ldB pc i raw))
    | _ => false) = true := by
    cases i <;> first | exact h | (simp [lkd] at hi)
  split at key
  · rename_i raw len hdec
    rw [if_pos hi, Bool.and_eq_true, Bool.and_eq_true, decide_eq_true_eq] at key
    obtain ⟨rfl, hlen, key⟩ := key
    have ht : ∀ g a, lfd (lto t).2 g a = some i → t < 19 := by
      intro g a hh
      rcases Nat.lt_or_ge t 19 with q | q
      · exact q
      · exfalso
        obtain ⟨u, rfl⟩ := Nat.exists_eq_add_of_le q
        have e : (lto (19 + u)).2 = [] := by
          rw [Nat.add_comm]
          rfl
        rw [e] at hh
        cases hh
    split at key
    · rename_i g a hl
      simp only [Bool.or_eq_true, Bool.and_eq_true, decide_eq_true_eq] at key
      have all := lto_ok t
      rw [List.all_eq_true] at all
      rcases key with (k | ⟨⟨k0, k1⟩, k2⟩) | ⟨k1, k2⟩
      · obtain ⟨p, hp⟩ := lfd_mem k
        exact ⟨raw, g, a, g, p, hdec, hlen, ht _ _ k, hl, Or.inl rfl, all _ hp⟩
      · obtain ⟨p, hp⟩ := lfd_mem k2
        exact ⟨raw, g, a, 11, p, hdec, hlen, ht _ _ k2, hl, Or.inr (Or.inl ⟨k0, k1, rfl⟩), all _ hp⟩
      · obtain ⟨p, hp⟩ := lfd_mem k2
        exact ⟨raw, g, a, 14, p, hdec, hlen, ht _ _ k2, hl, Or.inr (Or.inr ⟨k1, rfl⟩), all _ hp⟩
    · cases key
  · cases key
/-- a token that stands for itself -/
theorem inv_ld {b : ByteArray} {t pc n : Nat} {ii : Bool} {i : Instr} (h : insB b t ii pc i n = true) (hi : lkd i = false) (h1 : ∀ v, i ≠ .jsr v) (h2 : i ≠ .athrow) : ∃ raw, decode b pc = .ok (raw, n) ∧ lenB raw n = true ∧ ldB pc i raw = true := by
  have key : (match decode b pc with
    | .ok (raw, len) => decide (len = n) && (lenB raw n && (if lkd i = true then (match lkO raw i with
      | some (g, a) => decide (lfd (lto t).2 g a = some i) || (ii && decide (g = 1) && decide (lfd (lto t).2 11 a = some i)) || (decide (g = 4) && decide (lfd (lto t).2 14 a = some i))
      | none => false) else ldB pc i raw))
    | _ => false) = true := by
    cases i <;> first | exact h | exact absurd rfl h2 | exact absurd rfl (h1 _)
  split at key
  · rename_i raw len hdec
    rw [if_neg (by rw [hi]; exact Bool.false_ne_true), Bool.and_eq_true, Bool.and_eq_true, decide_eq_true_eq] at key
    obtain ⟨rfl, hlen, key⟩ := key
    exact ⟨raw, hdec, hlen, key⟩
  · cases key
theorem rq_iadd {j n : Nat} {raw : Instr} (h : ldB j .iadd raw = true) (hn : lenB raw n = true) : raw = .iadd ∧ n = 1 := by
  cases raw <;> first | exact absurd h Bool.false_ne_true | exact ⟨rfl, eq_of_beq hn⟩
theorem rq_isub {j n : Nat} {raw : Instr} (h : ldB j .isub raw = true) (hn : lenB raw n = true) : raw = .isub ∧ n = 1 := by
  cases raw <;> first | exact absurd h Bool.false_ne_true | exact ⟨rfl, eq_of_beq hn⟩
theorem rq_imul {j n : Nat} {raw : Instr} (h : ldB j .imul raw = true) (hn : lenB raw n = true) : raw = .imul ∧ n = 1 := by
  cases raw <;> first | exact absurd h Bool.false_ne_true | exact ⟨rfl, eq_of_beq hn⟩
theorem rq_iand {j n : Nat} {raw : Instr} (h : ldB j .iand raw = true) (hn : lenB raw n = true) : raw = .iand ∧ n = 1 := by
  cases raw <;> first | exact absurd h Bool.false_ne_true | exact ⟨rfl, eq_of_beq hn⟩
theorem rq_ior {j n : Nat} {raw : Instr} (h : ldB j .ior raw = true) (hn : lenB raw n = true) : raw = .ior ∧ n = 1 := by
  cases raw <;> first | exact absurd h Bool.false_ne_true | exact ⟨rfl, eq_of_beq hn⟩
theorem rq_ixor {j n : Nat} {raw : Instr} (h : ldB j .ixor raw = true) (hn : lenB raw n = true) : raw = .ixor ∧ n = 1 := by
  cases raw <;> first | exact absurd h Bool.false_ne_true | exact ⟨rfl, eq_of_beq hn⟩
theorem rq_ishl {j n : Nat} {raw : Instr} (h : ldB j .ishl raw = true) (hn : lenB raw n = true) : raw = .ishl ∧ n = 1 := by
  cases raw <;> first | exact absurd h Bool.false_ne_true | exact ⟨rfl, eq_of_beq hn⟩
theorem rq_ishr {j n : Nat} {raw : Instr} (h : ldB j .ishr raw = true) (hn : lenB raw n = true) : raw = .ishr ∧ n = 1 := by
  cases raw <;> first | exact absurd h Bool.false_ne_true | exact ⟨rfl, eq_of_beq hn⟩
theorem rq_iushr {j n : Nat} {raw : Instr} (h : ldB j .iushr raw = true) (hn : lenB raw n = true) : raw = .iushr ∧ n = 1 := by
  cases raw <;> first | exact absurd h Bool.false_ne_true | exact ⟨rfl, eq_of_beq hn⟩
theorem rq_idiv {j n : Nat} {raw : Instr} (h : ldB j .idiv raw = true) (hn : lenB raw n = true) : raw = .idiv ∧ n = 1 := by
  cases raw <;> first | exact absurd h Bool.false_ne_true | exact ⟨rfl, eq_of_beq hn⟩
theorem rq_irem {j n : Nat} {raw : Instr} (h : ldB j .irem raw = true) (hn : lenB raw n = true) : raw = .irem ∧ n = 1 := by
  cases raw <;> first | exact absurd h Bool.false_ne_true | exact ⟨rfl, eq_of_beq hn⟩
theorem rq_ineg {j n : Nat} {raw : Instr} (h : ldB j .ineg raw = true) (hn : lenB raw n = true) : raw = .ineg ∧ n = 1 := by
  cases raw <;> first | exact absurd h Bool.false_ne_true | exact ⟨rfl, eq_of_beq hn⟩
theorem rq_ladd {j n : Nat} {raw : Instr} (h : ldB j .ladd raw = true) (hn : lenB raw n = true) : raw = .ladd ∧ n = 1 := by
  cases raw <;> first | exact absurd h Bool.false_ne_true | exact ⟨rfl, eq_of_beq hn⟩
theorem rq_lsub {j n : Nat} {raw : Instr} (h : ldB j .lsub raw = true) (hn : lenB raw n = true) : raw = .lsub ∧ n = 1 := by
  cases raw <;> first | exact absurd h Bool.false_ne_true | exact ⟨rfl, eq_of_beq hn⟩
theorem rq_lmul {j n : Nat} {raw : Instr} (h : ldB j .lmul raw = true) (hn : lenB raw n = true) : raw = .lmul ∧ n = 1 := by
  cases raw <;> first | exact absurd h Bool.false_ne_true | exact ⟨rfl, eq_of_beq hn⟩
theorem rq_land {j n : Nat} {raw : Instr} (h : ldB j .land raw = true) (hn : lenB raw n = true) : raw = .land ∧ n = 1 := by
  cases raw <;> first | exact absurd h Bool.false_ne_true | exact ⟨rfl, eq_of_beq hn⟩
theorem rq_lor {j n : Nat} {raw : Instr} (h : ldB j .lor raw = true) (hn : lenB raw n = true) : raw = .lor ∧ n = 1 := by
  cases raw <;> first | exact absurd h Bool.false_ne_true | exact ⟨rfl, eq_of_beq hn⟩
theorem rq_ldiv {j n : Nat} {raw : Instr} (h : ldB j .ldiv raw = true) (hn : lenB raw n = true) : raw = .ldiv ∧ n = 1 := by
  cases raw <;> first | exact absurd h Bool.false_ne_true | exact ⟨rfl, eq_of_beq hn⟩
theorem rq_lshl {j n : Nat} {raw : Instr} (h : ldB j .lshl raw = true) (hn : lenB raw n = true) : raw = .lshl ∧ n = 1 := by
  cases raw <;> first | exact absurd h Bool.false_ne_true | exact ⟨rfl, eq_of_beq hn⟩
theorem rq_lcmp {j n : Nat} {raw : Instr} (h : ldB j .lcmp raw = true) (hn : lenB raw n = true) : raw = .lcmp ∧ n = 1 := by
  cases raw <;> first | exact absurd h Bool.false_ne_true | exact ⟨rfl, eq_of_beq hn⟩
theorem rq_i2l {j n : Nat} {raw : Instr} (h : ldB j .i2l raw = true) (hn : lenB raw n = true) : raw = .i2l ∧ n = 1 := by
  cases raw <;> first | exact absurd h Bool.false_ne_true | exact ⟨rfl, eq_of_beq hn⟩
theorem rq_l2i {j n : Nat} {raw : Instr} (h : ldB j .l2i raw = true) (hn : lenB raw n = true) : raw = .l2i ∧ n = 1 := by
  cases raw <;> first | exact absurd h Bool.false_ne_true | exact ⟨rfl, eq_of_beq hn⟩
theorem rq_i2b {j n : Nat} {raw : Instr} (h : ldB j .i2b raw = true) (hn : lenB raw n = true) : raw = .i2b ∧ n = 1 := by
  cases raw <;> first | exact absurd h Bool.false_ne_true | exact ⟨rfl, eq_of_beq hn⟩
theorem rq_i2c {j n : Nat} {raw : Instr} (h : ldB j .i2c raw = true) (hn : lenB raw n = true) : raw = .i2c ∧ n = 1 := by
  cases raw <;> first | exact absurd h Bool.false_ne_true | exact ⟨rfl, eq_of_beq hn⟩
theorem rq_dup {j n : Nat} {raw : Instr} (h : ldB j .dup raw = true) (hn : lenB raw n = true) : raw = .dup ∧ n = 1 := by
  cases raw <;> first | exact absurd h Bool.false_ne_true | exact ⟨rfl, eq_of_beq hn⟩
theorem rq_dup2 {j n : Nat} {raw : Instr} (h : ldB j .dup2 raw = true) (hn : lenB raw n = true) : raw = .dup2 ∧ n = 1 := by
  cases raw <;> first | exact absurd h Bool.false_ne_true | exact ⟨rfl, eq_of_beq hn⟩
theorem rq_pop {j n : Nat} {raw : Instr} (h : ldB j .pop raw = true) (hn : lenB raw n = true) : raw = .pop ∧ n = 1 := by
  cases raw <;> first | exact absurd h Bool.false_ne_true | exact ⟨rfl, eq_of_beq hn⟩
theorem rq_aconst_null {j n : Nat} {raw : Instr} (h : ldB j .aconst_null raw = true) (hn : lenB raw n = true) : raw = .aconst_null ∧ n = 1 := by
  cases raw <;> first | exact absurd h Bool.false_ne_true | exact ⟨rfl, eq_of_beq hn⟩
theorem rq_iaload {j n : Nat} {raw : Instr} (h : ldB j .iaload raw = true) (hn : lenB raw n = true) : raw = .iaload ∧ n = 1 := by
  cases raw <;> first | exact absurd h Bool.false_ne_true | exact ⟨rfl, eq_of_beq hn⟩
theorem rq_laload {j n : Nat} {raw : Instr} (h : ldB j .laload raw = true) (hn : lenB raw n = true) : raw = .laload ∧ n = 1 := by
  cases raw <;> first | exact absurd h Bool.false_ne_true | exact ⟨rfl, eq_of_beq hn⟩
theorem rq_aaload {j n : Nat} {raw : Instr} (h : ldB j .aaload raw = true) (hn : lenB raw n = true) : raw = .aaload ∧ n = 1 := by
  cases raw <;> first | exact absurd h Bool.false_ne_true | exact ⟨rfl, eq_of_beq hn⟩
theorem rq_iastore {j n : Nat} {raw : Instr} (h : ldB j .iastore raw = true) (hn : lenB raw n = true) : raw = .iastore ∧ n = 1 := by
  cases raw <;> first | exact absurd h Bool.false_ne_true | exact ⟨rfl, eq_of_beq hn⟩
theorem rq_lastore {j n : Nat} {raw : Instr} (h : ldB j .lastore raw = true) (hn : lenB raw n = true) : raw = .lastore ∧ n = 1 := by
  cases raw <;> first | exact absurd h Bool.false_ne_true | exact ⟨rfl, eq_of_beq hn⟩
theorem rq_aastore {j n : Nat} {raw : Instr} (h : ldB j .aastore raw = true) (hn : lenB raw n = true) : raw = .aastore ∧ n = 1 := by
  cases raw <;> first | exact absurd h Bool.false_ne_true | exact ⟨rfl, eq_of_beq hn⟩
theorem rq_arraylength {j n : Nat} {raw : Instr} (h : ldB j .arraylength raw = true) (hn : lenB raw n = true) : raw = .arraylength ∧ n = 1 := by
  cases raw <;> first | exact absurd h Bool.false_ne_true | exact ⟨rfl, eq_of_beq hn⟩
theorem rq_ireturn {j n : Nat} {raw : Instr} (h : ldB j .ireturn raw = true) (hn : lenB raw n = true) : raw = .ireturn ∧ n = 1 := by
  cases raw <;> first | exact absurd h Bool.false_ne_true | exact ⟨rfl, eq_of_beq hn⟩
theorem rq_lreturn {j n : Nat} {raw : Instr} (h : ldB j .lreturn raw = true) (hn : lenB raw n = true) : raw = .lreturn ∧ n = 1 := by
  cases raw <;> first | exact absurd h Bool.false_ne_true | exact ⟨rfl, eq_of_beq hn⟩
theorem rq_areturn {j n : Nat} {raw : Instr} (h : ldB j .areturn raw = true) (hn : lenB raw n = true) : raw = .areturn ∧ n = 1 := by
  cases raw <;> first | exact absurd h Bool.false_ne_true | exact ⟨rfl, eq_of_beq hn⟩
theorem rq_return_ {j n : Nat} {raw : Instr} (h : ldB j .return_ raw = true) (hn : lenB raw n = true) : raw = .return_ ∧ n = 1 := by
  cases raw <;> first | exact absurd h Bool.false_ne_true | exact ⟨rfl, eq_of_beq hn⟩
theorem rq_iload {j n a : Nat} {raw : Instr} (h : ldB j (.iload a) raw = true) (hn : lenB raw n = true) : (∃ k : Fin 4, raw = .iload_n k ∧ (k : Nat) = a ∧ n = 1) ∨ (raw = .iload a ∧ n = 2) := by
  cases raw <;> first | exact absurd h Bool.false_ne_true | exact Or.inl ⟨_, rfl, (of_decide_eq_true h).symm, eq_of_beq hn⟩ | exact Or.inr ⟨by rw [of_decide_eq_true h], eq_of_beq hn⟩
theorem rq_lload {j n a : Nat} {raw : Instr} (h : ldB j (.lload a) raw = true) (hn : lenB raw n = true) : (∃ k : Fin 4, raw = .lload_n k ∧ (k : Nat) = a ∧ n = 1) ∨ (raw = .lload a ∧ n = 2) := by
  cases raw <;> first | exact absurd h Bool.false_ne_true | exact Or.inl ⟨_, rfl, (of_decide_eq_true h).symm, eq_of_beq hn⟩ | exact Or.inr ⟨by rw [of_decide_eq_true h], eq_of_beq hn⟩
theorem rq_aload {j n a : Nat} {raw : Instr} (h : ldB j (.aload a) raw = true) (hn : lenB raw n = true) : (∃ k : Fin 4, raw = .aload_n k ∧ (k : Nat) = a ∧ n = 1) ∨ (raw = .aload a ∧ n = 2) := by
  cases raw <;> first | exact absurd h Bool.false_ne_true | exact Or.inl ⟨_, rfl, (of_decide_eq_true h).symm, eq_of_beq hn⟩ | exact Or.inr ⟨by rw [of_decide_eq_true h], eq_of_beq hn⟩
theorem rq_istore {j n a : Nat} {raw : Instr} (h : ldB j (.istore a) raw = true) (hn : lenB raw n = true) : (∃ k : Fin 4, raw = .istore_n k ∧ (k : Nat) = a ∧ n = 1) ∨ (raw = .istore a ∧ n = 2) := by
  cases raw <;> first | exact absurd h Bool.false_ne_true | exact Or.inl ⟨_, rfl, (of_decide_eq_true h).symm, eq_of_beq hn⟩ | exact Or.inr ⟨by rw [of_decide_eq_true h], eq_of_beq hn⟩
theorem rq_lstore {j n a : Nat} {raw : Instr} (h : ldB j (.lstore a) raw = true) (hn : lenB raw n = true) : (∃ k : Fin 4, raw = .lstore_n k ∧ (k : Nat) = a ∧ n = 1) ∨ (raw = .lstore a ∧ n = 2) := by
  cases raw <;> first | exact absurd h Bool.false_ne_true | exact Or.inl ⟨_, rfl, (of_decide_eq_true h).symm, eq_of_beq hn⟩ | exact Or.inr ⟨by rw [of_decide_eq_true h], eq_of_beq hn⟩
theorem rq_astore {j n a : Nat} {raw : Instr} (h : ldB j (.astore a) raw = true) (hn : lenB raw n = true) : (∃ k : Fin 4, raw = .astore_n k ∧ (k : Nat) = a ∧ n = 1) ∨ (raw = .astore a ∧ n = 2) := by
  cases raw <;> first | exact absurd h Bool.false_ne_true | exact Or.inl ⟨_, rfl, (of_decide_eq_true h).symm, eq_of_beq hn⟩ | exact Or.inr ⟨by rw [of_decide_eq_true h], eq_of_beq hn⟩
theorem rq_iconst {j n : Nat} {v : Int} {raw : Instr} (h : ldB j (.iconst v) raw = true) (hn : lenB raw n = true) : (∃ a, raw = .iconst a ∧ Int32.ofInt a = Int32.ofInt v ∧ n = 1) ∨ (∃ a, raw = .bipush a ∧ (Int8.ofInt a).toInt32 = Int32.ofInt v ∧ n = 2) ∨ (∃ a, raw = .sipush a ∧ (Int16.ofInt a).toInt32 = Int32.ofInt v ∧ n = 3) := by
  cases raw <;> first | exact absurd h Bool.false_ne_true | exact Or.inl ⟨_, rfl, of_decide_eq_true h, eq_of_beq hn⟩ | exact Or.inr (Or.inl ⟨_, rfl, of_decide_eq_true h, eq_of_beq hn⟩) | exact Or.inr (Or.inr ⟨_, rfl, of_decide_eq_true h, eq_of_beq hn⟩)
theorem rq_goto_w {j n : Nat} {v : Int} {raw : Instr} (h : ldB j (.goto_w v) raw = true) (hn : lenB raw n = true) : ∃ a, raw = .lconst a ∧ Int64.ofNat a.val = Int64.ofInt v ∧ n = 1 := by
  cases raw <;> first | exact absurd h Bool.false_ne_true | exact ⟨_, rfl, of_decide_eq_true h, eq_of_beq hn⟩
theorem rq_goto {j n : Nat} {v : Int} {raw : Instr} (h : ldB j (.goto v) raw = true) (hn : lenB raw n = true) : ∃ a, raw = .goto a ∧ (j : Int) + a = (v.toNat : Int) ∧ n = 3 := by
  cases raw <;> first | exact absurd h Bool.false_ne_true | exact ⟨_, rfl, of_decide_eq_true h, eq_of_beq hn⟩
theorem rq_ifnull {j n : Nat} {v : Int} {raw : Instr} (h : ldB j (.ifnull v) raw = true) (hn : lenB raw n = true) : ∃ a, raw = .ifnull a ∧ (j : Int) + a = (v.toNat : Int) ∧ n = 3 := by
  cases raw <;> first | exact absurd h Bool.false_ne_true | exact ⟨_, rfl, of_decide_eq_true h, eq_of_beq hn⟩
theorem rq_ifnonnull {j n : Nat} {v : Int} {raw : Instr} (h : ldB j (.ifnonnull v) raw = true) (hn : lenB raw n = true) : ∃ a, raw = .ifnonnull a ∧ (j : Int) + a = (v.toNat : Int) ∧ n = 3 := by
  cases raw <;> first | exact absurd h Bool.false_ne_true | exact ⟨_, rfl, of_decide_eq_true h, eq_of_beq hn⟩
theorem rq_if_icmp {j n : Nat} {d : ClassFile.Cond} {v : Int} {raw : Instr} (h : ldB j (.if_icmp d v) raw = true) (hn : lenB raw n = true) : ∃ a, raw = .if_icmp d a ∧ (j : Int) + a = (v.toNat : Int) ∧ n = 3 := by
  cases raw <;> first | exact absurd h Bool.false_ne_true | skip
  rename_i d2 o2
  have h2 : (decide (d2 = d) && decide ((j : Int) + o2 = (v.toNat : Int))) = true := h
  rw [Bool.and_eq_true, decide_eq_true_eq, decide_eq_true_eq] at h2
  exact ⟨o2, by rw [h2.1], h2.2, eq_of_beq hn⟩
theorem rq_ifCond {j n : Nat} {d : ClassFile.Cond} {v : Int} {raw : Instr} (h : ldB j (.ifCond d v) raw = true) (hn : lenB raw n = true) : ∃ a, raw = .ifCond d a ∧ (j : Int) + a = (v.toNat : Int) ∧ n = 3 := by
  cases raw <;> first | exact absurd h Bool.false_ne_true | skip
  rename_i d2 o2
  have h2 : (decide (d2 = d) && decide ((j : Int) + o2 = (v.toNat : Int))) = true := h
  rw [Bool.and_eq_true, decide_eq_true_eq, decide_eq_true_eq] at h2
  exact ⟨o2, by rw [h2.1], h2.2, eq_of_beq hn⟩
theorem rq_iinc {j n b : Nat} {v : Int} {raw : Instr} (h : ldB j (.iinc b v) raw = true) (hn : lenB raw n = true) : raw = .iinc b v ∧ n = 3 := by
  cases raw <;> first | exact absurd h Bool.false_ne_true | skip
  rename_i d2 o2
  have h2 : (decide (d2 = b) && decide (o2 = v)) = true := h
  rw [Bool.and_eq_true, decide_eq_true_eq, decide_eq_true_eq] at h2
  exact ⟨by rw [h2.1, h2.2], eq_of_beq hn⟩
theorem rq_baload {j n : Nat} {raw : Instr} (h : ldB j .baload raw = true) (hn : lenB raw n = true) : raw = .baload ∧ n = 1 := by
  cases raw <;> first | exact absurd h Bool.false_ne_true | exact ⟨rfl, eq_of_beq hn⟩
theorem rq_caload {j n : Nat} {raw : Instr} (h : ldB j .caload raw = true) (hn : lenB raw n = true) : raw = .baload ∧ n = 1 := by
  cases raw <;> first | exact absurd h Bool.false_ne_true | exact ⟨rfl, eq_of_beq hn⟩
theorem rq_bastore {j n : Nat} {raw : Instr} (h : ldB j .bastore raw = true) (hn : lenB raw n = true) : raw = .bastore ∧ n = 1 := by
  cases raw <;> first | exact absurd h Bool.false_ne_true | exact ⟨rfl, eq_of_beq hn⟩
theorem rq_castore {j n : Nat} {raw : Instr} (h : ldB j .castore raw = true) (hn : lenB raw n = true) : raw = .bastore ∧ n = 1 := by
  cases raw <;> first | exact absurd h Bool.false_ne_true | exact ⟨rfl, eq_of_beq hn⟩
theorem rq_newarray {j n : Nat} {b : ClassFile.ArrayType} {raw : Instr} (h : ldB j (.newarray b) raw = true) (hn : lenB raw n = true) : raw = .newarray b ∧ (b = .int ∨ b = .boolean ∨ b = .byte ∨ b = .long) ∧ n = 2 := by
  cases raw <;> first | exact absurd h Bool.false_ne_true | skip
  rename_i a
  have h2 : (decide (a = b) && (decide (a = .int) || decide (a = .boolean) || decide (a = .byte) || decide (a = .long))) = true := h
  rw [Bool.and_eq_true, decide_eq_true_eq] at h2
  obtain ⟨rfl, h3⟩ := h2
  refine ⟨rfl, ?_, eq_of_beq hn⟩
  simp only [Bool.or_eq_true, decide_eq_true_eq] at h3
  rcases h3 with ((q | q) | q) | q
  · exact Or.inl q
  · exact Or.inr (Or.inl q)
  · exact Or.inr (Or.inr (Or.inl q))
  · exact Or.inr (Or.inr (Or.inr q))
theorem rq_tableswitch {j : Nat} {e lo hi : Int} {ts : Array Int} {raw : Instr} (h : ldB j (.tableswitch e lo hi ts) raw = true) : ∃ d offs, raw = .tableswitch d lo hi offs ∧ lo + (offs.size : Int) = hi + 1 ∧ -1000 ≤ lo ∧ hi ≤ 1000 ∧ (j : Int) + d = (e.toNat : Int) ∧ offs.toList.map (fun o => (j : Int) + o) = ts.toList.map (fun t => (t.toNat : Int)) := by
  cases raw <;> first | exact absurd h Bool.false_ne_true | skip
  simp only [ldB, Bool.and_eq_true, decide_eq_true_eq] at h
  obtain ⟨⟨⟨⟨⟨⟨h1, h2⟩, h3⟩, h4⟩, h5⟩, h6⟩, h7⟩ := h
  subst h1; subst h2
  exact ⟨_, _, rfl, h3, h4, h5, h6, h7⟩
