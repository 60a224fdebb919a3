/-! ===== tokens over the heap ===== -/
theorem vw13 (c : Nat) (hc : c < 13) : (lnth vwX ("", TX13, 0) c).2.2 = nfc c := by
  match c, hc with
  | 0, _ => rfl
  | 1, _ => rfl
  | 2, _ => rfl
  | 3, _ => rfl
  | 4, _ => rfl
  | 5, _ => rfl
  | 6, _ => rfl
  | 7, _ => rfl
  | 8, _ => rfl
  | 9, _ => rfl
  | 10, _ => rfl
  | 11, _ => rfl
  | 12, _ => rfl
  | c + 13, h => omega
theorem lkO_0 {raw i : Instr} {a : Nat} (h : lkO raw i = some (0, a)) : raw = .getfield a := by
  unfold lkO at h
  split at h <;> first | (cases h; rfl) | cases h
theorem lkO_1 {raw i : Instr} {a : Nat} (h : lkO raw i = some (1, a)) : raw = .putfield a := by
  unfold lkO at h
  split at h <;> first | (cases h; rfl) | cases h
theorem lkO_3 {raw i : Instr} {a : Nat} (h : lkO raw i = some (3, a)) : raw = .invokespecial a := by
  unfold lkO at h
  split at h <;> first | (cases h; rfl) | cases h
theorem lkO_4 {raw i : Instr} {a : Nat} (h : lkO raw i = some (4, a)) : raw = .invokestatic a := by
  unfold lkO at h
  split at h <;> first | (cases h; rfl) | cases h
theorem lkO_5 {raw i : Instr} {a : Nat} (h : lkO raw i = some (5, a)) : raw = .new a := by
  unfold lkO at h
  split at h <;> first | (cases h; rfl) | cases h
theorem lkO_6 {raw i : Instr} {a : Nat} (h : lkO raw i = some (6, a)) : raw = .anewarray a := by
  unfold lkO at h
  split at h <;> first | (cases h; rfl) | cases h
theorem lkO_7 {raw i : Instr} {a : Nat} (h : lkO raw i = some (7, a)) : raw = .ldc a := by
  unfold lkO at h
  split at h <;> first | (cases h; rfl) | cases h
theorem lkO_8 {raw i : Instr} {a : Nat} (h : lkO raw i = some (8, a)) : raw = .ldc2_w a := by
  unfold lkO at h
  split at h <;> first | (cases h; rfl) | cases h
theorem lkO_9 {raw i : Instr} {a : Nat} (h : lkO raw i = some (9, a)) : raw = .getstatic a := by
  unfold lkO at h
  split at h <;> first | (cases h; rfl) | cases h
theorem lkO_17 {raw i : Instr} {a : Nat} (h : lkO raw i = some (17, a)) : raw = .ldc_w a := by
  unfold lkO at h
  split at h <;> first | (cases h; rfl) | cases h
theorem lkO_2 {raw i : Instr} {a : Nat} (h : lkO raw i = some (2, a)) : raw = .invokevirtual a := by
  unfold lkO at h
  split at h <;> first | (cases h; rfl) | cases h
theorem lkO_12 {raw i : Instr} {a : Nat} (h : lkO raw i = some (12, a)) : raw = .invokevirtual a := by
  unfold lkO at h
  split at h <;> first | (cases h; rfl) | cases h
theorem lkO_10 {raw i : Instr} {a : Nat} (h : lkO raw i = some (10, a)) : raw = .multianewarray a 2 := by
  unfold lkO at h
  split at h <;> first | (cases h; rfl) | cases h
theorem lkO_no {raw i : Instr} {g a : Nat} (h : lkO raw i = some (g, a)) : g ≠ 11 ∧ g ≠ 13 ∧ g ≠ 14 ∧ g ≠ 15 := by
  unfold lkO at h
  split at h <;> first | (cases h; decide) | cases h
theorem li_getfield {own : String} {g i p : Nat} {w : Nat} (h : lkB own (g, i, p, .getfield w) = true) : (g = 0 ∧ (tb p (.fieldLink own i (ftb (w / 256) (w % 256)).1 (ftb (w / 256) (w % 256)).2.1 (ftb (w / 256) (w % 256)).2.2.1) && decide (w / 256 < 14) && decide (w % 256 < (lnth vwX ("", TX13, 0) (w / 256)).2.2) && !isR (w / 256) (w % 256)) = true) := by
  unfold lkB at h
  split at h
  all_goals first | exact absurd h Bool.false_ne_true | (rename_i heq; cases heq <;> first | exact ⟨rfl, h⟩)
theorem li_getstatic {own : String} {g i p : Nat} {w : Nat} (h : lkB own (g, i, p, .getstatic w) = true) : (g = 0 ∧ (tb p (.fieldLink own i (ftb (w / 256) (w % 256)).1 (ftb (w / 256) (w % 256)).2.1 (ftb (w / 256) (w % 256)).2.2.1) && decide (w / 256 < 14) && decide (w % 256 < (lnth vwX ("", TX13, 0) (w / 256)).2.2) && isR (w / 256) (w % 256)) = true) := by
  unfold lkB at h
  split at h
  all_goals first | exact absurd h Bool.false_ne_true | (rename_i heq; cases heq <;> first | exact ⟨rfl, h⟩)
theorem li_putfield {own : String} {g i p : Nat} {w : Nat} (h : lkB own (g, i, p, .putfield w) = true) : (g = 1 ∧ (tb p (.fieldLink own i (ftb (w / 256) (w % 256)).1 (ftb (w / 256) (w % 256)).2.1 (ftb (w / 256) (w % 256)).2.2.1) && decide (w / 256 < 13) && decide (w % 256 < nfc (w / 256)) && decide (tyO (w / 256) (w % 256) = .int) && !(ftb (w / 256) (w % 256)).2.2.2) = true) ∨ (g = 11 ∧ (tb p (.fieldLink own i (ftb (w / 256) (w % 256)).1 (ftb (w / 256) (w % 256)).2.1 (ftb (w / 256) (w % 256)).2.2.1) && decide (w / 256 < 13) && decide (w % 256 < nfc (w / 256)) && decide (tyO (w / 256) (w % 256) = .int) && (ftb (w / 256) (w % 256)).2.2.2 && decide (own = cnm (w / 256)) && decide ((ftb (w / 256) (w % 256)).1 = own)) = true) := by
  unfold lkB at h
  split at h
  all_goals first | exact absurd h Bool.false_ne_true | (rename_i heq; cases heq <;> first | exact Or.inl ⟨rfl, h⟩ | exact Or.inr (⟨rfl, h⟩))
theorem li_putstatic {own : String} {g i p : Nat} {w : Nat} (h : lkB own (g, i, p, .putstatic w) = true) : (g = 1 ∧ (tb p (.fieldLink own i (ftb (w / 256) (w % 256)).1 (ftb (w / 256) (w % 256)).2.1 (ftb (w / 256) (w % 256)).2.2.1) && decide (w / 256 < 13) && decide (w % 256 < nfc (w / 256)) && isR (w / 256) (w % 256) && !(ftb (w / 256) (w % 256)).2.2.2) = true) ∨ (g = 11 ∧ (tb p (.fieldLink own i (ftb (w / 256) (w % 256)).1 (ftb (w / 256) (w % 256)).2.1 (ftb (w / 256) (w % 256)).2.2.1) && decide (w / 256 < 13) && decide (w % 256 < nfc (w / 256)) && isR (w / 256) (w % 256) && (ftb (w / 256) (w % 256)).2.2.2 && decide (own = cnm (w / 256)) && decide ((ftb (w / 256) (w % 256)).1 = own)) = true) := by
  unfold lkB at h
  split at h
  all_goals first | exact absurd h Bool.false_ne_true | (rename_i heq; cases heq <;> first | exact Or.inl ⟨rfl, h⟩ | exact Or.inr (⟨rfl, h⟩))
theorem li_fstore {own : String} {g i p : Nat} {w : Nat} (h : lkB own (g, i, p, .fstore w) = true) : (g = 1 ∧ (tb p (.fieldLink own i (ftb (w / 256) (w % 256)).1 (ftb (w / 256) (w % 256)).2.1 (ftb (w / 256) (w % 256)).2.2.1) && decide (w / 256 < 13) && decide (w % 256 < nfc (w / 256)) && decide (tyO (w / 256) (w % 256) = .boolean) && !(ftb (w / 256) (w % 256)).2.2.2) = true) := by
  unfold lkB at h
  split at h
  all_goals first | exact absurd h Bool.false_ne_true | (rename_i heq; cases heq <;> first | exact ⟨rfl, h⟩)
theorem li_invokevirtual {own : String} {g i p : Nat} {w : Nat} (h : lkB own (g, i, p, .invokevirtual w) = true) : (g = 2 ∧ (tb p (.methodLink own i (mY (w / 10000))) && decide (mG (w / 10000) = 1) && decide (w / 100 % 100 = mN (w / 10000)) && decide (w % 100 < 14) && decide (cnm (w % 100) = (mY (w / 10000)).cls)) = true) ∨ (g = 3 ∧ (tb p (.methodLink own i (mY (w / 10000))) && decide (mG (w / 10000) = 2) && decide (w / 100 % 100 = mN (w / 10000)) && decide (w % 100 < 14)) = true) := by
  unfold lkB at h
  split at h
  all_goals first | exact absurd h Bool.false_ne_true | (rename_i heq; cases heq <;> first | exact Or.inl ⟨rfl, h⟩ | exact Or.inr (⟨rfl, h⟩))
theorem li_invokeinterface {own : String} {g i p : Nat} {k : Nat} {n : Nat} (h : lkB own (g, i, p, .invokeinterface k n) = true) : (g = 4 ∧ (tb p (.methodLink own i (mY k)) && decide (mG k = 0) && decide (n = mN k)) = true) ∨ (g = 14 ∧ (decide (Cond.methodLinkNest own i (mY k) "TreeTalk" ∈ nestW) && decide (mG k = 0) && decide (n = mN k) && decide (mH k = [])) = true) := by
  unfold lkB at h
  split at h
  all_goals first | exact absurd h Bool.false_ne_true | (rename_i heq; cases heq <;> first | exact Or.inl ⟨rfl, h⟩ | exact Or.inr (⟨rfl, h⟩))
theorem li_invokedynamic {own : String} {g i p : Nat} {w : Nat} (h : lkB own (g, i, p, .invokedynamic w) = true) : (g = 12 ∧ (tb p (.methodLink own i (mY (w / 1000000))) && decide (mG (w / 1000000) = 1) && decide (w / 1000 % 1000 = mN (w / 1000000)) && decide (own = "TreeTalkLaw") && decide (mH (w / 1000000) = []) && decide ((mY (w / 1000000)).cls = "TreeTalk")) = true) := by
  unfold lkB at h
  split at h
  all_goals first | exact absurd h Bool.false_ne_true | (rename_i heq; cases heq <;> first | exact ⟨rfl, h⟩)
theorem li_monitorenter {own : String} {g i p : Nat} (h : lkB own (g, i, p, .monitorenter) = true) : (g = 4 ∧ (tb p (.methodLink own i arraycopyName)) = true) := by
  unfold lkB at h
  split at h
  all_goals first | exact absurd h Bool.false_ne_true | (rename_i heq; cases heq <;> first | exact ⟨rfl, h⟩)
theorem li_fadd {own : String} {g i p : Nat} (h : lkB own (g, i, p, .fadd) = true) : (g = 4 ∧ (tb p (.methodLink own i Lib.Math.max.name)) = true) := by
  unfold lkB at h
  split at h
  all_goals first | exact absurd h Bool.false_ne_true | (rename_i heq; cases heq <;> first | exact ⟨rfl, h⟩)
theorem li_fsub {own : String} {g i p : Nat} (h : lkB own (g, i, p, .fsub) = true) : (g = 4 ∧ (tb p (.methodLink own i Lib.Math.min.name)) = true) := by
  unfold lkB at h
  split at h
  all_goals first | exact absurd h Bool.false_ne_true | (rename_i heq; cases heq <;> first | exact ⟨rfl, h⟩)
theorem li_dadd {own : String} {g i p : Nat} (h : lkB own (g, i, p, .dadd) = true) : (g = 4 ∧ (tb p (.methodLink own i Lib.MathLoose.max_long.x)) = true) := by
  unfold lkB at h
  split at h
  all_goals first | exact absurd h Bool.false_ne_true | (rename_i heq; cases heq <;> first | exact ⟨rfl, h⟩)
theorem li_dsub {own : String} {g i p : Nat} (h : lkB own (g, i, p, .dsub) = true) : (g = 4 ∧ (tb p (.methodLink own i Lib.MathLoose.min_long.x)) = true) := by
  unfold lkB at h
  split at h
  all_goals first | exact absurd h Bool.false_ne_true | (rename_i heq; cases heq <;> first | exact ⟨rfl, h⟩)
theorem li_new {own : String} {g i p : Nat} {w : Nat} (h : lkB own (g, i, p, .new w) = true) : (g = 5 ∧ (tb p (.classLink own i (cnm w)) && decide (w < 13)) = true) := by
  unfold lkB at h
  split at h
  all_goals first | exact absurd h Bool.false_ne_true | (rename_i heq; cases heq <;> first | exact ⟨rfl, h⟩)
theorem li_anewarray {own : String} {g i p : Nat} {w : Nat} (h : lkB own (g, i, p, .anewarray w) = true) : (g = 6 ∧ (tb p (.classLink own i (elm w)) && decide (4 ≤ w) && decide (w ≤ 6)) = true) := by
  unfold lkB at h
  split at h
  all_goals first | exact absurd h Bool.false_ne_true | (rename_i heq; cases heq <;> first | exact ⟨rfl, h⟩)
theorem li_ldc {own : String} {g i p : Nat} {w : Nat} (h : lkB own (g, i, p, .ldc w) = true) : (g = 7 ∧ (strL.any (fun q => decide (q.1 = own) && decide (q.2.1 = i) && decide (q.2.2.1 = w))) = true) ∨ (g = 17 ∧ (strL.any (fun q => decide (q.1 = own) && decide (q.2.1 = i) && decide (q.2.2.1 = w))) = true) := by
  unfold lkB at h
  split at h
  all_goals first | exact absurd h Bool.false_ne_true | (rename_i heq; cases heq <;> first | exact Or.inl ⟨rfl, h⟩ | exact Or.inr (⟨rfl, h⟩))
theorem li_bipush {own : String} {g i p : Nat} {v : Int} (h : lkB own (g, i, p, .bipush v) = true) : (g = 7 ∧ (tb p (.constant own i (Int32.ofInt v))) = true) ∨ (g = 17 ∧ (tb p (.constant own i (Int32.ofInt v))) = true) := by
  unfold lkB at h
  split at h
  all_goals first | exact absurd h Bool.false_ne_true | (rename_i heq; cases heq <;> first | exact Or.inl ⟨rfl, h⟩ | exact Or.inr (⟨rfl, h⟩))
theorem li_jsr_w {own : String} {g i p : Nat} {v : Int} (h : lkB own (g, i, p, .jsr_w v) = true) : (g = 8 ∧ (tb p (.constantLong own i (Int64.ofInt v))) = true) := by
  unfold lkB at h
  split at h
  all_goals first | exact absurd h Bool.false_ne_true | (rename_i heq; cases heq <;> first | exact ⟨rfl, h⟩)
theorem li_multianewarray {own : String} {g i p : Nat} {v : Nat} {w : Nat} (h : lkB own (g, i, p, .multianewarray v w) = true) : (g = 10 ∧ (tb p (.classLink own i "[[I")) = true) := by
  unfold lkB at h
  split at h
  all_goals first | exact absurd h Bool.false_ne_true | (rename_i heq; cases heq <;> first | exact ⟨rfl, h⟩)
theorem li_dload {own : String} {g i p w : Nat} (h : lkB own (g, i, p, .dload w) = true) : g = 9 ∧ tb p (.fieldLink own i "java/lang/String" "COMPACT_STRINGS" "Z") = true := by
  unfold lkB at h
  split at h
  all_goals first | exact absurd h Bool.false_ne_true | (rename_i heq; cases heq <;> exact ⟨rfl, h⟩)
theorem li_fload {own : String} {g i p w : Nat} (h : lkB own (g, i, p, .fload w) = true) : g = 9 ∧ tb p (.fieldLink own i "jdk/internal/util/Preconditions" "SIOOBE_FORMATTER" "Ljava/util/function/BiFunction;") = true := by
  unfold lkB at h
  split at h
  all_goals first | exact absurd h Bool.false_ne_true | (rename_i heq; cases heq <;> exact ⟨rfl, h⟩)
theorem li_nop {own : String} {g i p : Nat} (h : lkB own (g, i, p, .nop) = true) : (g = 3 ∧ tb p (.methodLink own i Lib.objectInit) = true) ∨ g = 13 ∨ g = 15 := by
  unfold lkB at h
  split at h
  all_goals first | exact absurd h Bool.false_ne_true | (rename_i heq; cases heq <;> first | exact Or.inl ⟨rfl, h⟩ | exact Or.inr (Or.inl rfl) | exact Or.inr (Or.inr rfl))
section SND3
variable {p : Program} {l : Launch} {e : Env} {R : Room} {s : State} {m : MethodId} {args : Array Value} {below : List Frame} {meth : Method} {c : Code} {FQ : State → Prop} {G : GG} {k mc ms d : Nat}
variable {C : Nat → List Value → AH → Nat → Nat → (Option (Option Value) → AH → Prop) → Prop} {Q : Option (Option Value) → AH → Prop} {pc n : Nat} {ls : LL} {st : List Value} {h : AH} {c1 z1 : Nat} {K : LL → List Value → AH → Nat → Nat → Prop}
/-- the read of a field, whatever it holds -/
theorem fld_get {Q2 : State → Prop} {H : Heap} {locs : List Loc} {mls : Array Slot} {rest : List Value} (hx : p.tables.exec = Jvm.exec) (hb : c.code = mB k) {own : String} {i : Nat} (hown : s.vm.findClass own = some m.cls) (hts : ∀ w ∈ gw, w.before args s = true) (hSU : SU G s) (hROs : RO G s s.heap) (hS : va_S (gZ G) s.heap H locs) (hRW : RW G h H) (hRO : ROH (gL G) (gX G) h) {a cc k0 : Nat} (hc : cc < 14) (hk0 : k0 < (lnth vwX ("", TX13, 0) cc).2.2) (hk : gk h a = some (.inl cc)) (hw : Cond.fieldLink own i (ftb cc k0).1 (ftb cc k0).2.1 (ftb cc k0).2.2.1 ∈ gw) (hd : decode (mB k) pc = .ok (.getfield i, 3))
    (kk : W p l e R s m args below meth c H locs c1 z1 Q2 (F0 m (pc + 3) mls (fv G h a cc k0 :: rest))) : W p l e R s m args below meth c H locs c1 z1 Q2 (F0 m pc mls (.ref (gA G a) :: rest)) := by
  by_cases h13 : cc < 13
  · rw [vw13 cc h13] at hk0
    obtain ⟨ha, -, cell, q1, q2, q3, q4⟩ := ob_cell hRW hRO h13 hk
    obtain ⟨hSl, hfc, kC, hkC, hkind⟩ := hSU.1.1 cc _ (vw_at cc h13)
    obtain ⟨cf, kf, fi, f, hi, hsl⟩ := hSl k0 hk0
    refine W.getf hx hb hown (hts _ hw) hi (u_facts hfc hkC (u_lays hts (lay_in cc h13) hk0) hi).1 q1 (by rw [q3]; exact fun h => by cases h) (v := fv G h a cc k0) ?_ rfl rfl hd kk
    rw [hsl]
    exact q4 k0 hk0
  · have e13 : cc = 13 := by omega
    subst e13
    obtain ⟨j, hj, rfl⟩ := st_ob hRW hRO hk
    obtain ⟨r1, r2, r3, r4, r5⟩ := hRO.1 j hj
    obtain ⟨o1, o2, o3, o4⟩ := hROs.1.1 j hj
    have hk2 : k0 < 2 := hk0
    rcases (by omega : k0 = 0 ∨ k0 = 1) with rfl | rfl
    · have ev : fv G h (2 * j) 13 0 = .ref (gA G (2 * j + 1)) := by
        simp only [fv]
        rw [if_pos (by rfl), r3]
        rfl
      rw [ev] at kk
      exact vk_getf hx hb o3 hS hown (hts _ hw) (fun _ z => z) hd kk
    · have ev : fv G h (2 * j) 13 1 = .int 0 := by
        simp only [fv]
        rw [if_neg (by decide), r4]
      rw [ev] at kk
      exact vk_getf hx hb o2 hS hown (hts _ hw) (fun _ z => z) hd kk
set_option maxRecDepth 20000 in
theorem tk_getfield {w : Nat} (F : Fra p l e R s m args meth c G k mc ms d) (hi : insB (mB k) (mT k) (ini k) pc (.getfield w) n = true) (hK : ∀ ls st h c1 z1, K ls st h c1 z1 → MP p l e R s m args below meth c FQ G k mc ms (pc + n) ls st h c1 z1) (hs : stp C mc ms (MP p l e R s m args below meth c FQ G k mc ms) Q (.getfield w) ls st h c1 z1 K) : MP p l e R s m args below meth c FQ G k mc ms pc ls st h c1 z1 := by
  intro hc hz H locs mls hRW hRO hS hl
  obtain ⟨hx, hb, hml, hown, hts, hSU, hROs, hA, hBs, hRc, hRs, hRf, hRl, hini⟩ := F
  obtain ⟨raw, g, a0, g', pl, hd, hn, ht, ho, hg, hq⟩ := inv_lk hi rfl
  obtain ⟨a, r, rfl, hk, hs⟩ := s1A_inv hs
  replace hq := li_getfield hq
  have hgg : g = 0 := by
    rcases hg with rfl | ⟨-, -, rfl⟩ | ⟨-, rfl⟩
    · exact hq.1
    · exact absurd hq.1 (by decide)
    · exact absurd hq.1 (by decide)
  subst hgg
  have hq2 := hq.2
  simp only [Bool.and_eq_true, decide_eq_true_eq, Bool.not_eq_true'] at hq2
  obtain ⟨⟨⟨hq1, hq2⟩, hq3⟩, hq4⟩ := hq2
  have er := lkO_0 ho
  subst er
  have en : n = 3 := eq_of_beq hn
  subst en
  have ev : fv G h a (w / 256) (w % 256) = .int (gi h a (w % 256)) := by
    simp only [fv]
    rw [if_neg (by rw [hq4]; exact Bool.false_ne_true)]
  refine fld_get hx hb (hown ht) hts hSU hROs hS hRW hRO hq2 hq3 hk (tb_in hq1) hd ?_
  rw [ev]
  exact hK _ _ _ _ _ hs hc hz H locs mls hRW hRO hS hl
set_option maxRecDepth 20000 in
theorem tk_getstatic {w : Nat} (F : Fra p l e R s m args meth c G k mc ms d) (hi : insB (mB k) (mT k) (ini k) pc (.getstatic w) n = true) (hK : ∀ ls st h c1 z1, K ls st h c1 z1 → MP p l e R s m args below meth c FQ G k mc ms (pc + n) ls st h c1 z1) (hs : stp C mc ms (MP p l e R s m args below meth c FQ G k mc ms) Q (.getstatic w) ls st h c1 z1 K) : MP p l e R s m args below meth c FQ G k mc ms pc ls st h c1 z1 := by
  intro hc hz H locs mls hRW hRO hS hl
  obtain ⟨hx, hb, hml, hown, hts, hSU, hROs, hA, hBs, hRc, hRs, hRf, hRl, hini⟩ := F
  obtain ⟨raw, g, a0, g', pl, hd, hn, ht, ho, hg, hq⟩ := inv_lk hi rfl
  obtain ⟨a, r, rfl, hk, hs⟩ := s1A_inv hs
  replace hq := li_getstatic hq
  have hgg : g = 0 := by
    rcases hg with rfl | ⟨-, -, rfl⟩ | ⟨-, rfl⟩
    · exact hq.1
    · exact absurd hq.1 (by decide)
    · exact absurd hq.1 (by decide)
  subst hgg
  have hq2 := hq.2
  simp only [Bool.and_eq_true, decide_eq_true_eq, Bool.not_eq_true'] at hq2
  obtain ⟨⟨⟨hq1, hq2⟩, hq3⟩, hq4⟩ := hq2
  have er := lkO_0 ho
  subst er
  have en : n = 3 := eq_of_beq hn
  subst en
  have ev : fv G h a (w / 256) (w % 256) = tv G (va_rf (gr h a (w % 256))) := by
    simp only [fv]
    rw [if_pos hq4]
  refine fld_get hx hb (hown ht) hts hSU hROs hS hRW hRO hq2 hq3 hk (tb_in hq1) hd ?_
  rw [ev]
  exact hK _ _ _ _ _ hs hc hz H locs mls hRW hRO hS hl
set_option maxRecDepth 20000 in
theorem tk_putfield {w : Nat} (F : Fra p l e R s m args meth c G k mc ms d) (hi : insB (mB k) (mT k) (ini k) pc (.putfield w) n = true) (hK : ∀ ls st h c1 z1, K ls st h c1 z1 → MP p l e R s m args below meth c FQ G k mc ms (pc + n) ls st h c1 z1) (hs : stp C mc ms (MP p l e R s m args below meth c FQ G k mc ms) Q (.putfield w) ls st h c1 z1 K) : MP p l e R s m args below meth c FQ G k mc ms pc ls st h c1 z1 := by
  intro hc hz H locs mls hRW hRO hS hl
  obtain ⟨hx, hb, hml, hown, hts, hSU, hROs, hA, hBs, hRc, hRs, hRf, hRl, hini⟩ := F
  obtain ⟨raw, g, a0, g', pl, hd, hn, ht, ho, hg, hq⟩ := inv_lk hi rfl
  obtain ⟨x, r0, rfl, hs1⟩ := s1I_inv hs
  clear hs
  obtain ⟨a, r, rfl, ⟨hk, ha⟩, hs⟩ := s1A_inv hs1
  replace hq := li_putfield hq
  have core : ∀ (fin : Bool), (if fin = true then g' = 11 else g' = 1) → tb pl (.fieldLink (lto (mT k)).1 a0 (ftb (w / 256) (w % 256)).1 (ftb (w / 256) (w % 256)).2.1 (ftb (w / 256) (w % 256)).2.2.1) = true → w / 256 < 13 → w % 256 < nfc (w / 256) → tyO (w / 256) (w % 256) = .int → (ftb (w / 256) (w % 256)).2.2.2 = fin → (fin = true → ini k = true ∧ (ftb (w / 256) (w % 256)).1 = (lto (mT k)).1) → W p l e R s m args below meth c H locs c1 z1 FQ (F0 m pc mls (List.map (tv G) (.int x :: .ref a :: r))) := by
    intro fin hg1 hq1 hc13 hk0 hty hfin hfi
    have er : raw = .putfield a0 := by
      have hno := lkO_no ho
      have : g = 1 := by
        rcases hg with rfl | ⟨-, h1, -⟩ | ⟨h4, h5⟩
        · cases fin with
          | true => exact absurd hg1 hno.1
          | false => exact hg1
        · exact h1
        · rw [h5] at hg1
          cases fin <;> exact absurd hg1 (by decide)
      subst this
      exact lkO_1 ho
    subst er
    have en : n = 3 := eq_of_beq hn
    subst en
    obtain ⟨-, -, cell, q1, q2, q3, q4⟩ := ob_cell hRW hRO hc13 hk
    obtain ⟨hSl, hfc, kC, hkC, hkind⟩ := hSU.1.1 (w / 256) _ (vw_at (w / 256) hc13)
    obtain ⟨cf, kf, fi, f, hif, hsl⟩ := hSl (w % 256) hk0
    have hlay := hts _ (lay_in (w / 256) hc13 _ (u_in_lay hk0))
    unfold u_lay at hlay
    have hst := (u_facts hfc hkC (u_lays hts (lay_in (w / 256) hc13) hk0) hif).1
    have hpd := tyO_ok (w / 256) hc13 (w % 256) hk0
    have hvs : ∀ j, j < nfc (w / 256) → updV (fv G h a (w / 256)) (w % 256) (.int x) j = fv G (wi h a (w % 256) x) a (w / 256) j := by
      intro j hj
      have e1 : gi (wi h a (w % 256) x) a = up (gi h a) (w % 256) x := up_self _ _ _
      have e2 : gr (wi h a (w % 256) x) a = gr h a := rfl
      simp only [updV, fv, e1, e2]
      by_cases ej : j = w % 256
      · subst ej
        rw [if_pos rfl, if_neg (by rw [isR, hty]; exact Bool.false_ne_true), up_self]
      · rw [if_neg ej, up_ne _ _ ej]
    have hnar : narrow (tyO (w / 256) (w % 256)) (.int x) = .int x := by
      rw [hty]
      exact rfl
    have hfits : fits (tyO (w / 256) (w % 256)) (.int x) = true := by
      rw [hty]
      exact rfl
    have goal : ∀ H' : Heap, H'[gA G a]? = some (cell.setSlot f.slot (.int x)) → H'.size = H.size → (∀ q, q ≠ gA G a → H'[q]? = H[q]?) → W p l e R s m args below meth c H' (locs ++ [⟨gA G a, f.slot⟩]) c1 z1 FQ (F0 m (pc + 3) mls (r.map (tv G))) := by
      intro H' e1 e2 e3
      rw [hsl] at e1
      have hRW' : RW G (wi h a (w % 256) x) H' := RW_fld hts hSU hA hRW hc13 hk0 ha hk q1 q2 q3 q4 e1 e2 e3 rfl rfl (fun i hi => up_ne _ _ hi) (fun _ _ => rfl) (fun _ _ => rfl) hvs
      exact hK _ _ _ _ _ hs hc hz H' _ mls hRW' (ROH_wi hRO ha) (hS.put e2 e3 (adf_in hA ha)) hl
    cases fin with
    | false =>
      rw [if_neg (by rw [hfin]; exact Bool.false_ne_true)] at hlay
      have h6 := u_store hfc hkC hkind hlay hif hpd hnar hfits
      exact W.putK hx hb (f := f) ⟨hown ht, hts _ (tb_in hq1), ⟨_, _, _, hif⟩, hst⟩ (by rw [q2]; exact h6) q1 q3 (by rw [hsl]; exact k2_hasslot (q4 _ hk0)) rfl rfl hd goal
    | true =>
      obtain ⟨hi1, hi2⟩ := hfi rfl
      rw [if_pos hfin] at hlay
      have hcf : m.cls = cf := by
        obtain ⟨_, _, c', _, _, _, -, -, hf', -, -, -, hown2, -⟩ := Cond.laysFinal_spec hlay
        have e1 : c' = cf := by have := hif.symm.trans hf'; simp at this; exact this.1.symm
        rw [hi2] at hown2
        rw [← e1]; exact Option.some.inj ((hown ht).symm.trans hown2)
      have h6 := u_fits hfc hkC hkind (Or.inr hlay) hif hpd hnar hfits
      exact W.putFinK hx hb (hown ht) (hts _ (tb_in hq1)) hif hst hcf (hini hi1) (by rw [q2]; exact h6) q1 q3 (by rw [hsl]; exact k2_hasslot (q4 _ hk0)) rfl rfl hd goal
  rcases hq with ⟨hq1, hq2⟩ | ⟨hq1, hq2⟩
  · simp only [Bool.and_eq_true, decide_eq_true_eq, Bool.not_eq_true'] at hq2
    obtain ⟨⟨⟨⟨b1, b2⟩, b3⟩, b4⟩, b5⟩ := hq2
    exact core false hq1 b1 b2 b3 b4 b5 (fun z => by cases z)
  · simp only [Bool.and_eq_true, decide_eq_true_eq] at hq2
    obtain ⟨⟨⟨⟨⟨⟨b1, b2⟩, b3⟩, b4⟩, b5⟩, b6⟩, b7⟩ := hq2
    have hin : ini k = true := by
      rcases hg with rfl | ⟨h1, -, -⟩ | ⟨h4, h5⟩
      · exact absurd hq1 (lkO_no ho).1
      · exact h1
      · rw [h5] at hq1
        cases hq1
    exact core true hq1 b1 b2 b3 b4 b5 (fun _ => ⟨hin, b7⟩)
set_option maxRecDepth 20000 in
theorem tk_putstatic {w : Nat} (F : Fra p l e R s m args meth c G k mc ms d) (hi : insB (mB k) (mT k) (ini k) pc (.putstatic w) n = true) (hK : ∀ ls st h c1 z1, K ls st h c1 z1 → MP p l e R s m args below meth c FQ G k mc ms (pc + n) ls st h c1 z1) (hs : stp C mc ms (MP p l e R s m args below meth c FQ G k mc ms) Q (.putstatic w) ls st h c1 z1 K) : MP p l e R s m args below meth c FQ G k mc ms pc ls st h c1 z1 := by
  intro hc hz H locs mls hRW hRO hS hl
  obtain ⟨hx, hb, hml, hown, hts, hSU, hROs, hA, hBs, hRc, hRs, hRf, hRl, hini⟩ := F
  obtain ⟨raw, g, a0, g', pl, hd, hn, ht, ho, hg, hq⟩ := inv_lk hi rfl
  obtain ⟨x, r0, rfl, hs1⟩ := s1R_inv hs
  clear hs
  obtain ⟨a, r, rfl, ⟨hk, ha⟩, hs⟩ := s1A_inv hs1
  replace hq := li_putstatic hq
  have core : ∀ (fin : Bool), (if fin = true then g' = 11 else g' = 1) → tb pl (.fieldLink (lto (mT k)).1 a0 (ftb (w / 256) (w % 256)).1 (ftb (w / 256) (w % 256)).2.1 (ftb (w / 256) (w % 256)).2.2.1) = true → w / 256 < 13 → w % 256 < nfc (w / 256) → isR (w / 256) (w % 256) = true → (ftb (w / 256) (w % 256)).2.2.2 = fin → (fin = true → ini k = true ∧ (ftb (w / 256) (w % 256)).1 = (lto (mT k)).1) → W p l e R s m args below meth c H locs c1 z1 FQ (F0 m pc mls (List.map (tv G) (va_rf x :: .ref a :: r))) := by
    intro fin hg1 hq1 hc13 hk0 hisr hfin hfi
    have er : raw = .putfield a0 := by
      have hno := lkO_no ho
      have : g = 1 := by
        rcases hg with rfl | ⟨-, h1, -⟩ | ⟨h4, h5⟩
        · cases fin with
          | true => exact absurd hg1 hno.1
          | false => exact hg1
        · exact h1
        · rw [h5] at hg1
          cases fin <;> exact absurd hg1 (by decide)
      subst this
      exact lkO_1 ho
    subst er
    have en : n = 3 := eq_of_beq hn
    subst en
    obtain ⟨-, -, cell, q1, q2, q3, q4⟩ := ob_cell hRW hRO hc13 hk
    obtain ⟨hSl, hfc, kC, hkC, hkind⟩ := hSU.1.1 (w / 256) _ (vw_at (w / 256) hc13)
    obtain ⟨cf, kf, fi, f, hif, hsl⟩ := hSl (w % 256) hk0
    have hlay := hts _ (lay_in (w / 256) hc13 _ (u_in_lay hk0))
    unfold u_lay at hlay
    have hst := (u_facts hfc hkC (u_lays hts (lay_in (w / 256) hc13) hk0) hif).1
    have hpd := tyO_ok (w / 256) hc13 (w % 256) hk0
    have hvs : ∀ j, j < nfc (w / 256) → updV (fv G h a (w / 256)) (w % 256) (tv G (va_rf x)) j = fv G (wr h a (w % 256) x) a (w / 256) j := by
      intro j hj
      have e1 : gr (wr h a (w % 256) x) a = up (gr h a) (w % 256) x := up_self _ _ _
      have e2 : gi (wr h a (w % 256) x) a = gi h a := rfl
      simp only [updV, fv, e1, e2]
      by_cases ej : j = w % 256
      · subst ej
        rw [if_pos rfl, if_pos hisr, up_self]
      · rw [if_neg ej, up_ne _ _ ej]
    have hnf : narrow (tyO (w / 256) (w % 256)) (tv G (va_rf x)) = tv G (va_rf x) ∧ fits (tyO (w / 256) (w % 256)) (tv G (va_rf x)) = true := by
      rw [isR] at hisr
      cases e : tyO (w / 256) (w % 256) <;> rw [e] at hisr <;> first | exact absurd hisr Bool.false_ne_true | (cases x <;> exact ⟨rfl, rfl⟩)
    obtain ⟨hnar, hfits⟩ := hnf
    have goal : ∀ H' : Heap, H'[gA G a]? = some (cell.setSlot f.slot (tv G (va_rf x))) → H'.size = H.size → (∀ q, q ≠ gA G a → H'[q]? = H[q]?) → W p l e R s m args below meth c H' (locs ++ [⟨gA G a, f.slot⟩]) c1 z1 FQ (F0 m (pc + 3) mls (r.map (tv G))) := by
      intro H' e1 e2 e3
      rw [hsl] at e1
      have hRW' : RW G (wr h a (w % 256) x) H' := RW_fld hts hSU hA hRW hc13 hk0 ha hk q1 q2 q3 q4 e1 e2 e3 rfl rfl (fun _ _ => rfl) (fun i hi => up_ne _ _ hi) (fun _ _ => rfl) hvs
      exact hK _ _ _ _ _ hs hc hz H' _ mls hRW' (ROH_wr hRO ha) (hS.put e2 e3 (adf_in hA ha)) hl
    cases fin with
    | false =>
      rw [if_neg (by rw [hfin]; exact Bool.false_ne_true)] at hlay
      have h6 := u_store hfc hkC hkind hlay hif hpd hnar hfits
      exact W.putK hx hb (f := f) ⟨hown ht, hts _ (tb_in hq1), ⟨_, _, _, hif⟩, hst⟩ (by rw [q2]; exact h6) q1 q3 (by rw [hsl]; exact k2_hasslot (q4 _ hk0)) rfl rfl hd goal
    | true =>
      obtain ⟨hi1, hi2⟩ := hfi rfl
      rw [if_pos hfin] at hlay
      have hcf : m.cls = cf := by
        obtain ⟨_, _, c', _, _, _, -, -, hf', -, -, -, hown2, -⟩ := Cond.laysFinal_spec hlay
        have e1 : c' = cf := by have := hif.symm.trans hf'; simp at this; exact this.1.symm
        rw [hi2] at hown2
        rw [← e1]; exact Option.some.inj ((hown ht).symm.trans hown2)
      have h6 := u_fits hfc hkC hkind (Or.inr hlay) hif hpd hnar hfits
      exact W.putFinK hx hb (hown ht) (hts _ (tb_in hq1)) hif hst hcf (hini hi1) (by rw [q2]; exact h6) q1 q3 (by rw [hsl]; exact k2_hasslot (q4 _ hk0)) rfl rfl hd goal
  rcases hq with ⟨hq1, hq2⟩ | ⟨hq1, hq2⟩
  · simp only [Bool.and_eq_true, decide_eq_true_eq, Bool.not_eq_true'] at hq2
    obtain ⟨⟨⟨⟨b1, b2⟩, b3⟩, b4⟩, b5⟩ := hq2
    exact core false hq1 b1 b2 b3 b4 b5 (fun z => by cases z)
  · simp only [Bool.and_eq_true, decide_eq_true_eq] at hq2
    obtain ⟨⟨⟨⟨⟨⟨b1, b2⟩, b3⟩, b4⟩, b5⟩, b6⟩, b7⟩ := hq2
    have hin : ini k = true := by
      rcases hg with rfl | ⟨h1, -, -⟩ | ⟨h4, h5⟩
      · exact absurd hq1 (lkO_no ho).1
      · exact h1
      · rw [h5] at hq1
        cases hq1
    exact core true hq1 b1 b2 b3 b4 b5 (fun _ => ⟨hin, b7⟩)
set_option maxRecDepth 20000 in
theorem tk_fstore {w : Nat} (F : Fra p l e R s m args meth c G k mc ms d) (hi : insB (mB k) (mT k) (ini k) pc (.fstore w) n = true) (hK : ∀ ls st h c1 z1, K ls st h c1 z1 → MP p l e R s m args below meth c FQ G k mc ms (pc + n) ls st h c1 z1) (hs : stp C mc ms (MP p l e R s m args below meth c FQ G k mc ms) Q (.fstore w) ls st h c1 z1 K) : MP p l e R s m args below meth c FQ G k mc ms pc ls st h c1 z1 := by
  intro hc hz H locs mls hRW hRO hS hl
  obtain ⟨hx, hb, hml, hown, hts, hSU, hROs, hA, hBs, hRc, hRs, hRf, hRl, hini⟩ := F
  obtain ⟨raw, g, a0, g', pl, hd, hn, ht, ho, hg, hq⟩ := inv_lk hi rfl
  obtain ⟨x, r0, rfl, hs1⟩ := s1I_inv hs
  clear hs
  obtain ⟨a, r, rfl, ⟨hk, ha, hx01⟩, hs⟩ := s1A_inv hs1
  replace hq := li_fstore hq
  have core : ∀ (fin : Bool), (if fin = true then g' = 11 else g' = 1) → tb pl (.fieldLink (lto (mT k)).1 a0 (ftb (w / 256) (w % 256)).1 (ftb (w / 256) (w % 256)).2.1 (ftb (w / 256) (w % 256)).2.2.1) = true → w / 256 < 13 → w % 256 < nfc (w / 256) → tyO (w / 256) (w % 256) = .boolean → (ftb (w / 256) (w % 256)).2.2.2 = fin → (fin = true → ini k = true ∧ (ftb (w / 256) (w % 256)).1 = (lto (mT k)).1) → W p l e R s m args below meth c H locs c1 z1 FQ (F0 m pc mls (List.map (tv G) (.int x :: .ref a :: r))) := by
    intro fin hg1 hq1 hc13 hk0 hty hfin hfi
    have er : raw = .putfield a0 := by
      have hno := lkO_no ho
      have : g = 1 := by
        rcases hg with rfl | ⟨-, h1, -⟩ | ⟨h4, h5⟩
        · cases fin with
          | true => exact absurd hg1 hno.1
          | false => exact hg1
        · exact h1
        · rw [h5] at hg1
          cases fin <;> exact absurd hg1 (by decide)
      subst this
      exact lkO_1 ho
    subst er
    have en : n = 3 := eq_of_beq hn
    subst en
    obtain ⟨-, -, cell, q1, q2, q3, q4⟩ := ob_cell hRW hRO hc13 hk
    obtain ⟨hSl, hfc, kC, hkC, hkind⟩ := hSU.1.1 (w / 256) _ (vw_at (w / 256) hc13)
    obtain ⟨cf, kf, fi, f, hif, hsl⟩ := hSl (w % 256) hk0
    have hlay := hts _ (lay_in (w / 256) hc13 _ (u_in_lay hk0))
    unfold u_lay at hlay
    have hst := (u_facts hfc hkC (u_lays hts (lay_in (w / 256) hc13) hk0) hif).1
    have hpd := tyO_ok (w / 256) hc13 (w % 256) hk0
    have hvs : ∀ j, j < nfc (w / 256) → updV (fv G h a (w / 256)) (w % 256) (.int x) j = fv G (wi h a (w % 256) x) a (w / 256) j := by
      intro j hj
      have e1 : gi (wi h a (w % 256) x) a = up (gi h a) (w % 256) x := up_self _ _ _
      have e2 : gr (wi h a (w % 256) x) a = gr h a := rfl
      simp only [updV, fv, e1, e2]
      by_cases ej : j = w % 256
      · subst ej
        rw [if_pos rfl, if_neg (by rw [isR, hty]; exact Bool.false_ne_true), up_self]
      · rw [if_neg ej, up_ne _ _ ej]
    have hnar : narrow (tyO (w / 256) (w % 256)) (.int x) = .int x := by
      rw [hty]
      exact (by rcases hx01 with rfl | rfl <;> rfl)
    have hfits : fits (tyO (w / 256) (w % 256)) (.int x) = true := by
      rw [hty]
      exact (by rcases hx01 with rfl | rfl <;> rfl)
    have goal : ∀ H' : Heap, H'[gA G a]? = some (cell.setSlot f.slot (.int x)) → H'.size = H.size → (∀ q, q ≠ gA G a → H'[q]? = H[q]?) → W p l e R s m args below meth c H' (locs ++ [⟨gA G a, f.slot⟩]) c1 z1 FQ (F0 m (pc + 3) mls (r.map (tv G))) := by
      intro H' e1 e2 e3
      rw [hsl] at e1
      have hRW' : RW G (wi h a (w % 256) x) H' := RW_fld hts hSU hA hRW hc13 hk0 ha hk q1 q2 q3 q4 e1 e2 e3 rfl rfl (fun i hi => up_ne _ _ hi) (fun _ _ => rfl) (fun _ _ => rfl) hvs
      exact hK _ _ _ _ _ hs hc hz H' _ mls hRW' (ROH_wi hRO ha) (hS.put e2 e3 (adf_in hA ha)) hl
    cases fin with
    | false =>
      rw [if_neg (by rw [hfin]; exact Bool.false_ne_true)] at hlay
      have h6 := u_store hfc hkC hkind hlay hif hpd hnar hfits
      exact W.putK hx hb (f := f) ⟨hown ht, hts _ (tb_in hq1), ⟨_, _, _, hif⟩, hst⟩ (by rw [q2]; exact h6) q1 q3 (by rw [hsl]; exact k2_hasslot (q4 _ hk0)) rfl rfl hd goal
    | true =>
      obtain ⟨hi1, hi2⟩ := hfi rfl
      rw [if_pos hfin] at hlay
      have hcf : m.cls = cf := by
        obtain ⟨_, _, c', _, _, _, -, -, hf', -, -, -, hown2, -⟩ := Cond.laysFinal_spec hlay
        have e1 : c' = cf := by have := hif.symm.trans hf'; simp at this; exact this.1.symm
        rw [hi2] at hown2
        rw [← e1]; exact Option.some.inj ((hown ht).symm.trans hown2)
      have h6 := u_fits hfc hkC hkind (Or.inr hlay) hif hpd hnar hfits
      exact W.putFinK hx hb (hown ht) (hts _ (tb_in hq1)) hif hst hcf (hini hi1) (by rw [q2]; exact h6) q1 q3 (by rw [hsl]; exact k2_hasslot (q4 _ hk0)) rfl rfl hd goal
  have hq2 := hq.2
  simp only [Bool.and_eq_true, decide_eq_true_eq, Bool.not_eq_true'] at hq2
  obtain ⟨⟨⟨⟨b1, b2⟩, b3⟩, b4⟩, b5⟩ := hq2
  exact core false hq.1 b1 b2 b3 b4 b5 (fun z => by cases z)
end SND3
