/-! ===== calls, throws, the ends of methods ===== -/
theorem mtB_inv {k : Nat} (h : mtB k = true) : cW k ∈ gw ∧ Cond.initialized (mY k).cls ∈ gw ∧ plainName (mY k).cls = true ∧ ((mY k).cls ≠ "java/lang/invoke/MethodHandle" ∧ (mY k).cls ≠ "java/lang/invoke/VarHandle") ∧ mL k ≤ 20 ∧
    ((mG k = 0 ∧ Cond.static (mY k) ∈ gw ∧ (parseMethodDescriptor (mY k).desc).map (fun d => d.parameters.length) = some (mN k)) ∨
     (mG k = 1 ∧ Cond.instanceMethod (mY k) ∈ gw ∧ Cond.selects (mY k).cls (mY k) (mY k) ∈ gw ∧ (parseMethodDescriptor (mY k).desc).map (fun d => d.parameters.length + 1) = some (mN k) ∧ mH k = []) ∨
     (mG k ≠ 0 ∧ mG k ≠ 1 ∧ Cond.instanceMethod (mY k) ∈ gw ∧ (mY k).name = "<init>" ∧ (parseMethodDescriptor (mY k).desc).map (fun d => d.parameters.length + 1) = some (mN k) ∧ mH k = [] ∧ mR k = none)) := by
  unfold mtB at h
  generalize mP k = q at h
  obtain ⟨pc, pa, ps, pi⟩ := q
  simp only [Bool.and_eq_true, decide_eq_true_eq] at h
  obtain ⟨⟨⟨⟨⟨⟨h1, h2⟩, h3⟩, h4⟩, h5⟩, h6⟩, h7⟩ := h
  refine ⟨?_, tb_in h2, h3, ⟨h4, h5⟩, h6, ?_⟩
  · unfold cW
    split at h1
    · rename_i e
      rw [e]
      exact tb_in h1
    · rename_i hne
      split
      · rename_i e2
        exact absurd e2 hne
      · exact tb_in h1
  · split at h7
    · rename_i e
      simp only [Bool.and_eq_true, decide_eq_true_eq] at h7
      exact Or.inl ⟨e, tb_in h7.1, h7.2⟩
    · rename_i e
      simp only [Bool.and_eq_true, decide_eq_true_eq] at h7
      obtain ⟨⟨⟨a, b⟩, c⟩, d⟩ := h7
      exact Or.inr (Or.inl ⟨e, tb_in a, tb_in b, c, d⟩)
    · rename_i e0 e1
      simp only [Bool.and_eq_true, decide_eq_true_eq] at h7
      obtain ⟨⟨⟨⟨a, b⟩, c⟩, d⟩, f⟩ := h7
      exact Or.inr (Or.inr ⟨e0, e1, tb_in a, b, c, d, f⟩)
theorem gw_good {w : Cond} (h : w ∈ gw) : (w.onTables && w.keeps) = true ∨ ∃ ty, w = .arrayClass ty := good_of_word (List.mem_filter.mp h).2
theorem WS_pay {k : Nat} (hk : cW k ∈ gw) {s : State} {args : Array Value} (hts : ∀ w ∈ gw, w.before args s = true) : ∀ w ∈ WS k, ∀ (a' : Array Value) (U : State), s.WarmedH U.vm → w.before a' U = true := by
  intro w hw a' U hW
  have hg : w ∈ gw := by
    rcases List.mem_cons.mp hw with rfl | q
    · exact hk
    · exact q
  exact word_at hW (gw_good hg) (hts w hg)
theorem map_len {x : Option MethodDescriptor} {f : MethodDescriptor → Nat} {n : Nat} (h : x.map f = some n) : ∀ sig, x = some sig → n = f sig := by
  intro sig hs
  rw [hs] at h
  exact (Option.some.inj h).symm
section SND5
variable {p : Program} {l : Launch} {e : Env} {R : Room} {s : State} {m : MethodId} {args : Array Value} {below : List Frame} {meth : Method} {c : Code} {FQ : State → Prop} {G : GG} {k mc ms d : Nat}
variable {C : Nat → List Value → AH → Nat → Nat → (Option (Option Value) → AH → Prop) → Prop} {Q : Option (Option Value) → AH → Prop} {pc n : Nat} {ls : LL} {st : List Value} {h : AH} {c1 z1 : Nat} {K : LL → List Value → AH → Nat → Nat → Prop}
theorem SU_moved {u U : State} (hW : u.WarmedH U.vm) (hu : SU G u) : SU G U := by
  obtain ⟨h1, h2, h3, h4, h5⟩ := hu
  refine ⟨va_K.moved hW.alike h1, fun q hq => (h2 q hq).warm hW, fun w hw => ?_, fun t a b => va_AO.moved hW.alike (h4 t a b), va_AOi.moved hW.alike h5⟩
  have hh := h3 w hw
  rcases List.mem_cons.mp hw with rfl | hw
  · exact va_Nw.warmM hW hh
  rcases List.mem_cons.mp hw with rfl | hw
  · exact va_Nw.warmM hW hh
  rcases List.mem_cons.mp hw with rfl | hw
  · exact va_Nw.warmM hW hh
  rcases List.mem_cons.mp hw with rfl | hw
  · exact va_Nw.warmM hW hh
  rcases List.mem_cons.mp hw with rfl | hw
  · exact va_Nw.warmM hW hh
  rcases List.mem_cons.mp hw with rfl | hw
  · exact va_Nw.warmD hW hh
  rcases List.mem_cons.mp hw with rfl | hw
  · exact va_Nw.warmD hW hh
  rcases List.mem_cons.mp hw with rfl | hw
  · exact va_Nw.warmD hW hh
  rcases List.mem_cons.mp hw with rfl | hw
  · exact va_Nw.warmC hW hh
  · cases hw
theorem RO_moved {u U : State} {H : Heap} (hvm : u.vm.Alike U.vm) (hu : RO G u H) : RO G U H := by
  obtain ⟨h1, h2, h3, h4, h5, h6, h7, h8⟩ := hu
  refine ⟨h1.moved hvm, h2.moved hvm, ?_, h4.moved hvm, h5.moved hvm, h6.moved hvm, h7, h8⟩
  rcases h3 with h3 | h3
  · exact Or.inl (h3.moved hvm)
  · exact Or.inr (h3.moved hvm)
theorem SU_same {u U : State} (e : u.vm = U.vm) (hu : SU G u) : SU G U := by
  obtain ⟨h1, h2, h3, h4, h5⟩ := hu
  have hal : u.vm.Alike U.vm := by rw [e]; exact Vm.Alike.refl _
  refine ⟨va_K.moved hal h1, fun q hq => (h2 q hq).same e.symm, fun w hw => ?_, fun t a b => va_AO.moved hal (h4 t a b), va_AOi.moved hal h5⟩
  have hh := h3 w hw
  rcases List.mem_cons.mp hw with rfl | hw
  · exact va_Nw.same rfl e hh
  rcases List.mem_cons.mp hw with rfl | hw
  · exact va_Nw.same rfl e hh
  rcases List.mem_cons.mp hw with rfl | hw
  · exact va_Nw.same rfl e hh
  rcases List.mem_cons.mp hw with rfl | hw
  · exact va_Nw.same rfl e hh
  rcases List.mem_cons.mp hw with rfl | hw
  · exact va_Nw.same rfl e hh
  rcases List.mem_cons.mp hw with rfl | hw
  · exact va_Nw.same rfl e hh
  rcases List.mem_cons.mp hw with rfl | hw
  · exact va_Nw.same rfl e hh
  rcases List.mem_cons.mp hw with rfl | hw
  · exact va_Nw.same rfl e hh
  rcases List.mem_cons.mp hw with rfl | hw
  · exact va_Nw.same rfl e hh
  · cases hw
theorem Pc_blind {h : AH} {as : List Value} : FrameBlind (PcA G h as) := by
  intro a U g mk hq
  obtain ⟨h1, h2, h3, h4, h5, h6⟩ := hq
  exact ⟨h1, SU_same (u := U) (U := U.calling g mk a) rfl h2, RO_moved (u := U) (U := U.calling g mk a) (Vm.Alike.refl U.vm) h3, h4, h5, h6⟩
theorem Pc_at {H : Heap} {locs : List Loc} {as : List Value} (hSU : SU G s) (hROs : RO G s s.heap) (hS : va_S (gZ G) s.heap H locs) (hRW : RW G h H) (hRO : ROH (gL G) (gX G) h) (hBs : gB G ≤ s.heap.size) (U : State) (hU : U.heap = H) (hW : s.WarmedH U.vm) : PcA G h as (as.map (tv G)).toArray U :=
  ⟨rfl, SU_moved hW hSU, by rw [hU]; exact RO_moved hW.alike (RO_at hROs hS), by rw [hU]; exact hRW, hRO, by rw [hU]; exact Nat.le_trans hBs hS.1⟩
/-- behind a call that returns -/
theorem call_go {H : Heap} {locs : List Loc} {mls : Array Slot} {r : List Value} {R' : Option (Option Value) → AH → Prop} {a b : Nat} {st0 : List Value} {av : Array Value} (hc2 : c1 + a ≤ mc) (hz2 : z1 + b ≤ ms) (hS : va_S (gZ G) s.heap H locs) (hl : lrel G (mL k) mls ls) (hK : ∀ ls st h c1 z1, K ls st h c1 z1 → MP p l e R s m args below meth c FQ G k mc ms (pc + 3) ls st h c1 z1)
    (hs : ∀ v h', R' v h' → match v with
    | some (some x) => K ls (x :: r) h' (c1 + a) (z1 + b)
    | some none => K ls r h' (c1 + a) (z1 + b)
    | none => False)
    (hr : vx_Run p l e R s m args below meth c H locs c1 z1 a b (F0 m pc mls st0) (r.map (tv G)) (QcA G R' av) (XcA G R') (gZ G)) : W p l e R s m args below meth c H locs c1 z1 FQ (F0 m pc mls st0) := by
  intro T hT X
  rcases hr T hT X with ⟨v, st₀, t, T', L, h0, X', hL, e1, e2, ⟨⟨v', h', hv, hq, hRW', hRO'⟩, hF⟩, go⟩ | ⟨q, st₀, t, T', L, E, ce, h0, X', hL, e1, e2, hx, hce, hcv, hcl, go⟩
  · cases hv
    have hS' : va_S (gZ G) s.heap T'.heap (locs ++ L) := by
      refine ⟨Nat.le_trans hS.1 ?_, fun q h1 h2 => ?_, fun q hq => ?_⟩
      · rw [e1, ← h0]; exact hF.1
      · rw [e1]
        have := hF.2 q (by rw [h0]; exact Nat.lt_of_lt_of_le h1 hS.1) h2
        rw [this, h0]
        exact hS.2.1 q h1 h2
      · rcases List.mem_append.mp hq with z | z
        · exact hS.2.2 q z
        · exact hL q z
    have hk := hs (some v') h' hq
    cases v' with
    | none =>
      obtain ⟨t2, a1, b1⟩ := hK _ _ _ _ _ hk hc2 hz2 T'.heap _ mls (by rw [e1]; exact hRW') hRO' hS' hl T' rfl X'
      exact ⟨t2, go t2 a1, b1⟩
    | some x =>
      obtain ⟨t2, a1, b1⟩ := hK _ _ _ _ _ hk hc2 hz2 T'.heap _ mls (by rw [e1]; exact hRW') hRO' hS' hl T' rfl X'
      exact ⟨t2, go t2 a1, b1⟩
  · obtain ⟨-, ⟨h', hq, -⟩, -⟩ := hx
    exact absurd (hs none h' hq) id
theorem cW_nil {k : Nat} (h : mH k = []) : cW k = .code (mY k) (mB k) (mL k) (mR k) := by
  unfold cW
  rw [h]
theorem cW_cons {k : Nat} (h : mH k ≠ []) : cW k = .codeWith (mY k) (mB k) (mL k) (mR k) (mH k) := by
  unfold cW
  split
  · rename_i e
    exact absurd e h
  · rfl
/-- a static call -/
theorem run_S {H : Heap} {locs : List Loc} {mls : Array Slot} {r as : List Value} {R' : Option (Option Value) → AH → Prop} {a b k' i : Nat} (F : Fra p l e R s m args meth c G k mc ms (d + 1)) (hC : CSn G l d C) (hR : C k' as h a b R') (hc2 : c1 + a ≤ mc) (hz2 : z1 + b ≤ ms) (hr4 : slk r) (hRW : RW G h H) (hRO : ROH (gL G) (gX G) h) (hS : va_S (gZ G) s.heap H locs) (hl : lrel G (mL k) mls ls)
    (ht : mT k < 19) (hg : mG k' = 0) (hlk : Cond.methodLink (lto (mT k)).1 i (mY k') ∈ gw) (hd : decode (mB k) pc = .ok (.invokestatic i, 3)) : vx_Run p l e R s m args below meth c H locs c1 z1 a b (F0 m pc mls ((as.reverse ++ r).map (tv G))) (r.map (tv G)) (QcA G R' (as.map (tv G)).toArray) (XcA G R') (gZ G) := by
  obtain ⟨hx, hb, hml, hown, hts, hSU, hROs, hA, hBs, hRc, hRs, hRf, hRl, hini⟩ := F
  obtain ⟨hlen, hmt, hM⟩ := hC k' as h a b R' hR
  obtain ⟨w1, w2, w3, w4, w5, w6⟩ := mtB_inv hmt
  have hst : Cond.static (mY k') ∈ gw ∧ (parseMethodDescriptor (mY k').desc).map (fun d => d.parameters.length) = some (mN k') := by
    rcases w6 with ⟨-, q1, q2⟩ | ⟨q, -⟩ | ⟨q, -⟩
    · exact ⟨q1, q2⟩
    · omega
    · exact absurd hg q
  have hcat := cat_le G hr4
  have est : (as.reverse ++ r).map (tv G) = (as.map (tv G)).reverse ++ r.map (tv G) := by simp
  by_cases hh : mH k' = []
  · have ew := cW_nil hh
    exact vx_runS (n := mN k') (index := i) (bytes := mB k') (maxL := mL k') (ret := mR k') ⟨hx, hb, hml, hown ht, hts⟩ hM ⟨⟨rfl, rfl, by show d + 6 + 1 ≤ _; omega, by show 8 + (mL k' + 11) + (60 * d + 200) ≤ _; omega, WS_pay w1 hts, by rw [← ew]; exact List.mem_cons_self, by rw [← ew]; exact hts _ w1, hts _ w2, w4, map_len hst.2, hts _ hlk⟩, hts _ hst.1⟩ ⟨Pc_blind, fun U hU hW => Pc_at hSU hROs hS hRW hRO hBs U hU hW⟩ rfl (by rw [List.length_map]; exact hlen) hl.1 est (lv_room hcat) hd ⟨by omega, by omega⟩
  · have ew := cW_cons hh
    exact vx_runSX (n := mN k') (index := i) (bytes := mB k') (maxL := mL k') (ret := mR k') (hh := mH k') ⟨hx, hb, hml, hown ht, hts⟩ hM ⟨⟨rfl, rfl, by show d + 6 + 1 ≤ _; omega, by show 8 + (mL k' + 11) + (60 * d + 200) ≤ _; omega, WS_pay w1 hts, by rw [← ew]; exact List.mem_cons_self⟩, by rw [← ew]; exact hts _ w1, hts _ w2, w4, map_len hst.2, hts _ hlk, hts _ hst.1⟩ ⟨Pc_blind, fun U hU hW => Pc_at hSU hROs hS hRW hRO hBs U hU hW⟩ rfl (by rw [List.length_map]; exact hlen) hl.1 est (lv_room hcat) hd ⟨by omega, by omega⟩
theorem run_SN {H : Heap} {locs : List Loc} {mls : Array Slot} {r as : List Value} {R' : Option (Option Value) → AH → Prop} {a b k' i : Nat} (F : Fra p l e R s m args meth c G k mc ms (d + 1)) (hC : CSn G l d C) (hR : C k' as h a b R') (hc2 : c1 + a ≤ mc) (hz2 : z1 + b ≤ ms) (hr4 : slk r) (hRW : RW G h H) (hRO : ROH (gL G) (gX G) h) (hS : va_S (gZ G) s.heap H locs) (hl : lrel G (mL k) mls ls)
    (ht : mT k < 19) (hg : mG k' = 0) (hlk : Cond.methodLinkNest (lto (mT k)).1 i (mY k') "TreeTalk" ∈ nestW) (hh : mH k' = []) (hd : decode (mB k) pc = .ok (.invokestatic i, 3)) : vx_Run p l e R s m args below meth c H locs c1 z1 a b (F0 m pc mls ((as.reverse ++ r).map (tv G))) (r.map (tv G)) (QcA G R' (as.map (tv G)).toArray) (XcA G R') (gZ G) := by
  obtain ⟨hx, hb, hml, hown, hts, hSU, hROs, hA, hBs, hRc, hRs, hRf, hRl, hini⟩ := F
  obtain ⟨hlen, hmt, hM⟩ := hC k' as h a b R' hR
  obtain ⟨w1, w2, w3, w4, w5, w6⟩ := mtB_inv hmt
  have hst : Cond.static (mY k') ∈ gw ∧ (parseMethodDescriptor (mY k').desc).map (fun d => d.parameters.length) = some (mN k') := by
    rcases w6 with ⟨-, q1, q2⟩ | ⟨q, -⟩ | ⟨q, -⟩
    · exact ⟨q1, q2⟩
    · omega
    · exact absurd hg q
  have hcat := cat_le G hr4
  have est : (as.reverse ++ r).map (tv G) = (as.map (tv G)).reverse ++ r.map (tv G) := by simp
  have ew := cW_nil hh
  exact vx_runSN (n := mN k') (index := i) (bytes := mB k') (maxL := mL k') (ret := mR k') (host := "TreeTalk") ⟨hx, hb, hml, hown ht, hts⟩ hM ⟨⟨⟨rfl, rfl, by show d + 6 + 1 ≤ _; omega, by show 8 + (mL k' + 11) + (60 * d + 200) ≤ _; omega, WS_pay w1 hts, by rw [← ew]; exact List.mem_cons_self⟩, by rw [← ew]; exact hts _ w1, hts _ w2, w4, map_len hst.2, va_Nw.use rfl (hSU.2.2.1 _ (List.mem_append_left _ hlk))⟩, hts _ hst.1, trivial⟩ ⟨Pc_blind, fun U hU hW => Pc_at hSU hROs hS hRW hRO hBs U hU hW⟩ rfl (by rw [List.length_map]; exact hlen) hl.1 est (lv_room hcat) hd ⟨by omega, by omega⟩
theorem map_len1 {x : Option MethodDescriptor} {n : Nat} (h : x.map (fun d => d.parameters.length + 1) = some (n + 1)) : ∀ sig, x = some sig → n = sig.parameters.length := by
  intro sig hs
  rw [hs] at h
  have := Option.some.inj h
  have h2 : sig.parameters.length + 1 = n + 1 := this
  omega
theorem cls14 (c : Nat) (hc : c < 13) : (lnth vwX ("", TX13, 0) c).1 = cnm c := rfl
/-- a receiver -/
theorem recv_at {H : Heap} {locs : List Loc} {a cc : Nat} (hSU : SU G s) (hROs : RO G s s.heap) (hS : va_S (gZ G) s.heap H locs) (hRW : RW G h H) (hRO : ROH (gL G) (gX G) h) (hcc : cc < 14) (hk : gk h a = some (.inl cc)) : ∃ cellB : Cell, H[gA G a]? = some cellB ∧ cellB.vm.isStatics = false ∧ s.vm.findClass (cnm cc) = some cellB.cls := by
  by_cases h13 : cc < 13
  · obtain ⟨-, -, cell, q1, q2, q3, -⟩ := ob_cell hRW hRO h13 hk
    obtain ⟨-, hfc, -⟩ := hSU.1.1 cc _ (vw_at cc h13)
    exact ⟨cell, q1, by rw [q3]; rfl, by rw [q2]; exact hfc⟩
  · have e13 : cc = 13 := by omega
    subst e13
    obtain ⟨j, hj, rfl⟩ := st_ob hRW hRO hk
    have hh := vk_recv (i := j) hROs.1 hj hS
    exact hh
theorem run_V {H : Heap} {locs : List Loc} {mls : Array Slot} {r as : List Value} {R' : Option (Option Value) → AH → Prop} {a b k' i cc : Nat} (F : Fra p l e R s m args meth c G k mc ms (d + 1)) (hC : CSn G l d C) (hR : C k' as h a b R') (hc2 : c1 + a ≤ mc) (hz2 : z1 + b ≤ ms) (hr4 : slk r) (hRW : RW G h H) (hRO : ROH (gL G) (gX G) h) (hS : va_S (gZ G) s.heap H locs) (hl : lrel G (mL k) mls ls)
    (ht : mT k < 19) (hg : mG k' = 1) (hlk : Cond.methodLink (lto (mT k)).1 i (mY k') ∈ gw) (hcc : cc < 14) (hcn : cnm cc = (mY k').cls) (hho : hdO as h cc) (hd : decode (mB k) pc = .ok (.invokevirtual i, 3)) : vx_Run p l e R s m args below meth c H locs c1 z1 a b (F0 m pc mls ((as.reverse ++ r).map (tv G))) (r.map (tv G)) (QcA G R' (as.map (tv G)).toArray) (XcA G R') (gZ G) := by
  obtain ⟨hx, hb, hml, hown, hts, hSU, hROs, hA, hBs, hRc, hRs, hRf, hRl, hini⟩ := F
  obtain ⟨hlen, hmt, hM⟩ := hC k' as h a b R' hR
  obtain ⟨w1, w2, w3, w4, w5, w6⟩ := mtB_inv hmt
  have hst : Cond.instanceMethod (mY k') ∈ gw ∧ Cond.selects (mY k').cls (mY k') (mY k') ∈ gw ∧ (parseMethodDescriptor (mY k').desc).map (fun d => d.parameters.length + 1) = some (mN k') ∧ mH k' = [] := by
    rcases w6 with ⟨q, -⟩ | ⟨-, q1, q2, q3, q4⟩ | ⟨-, q, -⟩
    · omega
    · exact ⟨q1, q2, q3, q4⟩
    · exact absurd hg q
  have hcat := cat_le G hr4
  match as, hho, hlen, hR, hM with
  | .ref a0 :: as, hho, hlen, hR, hM =>
    have est : ((.ref a0 :: as).reverse ++ r).map (tv G) = (as.map (tv G)).reverse ++ .ref (gA G a0) :: r.map (tv G) := by simp [tv]
    have ew := cW_nil hst.2.2.2
    have hlen2 : mN k' = as.length + 1 := by rw [← hlen]; rfl
    have hpd := hst.2.2.1
    rw [hlen2] at hpd
    have hrc := recv_at hSU hROs hS hRW hRO hcc hho
    rw [hcn] at hrc
    exact vx_runV (n := as.length) (C := (mY k').cls) (b := gA G a0) (As := as.map (tv G)) (index := i) (bytes := mB k') (maxL := mL k') (ret := mR k') ⟨hx, hb, hml, hown ht, hts⟩ hM ⟨⟨rfl, rfl, by show d + 6 + 1 ≤ _; omega, by show 8 + (mL k' + 11) + (60 * d + 200) ≤ _; omega, WS_pay w1 hts, by rw [← ew]; exact List.mem_cons_self, by rw [← ew]; exact hts _ w1, hts _ w2, w4, map_len1 hpd, hts _ hlk⟩, hts _ hst.1, hts _ hst.2.1⟩ ⟨Pc_blind, hrc, fun U hU hW => Pc_at (as := .ref a0 :: as) hSU hROs hS hRW hRO hBs U hU hW⟩ rfl (by rw [List.length_map]) hl.1 est (lv_room hcat) hd ⟨by omega, by omega⟩
theorem run_I {H : Heap} {locs : List Loc} {mls : Array Slot} {r as : List Value} {R' : Option (Option Value) → AH → Prop} {a b k' i cc : Nat} (F : Fra p l e R s m args meth c G k mc ms (d + 1)) (hC : CSn G l d C) (hR : C k' as h a b R') (hc2 : c1 + a ≤ mc) (hz2 : z1 + b ≤ ms) (hr4 : slk r) (hRW : RW G h H) (hRO : ROH (gL G) (gX G) h) (hS : va_S (gZ G) s.heap H locs) (hl : lrel G (mL k) mls ls)
    (ht : mT k < 19) (hg : mG k' = 2) (hlk : Cond.methodLink (lto (mT k)).1 i (mY k') ∈ gw) (hho : hdO as h cc) (hd : decode (mB k) pc = .ok (.invokespecial i, 3)) : vx_Run p l e R s m args below meth c H locs c1 z1 a b (F0 m pc mls ((as.reverse ++ r).map (tv G))) (r.map (tv G)) (QcA G R' (as.map (tv G)).toArray) (XcA G R') (gZ G) := by
  obtain ⟨hx, hb, hml, hown, hts, hSU, hROs, hA, hBs, hRc, hRs, hRf, hRl, hini⟩ := F
  obtain ⟨hlen, hmt, hM⟩ := hC k' as h a b R' hR
  obtain ⟨w1, w2, w3, w4, w5, w6⟩ := mtB_inv hmt
  have hst : Cond.instanceMethod (mY k') ∈ gw ∧ (mY k').name = "<init>" ∧ (parseMethodDescriptor (mY k').desc).map (fun d => d.parameters.length + 1) = some (mN k') ∧ mH k' = [] ∧ mR k' = none := by
    rcases w6 with ⟨q, -⟩ | ⟨q, -⟩ | ⟨-, -, q⟩
    · omega
    · omega
    · exact q
  have hcat := cat_le G hr4
  match as, hho, hlen, hR, hM with
  | .ref a0 :: as, hho, hlen, hR, hM =>
    have est : ((.ref a0 :: as).reverse ++ r).map (tv G) = (as.map (tv G)).reverse ++ .ref (gA G a0) :: r.map (tv G) := by simp [tv]
    have ew := cW_nil hst.2.2.2.1
    rw [hst.2.2.2.2] at ew
    have hlen2 : mN k' = as.length + 1 := by rw [← hlen]; rfl
    have hpd := hst.2.2.1
    rw [hlen2] at hpd
    exact vx_runI (n := as.length) (b := gA G a0) (As := as.map (tv G)) (index := i) (bytes := mB k') (maxL := mL k') ⟨hx, hb, hml, hown ht, hts⟩ hM ⟨⟨rfl, rfl, by show d + 6 + 1 ≤ _; omega, by show 8 + (mL k' + 11) + (60 * d + 200) ≤ _; omega, WS_pay w1 hts, by rw [← ew]; exact List.mem_cons_self, by rw [← ew]; exact hts _ w1, hts _ w2, w4, map_len1 hpd, hts _ hlk⟩, hst.2.1, hts _ hst.1⟩ ⟨Pc_blind, fun U hU hW => Pc_at (as := .ref a0 :: as) hSU hROs hS hRW hRO hBs U hU hW⟩ rfl (by rw [List.length_map]) hl.1 est (lv_room hcat) hd ⟨by omega, by omega⟩
end SND5
