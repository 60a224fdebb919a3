/-! ===== calls, throws and ends, each as a token ===== -/
def nsU : List String := ["java/lang/RuntimeException", "java/lang/Exception"]
theorem at0_ok : (vx_at0 "TreeTalk" 208 nseN nsU).all (fun w => decide (w ∈ nseW) || (decide (w ∈ lw_tbl) && goodWord w)) = true := by decide +kernel
theorem at0_gw : ∀ w ∈ vx_at0 "TreeTalk" 208 nseN nsU, w ∈ nseW ∨ w ∈ gw := by
  intro w hw
  have h := List.all_eq_true.mp at0_ok w hw
  rw [Bool.or_eq_true, decide_eq_true_eq, Bool.and_eq_true, decide_eq_true_eq] at h
  rcases h with h | h
  · exact Or.inl h
  · exact Or.inr (List.mem_filter.mpr h)
theorem nse_cast : Cond.castable nseN nseN ∈ nseW := by decide +kernel
theorem nse_tabs : ∀ w ∈ nseW, w.onTables = true := by decide +kernel
theorem nse_gw : Cond.classLink "TreeTalk" 206 nseN ∈ gw ∧ Cond.initialized nseN ∈ gw ∧ Cond.classLink "TreeTalkLaw" 13 nseN ∈ gw := ⟨tb_in (p := 1199) (by decide +kernel), tb_in (p := 119) (by decide +kernel), tb_in (p := 1194) (by decide +kernel)⟩
theorem cpy_gw : Cond.native arraycopyName ∈ gw ∧ Cond.static arraycopyName ∈ gw ∧ Cond.initialized "java/lang/System" ∈ gw := ⟨tb_in (p := 853) (by decide +kernel), tb_in (p := 852) (by decide +kernel), tb_in (p := 115) (by decide +kernel)⟩
theorem gw_vx {w : Cond} (h : w ∈ gw) : vx_ot w = true := by
  unfold vx_ot
  rw [(List.mem_filter.mp h).2, Bool.or_true]
section SND6
variable {p : Program} {l : Launch} {e : Env} {R : Room} {s : State} {m : MethodId} {args : Array Value} {below : List Frame} {meth : Method} {c : Code} {FQ : State → Prop} {G : GG} {k mc ms d : Nat}
variable {C : Nat → List Value → AH → Nat → Nat → (Option (Option Value) → AH → Prop) → Prop} {Q : Option (Option Value) → AH → Prop} {pc n : Nat} {ls : LL} {st : List Value} {h : AH} {c1 z1 : Nat} {K : LL → List Value → AH → Nat → Nat → Prop}
/-- what else is known of a frame -/
def FrB (l : Launch) (meth : Method) (c : Code) (k : Nat) : Prop := meth.sig.returnType = mR k ∧ meth.locks = false ∧ c.exceptionTable.toList = tableOf (mH k) ∧ l.stackTraces = false ∧ k < 256
theorem vaF_of {H : Heap} {locs : List Loc} (hS : va_S (gZ G) s.heap H locs) {t : State} (ht : t.heap = H) : va_F (gZ G) s t := ⟨by rw [ht]; exact hS.1, fun q h1 h2 => by rw [ht]; exact hS.2.1 q h1 h2⟩
theorem tk_invokeinterface {k' w : Nat} (F : Fra p l e R s m args meth c G k mc ms (d + 1)) (hC : CSn G l d C) (hi : insB (mB k) (mT k) (ini k) pc (.invokeinterface k' w) n = true) (hK : ∀ ls st h c1 z1, K ls st h c1 z1 → MP p l e R s m args below meth c FQ G k mc ms (pc + n) ls st h c1 z1) (hs : stp C mc ms (MP p l e R s m args below meth c FQ G k mc ms) Q (.invokeinterface k' w) ls st h c1 z1 K) : MP p l e R s m args below meth c FQ G k mc ms pc ls st h c1 z1 := by
  intro hc hz H locs mls hRW hRO hS hl
  obtain ⟨as, r, rfl, hlen, hr4, hh⟩ := popn_inv _ st [] hs
  obtain ⟨R', a, b, hCk, ⟨hc2, hz2⟩, hv⟩ := hh
  rw [List.append_nil] at hCk
  obtain ⟨raw, g, a0, g', pl, hd, hn, ht, ho, hg, hq⟩ := inv_lk hi rfl
  have hno := lkO_no ho
  have hg4 : g = 4 := by
    rcases li_invokeinterface hq with ⟨e1, -⟩ | ⟨e1, -⟩
    · rcases hg with e2 | ⟨-, -, e2⟩ | ⟨e2, e3⟩
      · omega
      · omega
      · omega
    · rcases hg with e2 | ⟨-, -, e2⟩ | ⟨e2, e3⟩
      · exfalso
        have : g = 14 := by omega
        exact hno.2.2.1 this
      · omega
      · exact e2
  subst hg4
  have er := lkO_4 ho
  subst er
  have en : n = 3 := eq_of_beq hn
  subst en
  rcases li_invokeinterface hq with ⟨-, hq⟩ | ⟨-, hq⟩
  · simp only [Bool.and_eq_true, decide_eq_true_eq] at hq
    exact call_go hc2 hz2 hS hl hK hv (run_S F hC hCk hc2 hz2 hr4 hRW hRO hS hl ht hq.1.2 (tb_in hq.1.1) hd) 
  · simp only [Bool.and_eq_true, decide_eq_true_eq] at hq
    exact call_go hc2 hz2 hS hl hK hv (run_SN F hC hCk hc2 hz2 hr4 hRW hRO hS hl ht hq.1.1.2 hq.1.1.1 hq.2 hd)
theorem tk_invokevirtual {w : Nat} (F : Fra p l e R s m args meth c G k mc ms (d + 1)) (hC : CSn G l d C) (hi : insB (mB k) (mT k) (ini k) pc (.invokevirtual w) n = true) (hK : ∀ ls st h c1 z1, K ls st h c1 z1 → MP p l e R s m args below meth c FQ G k mc ms (pc + n) ls st h c1 z1) (hs : stp C mc ms (MP p l e R s m args below meth c FQ G k mc ms) Q (.invokevirtual w) ls st h c1 z1 K) : MP p l e R s m args below meth c FQ G k mc ms pc ls st h c1 z1 := by
  intro hc hz H locs mls hRW hRO hS hl
  obtain ⟨as, r, rfl, hlen, ⟨hr4, hho⟩, hh⟩ := popn_inv _ st [] hs
  obtain ⟨R', a, b, hCk, ⟨hc2, hz2⟩, hv⟩ := hh
  rw [List.append_nil] at hCk hho
  obtain ⟨raw, g, a0, g', pl, hd, hn, ht, ho, hg, hq⟩ := inv_lk hi rfl
  have hg2 : g' = g := by
    rcases hg with e2 | ⟨-, -, e2⟩ | ⟨e2, e3⟩
    · exact e2
    · rcases li_invokevirtual hq with ⟨e1, -⟩ | ⟨e1, -⟩ <;> omega
    · rcases li_invokevirtual hq with ⟨e1, -⟩ | ⟨e1, -⟩ <;> omega
  subst hg2
  rcases li_invokevirtual hq with ⟨e1, hq3⟩ | ⟨e1, hq3⟩
  · subst e1
    have er := lkO_2 ho
    subst er
    have en : n = 3 := eq_of_beq hn
    subst en
    simp only [Bool.and_eq_true, decide_eq_true_eq] at hq3
    exact call_go hc2 hz2 hS hl hK hv (run_V F hC hCk hc2 hz2 hr4 hRW hRO hS hl ht hq3.1.1.1.2 (tb_in hq3.1.1.1.1) hq3.1.2 hq3.2 hho hd)
  · subst e1
    have er := lkO_3 ho
    subst er
    have en : n = 3 := eq_of_beq hn
    subst en
    simp only [Bool.and_eq_true, decide_eq_true_eq] at hq3
    exact call_go hc2 hz2 hS hl hK hv (run_I F hC hCk hc2 hz2 hr4 hRW hRO hS hl ht hq3.1.1.2 (tb_in hq3.1.1.1) hho hd)
theorem cnm_11 : cnm 11 = "TreeTalk" := rfl
theorem tk_invokedynamic {w : Nat} (F : Fra p l e R s m args meth c G k mc ms (d + 1)) (hB : FrB l meth c k) (hcb : catB (mH k) pc (.invokedynamic w) = true) (hC : CSn G l d C) (hi : insB (mB k) (mT k) (ini k) pc (.invokedynamic w) n = true) (hK : ∀ ls st h c1 z1, K ls st h c1 z1 → MP p l e R s m args below meth c FQ G k mc ms (pc + n) ls st h c1 z1) (hs : stp C mc ms (MP p l e R s m args below meth c FQ G k mc ms) Q (.invokedynamic w) ls st h c1 z1 K) : MP p l e R s m args below meth c FQ G k mc ms pc ls st h c1 z1 := by
  intro hc hz H locs mls hRW hRO hS hl
  obtain ⟨as, r, rfl, hlen, ⟨hr4, hho⟩, hh⟩ := popn_inv _ st [] hs
  obtain ⟨R', a, b, hCk, ⟨hc2, hz2⟩, hv⟩ := hh
  rw [List.append_nil] at hCk hho
  obtain ⟨raw, g, a0, g', pl, hd, hn, ht, ho, hg, hq⟩ := inv_lk hi rfl
  obtain ⟨e1, hq3⟩ := li_invokedynamic hq
  have hg2 : g' = g := by
    rcases hg with e2 | ⟨-, -, e2⟩ | ⟨e2, e3⟩
    · exact e2
    · omega
    · omega
  subst hg2
  subst e1
  have er := lkO_12 ho
  subst er
  have en : n = 3 := eq_of_beq hn
  subst en
  simp only [Bool.and_eq_true, decide_eq_true_eq] at hq3
  obtain ⟨⟨⟨⟨⟨q1, q2⟩, q3⟩, q4⟩, q5⟩, q6⟩ := hq3
  have hr := run_V (below := below) F hC hCk hc2 hz2 hr4 hRW hRO hS hl ht q2 (tb_in q1) (by decide) (cnm_11.trans q6.symm) hho hd
  obtain ⟨hx, hb, hml, hown, hts, hSU, -⟩ := F
  obtain ⟨-, -, hT, -, hk256⟩ := hB
  have key : ∀ hh9 : List (Nat × Nat × Nat × Nat), catB hh9 pc (.invokedynamic w) = true → ∃ (x0 : Nat × Nat) (hp : Nat), hh9 = [(x0.1, x0.2, hp, 13)] ∧ x0.1 ≤ pc ∧ pc < x0.2 ∧ hp = w % 1000 := by
    intro hh9 hcb
    match hh9, hcb with
    | [(A, B, hp, ct)], hcb =>
      have h2 : (decide (A ≤ pc) && decide (pc < B) && decide (hp = w % 1000) && decide (ct = 13)) = true := hcb
      simp only [Bool.and_eq_true, decide_eq_true_eq] at h2
      obtain ⟨⟨⟨b1, b2⟩, b3⟩, b4⟩ := h2
      subst b4
      exact ⟨(A, B), hp, rfl, b1, b2, b3⟩
    | [], hcb => exact absurd hcb Bool.false_ne_true
    | _ :: _ :: _, hcb => exact absurd hcb Bool.false_ne_true
  obtain ⟨x0, hp, hH, c1', c2', c3'⟩ := key _ hcb
  subst c3'
  have hh9 := hnd_ok k hk256
  rw [hH] at hh9
  simp only [List.all_cons, List.all_nil, Bool.and_true] at hh9
  intro T hT2 X
  rcases hr T hT2 X with ⟨v, st₀, t, T', L, h0, X', hL, e1, e2, ⟨⟨v', h', hv2, hq, hRW', hRO'⟩, hF⟩, go⟩ | ⟨q, st₀, t, T', L, E, ce, h0, X', hL, e1, e2, ⟨hE, ⟨h', hq, hRW', hRO'⟩, hF⟩, hce, hcv, hcl, go⟩
  · cases hv2
    have hS' : va_S (gZ G) s.heap T'.heap (locs ++ L) := by
      refine ⟨Nat.le_trans hS.1 ?_, fun q h1 h2 => ?_, fun q hq => ?_⟩
      · rw [e1, ← h0]; exact hF.1
      · rw [e1]
        have := hF.2 q (by rw [h0]; exact Nat.lt_of_lt_of_le h1 hS.1) h2
        rw [this, h0]
        exact hS.2.1 q h1 h2
      · rcases List.mem_append.mp hq with z | z
        · exact hS.2.2 q z
        · exact hL q z
    have hk := hv (some v') h' hq
    cases v' with
    | none =>
      obtain ⟨t2, a1, b1⟩ := hK _ _ _ _ _ hk hc2 hz2 T'.heap _ mls (by rw [e1]; exact hRW') hRO' hS' hl T' rfl X'
      exact ⟨t2, go t2 a1, b1⟩
    | some x =>
      obtain ⟨t2, a1, b1⟩ := hK _ _ _ _ _ hk hc2 hz2 T'.heap _ mls (by rw [e1]; exact hRW') hRO' hS' hl T' rfl X'
      exact ⟨t2, go t2 a1, b1⟩
  · subst hE
    have hS' : va_S (gZ G) s.heap T'.heap (locs ++ L) := by
      refine ⟨Nat.le_trans hS.1 ?_, fun q h1 h2 => ?_, fun q hq => ?_⟩
      · rw [e1, ← h0]; exact hF.1
      · rw [e1]
        have := hF.2 q (by rw [h0]; exact Nat.lt_of_lt_of_le h1 hS.1) h2
        rw [this, h0]
        exact hS.2.1 q h1 h2
      · rcases List.mem_append.mp hq with z | z
        · exact hS.2.2 q z
        · exact hL q z
    have hk := hv none h' hq (gn h') (Nat.le_refl _)
    have hown2 : s.vm.findClass "TreeTalkLaw" = some m.cls := by rw [← q4]; exact hown ht
    have hW : W p l e R s m args below meth c T'.heap (locs ++ L) (c1 + a) (z1 + b) FQ (F0 m (w % 1000) mls [.ref q]) := by
      split at hh9
      · rename_i j hdec
        have hj : j < mL k := of_decide_eq_true hh9
        exact lv_astore hx hb hdec hl.has hj rfl fun ls' h9 => hk hc2 hz2 T'.heap _ ls' (by rw [e1]; exact hRW') hRO' hS' ⟨h9.1, h9.2.1, Nat.zero_le _, fun i v hh => by cases hh⟩
      · cases hh9
    obtain ⟨t2, a1, b1⟩ := vx_catch (pc := pc) (ls := mls) (rest := r.map (tv G)) (E := nseN) (name := nseN) hown2 [] ⟨x0.1, x0.2, w % 1000, 13⟩ [] (by rw [hT, hH]; rfl) (fun z hz => nomatch hz) (by simp only [covers, Bool.and_eq_true, decide_eq_true_eq]; exact ⟨c1', c2'⟩) (show (13 : Nat) ≠ 0 by decide) (hts _ nse_gw.2.2) (va_Nw.use rfl (hSU.2.2.1 _ (List.mem_append_right _ nse_cast))) (by rw [e1]; exact hce) hcv hcl hW T' rfl X'
    exact ⟨t2, go.trans a1, b1⟩
theorem tk_athrow (F : Fra p l e R s m args meth c G k mc ms d) (hB : FrB l meth c k) (hi : insB (mB k) (mT k) (ini k) pc .athrow n = true) (hs : stp C mc ms (MP p l e R s m args below meth c (vx_MQ below (QcA G Q) (XcA G Q) args s mc ms (gZ G)) G k mc ms) (fun v h => rtok (mR k) v ∧ Q v h) .athrow ls st h c1 z1 K) : MP p l e R s m args below meth c (vx_MQ below (QcA G Q) (XcA G Q) args s mc ms (gZ G)) G k mc ms pc ls st h c1 z1 := by
  intro hc hz H locs mls hRW hRO hS hl
  obtain ⟨hx, hb, hml, hown, hts, hSU, hROs, hA, hBs, hRc, hRs, hRf, hRl, hini⟩ := F
  obtain ⟨-, hlk, hT, hstk, hk256⟩ := hB
  have hi2 : (decide (mT k = 0) && decide (n = 8) && decide (decode (mB k) pc = .ok (.new 206, 3)) && decide (decode (mB k) (pc + 3) = .ok (.dup, 1)) && decide (decode (mB k) (pc + 4) = .ok (.invokespecial 208, 3)) && decide (decode (mB k) (pc + 7) = .ok (.athrow, 1))) = true := hi
  simp only [Bool.and_eq_true, decide_eq_true_eq] at hi2
  obtain ⟨⟨⟨⟨⟨t0, -⟩, d0⟩, d3⟩, d4⟩, d7⟩ := hi2
  obtain ⟨⟨hc2, hz2, hst4⟩, hq⟩ := hs
  have hown2 : s.vm.findClass "TreeTalk" = some m.cls := by
    have := hown (by omega)
    rw [t0] at this
    exact this
  have hnoH : c.exceptionTable.toList = [] := by rw [hT, noH_ok k hk256 t0]; rfl
  have hcat := cat_le G hst4
  refine vx_throw0 (names := nsU) (A := gZ G) hx hb hstk hown2 (by decide +kernel) (by decide +kernel) (hts _ nse_gw.1) (hts _ nse_gw.2.1) (fun w hw => (at0_gw w hw).elim (fun q => va_Nw.use (nse_tabs w q) (hSU.2.2.1 _ (List.mem_append_right _ q))) (fun q => hts _ q)) (fun w hw => ?_) hROs.2.2.2.1 hROs.2.2.2.2.1 hS (hl.1.trans hml.symm) d0 d3 d4 d7 (fun x hx9 => ?_) (by show 2 + 3 < R.frames; omega) (by show _ + (13 * (2 + 1) + 42) ≤ _; omega) (by omega) (by omega) hlk (fun t hal hsz ho => ?_) (fun z hz9 => hS.2.2 z hz9) hc2 hz2
  · rcases List.mem_cons.mp hw with rfl | hw
    · exact gw_vx nse_gw.1
    rcases List.mem_cons.mp hw with rfl | hw
    · exact gw_vx nse_gw.2.1
    · rcases at0_gw w hw with q | q
      · unfold vx_ot
        rw [nse_tabs w q, Bool.true_or]
      · exact gw_vx q
  · rw [hnoH] at hx9
    cases hx9
  · obtain ⟨m2, hm2, hRW2⟩ := RW_gb hA hRW hsz ho
    exact ⟨rfl, ⟨gb h m2, (hq m2 hm2).2, hRW2, ROH_gb hRO⟩, Nat.le_trans hS.1 hsz, fun q h1 h2 => (ho q (Nat.lt_of_lt_of_le h1 hS.1)).trans (hS.2.1 q h1 h2)⟩
theorem nar_char {x : Int32} (h0 : 0 ≤ x) (h1 : x ≤ 255) : narrow .char (.int x) = .int x := by
  have e0 : 0 ≤ x.toInt := by simpa using Int32.le_iff_toInt_le.mp h0
  have e1 : x.toInt ≤ 255 := by simpa using Int32.le_iff_toInt_le.mp h1
  have e : x = nI x.toInt.toNat := by
    apply Int32.toInt_inj.mp
    rw [nI_toInt (by omega)]
    omega
  rw [e]
  exact (pk_charN (by omega)).1
theorem rt_i {ty : Option FieldType} {x : Int32} (h : rtok ty (some (some (.int x)))) : ∃ t, ty = some t ∧ narrow t (.int x) = .int x := by
  match ty, h with
  | some .boolean, h => exact ⟨_, rfl, by rcases h with rfl | rfl <;> rfl⟩
  | some .int, _ => exact ⟨_, rfl, rfl⟩
  | some .byte, h => exact ⟨_, rfl, by rcases h with rfl | rfl <;> rfl⟩
  | some .char, h => exact ⟨_, rfl, nar_char h.1 h.2⟩
theorem rt_l {ty : Option FieldType} {x : Int64} (h : rtok ty (some (some (.long x)))) : ty = some .long := by
  match ty, h with
  | some .long, _ => rfl
theorem rt_v {ty : Option FieldType} (h : rtok ty (some none)) : ty = none := by
  cases ty with
  | none => rfl
  | some t => cases t <;> exact absurd h id
theorem rt_a {ty : Option FieldType} {x : Option Nat} (h : rtok ty (some (some (va_rf x)))) : ∃ t, ty = some t ∧ ((∃ n, t = .object n) ∨ ∃ u, t = .array u) := by
  cases x with
  | none =>
    have h2 : rtok ty (some (some .null)) := h
    match ty, h2 with
    | some (.object n), _ => exact ⟨_, rfl, Or.inl ⟨_, rfl⟩⟩
  | some a =>
    have h2 : rtok ty (some (some (.ref a))) := h
    match ty, h2 with
    | some (.object n), _ => exact ⟨_, rfl, Or.inl ⟨_, rfl⟩⟩
    | some (.array n), _ => exact ⟨_, rfl, Or.inr ⟨_, rfl⟩⟩
theorem qc_of {H : Heap} {locs : List Loc} (hS : va_S (gZ G) s.heap H locs) (hRW : RW G h H) (hRO : ROH (gL G) (gX G) h) {v : Option Value} (hq : Q (some v) h) : ∀ t : State, t.heap = H → s.WarmedH t.vm → QcA G Q args s (.returned (v.map (tv G))) t := fun t ht _ => ⟨⟨v, h, rfl, hq, by rw [ht]; exact hRW, hRO⟩, vaF_of hS ht⟩
def isEnd : Instr → Bool
  | .ireturn => true
  | .lreturn => true
  | .areturn => true
  | .return_ => true
  | .athrow => true
  | _ => false
theorem tk_end {i : Instr} (he : isEnd i = true) (F : Fra p l e R s m args meth c G k mc ms d) (hB : FrB l meth c k) (hi : insB (mB k) (mT k) (ini k) pc i n = true) (hs : stp C mc ms (MP p l e R s m args below meth c (vx_MQ below (QcA G Q) (XcA G Q) args s mc ms (gZ G)) G k mc ms) (fun v h => rtok (mR k) v ∧ Q v h) i ls st h c1 z1 K) : MP p l e R s m args below meth c (vx_MQ below (QcA G Q) (XcA G Q) args s mc ms (gZ G)) G k mc ms pc ls st h c1 z1 := by
  cases i <;> first | exact absurd he Bool.false_ne_true | skip
  case athrow => exact tk_athrow F hB hi hs
  case ireturn =>
    intro hc hz H locs mls hRW hRO hS hl
    obtain ⟨raw, hd, hn, hq⟩ := inv_ld hi rfl (by intro v q; cases q) (by intro q; cases q)
    obtain ⟨rfl, rfl⟩ := rq_ireturn hq hn
    match st, hs with
    | [.int x], hs =>
      obtain ⟨ty, ht, hnr⟩ := rt_i hs.1
      exact W.widen hc hz (vx_ret (W.zret F.1 F.2.1 (hB.1.trans ht) hnr (qc_of (v := some (.int x)) hS hRW hRO hs.2) (fun q hq => hS.2.2 q hq) hd hB.2.1))
  case lreturn =>
    intro hc hz H locs mls hRW hRO hS hl
    obtain ⟨raw, hd, hn, hq⟩ := inv_ld hi rfl (by intro v q; cases q) (by intro q; cases q)
    obtain ⟨rfl, rfl⟩ := rq_lreturn hq hn
    match st, hs with
    | [.long x], hs =>
      exact W.widen hc hz (vx_ret (W.lret F.1 F.2.1 (hB.1.trans (rt_l hs.1)) (qc_of (v := some (.long x)) hS hRW hRO hs.2) (fun q hq => hS.2.2 q hq) hd hB.2.1))
  case areturn =>
    intro hc hz H locs mls hRW hRO hS hl
    obtain ⟨raw, hd, hn, hq⟩ := inv_ld hi rfl (by intro v q; cases q) (by intro q; cases q)
    obtain ⟨rfl, rfl⟩ := rq_areturn hq hn
    match st, hs with
    | [.ref x], hs =>
      obtain ⟨ty, ht, hnr⟩ := rt_a (x := some x) hs.1
      exact W.widen hc hz (vx_ret (W.aret (v := .ref (gA G x)) F.1 F.2.1 (hB.1.trans ht) hnr (Or.inr ⟨_, rfl⟩) (qc_of (v := some (.ref x)) hS hRW hRO hs.2) (fun q hq => hS.2.2 q hq) hd hB.2.1))
    | [.null], hs =>
      obtain ⟨ty, ht, hnr⟩ := rt_a (x := none) hs.1
      exact W.widen hc hz (vx_ret (W.aret (v := .null) F.1 F.2.1 (hB.1.trans ht) hnr (Or.inl rfl) (qc_of (v := some .null) hS hRW hRO hs.2) (fun q hq => hS.2.2 q hq) hd hB.2.1))
  case return_ =>
    intro hc hz H locs mls hRW hRO hS hl
    obtain ⟨raw, hd, hn, hq⟩ := inv_ld hi rfl (by intro v q; cases q) (by intro q; cases q)
    obtain ⟨rfl, rfl⟩ := rq_return_ hq hn
    match st, hs with
    | [], hs =>
      exact W.widen hc hz (vx_ret (W.vret F.1 F.2.1 (hB.1.trans (rt_v hs.1)) (qc_of (v := none) hS hRW hRO hs.2) (fun q hq => hS.2.2 q hq) hd hB.2.1))
theorem cpy_nn {z : Int32} (hz : 0 ≤ z) : ¬ z < 0 ∧ z.toInt = (z.toNatClampNeg : Int) := by
  have hz0 : (0 : Int) ≤ z.toInt := by simpa using Int32.le_iff_toInt_le.mp hz
  refine ⟨Int32.not_lt.mpr hz, ?_⟩
  show z.toInt = ((z.toInt.toNat : Nat) : Int)
  omega
theorem tk_monitorenter (F : Fra p l e R s m args meth c G k mc ms d) (hi : insB (mB k) (mT k) (ini k) pc .monitorenter n = true) (hK : ∀ ls st h c1 z1, K ls st h c1 z1 → MP p l e R s m args below meth c FQ G k mc ms (pc + n) ls st h c1 z1) (hs : stp C mc ms (MP p l e R s m args below meth c FQ G k mc ms) Q .monitorenter ls st h c1 z1 K) : MP p l e R s m args below meth c FQ G k mc ms pc ls st h c1 z1 := by
  intro hc hz H locs mls hRW hRO hS hl
  obtain ⟨hx, hb, hml, hown, hts, hSU, hROs, hA, hBs, hRc, hRs, hRf, hRl, hini⟩ := F
  obtain ⟨raw, g, a0, g', pl, hd, hn, ht, ho, hg, hq⟩ := inv_lk hi rfl
  obtain ⟨e1, hq⟩ := li_monitorenter hq
  have hg2 : g' = g := by
    rcases hg with e2 | ⟨-, -, e2⟩ | ⟨e2, e3⟩
    · exact e2
    · omega
    · omega
  subst hg2
  subst e1
  have er := lkO_4 ho
  subst er
  have en : n = 3 := eq_of_beq hn
  subst en
  obtain ⟨dp, cn, r0, rfl, hs1⟩ := s2I_inv hs
  clear hs
  obtain ⟨da, r1, rfl, hs2⟩ := s1A_inv hs1
  clear hs1
  obtain ⟨sp, r2, rfl, hs3⟩ := s1I_inv hs2
  clear hs2
  obtain ⟨sa, r, rfl, hs4⟩ := s1A_inv hs3
  clear hs3
  obtain ⟨nd, hkd, hs5⟩ := kA_inv hs4
  obtain ⟨ns, hks, ⟨⟨hsp, hdp, hcn, hsn, hdn⟩, hda, hsa, hr4⟩, hs⟩ := kA_inv hs5
  obtain ⟨-, ht8, -, hcd⟩ := ar_cell hRW hda hkd
  obtain ⟨-, -, -, hcs⟩ := ar_cell hRW hsa hks
  have hav : ∀ i, (fun j => av G h i 0 j) = fun j => Value.int (gi h i j) := fun i => rfl
  have hcs' : H[gA G sa]? = some (arrV (gY G 0) ns (fun j => .int (gi h sa j))) := hcs
  have hcd' : H[gA G da]? = some (arrV (gY G 0) nd (fun j => .int (gi h da j))) := hcd
  have hcat := cat_le G hr4
  obtain ⟨-, k0, hk0, cm0, hkk0⟩ := ar_isA hSU (t := 0) (by decide) ns (fun j => .int (gi h sa j))
  obtain ⟨-, k1, hk1, cm1, hkk1⟩ := ar_isA hSU (t := 0) (by decide) nd (fun j => .int (gi h da j))
  obtain ⟨n1, m1⟩ := cpy_nn hsp
  obtain ⟨n2, m2⟩ := cpy_nn hdp
  obtain ⟨n3, m3⟩ := cpy_nn hcn
  intro T hT X
  obtain ⟨vm', X', step⟩ := X.arraycopy hx (hown ht) (hts _ (tb_in hq)) (hts _ cpy_gw.1) (hts _ cpy_gw.2.1) (hts _ cpy_gw.2.2) (src := gA G sa) (dst := gA G da) (cs := arrV (gY G 0) ns (fun j => .int (gi h sa j))) (cd := arrV (gY G 0) nd (fun j => .int (gi h da j))) (srcPos := sp) (destPos := dp) (n := cn) (by rw [hT]; exact hcs') (by rw [hT]; exact hcd')
    (fun _ h => by cases h) (fun _ h => by cases h) (fun h => by cases h) (fun h => by cases h) hk0 hk1 hkk0 hkk1 (by rfl) n1 n2 n3
    (by rw [m1, m3, arrV_size]; have : sp.toNatClampNeg + cn.toNatClampNeg ≤ ns := hsn; omega)
    (by rw [m2, m3, arrV_size]; have : dp.toNatClampNeg + cn.toNatClampNeg ≤ nd := hdn; omega)
    (fun vm₁ _ i hi => by
      have e : (arrV (gY G 0) ns (fun j => .int (gi h sa j))).slots.getD (sp.toNatClampNeg + i) .null = .int (gi h sa (sp.toNatClampNeg + i)) := by
        have hsn' : sp.toNatClampNeg + cn.toNatClampNeg ≤ ns := hsn
        rw [Array.getD_eq_getD_getElem?, arrV_read _ _ (by omega)]
        rfl
      refine ⟨?_, ?_⟩
      · rw [e]
        rfl
      · rw [e]
        exact trivial)
    (g := F0 m pc mls (.int cn :: .int dp :: .ref (gA G da) :: .int sp :: .ref (gA G sa) :: r.map (tv G))) rfl (hl.1.trans hml.symm) (rest := r.map (tv G)) rfl (by rw [hb]; exact hd) (by omega) (by show 2 * 0 + _ + (5 + 2 + 11) ≤ _; omega)
  have e1 : copied (arrV (gY G 0) ns (fun j => .int (gi h sa j))) (arrV (gY G 0) nd (fun j => .int (gi h da j))) sp dp cn = arrV (gY G 0) nd (fun j => .int (va_cpy (gi h sa) (gi h da) (ix sp) (ix dp) (ix cn) j)) := va_copied (fun z => .int z) (gY G 0) (gY G 0) (gi h sa) (gi h da) hsn
  rw [e1] at X' step
  have hlt : gA G da < H.size := (Array.getElem?_eq_some_iff.mp hcd').1
  generalize hcell : arrV (gY G 0) nd (fun j => .int (va_cpy (gi h sa) (gi h da) (ix sp) (ix dp) (ix cn) j)) = cell at X' step
  have hheap : ((T.setVm vm').setCell (gA G da) cell).heap = H.setIfInBounds (gA G da) cell := by rw [← hT]; rfl
  have oq : ∀ q : Nat, q ≠ gA G da → (H.setIfInBounds (gA G da) cell)[q]? = H[q]? := fun q hq => by simp [Array.getElem?_setIfInBounds, Ne.symm hq]
  have hRW' : RW G (wa h da (va_cpy (gi h sa) (gi h da) (ix sp) (ix dp) (ix cn))) (H.setIfInBounds (gA G da) cell) := by
    refine RW_set hA hda hRW (by simp) oq rfl rfl (fun i hi => up_ne _ _ hi) (fun _ _ => rfl) (fun _ _ => rfl) fun kd hkd2 => ?_
    rw [hkd] at hkd2
    cases hkd2
    refine ⟨by decide, (ar_cell hRW hda hkd).2.2.1, ?_⟩
    have e9 : (H.setIfInBounds (gA G da) cell)[gA G da]? = some cell := by simp [Array.getElem?_setIfInBounds, hlt]
    rw [e9, ← hcell]
    congr 2
    funext j
    have e8 : gi (wa h da (va_cpy (gi h sa) (gi h da) (ix sp) (ix dp) (ix cn))) da = va_cpy (gi h sa) (gi h da) (ix sp) (ix dp) (ix cn) := up_self _ _ _
    show _ = Value.int _
    rw [e8]
  obtain ⟨t, a1, b1⟩ := hK _ _ _ _ _ hs hc hz (H.setIfInBounds (gA G da) cell) _ mls hRW' (ROH_wa hRO hda) ⟨by simp; exact hS.1, fun q g1 g2 => by
      rw [oq q (fun e => g2 (by rw [e]; exact adf_in hA hda))]
      exact hS.2.1 q g1 g2, fun q hq => by
      rcases List.mem_append.mp hq with h | h
      · exact hS.2.2 q h
      · obtain ⟨z, -, hz⟩ := List.mem_map.mp h
        rw [← hz]
        exact adf_in hA hda⟩ hl _ hheap X'
  exact ⟨t, step t a1, b1⟩
end SND6
