/-! ===== tokens over arrays, new objects, constants ===== -/
theorem oi_inst : Cond.instanceMethod Lib.objectInit ∈ gw := tb_in (p := 127) (by decide +kernel)
theorem oi_code : Cond.code Lib.objectInit ⟨#[0xb1]⟩ 1 none ∈ gw := tb_in (p := 128) (by decide +kernel)
theorem no_low {L : Nat} {xs : Nat → Int32} {h : AH} (hR : ROH L xs h) {a t n : Nat} (hk : gk h a = some (.inr (t, n))) (h0 : t ≠ 0) (h2 : t ≠ 2) : 20 ≤ a := by
  rcases Nat.lt_or_ge a 20 with q | q
  · rcases ro_low hR q with ⟨i, -, -, e⟩ | ⟨i, -, -, e⟩ | e | ⟨-, e⟩ <;> rw [e] at hk <;> cases hk
    · exact absurd rfl h2
    · exact absurd rfl h0
  · exact q
theorem ar_in {G : GG} {t nn : Nat} {f : Nat → Value} {j : Int32} (hin : inb j nn) : ¬ (j < 0 ∨ (arrV (gY G t) nn f).slots.size ≤ j.toNatClampNeg) := by
  rw [arrV_size]
  exact inb_in hin
theorem ac_int : Cond.arrayClass .int ∈ gw := tb_in (p := 178) (by decide +kernel)
theorem ac_boolean : Cond.arrayClass .boolean ∈ gw := tb_in (p := 1535) (by decide +kernel)
theorem ac_byte : Cond.arrayClass .byte ∈ gw := tb_in (p := 229) (by decide +kernel)
theorem ac_long : Cond.arrayClass .long ∈ gw := tb_in (p := 1951) (by decide +kernel)
theorem ins_ok : ∀ c, c < 13 → Cond.instantiable (cnm c) (nfc c) ∈ gw ∧ Cond.initialized (cnm c) ∈ gw := by
  intro c hc
  match c, hc with
  | 0, _ => exact ⟨tb_in (p := 398) (by decide +kernel), tb_in (p := 104) (by decide +kernel)⟩
  | 1, _ => exact ⟨tb_in (p := 130) (by decide +kernel), tb_in (p := 96) (by decide +kernel)⟩
  | 2, _ => exact ⟨tb_in (p := 344) (by decide +kernel), tb_in (p := 102) (by decide +kernel)⟩
  | 3, _ => exact ⟨tb_in (p := 357) (by decide +kernel), tb_in (p := 103) (by decide +kernel)⟩
  | 4, _ => exact ⟨tb_in (p := 532) (by decide +kernel), tb_in (p := 107) (by decide +kernel)⟩
  | 5, _ => exact ⟨tb_in (p := 318) (by decide +kernel), tb_in (p := 101) (by decide +kernel)⟩
  | 6, _ => exact ⟨tb_in (p := 198) (by decide +kernel), tb_in (p := 98) (by decide +kernel)⟩
  | 7, _ => exact ⟨tb_in (p := 232) (by decide +kernel), tb_in (p := 99) (by decide +kernel)⟩
  | 8, _ => exact ⟨tb_in (p := 246) (by decide +kernel), tb_in (p := 100) (by decide +kernel)⟩
  | 9, _ => exact ⟨tb_in (p := 182) (by decide +kernel), tb_in (p := 97) (by decide +kernel)⟩
  | 10, _ => exact ⟨tb_in (p := 839) (by decide +kernel), tb_in (p := 114) (by decide +kernel)⟩
  | 11, _ => exact ⟨tb_in (p := 122) (by decide +kernel), tb_in (p := 95) (by decide +kernel)⟩
  | 12, _ => exact ⟨tb_in (p := 1272) (by decide +kernel), tb_in (p := 105) (by decide +kernel)⟩
  | c + 13, h => omega
section SND4
variable {p : Program} {l : Launch} {e : Env} {R : Room} {s : State} {m : MethodId} {args : Array Value} {below : List Frame} {meth : Method} {c : Code} {FQ : State → Prop} {G : GG} {k mc ms d : Nat}
variable {C : Nat → List Value → AH → Nat → Nat → (Option (Option Value) → AH → Prop) → Prop} {Q : Option (Option Value) → AH → Prop} {pc n : Nat} {ls : LL} {st : List Value} {h : AH} {c1 z1 : Nat} {K : LL → List Value → AH → Nat → Nat → Prop}
theorem ldcwS {T : State} {locs : List Loc} {cells slots : Nat} (X : Stand p l e R s m args below meth c T locs cells slots) (hexec : p.tables.exec = Jvm.exec) {own text : String} {index : Nat} {a : Addr} (hown : s.vm.findClass own = some m.cls)
    (hconst : (Cond.stringRef own index text).before args s = true) (hev : (Term.string own index).eval args s none [] s = some (.ref a)) {g : JFrame} (hg : g.method = m) (hdg : decode c.code g.pc = .ok (.ldc_w index, 3)) :
    ∀ target, Steps p.tables e below (T.setTop { g with pc := g.pc + 3, stack := .ref a :: g.stack }) target → Steps p.tables e below (T.setTop g) target := by
  obtain ⟨k, cf, i, a', hk, hcf, hcp, -, hr, hev'⟩ := Cond.stringRef_spec hown hconst
  cases hev.symm.trans hev'
  obtain ⟨k', hk', he⟩ := X.warmed.alike.2.2 _ _ hk
  have hr' : k'.resolved[index]? = some (some (.string a)) := by
    rcases X.warmed.entry hk hk' index with h | ⟨h, -⟩
    · rw [h]; exact hr
    · rw [hr] at h; cases h
  intro target hrest
  subst hg
  jvm_step X.here [hexec, hdg, ldc_w.wp_string (e := e) (s := T) (f := g) X.here.top hk' (by rw [he]; exact hcf) hcp hr']
  exact hrest
theorem outer_arr (c : ClassId) (N h0 : Nat) : ∀ i : Nat, Jvm.Free.Multi.outerC c N h0 i = arrV c N (fun j => if j < i then .ref (h0 + 1 + j) else .null)
  | 0 => by
    show ({ cls := c, slots := Array.replicate N .null, vm := .none } : Cell) = _
    rw [arrV_new]
    refine congrArg (arrV c N) (funext fun j => ?_)
    simp
  | i + 1 => by
    show (Jvm.Free.Multi.outerC c N h0 i).setSlot i (.ref (h0 + 1 + i)) = _
    rw [outer_arr c N h0 i, arrV_store]
    refine congrArg (arrV c N) (funext fun j => ?_)
    by_cases e : j = i
    · subst e
      simp [updV]
    · by_cases h : j < i
      · simp [updV, e, h, Nat.lt_succ_of_lt h]
      · simp [updV, e, h, show ¬ j < i + 1 by omega]
set_option maxRecDepth 20000 in
theorem tk_iaload  (F : Fra p l e R s m args meth c G k mc ms d) (hi : insB (mB k) (mT k) (ini k) pc .iaload n = true) (hK : ∀ ls st h c1 z1, K ls st h c1 z1 → MP p l e R s m args below meth c FQ G k mc ms (pc + n) ls st h c1 z1) (hs : stp C mc ms (MP p l e R s m args below meth c FQ G k mc ms) Q .iaload ls st h c1 z1 K) : MP p l e R s m args below meth c FQ G k mc ms pc ls st h c1 z1 := by
  intro hc hz H locs mls hRW hRO hS hl
  obtain ⟨hx, hb, hml, hown, hts, hSU, hROs, hA, hBs, hRc, hRs, hRf, hRl, hini⟩ := F
  obtain ⟨raw, hd, hn, hq⟩ := inv_ld hi rfl (by intro v q; cases q) (by intro q; cases q)
  obtain ⟨rfl, rfl⟩ := rq_iaload hq hn
  obtain ⟨j, r0, rfl, hs1⟩ := s1I_inv hs
  clear hs
  obtain ⟨a, r, rfl, hs2⟩ := s1A_inv hs1
  obtain ⟨nn, hk, hin, hs⟩ := kA_inv hs2
  have go := hK _ _ _ _ _ hs hc hz H locs mls hRW hRO hS hl
  rcases Nat.lt_or_ge a 20 with ha | ha
  · rcases ro_low hRO ha with ⟨i, -, -, e⟩ | ⟨i, -, -, e⟩ | e | ⟨rfl, e⟩ <;> rw [e] at hk <;> cases hk
    obtain ⟨-, -, -, -, -, x1, x2, x3⟩ := hROs
    refine va_sld hx hb x1 x2 x3 hS (inb_in hin) hd ?_
    have e9 := hRO.2.2.2 _ hin.2
    rw [e9] at go
    exact go
  · obtain ⟨-, ht8, -, hcell⟩ := ar_cell hRW ha hk
    refine W.iald hx hb hcell (ar_isA hSU ht8 _ _) (arrV_unk _ _ _) (ar_in hin) (arrV_read _ _ hin.2) rfl rfl hd ?_
    exact go
set_option maxRecDepth 20000 in
theorem tk_caload  (F : Fra p l e R s m args meth c G k mc ms d) (hi : insB (mB k) (mT k) (ini k) pc .caload n = true) (hK : ∀ ls st h c1 z1, K ls st h c1 z1 → MP p l e R s m args below meth c FQ G k mc ms (pc + n) ls st h c1 z1) (hs : stp C mc ms (MP p l e R s m args below meth c FQ G k mc ms) Q .caload ls st h c1 z1 K) : MP p l e R s m args below meth c FQ G k mc ms pc ls st h c1 z1 := by
  intro hc hz H locs mls hRW hRO hS hl
  obtain ⟨hx, hb, hml, hown, hts, hSU, hROs, hA, hBs, hRc, hRs, hRf, hRl, hini⟩ := F
  obtain ⟨raw, hd, hn, hq⟩ := inv_ld hi rfl (by intro v q; cases q) (by intro q; cases q)
  obtain ⟨rfl, rfl⟩ := rq_caload hq hn
  obtain ⟨j, r0, rfl, hs1⟩ := s1I_inv hs
  clear hs
  obtain ⟨a, r, rfl, hs2⟩ := s1A_inv hs1
  obtain ⟨nn, hk, hin, hs⟩ := kA_inv hs2
  have go := hK _ _ _ _ _ hs hc hz H locs mls hRW hRO hS hl
  have ha := no_low hRO hk (by decide) (by decide)
  obtain ⟨-, ht8, -, hcell⟩ := ar_cell hRW ha hk
  refine W.zald hx hb hcell (ar_isA hSU ht8 _ _) (arrV_unk _ _ _) (ar_in hin) (arrV_read _ _ hin.2) rfl rfl hd ?_
  exact go
set_option maxRecDepth 20000 in
theorem tk_baload  (F : Fra p l e R s m args meth c G k mc ms d) (hi : insB (mB k) (mT k) (ini k) pc .baload n = true) (hK : ∀ ls st h c1 z1, K ls st h c1 z1 → MP p l e R s m args below meth c FQ G k mc ms (pc + n) ls st h c1 z1) (hs : stp C mc ms (MP p l e R s m args below meth c FQ G k mc ms) Q .baload ls st h c1 z1 K) : MP p l e R s m args below meth c FQ G k mc ms pc ls st h c1 z1 := by
  intro hc hz H locs mls hRW hRO hS hl
  obtain ⟨hx, hb, hml, hown, hts, hSU, hROs, hA, hBs, hRc, hRs, hRf, hRl, hini⟩ := F
  obtain ⟨raw, hd, hn, hq⟩ := inv_ld hi rfl (by intro v q; cases q) (by intro q; cases q)
  obtain ⟨rfl, rfl⟩ := rq_baload hq hn
  obtain ⟨j, r0, rfl, hs1⟩ := s1I_inv hs
  clear hs
  obtain ⟨a, r, rfl, hs2⟩ := s1A_inv hs1
  obtain ⟨nn, hk, hin, hs⟩ := kA_inv hs2
  have go := hK _ _ _ _ _ hs hc hz H locs mls hRW hRO hS hl
  rcases Nat.lt_or_ge a 20 with ha | ha
  · rcases ro_low hRO ha with ⟨i, -, -, e⟩ | ⟨i, hi9, rfl, e⟩ | e | ⟨rfl, e⟩ <;> rw [e] at hk <;> cases hk
    obtain ⟨v1, -⟩ := hROs
    refine va_tb hx hb (v1.1 i hi9).2.2.2 hS (inb_in hin) (v := .int ((sby.getD i []).getD (ix j) 0)) rfl hd ?_
    have e9 := (hRO.1 i hi9).2.2.2.2 _ hin.2
    rw [e9] at go
    exact go
  · obtain ⟨-, ht8, -, hcell⟩ := ar_cell hRW ha hk
    refine W.bald hx hb hcell (ar_isA hSU ht8 _ _) (arrV_unk _ _ _) (ar_in hin) (arrV_read _ _ hin.2) rfl rfl hd ?_
    exact go
set_option maxRecDepth 20000 in
theorem tk_laload  (F : Fra p l e R s m args meth c G k mc ms d) (hi : insB (mB k) (mT k) (ini k) pc .laload n = true) (hK : ∀ ls st h c1 z1, K ls st h c1 z1 → MP p l e R s m args below meth c FQ G k mc ms (pc + n) ls st h c1 z1) (hs : stp C mc ms (MP p l e R s m args below meth c FQ G k mc ms) Q .laload ls st h c1 z1 K) : MP p l e R s m args below meth c FQ G k mc ms pc ls st h c1 z1 := by
  intro hc hz H locs mls hRW hRO hS hl
  obtain ⟨hx, hb, hml, hown, hts, hSU, hROs, hA, hBs, hRc, hRs, hRf, hRl, hini⟩ := F
  obtain ⟨raw, hd, hn, hq⟩ := inv_ld hi rfl (by intro v q; cases q) (by intro q; cases q)
  obtain ⟨rfl, rfl⟩ := rq_laload hq hn
  obtain ⟨j, r0, rfl, hs1⟩ := s1I_inv hs
  clear hs
  obtain ⟨a, r, rfl, hs2⟩ := s1A_inv hs1
  obtain ⟨nn, hk, hin, hs⟩ := kA_inv hs2
  have go := hK _ _ _ _ _ hs hc hz H locs mls hRW hRO hS hl
  have ha := no_low hRO hk (by decide) (by decide)
  obtain ⟨-, ht8, -, hcell⟩ := ar_cell hRW ha hk
  refine W.lald hx hb hcell (ar_isA hSU ht8 _ _) (arrV_unk _ _ _) (ar_in hin) (arrV_read _ _ hin.2) rfl rfl hd ?_
  exact go
set_option maxRecDepth 20000 in
theorem tk_aaload  (F : Fra p l e R s m args meth c G k mc ms d) (hi : insB (mB k) (mT k) (ini k) pc .aaload n = true) (hK : ∀ ls st h c1 z1, K ls st h c1 z1 → MP p l e R s m args below meth c FQ G k mc ms (pc + n) ls st h c1 z1) (hs : stp C mc ms (MP p l e R s m args below meth c FQ G k mc ms) Q .aaload ls st h c1 z1 K) : MP p l e R s m args below meth c FQ G k mc ms pc ls st h c1 z1 := by
  intro hc hz H locs mls hRW hRO hS hl
  obtain ⟨hx, hb, hml, hown, hts, hSU, hROs, hA, hBs, hRc, hRs, hRf, hRl, hini⟩ := F
  obtain ⟨raw, hd, hn, hq⟩ := inv_ld hi rfl (by intro v q; cases q) (by intro q; cases q)
  obtain ⟨rfl, rfl⟩ := rq_aaload hq hn
  obtain ⟨j, r0, rfl, hs1⟩ := s1I_inv hs
  clear hs
  obtain ⟨a, r, rfl, hs2⟩ := s1A_inv hs1
  obtain ⟨⟨t, nn, hk, h4, h8, hin⟩, hs⟩ := hs2
  have go := hK _ _ _ _ _ hs hc hz H locs mls hRW hRO hS hl
  have ha := no_low hRO hk (by omega) (by omega)
  obtain ⟨-, ht8, -, hcell⟩ := ar_cell hRW ha hk
  have href : (ty8 t).isReference = true := by
    rcases (by omega : t = 4 ∨ t = 5 ∨ t = 6 ∨ t = 7) with rfl | rfl | rfl | rfl <;> rfl
  refine W.aald hx hb hcell (ar_isA hSU ht8 _ _) href (arrV_unk _ _ _) (ar_in hin) (arrV_read _ _ hin.2) rfl rfl hd ?_
  have ev : av G h a t (ix j) = tv G (va_rf (gr h a (ix j))) := by
    simp only [av]
    rw [if_neg (by omega), if_neg (by omega)]
  have ev2 : av G h a t j.toNatClampNeg = tv G (va_rf (gr h a (ix j))) := ev
  rw [ev2]
  exact go
theorem gi_wi (h : AH) (a k : Nat) (v : Int32) : gi (wi h a k v) a = up (gi h a) k v := up_self _ _ _
theorem gl_wl (h : AH) (a k : Nat) (v : Int64) : gl (wl h a k v) a = up (gl h a) k v := up_self _ _ _
theorem gr_wr (h : AH) (a k : Nat) (v : Option Nat) : gr (wr h a k v) a = up (gr h a) k v := up_self _ _ _
theorem gi_wr (h : AH) (a k : Nat) (v : Option Nat) : gi (wr h a k v) = gi h := rfl
theorem gi_wl (h : AH) (a k : Nat) (v : Int64) : gi (wl h a k v) = gi h := rfl
theorem gr_wi (h : AH) (a k : Nat) (v : Int32) : gr (wi h a k v) = gr h := rfl
theorem gl_wi (h : AH) (a k : Nat) (v : Int32) : gl (wi h a k v) = gl h := rfl
theorem gl_wr (h : AH) (a k : Nat) (v : Option Nat) : gl (wr h a k v) = gl h := rfl
theorem gr_wl (h : AH) (a k : Nat) (v : Int64) : gr (wl h a k v) = gr h := rfl
set_option maxRecDepth 20000 in
theorem tk_iastore  (F : Fra p l e R s m args meth c G k mc ms d) (hi : insB (mB k) (mT k) (ini k) pc .iastore n = true) (hK : ∀ ls st h c1 z1, K ls st h c1 z1 → MP p l e R s m args below meth c FQ G k mc ms (pc + n) ls st h c1 z1) (hs : stp C mc ms (MP p l e R s m args below meth c FQ G k mc ms) Q .iastore ls st h c1 z1 K) : MP p l e R s m args below meth c FQ G k mc ms pc ls st h c1 z1 := by
  intro hc hz H locs mls hRW hRO hS hl
  obtain ⟨hx, hb, hml, hown, hts, hSU, hROs, hA, hBs, hRc, hRs, hRf, hRl, hini⟩ := F
  obtain ⟨raw, hd, hn, hq⟩ := inv_ld hi rfl (by intro v q; cases q) (by intro q; cases q)
  obtain ⟨rfl, rfl⟩ := rq_iastore hq hn
  obtain ⟨j, x, r0, rfl, hs1⟩ := s2I_inv hs
  clear hs
  obtain ⟨a, r, rfl, hs2⟩ := s1A_inv hs1
  obtain ⟨nn, hk, ⟨hin, ha⟩, hs⟩ := kA_inv hs2
  obtain ⟨-, ht8, -, hcell⟩ := ar_cell hRW ha hk
  refine W.iast hx hb hcell (ar_isA hSU ht8 _ _) (arrV_unk _ _ _) (ar_in hin) rfl rfl hd fun H' e1 e2 e3 => ?_
  have hRW' : RW G (wi h a (ix j) x) H' := RW_arr hA hRW ha hk e1 e2 e3 rfl rfl (fun i hi => up_ne _ _ hi) (fun _ _ => rfl) (fun _ _ => rfl) (fun i => by
    simp only [av, updV, gi_wi, gr_wi, gl_wi]
    by_cases ei : i = ix j
    · subst ei
      rw [up_self]
      simp [ix]
    · rw [up_ne _ _ ei]
      have ei2 : ¬ i = j.toNatClampNeg := ei
      simp [ei2])
  exact hK _ _ _ _ _ hs hc hz H' _ mls hRW' (ROH_wi hRO ha) (hS.put e2 e3 (adf_in hA ha)) hl
set_option maxRecDepth 20000 in
theorem tk_castore  (F : Fra p l e R s m args meth c G k mc ms d) (hi : insB (mB k) (mT k) (ini k) pc .castore n = true) (hK : ∀ ls st h c1 z1, K ls st h c1 z1 → MP p l e R s m args below meth c FQ G k mc ms (pc + n) ls st h c1 z1) (hs : stp C mc ms (MP p l e R s m args below meth c FQ G k mc ms) Q .castore ls st h c1 z1 K) : MP p l e R s m args below meth c FQ G k mc ms pc ls st h c1 z1 := by
  intro hc hz H locs mls hRW hRO hS hl
  obtain ⟨hx, hb, hml, hown, hts, hSU, hROs, hA, hBs, hRc, hRs, hRf, hRl, hini⟩ := F
  obtain ⟨raw, hd, hn, hq⟩ := inv_ld hi rfl (by intro v q; cases q) (by intro q; cases q)
  obtain ⟨rfl, rfl⟩ := rq_castore hq hn
  obtain ⟨j, x, r0, rfl, hs1⟩ := s2I_inv hs
  clear hs
  obtain ⟨a, r, rfl, hs2⟩ := s1A_inv hs1
  obtain ⟨nn, hk, ⟨hin, ha, hx01⟩, hs⟩ := kA_inv hs2
  obtain ⟨-, ht8, -, hcell⟩ := ar_cell hRW ha hk
  refine W.zast hx hb hcell (ar_isA hSU ht8 _ _) (arrV_unk _ _ _) (ar_in hin) rfl rfl hd fun H' e1 e2 e3 => ?_
  have enx : narrow .boolean (.int x) = .int x := by rcases hx01 with rfl | rfl <;> rfl
  rw [enx] at e1
  have hRW' : RW G (wi h a (ix j) x) H' := RW_arr hA hRW ha hk e1 e2 e3 rfl rfl (fun i hi => up_ne _ _ hi) (fun _ _ => rfl) (fun _ _ => rfl) (fun i => by
    simp only [av, updV, gi_wi, gr_wi, gl_wi]
    by_cases ei : i = ix j
    · subst ei
      rw [up_self]
      simp [ix]
    · rw [up_ne _ _ ei]
      have ei2 : ¬ i = j.toNatClampNeg := ei
      simp [ei2])
  exact hK _ _ _ _ _ hs hc hz H' _ mls hRW' (ROH_wi hRO ha) (hS.put e2 e3 (adf_in hA ha)) hl
set_option maxRecDepth 20000 in
theorem tk_bastore  (F : Fra p l e R s m args meth c G k mc ms d) (hi : insB (mB k) (mT k) (ini k) pc .bastore n = true) (hK : ∀ ls st h c1 z1, K ls st h c1 z1 → MP p l e R s m args below meth c FQ G k mc ms (pc + n) ls st h c1 z1) (hs : stp C mc ms (MP p l e R s m args below meth c FQ G k mc ms) Q .bastore ls st h c1 z1 K) : MP p l e R s m args below meth c FQ G k mc ms pc ls st h c1 z1 := by
  intro hc hz H locs mls hRW hRO hS hl
  obtain ⟨hx, hb, hml, hown, hts, hSU, hROs, hA, hBs, hRc, hRs, hRf, hRl, hini⟩ := F
  obtain ⟨raw, hd, hn, hq⟩ := inv_ld hi rfl (by intro v q; cases q) (by intro q; cases q)
  obtain ⟨rfl, rfl⟩ := rq_bastore hq hn
  obtain ⟨j, x, r0, rfl, hs1⟩ := s2I_inv hs
  clear hs
  obtain ⟨a, r, rfl, hs2⟩ := s1A_inv hs1
  obtain ⟨nn, hk, ⟨hin, ha⟩, hs⟩ := kA_inv hs2
  obtain ⟨-, ht8, -, hcell⟩ := ar_cell hRW ha hk
  refine W.bast hx hb hcell (ar_isA hSU ht8 _ _) (arrV_unk _ _ _) (ar_in hin) rfl rfl hd fun H' e1 e2 e3 => ?_
  rw [narrow_byte] at e1
  have hRW' : RW G (wi h a (ix j) x.toInt8.toInt32) H' := RW_arr hA hRW ha hk e1 e2 e3 rfl rfl (fun i hi => up_ne _ _ hi) (fun _ _ => rfl) (fun _ _ => rfl) (fun i => by
    simp only [av, updV, gi_wi, gr_wi, gl_wi]
    by_cases ei : i = ix j
    · subst ei
      rw [up_self]
      simp [ix]
    · rw [up_ne _ _ ei]
      have ei2 : ¬ i = j.toNatClampNeg := ei
      simp [ei2])
  exact hK _ _ _ _ _ hs hc hz H' _ mls hRW' (ROH_wi hRO ha) (hS.put e2 e3 (adf_in hA ha)) hl
set_option maxRecDepth 20000 in
theorem tk_lastore  (F : Fra p l e R s m args meth c G k mc ms d) (hi : insB (mB k) (mT k) (ini k) pc .lastore n = true) (hK : ∀ ls st h c1 z1, K ls st h c1 z1 → MP p l e R s m args below meth c FQ G k mc ms (pc + n) ls st h c1 z1) (hs : stp C mc ms (MP p l e R s m args below meth c FQ G k mc ms) Q .lastore ls st h c1 z1 K) : MP p l e R s m args below meth c FQ G k mc ms pc ls st h c1 z1 := by
  intro hc hz H locs mls hRW hRO hS hl
  obtain ⟨hx, hb, hml, hown, hts, hSU, hROs, hA, hBs, hRc, hRs, hRf, hRl, hini⟩ := F
  obtain ⟨raw, hd, hn, hq⟩ := inv_ld hi rfl (by intro v q; cases q) (by intro q; cases q)
  obtain ⟨rfl, rfl⟩ := rq_lastore hq hn
  obtain ⟨x, r0, rfl, hs0⟩ := s1L_inv hs
  clear hs
  obtain ⟨j, r1, rfl, hs1⟩ := s1I_inv hs0
  obtain ⟨a, r, rfl, hs2⟩ := s1A_inv hs1
  obtain ⟨nn, hk, ⟨hin, ha⟩, hs⟩ := kA_inv hs2
  obtain ⟨-, ht8, -, hcell⟩ := ar_cell hRW ha hk
  refine W.last hx hb hcell (ar_isA hSU ht8 _ _) (arrV_unk _ _ _) (ar_in hin) rfl rfl hd fun H' e1 e2 e3 => ?_
  have hRW' : RW G (wl h a (ix j) x) H' := RW_arr hA hRW ha hk e1 e2 e3 rfl rfl (fun _ _ => rfl) (fun _ _ => rfl) (fun i hi => up_ne _ _ hi) (fun i => by
    simp only [av, updV, gl_wl, gi_wl, gr_wl]
    by_cases ei : i = ix j
    · subst ei
      rw [up_self]
      simp [ix]
    · rw [up_ne _ _ ei]
      have ei2 : ¬ i = j.toNatClampNeg := ei
      simp [ei2])
  exact hK _ _ _ _ _ hs hc hz H' _ mls hRW' (ROH_wl hRO) (hS.put e2 e3 (adf_in hA ha)) hl
set_option maxRecDepth 20000 in
theorem tk_aastore  (F : Fra p l e R s m args meth c G k mc ms d) (hi : insB (mB k) (mT k) (ini k) pc .aastore n = true) (hK : ∀ ls st h c1 z1, K ls st h c1 z1 → MP p l e R s m args below meth c FQ G k mc ms (pc + n) ls st h c1 z1) (hs : stp C mc ms (MP p l e R s m args below meth c FQ G k mc ms) Q .aastore ls st h c1 z1 K) : MP p l e R s m args below meth c FQ G k mc ms pc ls st h c1 z1 := by
  intro hc hz H locs mls hRW hRO hS hl
  obtain ⟨hx, hb, hml, hown, hts, hSU, hROs, hA, hBs, hRc, hRs, hRf, hRl, hini⟩ := F
  obtain ⟨raw, hd, hn, hq⟩ := inv_ld hi rfl (by intro v q; cases q) (by intro q; cases q)
  obtain ⟨rfl, rfl⟩ := rq_aastore hq hn
  obtain ⟨x, r0, rfl, hs0⟩ := s1R_inv hs
  clear hs
  obtain ⟨j, r1, rfl, hs1⟩ := s1I_inv hs0
  obtain ⟨a, r, rfl, ⟨t, nn, hk, h4, h7, hin, ha, hel⟩, hs⟩ := s1A_inv hs1
  obtain ⟨-, ht8, -, hcell⟩ := ar_cell hRW ha hk
  have fin : ∀ H' : Heap, H'[gA G a]? = some ((arrV (gY G t) nn (av G h a t)).setSlot (ix j) (tv G (va_rf x))) → H'.size = H.size → (∀ q, q ≠ gA G a → H'[q]? = H[q]?) → W p l e R s m args below meth c H' (locs ++ [⟨gA G a, ix j⟩]) c1 z1 FQ (F0 m (pc + 1) mls (r.map (tv G))) := by
    intro H' e1 e2 e3
    have hRW' : RW G (wr h a (ix j) x) H' := RW_arr hA hRW ha hk e1 e2 e3 rfl rfl (fun _ _ => rfl) (fun i hi => up_ne _ _ hi) (fun _ _ => rfl) (fun i => by
      simp only [av, updV, gr_wr, gi_wr, gl_wr]
      rw [if_neg (by omega), if_neg (by omega)]
      by_cases ei : i = ix j
      · subst ei
        rw [up_self, if_pos rfl]
      · rw [up_ne _ _ ei, if_neg ei, if_neg (by omega), if_neg (by omega)])
    exact hK _ _ _ _ _ hs hc hz H' _ mls hRW' (ROH_wr hRO ha) (hS.put e2 e3 (adf_in hA ha)) hl
  have ecase : ∃ nmE, ty8 t = .object nmE ∧ cnm (ecl t) = nmE ∧ ecl t < 13 := by
    rcases (by omega : t = 4 ∨ t = 5 ∨ t = 6) with rfl | rfl | rfl
    · exact ⟨_, rfl, rfl, by decide⟩
    · exact ⟨_, rfl, rfl, by decide⟩
    · exact ⟨_, rfl, rfl, by decide⟩
  obtain ⟨nmE, et, ec, e13⟩ := ecase
  have hisA := ar_isA hSU ht8 nn (av G h a t)
  have hRA := (hSU.1.2 t _ (tys8_at G ht8)).2
  rw [et] at hisA hRA
  cases x with
  | none => exact va_WaastN hx hb hcell hisA (arrV_unk _ _ _) (ar_in hin) rfl rfl hd fin
  | some b =>
    obtain ⟨hb20, hkb⟩ := hel b rfl
    obtain ⟨-, -, cv, v1, v2, v3, -⟩ := ob_cell hRW hRO e13 hkb
    obtain ⟨kA, comp, k1, k2, k3, -⟩ := hRA
    obtain ⟨-, hfc, kC, hkC, -⟩ := hSU.1.1 (ecl t) _ (vw_at _ e13)
    rw [ec] at hfc
    have ecomp : (gD G).1 (ecl t) = comp := Option.some.inj (hfc.symm.trans k3)
    obtain ⟨kE, hkE, -⟩ := Vm.findClass_spec k3
    exact W.aast hx hb hcell (fun q z => by cases z) (arrV_unk _ _ _) k1 k2 rfl hkE ⟨fun z => inb_in hin (Or.inl z), Nat.not_le.mp fun z => ar_in (G := G) (t := t) (f := av G h a t) hin (Or.inr z)⟩ v1 (fun q z => by rw [v3] at z; cases z) (by rw [v2]; exact hkC) (by rw [v2, ecomp]; exact va_asg _ _) rfl rfl hd fin
set_option maxRecDepth 20000 in
theorem tk_arraylength  (F : Fra p l e R s m args meth c G k mc ms d) (hi : insB (mB k) (mT k) (ini k) pc .arraylength n = true) (hK : ∀ ls st h c1 z1, K ls st h c1 z1 → MP p l e R s m args below meth c FQ G k mc ms (pc + n) ls st h c1 z1) (hs : stp C mc ms (MP p l e R s m args below meth c FQ G k mc ms) Q .arraylength ls st h c1 z1 K) : MP p l e R s m args below meth c FQ G k mc ms pc ls st h c1 z1 := by
  intro hc hz H locs mls hRW hRO hS hl
  obtain ⟨hx, hb, hml, hown, hts, hSU, hROs, hA, hBs, hRc, hRs, hRf, hRl, hini⟩ := F
  obtain ⟨raw, hd, hn, hq⟩ := inv_ld hi rfl (by intro v q; cases q) (by intro q; cases q)
  obtain ⟨rfl, rfl⟩ := rq_arraylength hq hn
  obtain ⟨a, r, rfl, t, nn, hk, hs⟩ := s1A_inv hs
  have go := hK _ _ _ _ _ hs hc hz H locs mls hRW hRO hS hl
  rcases Nat.lt_or_ge a 20 with ha | ha
  · rcases ro_low hRO ha with ⟨i, -, -, e⟩ | ⟨i, hi9, rfl, e⟩ | e | ⟨rfl, e⟩ <;> rw [e] at hk <;> cases hk
    · obtain ⟨v1, -⟩ := hROs
      exact va_tlen hx hb (v1.1 i hi9).2.2.2 hS rfl hd go
    · obtain ⟨-, -, -, -, -, x1, x2, x3⟩ := hROs
      exact va_slen hx hb x1 x2 x3 hS hd go
  · obtain ⟨-, ht8, -, hcell⟩ := ar_cell hRW ha hk
    exact W.alen (n := nI nn) hx hb hcell (ar_isA hSU ht8 _ _) (by rw [arrV_size]; rfl) rfl rfl hd go
set_option maxRecDepth 20000 in
theorem tk_new {w : Nat} (F : Fra p l e R s m args meth c G k mc ms d) (hi : insB (mB k) (mT k) (ini k) pc (.new w) n = true) (hK : ∀ ls st h c1 z1, K ls st h c1 z1 → MP p l e R s m args below meth c FQ G k mc ms (pc + n) ls st h c1 z1) (hs : stp C mc ms (MP p l e R s m args below meth c FQ G k mc ms) Q (.new w) ls st h c1 z1 K) : MP p l e R s m args below meth c FQ G k mc ms pc ls st h c1 z1 := by
  intro hc hz H locs mls hRW hRO hS hl
  obtain ⟨hx, hb, hml, hown, hts, hSU, hROs, hA, hBs, hRc, hRs, hRf, hRl, hini⟩ := F
  obtain ⟨raw, g, a0, g', pl, hd, hn, ht, ho, hg, hq⟩ := inv_lk hi rfl
  obtain ⟨⟨hc2, hz2⟩, hs⟩ := hs
  replace hq := li_new hq
  have hgg : g = 5 := by
    rcases hg with rfl | ⟨-, -, rfl⟩ | ⟨-, rfl⟩
    · exact hq.1
    · exact absurd hq.1 (by decide)
    · exact absurd hq.1 (by decide)
  subst hgg
  have hq2 := hq.2
  simp only [Bool.and_eq_true, decide_eq_true_eq] at hq2
  obtain ⟨hq1, hw⟩ := hq2
  have er := lkO_5 ho
  subst er
  have en : n = 3 := eq_of_beq hn
  subst en
  obtain ⟨i1, i2⟩ := ins_ok w hw
  have hKn := hSU.1.1 w _ (vw_at w hw)
  refine W.newcK hx hb (hown ht) (hts _ (tb_in hq1)) (hts _ i1) (hts _ i2) rfl hd (by omega) (by omega) hKn.2.1 rfl fun H1 kC hkC e1 zz o1 => ?_
  have eat := RW_al_at hA hRW
  have hCA : CA G (al h (.inl w)) H1 (gn h) (.inl w) := by
    refine ⟨hw, ?_⟩
    rw [eat]
    exact (u_born (tyO w) hts (lay_in w hw) hKn hkC e1 (tyO_ok w hw)).to fun j hj => fd_new hw hj
  have go := hK _ _ _ _ _ hs (by omega) (by omega) H1 locs mls (RW_al hA hRW zz o1 hCA) (ROH_al hRO hRW.1) (va_S_grow hS (by omega) o1) hl
  simp only [List.map_cons, tv, eat] at go
  exact go
theorem ar_name {U : State} (hSU : SU G U) {t : Nat} (ht : t < 8) : U.vm.findClass ("[" ++ (ty8 t).toString) = some (gY G t) := by
  have h := (hSU.1.2 t _ (tys8_at G ht)).2
  match t, ht with
  | 0, _ => exact h
  | 1, _ => exact h
  | 2, _ => exact h
  | 3, _ => exact h
  | 4, _ => obtain ⟨_, _, _, _, _, h4⟩ := h; exact h4
  | 5, _ => obtain ⟨_, _, _, _, _, h4⟩ := h; exact h4
  | 6, _ => obtain ⟨_, _, _, _, _, h4⟩ := h; exact h4
  | 7, _ => exact h
  | t + 8, q => omega
theorem av_new {h : AH} {t N : Nat} (ht : t < 8) : av G (al h (.inr (t, N))) (gn h) t = fun _ => defaultValue (ty8 t) := by
  funext j
  have e1 : gi (al h (.inr (t, N))) (gn h) = fun _ => 0 := up_self _ _ _
  have e2 : gr (al h (.inr (t, N))) (gn h) = fun _ => none := up_self _ _ _
  have e3 : gl (al h (.inr (t, N))) (gn h) = fun _ => 0 := up_self _ _ _
  simp only [av, e1, e2, e3]
  match t, ht with
  | 0, _ => rfl
  | 1, _ => rfl
  | 2, _ => rfl
  | 3, _ => rfl
  | 4, _ => rfl
  | 5, _ => rfl
  | 6, _ => rfl
  | 7, _ => rfl
  | t + 8, q => omega
theorem CA_newarr {h : AH} {H1 : Heap} {t N : Nat} (ht : t < 8) (hN : N ≤ 65536) (e1 : H1[gA G (gn h)]? = some (arrV (gY G t) N (fun _ => defaultValue (ty8 t)))) : CA G (al h (.inr (t, N))) H1 (gn h) (.inr (t, N)) := ⟨ht, hN, by rw [av_new ht]; exact e1⟩
set_option maxRecDepth 20000 in
theorem tk_newarray {ty : ClassFile.ArrayType} (F : Fra p l e R s m args meth c G k mc ms d) (hi : insB (mB k) (mT k) (ini k) pc (.newarray ty) n = true) (hK : ∀ ls st h c1 z1, K ls st h c1 z1 → MP p l e R s m args below meth c FQ G k mc ms (pc + n) ls st h c1 z1) (hs : stp C mc ms (MP p l e R s m args below meth c FQ G k mc ms) Q (.newarray ty) ls st h c1 z1 K) : MP p l e R s m args below meth c FQ G k mc ms pc ls st h c1 z1 := by
  intro hc hz H locs mls hRW hRO hS hl
  obtain ⟨hx, hb, hml, hown, hts, hSU, hROs, hA, hBs, hRc, hRs, hRf, hRl, hini⟩ := F
  obtain ⟨raw, hd, hn, hq⟩ := inv_ld hi rfl (by intro v q; cases q) (by intro q; cases q)
  obtain ⟨x, r, rfl, ⟨h0, h65, hc2, hz2⟩, hs⟩ := s1I_inv hs
  obtain ⟨rfl, hty, rfl⟩ := rq_newarray hq hn
  have hh : aty ty < 8 ∧ ty8 (aty ty) = newarray.typeOf ty ∧ Cond.arrayClass (newarray.typeOf ty) ∈ gw ∧ componentBytes (newarray.typeOf ty) ≤ 8 := by
    rcases hty with rfl | rfl | rfl | rfl
    · exact ⟨by decide, rfl, ac_int, by decide⟩
    · exact ⟨by decide, rfl, ac_boolean, by decide⟩
    · exact ⟨by decide, rfl, ac_byte, by decide⟩
    · exact ⟨by decide, rfl, ac_long, by decide⟩
  obtain ⟨ht8, etn, hac, hcb⟩ := hh
  refine va_newaK hx hb (hts _ hac) rfl hd rfl (Int32.not_lt.mpr h0) rfl (Nat.le_trans (Nat.mul_le_mul h65 hcb) (by decide)) (by omega) (show z1 + ix x ≤ R.slots by omega) rfl fun H1 cA e1 zz o1 hAr hnm => ?_
  have eat := RW_al_at hA hRW
  rw [← etn] at e1 hnm
  have ecA : cA = gY G (aty ty) := Option.some.inj (hnm.symm.trans (ar_name hSU ht8))
  rw [ecA, ← eat] at e1
  have go := hK _ _ _ _ _ hs (by omega) (by omega) H1 locs mls (RW_al hA hRW zz o1 (CA_newarr ht8 h65 e1)) (ROH_al hRO hRW.1) (va_S_grow hS (by omega) o1) hl
  simp only [List.map_cons, tv, eat] at go
  exact go
set_option maxRecDepth 20000 in
theorem tk_anewarray {w : Nat} (F : Fra p l e R s m args meth c G k mc ms d) (hi : insB (mB k) (mT k) (ini k) pc (.anewarray w) n = true) (hK : ∀ ls st h c1 z1, K ls st h c1 z1 → MP p l e R s m args below meth c FQ G k mc ms (pc + n) ls st h c1 z1) (hs : stp C mc ms (MP p l e R s m args below meth c FQ G k mc ms) Q (.anewarray w) ls st h c1 z1 K) : MP p l e R s m args below meth c FQ G k mc ms pc ls st h c1 z1 := by
  intro hc hz H locs mls hRW hRO hS hl
  obtain ⟨hx, hb, hml, hown, hts, hSU, hROs, hA, hBs, hRc, hRs, hRf, hRl, hini⟩ := F
  obtain ⟨raw, g, a0, g', pl, hd, hn, ht, ho, hg, hq⟩ := inv_lk hi rfl
  obtain ⟨x, r, rfl, ⟨h0, h65, hc2, hz2⟩, hs⟩ := s1I_inv hs
  replace hq := li_anewarray hq
  have hgg : g = 6 := by
    rcases hg with rfl | ⟨-, -, rfl⟩ | ⟨-, rfl⟩
    · exact hq.1
    · exact absurd hq.1 (by decide)
    · exact absurd hq.1 (by decide)
  subst hgg
  have hq2 := hq.2
  simp only [Bool.and_eq_true, decide_eq_true_eq] at hq2
  obtain ⟨⟨hq1, hw4⟩, hw6⟩ := hq2
  have er := lkO_6 ho
  subst er
  have en : n = 3 := eq_of_beq hn
  subst en
  have hh : ty8 w = .object (elm w) ∧ defaultValue (ty8 w) = .null := by
    rcases (by omega : w = 4 ∨ w = 5 ∨ w = 6) with rfl | rfl | rfl
    · exact ⟨rfl, rfl⟩
    · exact ⟨rfl, rfl⟩
    · exact ⟨rfl, rfl⟩
  obtain ⟨etn, hdv⟩ := hh
  have hao := hSU.2.2.2.1 w hw4 hw6
  have ht8 : w < 8 := by omega
  refine W.anew hx hb (hown ht) (hts _ (tb_in hq1)) (va_AO.use hao) rfl hd rfl (Int32.not_lt.mpr h0) (Nat.le_trans (Nat.mul_le_mul_right 4 h65) (by decide)) (by omega) (show z1 + ix x ≤ R.slots by omega) fun cA kA comp f1 f2 f3 f4 => ?_
  have eat := RW_al_at hA hRW
  have hnm := ar_name hSU ht8
  rw [etn] at hnm
  have ecA : cA = gY G w := Option.some.inj (f1.symm.trans hnm)
  subst ecA
  generalize hH1 : H.push ({ cls := gY G w, slots := Array.replicate x.toNatClampNeg .null, vm := .none } : Cell) = H1
  have zz : H1.size = H.size + 1 := by rw [← hH1, Array.size_push]
  have e1 : H1[H.size]? = some (arrV (gY G w) (ix x) (fun _ => .null)) := by rw [← hH1, Array.getElem?_push_size, ← arrV_new]; rfl
  have o1 : ∀ q : Nat, q < H.size → H1[q]? = H[q]? := fun q hq => by rw [← hH1, Array.getElem?_push, if_neg (Nat.ne_of_lt hq)]
  rw [← eat] at e1
  have go := hK _ _ _ _ _ hs (by omega) (by omega) H1 locs mls (RW_al hA hRW zz o1 (CA_newarr ht8 h65 (by rw [hdv]; exact e1))) (ROH_al hRO hRW.1) (va_S_grow hS (by omega) o1) hl
  simp only [List.map_cons, tv, eat] at go
  exact go
set_option maxRecDepth 20000 in
theorem tk_multianewarray {w v : Nat} (F : Fra p l e R s m args meth c G k mc ms d) (hi : insB (mB k) (mT k) (ini k) pc (.multianewarray w v) n = true) (hK : ∀ ls st h c1 z1, K ls st h c1 z1 → MP p l e R s m args below meth c FQ G k mc ms (pc + n) ls st h c1 z1) (hs : stp C mc ms (MP p l e R s m args below meth c FQ G k mc ms) Q (.multianewarray w v) ls st h c1 z1 K) : MP p l e R s m args below meth c FQ G k mc ms pc ls st h c1 z1 := by
  intro hc hz H locs mls hRW hRO hS hl
  obtain ⟨hx, hb, hml, hown, hts, hSU, hROs, hA, hBs, hRc, hRs, hRf, hRl, hini⟩ := F
  obtain ⟨raw, g, a0, g', pl, hd, hn, ht, ho, hg, hq⟩ := inv_lk hi rfl
  obtain ⟨x, y, r, rfl, ⟨⟨h0, h65, g0, g65⟩, hc2, hz2⟩, hs⟩ := s2I_inv hs
  replace hq := li_multianewarray hq
  have hgg : g = 10 := by
    rcases hg with rfl | ⟨-, -, rfl⟩ | ⟨-, rfl⟩
    · exact hq.1
    · exact absurd hq.1 (by decide)
    · exact absurd hq.1 (by decide)
  subst hgg
  have er := lkO_10 ho
  subst er
  have en : n = 4 := eq_of_beq hn
  subst en
  have eat := RW_al_at hA hRW
  have h20 := hRW.1
  intro T hT Xs
  have hx0 : x.toNatClampNeg ≤ 256 := h65
  have hy0 : y.toNatClampNeg ≤ 256 := g65
  have ecb : componentBytes .int = 4 := rfl
  have hcC : c1 + (1 + x.toNatClampNeg) ≤ R.cells := by
    have : c1 + 1 + x.toNatClampNeg ≤ mc := hc2
    omega
  have hcS : z1 + (x.toNatClampNeg + x.toNatClampNeg * y.toNatClampNeg) ≤ R.slots := by
    have : z1 + x.toNatClampNeg + x.toNatClampNeg * y.toNatClampNeg ≤ ms := hz2
    omega
  obtain ⟨vm₁, cA, comp, -, fA, fC, hO, hI, X', step⟩ := Xs.multianewarray2F hx (hown ht) (ty := .int) (hts _ (tb_in hq.2)) (va_AOi.use hSU.2.2.2.2) (hts _ ac_int) (g := F0 m pc mls (.int y :: .int x :: r.map (tv G))) rfl (by rw [hb]; exact hd) rfl (Int32.not_lt.mpr h0) (Int32.not_lt.mpr g0) (by omega) (by rw [ecb]; omega) (by omega) rfl rfl hcC hcS
  have ecA : cA = gY G 7 := Option.some.inj (fA.symm.trans (ar_name hSU (t := 7) (by decide)))
  have ecC : comp = gY G 0 := Option.some.inj (fC.symm.trans (ar_name hSU (t := 0) (by decide)))
  subst ecA
  subst ecC
  generalize hF : Jvm.Free.Multi.fill (T.setVm vm₁) (gY G 7) (gY G 0) x.toNatClampNeg y.toNatClampNeg (defaultValue .int) x.toNatClampNeg = FF at X' step
  have hTh : (T.setVm vm₁).heap = H := hT
  obtain ⟨f1, f2, -, -⟩ := Jvm.Free.Multi.fill_facts (T.setVm vm₁) (gY G 7) (gY G 0) x.toNatClampNeg y.toNatClampNeg (defaultValue .int) x.toNatClampNeg
  rw [hF, hTh] at f1 f2
  have hold : ∀ q : Nat, q < H.size → FF.heap[q]? = H[q]? := fun q hx => by
    have := Jvm.Free.Multi.fill_old (T.setVm vm₁) (gY G 7) (gY G 0) x.toNatClampNeg y.toNatClampNeg (defaultValue .int) (a := q) (by rw [hTh]; exact hx) x.toNatClampNeg
    rw [hF, hTh] at this
    exact this
  have hrow : ∀ j : Nat, j < x.toNatClampNeg → FF.heap[H.size + 1 + j]? = some (arrV (gY G 0) y.toNatClampNeg (fun _ => .int 0)) := fun j hj => by
    have := Jvm.Free.Multi.fill_inner (T.setVm vm₁) (gY G 7) (gY G 0) x.toNatClampNeg y.toNatClampNeg (defaultValue .int) x.toNatClampNeg j hj
    rw [hF, hTh] at this
    rw [this]
    exact congrArg some (arrV_new _ _ _)
  have hout := outer_arr (gY G 7) x.toNatClampNeg H.size x.toNatClampNeg
  rw [hout] at f2
  have hRW' : RW G (alm h (ix x) (ix y)) FF.heap := by
    refine ⟨?_, ?_, fun i kd hi20 hkd => ?_⟩
    · show 20 ≤ gn h + 1 + ix x
      omega
    · show FF.heap.size = gB G + (gn h + 1 + ix x - 20)
      rw [f1, hRW.2.1]
      show gB G + (gn h - 20) + 1 + ix x = _
      omega
    · have e : gk (alm h (ix x) (ix y)) i = if i = gn h then some (.inr (7, ix x)) else if gn h < i ∧ i ≤ gn h + ix x then some (.inr (0, ix y)) else gk h i := rfl
      rw [e] at hkd
      show i < gn h + 1 + ix x ∧ _
      split at hkd
      · rename_i e1
        subst e1
        cases hkd
        refine ⟨by omega, by decide, by omega, ?_⟩
        show FF.heap[gA G (gn h)]? = _
        rw [eat, f2]
        refine congrArg some (congrArg (arrV (gY G 7) (ix x)) (funext fun j => ?_))
        have eg : gr (alm h (ix x) (ix y)) (gn h) j = if j < ix x then some (gn h + 1 + j) else none := by
          show (if gn h = gn h then (fun j => if j < ix x then some (gn h + 1 + j) else none) else if gn h < gn h ∧ gn h ≤ gn h + ix x then (fun _ => none) else gr h (gn h)) j = _
          rw [if_pos rfl]
        have e7 : av G (alm h (ix x) (ix y)) (gn h) 7 j = tv G (va_rf (gr (alm h (ix x) (ix y)) (gn h) j)) := rfl
        rw [e7, eg]
        by_cases hj : j < ix x
        · rw [if_pos hj, if_pos (show j < x.toNatClampNeg from hj)]
          show _ = Value.ref (gA G (gn h + 1 + j))
          rw [hA _ (by omega), hRW.2.1]
          exact congrArg Value.ref (show (gB G + (gn h - 20) + 1 + j : Nat) = gB G + (gn h + 1 + j - 20) by omega)
        · rw [if_neg hj, if_neg (show ¬ j < x.toNatClampNeg from hj)]
          rfl
      · rename_i e1
        split at hkd
        · rename_i e2
          cases hkd
          refine ⟨by omega, by decide, by omega, ?_⟩
          show FF.heap[gA G i]? = _
          have ei : gA G i = H.size + 1 + (i - (gn h + 1)) := by
            rw [hA _ hi20, hRW.2.1]
            omega
          rw [ei, hrow (i - (gn h + 1)) (show i - (gn h + 1) < ix x by omega)]
          refine congrArg some (congrArg (arrV (gY G 0) (ix y)) (funext fun j => ?_))
          have eg : gi (alm h (ix x) (ix y)) i j = 0 := by
            show (if gn h ≤ i ∧ i ≤ gn h + ix x then (fun _ => (0 : Int32)) else gi h i) j = 0
            rw [if_pos ⟨by omega, by omega⟩]
          have e7 : av G (alm h (ix x) (ix y)) i 0 j = .int (gi (alm h (ix x) (ix y)) i j) := rfl
          rw [e7, eg]
        · rename_i e2
          obtain ⟨hlt, hca⟩ := hRW.2.2 i kd hi20 hkd
          refine ⟨by omega, CA_kept hca (hold _ (adf_lt hA hi20 hRW hlt)) ?_ ?_ ?_⟩
          · show (if gn h ≤ i ∧ i ≤ gn h + ix x then _ else gi h i) = _
            rw [if_neg (by omega)]
          · show (if i = gn h then _ else if gn h < i ∧ i ≤ gn h + ix x then _ else gr h i) = _
            rw [if_neg (by omega), if_neg (by omega)]
          · show (if gn h ≤ i ∧ i ≤ gn h + ix x then _ else gl h i) = _
            rw [if_neg (by omega)]
  have go := hK _ _ _ _ _ hs hc2 hz2 FF.heap locs mls hRW' (ROH_alm hRO h20) (va_S_grow hS (by rw [f1]; omega) hold) hl
  simp only [List.map_cons, tv, eat] at go
  obtain ⟨t, a1, b1⟩ := go FF rfl X'
  refine ⟨t, step t ?_, b1⟩
  have e : T.heap.size = H.size := by rw [hT]
  rw [e]
  exact a1
set_option maxRecDepth 20000 in
theorem tk_bipush {v : Int} (F : Fra p l e R s m args meth c G k mc ms d) (hi : insB (mB k) (mT k) (ini k) pc (.bipush v) n = true) (hK : ∀ ls st h c1 z1, K ls st h c1 z1 → MP p l e R s m args below meth c FQ G k mc ms (pc + n) ls st h c1 z1) (hs : stp C mc ms (MP p l e R s m args below meth c FQ G k mc ms) Q (.bipush v) ls st h c1 z1 K) : MP p l e R s m args below meth c FQ G k mc ms pc ls st h c1 z1 := by
  intro hc hz H locs mls hRW hRO hS hl
  obtain ⟨hx, hb, hml, hown, hts, hSU, hROs, hA, hBs, hRc, hRs, hRf, hRl, hini⟩ := F
  obtain ⟨raw, g, a0, g', pl, hd, hn, ht, ho, hg, hq⟩ := inv_lk hi rfl
  have go := hK _ _ _ _ _ hs hc hz H locs mls hRW hRO hS hl
  rcases li_bipush hq with ⟨q1, q2⟩ | ⟨q1, q2⟩
  · have hgg : g = 7 := by
      rcases hg with rfl | ⟨-, -, rfl⟩ | ⟨-, rfl⟩
      · exact q1
      · exact absurd q1 (by decide)
      · exact absurd q1 (by decide)
    subst hgg
    have er := lkO_7 ho
    subst er
    have en : n = 2 := eq_of_beq hn
    subst en
    exact lv_ldc hx hb (hown ht) (hts _ (tb_in q2)) hd go
  · have hgg : g = 17 := by
      rcases hg with rfl | ⟨-, -, rfl⟩ | ⟨-, rfl⟩
      · exact q1
      · exact absurd q1 (by decide)
      · exact absurd q1 (by decide)
    subst hgg
    have er := lkO_17 ho
    subst er
    have en : n = 3 := eq_of_beq hn
    subst en
    exact lv_ldcw hx hb (hown ht) (hts _ (tb_in q2)) hd go
set_option maxRecDepth 20000 in
theorem tk_jsr_w {v : Int} (F : Fra p l e R s m args meth c G k mc ms d) (hi : insB (mB k) (mT k) (ini k) pc (.jsr_w v) n = true) (hK : ∀ ls st h c1 z1, K ls st h c1 z1 → MP p l e R s m args below meth c FQ G k mc ms (pc + n) ls st h c1 z1) (hs : stp C mc ms (MP p l e R s m args below meth c FQ G k mc ms) Q (.jsr_w v) ls st h c1 z1 K) : MP p l e R s m args below meth c FQ G k mc ms pc ls st h c1 z1 := by
  intro hc hz H locs mls hRW hRO hS hl
  obtain ⟨hx, hb, hml, hown, hts, hSU, hROs, hA, hBs, hRc, hRs, hRf, hRl, hini⟩ := F
  obtain ⟨raw, g, a0, g', pl, hd, hn, ht, ho, hg, hq⟩ := inv_lk hi rfl
  have go := hK _ _ _ _ _ hs hc hz H locs mls hRW hRO hS hl
  replace hq := li_jsr_w hq
  have hgg : g = 8 := by
    rcases hg with rfl | ⟨-, -, rfl⟩ | ⟨-, rfl⟩
    · exact hq.1
    · exact absurd hq.1 (by decide)
    · exact absurd hq.1 (by decide)
  subst hgg
  have er := lkO_8 ho
  subst er
  have en : n = 3 := eq_of_beq hn
  subst en
  exact lv_ldc2 hx hb (hown ht) (hts _ (tb_in hq.2)) hd go
set_option maxRecDepth 20000 in
theorem tk_ldc {w : Nat} (F : Fra p l e R s m args meth c G k mc ms d) (hi : insB (mB k) (mT k) (ini k) pc (.ldc w) n = true) (hK : ∀ ls st h c1 z1, K ls st h c1 z1 → MP p l e R s m args below meth c FQ G k mc ms (pc + n) ls st h c1 z1) (hs : stp C mc ms (MP p l e R s m args below meth c FQ G k mc ms) Q (.ldc w) ls st h c1 z1 K) : MP p l e R s m args below meth c FQ G k mc ms pc ls st h c1 z1 := by
  intro hc hz H locs mls hRW hRO hS hl
  obtain ⟨hx, hb, hml, hown, hts, hSU, hROs, hA, hBs, hRc, hRs, hRf, hRl, hini⟩ := F
  obtain ⟨raw, g, a0, g', pl, hd, hn, ht, ho, hg, hq⟩ := inv_lk hi rfl
  have go := hK _ _ _ _ _ hs hc hz H locs mls hRW hRO hS hl
  have key : ∀ (hany : strL.any (fun q => decide (q.1 = (lto (mT k)).1) && decide (q.2.1 = a0) && decide (q.2.2.1 = w)) = true), ∃ tx, vk_R (lto (mT k)).1 a0 tx (gA G w) s := by
    intro hany
    obtain ⟨q, hq1, hq2⟩ := List.any_eq_true.mp hany
    simp only [Bool.and_eq_true, decide_eq_true_eq] at hq2
    obtain ⟨⟨e1, e2⟩, e3⟩ := hq2
    have := hSU.2.1 q hq1
    rw [e1, e2, e3] at this
    exact ⟨_, this⟩
  rcases li_ldc hq with ⟨q1, q2⟩ | ⟨q1, q2⟩
  · have hgg : g = 7 := by
      rcases hg with rfl | ⟨-, -, rfl⟩ | ⟨-, rfl⟩
      · exact q1
      · exact absurd q1 (by decide)
      · exact absurd q1 (by decide)
    subst hgg
    have er := lkO_7 ho
    subst er
    have en : n = 2 := eq_of_beq hn
    subst en
    obtain ⟨tx, hv⟩ := key q2
    exact va_ldcS hx hb (hown ht) hv hd go
  · have hgg : g = 17 := by
      rcases hg with rfl | ⟨-, -, rfl⟩ | ⟨-, rfl⟩
      · exact q1
      · exact absurd q1 (by decide)
      · exact absurd q1 (by decide)
    subst hgg
    have er := lkO_17 ho
    subst er
    have en : n = 3 := eq_of_beq hn
    subst en
    obtain ⟨tx, hv⟩ := key q2
    intro T hT X
    obtain ⟨t, a1, b1⟩ := go T hT X
    exact ⟨t, ldcwS X hx (hown ht) hv.1 hv.2 (g := F0 m pc mls (st.map (tv G))) rfl (by rw [hb]; exact hd) t a1, b1⟩
set_option maxRecDepth 20000 in
theorem tk_dload {w : Nat} (F : Fra p l e R s m args meth c G k mc ms d) (hi : insB (mB k) (mT k) (ini k) pc (.dload w) n = true) (hK : ∀ ls st h c1 z1, K ls st h c1 z1 → MP p l e R s m args below meth c FQ G k mc ms (pc + n) ls st h c1 z1) (hs : stp C mc ms (MP p l e R s m args below meth c FQ G k mc ms) Q (.dload w) ls st h c1 z1 K) : MP p l e R s m args below meth c FQ G k mc ms pc ls st h c1 z1 := by
  intro hc hz H locs mls hRW hRO hS hl
  obtain ⟨hx, hb, hml, hown, hts, hSU, hROs, hA, hBs, hRc, hRs, hRf, hRl, hini⟩ := F
  obtain ⟨raw, g, a0, g', pl, hd, hn, ht, ho, hg, hq⟩ := inv_lk hi rfl
  have go := hK _ _ _ _ _ hs hc hz H locs mls hRW hRO hS hl
  replace hq := li_dload hq
  have hgg : g = 9 := by
    rcases hg with rfl | ⟨-, -, rfl⟩ | ⟨-, rfl⟩
    · exact hq.1
    · exact absurd hq.1 (by decide)
    · exact absurd hq.1 (by decide)
  subst hgg
  have er := lkO_9 ho
  subst er
  have en : n = 3 := eq_of_beq hn
  subst en
  exact va_gets hx hb hROs.2.1 hS (hown ht) (hts _ (tb_in hq.2)) (fun _ z => z) hd go
set_option maxRecDepth 20000 in
theorem tk_fload {w : Nat} (F : Fra p l e R s m args meth c G k mc ms d) (hi : insB (mB k) (mT k) (ini k) pc (.fload w) n = true) (hK : ∀ ls st h c1 z1, K ls st h c1 z1 → MP p l e R s m args below meth c FQ G k mc ms (pc + n) ls st h c1 z1) (hs : stp C mc ms (MP p l e R s m args below meth c FQ G k mc ms) Q (.fload w) ls st h c1 z1 K) : MP p l e R s m args below meth c FQ G k mc ms pc ls st h c1 z1 := by
  intro hc hz H locs mls hRW hRO hS hl
  obtain ⟨hx, hb, hml, hown, hts, hSU, hROs, hA, hBs, hRc, hRs, hRf, hRl, hini⟩ := F
  obtain ⟨raw, g, a0, g', pl, hd, hn, ht, ho, hg, hq⟩ := inv_lk hi rfl
  obtain ⟨hs1, hs2⟩ := hs
  replace hq := li_fload hq
  have hgg : g = 9 := by
    rcases hg with rfl | ⟨-, -, rfl⟩ | ⟨-, rfl⟩
    · exact hq.1
    · exact absurd hq.1 (by decide)
    · exact absurd hq.1 (by decide)
  subst hgg
  have er := lkO_9 ho
  subst er
  have en : n = 3 := eq_of_beq hn
  subst en
  rcases hROs.2.2.1 with hv | hv
  · exact va_gets hx hb hv hS (hown ht) (hts _ (tb_in hq.2)) (fun _ z => z) hd (hK _ _ _ _ _ hs1 hc hz H locs mls hRW hRO hS hl)
  · exact va_gets hx hb hv hS (hown ht) (hts _ (tb_in hq.2)) (fun _ z => z) hd (hK _ _ _ _ _ hs2 hc hz H locs mls hRW hRO hS hl)
set_option maxRecDepth 20000 in
theorem tk_nop  (F : Fra p l e R s m args meth c G k mc ms d) (hi : insB (mB k) (mT k) (ini k) pc .nop n = true) (hK : ∀ ls st h c1 z1, K ls st h c1 z1 → MP p l e R s m args below meth c FQ G k mc ms (pc + n) ls st h c1 z1) (hs : stp C mc ms (MP p l e R s m args below meth c FQ G k mc ms) Q .nop ls st h c1 z1 K) : MP p l e R s m args below meth c FQ G k mc ms pc ls st h c1 z1 := by
  intro hc hz H locs mls hRW hRO hS hl
  obtain ⟨hx, hb, hml, hown, hts, hSU, hROs, hA, hBs, hRc, hRs, hRf, hRl, hini⟩ := F
  obtain ⟨raw, g, a0, g', pl, hd, hn, ht, ho, hg, hq⟩ := inv_lk hi rfl
  obtain ⟨a, r, rfl, hr4, hs⟩ := s1A_inv hs
  have go := hK _ _ _ _ _ hs hc hz H locs mls hRW hRO hS hl
  rcases li_nop hq with ⟨q1, q2⟩ | q1 | q1
  · have hgg : g = 3 := by
      rcases hg with rfl | ⟨-, -, rfl⟩ | ⟨-, rfl⟩
      · exact q1
      · exact absurd q1 (by decide)
      · exact absurd q1 (by decide)
    subst hgg
    have er := lkO_3 ho
    subst er
    have en : n = 3 := eq_of_beq hn
    subst en
    exact W.objInit hx hb (hown ht) (hts _ (tb_in q2)) (hts _ oi_inst) (hts _ oi_code) rfl (by rw [hml]; exact hl.1) rfl hd (by omega) (by have := cat_le G hr4; show 2 * 0 + _ + 12 ≤ _; omega) go
  · exfalso
    have := lkO_no ho
    rcases hg with rfl | ⟨-, -, rfl⟩ | ⟨-, rfl⟩ <;> omega
  · exfalso
    have := lkO_no ho
    rcases hg with rfl | ⟨-, -, rfl⟩ | ⟨-, rfl⟩ <;> omega
theorem ma_fadd : Cond.static Lib.Math.max.name ∈ gw ∧ Cond.initialized "java/lang/Math" ∈ gw ∧ Cond.code Lib.Math.max.name Lib.Math.max.code 2 (some .int) ∈ gw := ⟨tb_in (p := 723) (by decide +kernel), tb_in (p := 106) (by decide +kernel), tb_in (p := 724) (by decide +kernel)⟩
set_option maxRecDepth 20000 in
theorem tk_fadd  (F : Fra p l e R s m args meth c G k mc ms d) (hi : insB (mB k) (mT k) (ini k) pc .fadd n = true) (hK : ∀ ls st h c1 z1, K ls st h c1 z1 → MP p l e R s m args below meth c FQ G k mc ms (pc + n) ls st h c1 z1) (hs : stp C mc ms (MP p l e R s m args below meth c FQ G k mc ms) Q .fadd ls st h c1 z1 K) : MP p l e R s m args below meth c FQ G k mc ms pc ls st h c1 z1 := by
  intro hc hz H locs mls hRW hRO hS hl
  obtain ⟨hx, hb, hml, hown, hts, hSU, hROs, hA, hBs, hRc, hRs, hRf, hRl, hini⟩ := F
  obtain ⟨raw, g, a0, g', pl, hd, hn, ht, ho, hg, hq⟩ := inv_lk hi rfl
  obtain ⟨x, y, r, rfl, hr4, hs⟩ := s2I_inv hs
  have go := hK _ _ _ _ _ hs hc hz H locs mls hRW hRO hS hl
  replace hq := li_fadd hq
  have hgg : g = 4 := by
    rcases hg with rfl | ⟨-, -, rfl⟩ | ⟨-, rfl⟩
    · exact hq.1
    · exact absurd hq.1 (by decide)
    · exact absurd hq.1 (by decide)
  subst hgg
  have er := lkO_4 ho
  subst er
  have en : n = 3 := eq_of_beq hn
  subst en
  obtain ⟨m1, m2, m3⟩ := ma_fadd
  exact va_mmax hx hb (by rw [hml]; exact hl.1.symm) (hown ht) (hts _ (tb_in hq.2)) (hts _ m1) (hts _ m2) (hts _ m3) (by omega) (by have := cat_le G hr4; omega) (by omega) (by omega) hd go
theorem ma_fsub : Cond.static Lib.Math.min.name ∈ gw ∧ Cond.initialized "java/lang/Math" ∈ gw ∧ Cond.code Lib.Math.min.name Lib.Math.min.code 2 (some .int) ∈ gw := ⟨tb_in (p := 487) (by decide +kernel), tb_in (p := 106) (by decide +kernel), tb_in (p := 488) (by decide +kernel)⟩
set_option maxRecDepth 20000 in
theorem tk_fsub  (F : Fra p l e R s m args meth c G k mc ms d) (hi : insB (mB k) (mT k) (ini k) pc .fsub n = true) (hK : ∀ ls st h c1 z1, K ls st h c1 z1 → MP p l e R s m args below meth c FQ G k mc ms (pc + n) ls st h c1 z1) (hs : stp C mc ms (MP p l e R s m args below meth c FQ G k mc ms) Q .fsub ls st h c1 z1 K) : MP p l e R s m args below meth c FQ G k mc ms pc ls st h c1 z1 := by
  intro hc hz H locs mls hRW hRO hS hl
  obtain ⟨hx, hb, hml, hown, hts, hSU, hROs, hA, hBs, hRc, hRs, hRf, hRl, hini⟩ := F
  obtain ⟨raw, g, a0, g', pl, hd, hn, ht, ho, hg, hq⟩ := inv_lk hi rfl
  obtain ⟨x, y, r, rfl, hr4, hs⟩ := s2I_inv hs
  have go := hK _ _ _ _ _ hs hc hz H locs mls hRW hRO hS hl
  replace hq := li_fsub hq
  have hgg : g = 4 := by
    rcases hg with rfl | ⟨-, -, rfl⟩ | ⟨-, rfl⟩
    · exact hq.1
    · exact absurd hq.1 (by decide)
    · exact absurd hq.1 (by decide)
  subst hgg
  have er := lkO_4 ho
  subst er
  have en : n = 3 := eq_of_beq hn
  subst en
  obtain ⟨m1, m2, m3⟩ := ma_fsub
  exact va_mmin hx hb (by rw [hml]; exact hl.1.symm) (hown ht) (hts _ (tb_in hq.2)) (hts _ m1) (hts _ m2) (hts _ m3) (by omega) (by have := cat_le G hr4; omega) (by omega) (by omega) hd go
theorem ma_dadd : Cond.static Lib.MathLoose.max_long.x ∈ gw ∧ Cond.initialized "java/lang/Math" ∈ gw ∧ Cond.code Lib.MathLoose.max_long.x Lib.MathLoose.max_long.code 4 (some .long) ∈ gw := ⟨tb_in (p := 1724) (by decide +kernel), tb_in (p := 106) (by decide +kernel), tb_in (p := 1725) (by decide +kernel)⟩
set_option maxRecDepth 20000 in
theorem tk_dadd  (F : Fra p l e R s m args meth c G k mc ms d) (hi : insB (mB k) (mT k) (ini k) pc .dadd n = true) (hK : ∀ ls st h c1 z1, K ls st h c1 z1 → MP p l e R s m args below meth c FQ G k mc ms (pc + n) ls st h c1 z1) (hs : stp C mc ms (MP p l e R s m args below meth c FQ G k mc ms) Q .dadd ls st h c1 z1 K) : MP p l e R s m args below meth c FQ G k mc ms pc ls st h c1 z1 := by
  intro hc hz H locs mls hRW hRO hS hl
  obtain ⟨hx, hb, hml, hown, hts, hSU, hROs, hA, hBs, hRc, hRs, hRf, hRl, hini⟩ := F
  obtain ⟨raw, g, a0, g', pl, hd, hn, ht, ho, hg, hq⟩ := inv_lk hi rfl
  obtain ⟨x, y, r, rfl, hr4, hs⟩ := s2L_inv hs
  have go := hK _ _ _ _ _ hs hc hz H locs mls hRW hRO hS hl
  replace hq := li_dadd hq
  have hgg : g = 4 := by
    rcases hg with rfl | ⟨-, -, rfl⟩ | ⟨-, rfl⟩
    · exact hq.1
    · exact absurd hq.1 (by decide)
    · exact absurd hq.1 (by decide)
  subst hgg
  have er := lkO_4 ho
  subst er
  have en : n = 3 := eq_of_beq hn
  subst en
  obtain ⟨m1, m2, m3⟩ := ma_dadd
  exact va_mmax_long hx hb (by rw [hml]; exact hl.1.symm) (hown ht) (hts _ (tb_in hq.2)) (hts _ m1) (hts _ m2) (hts _ m3) (by omega) (by have := cat_le G hr4; omega) (by omega) (by omega) hd go
theorem ma_dsub : Cond.static Lib.MathLoose.min_long.x ∈ gw ∧ Cond.initialized "java/lang/Math" ∈ gw ∧ Cond.code Lib.MathLoose.min_long.x Lib.MathLoose.min_long.code 4 (some .long) ∈ gw := ⟨tb_in (p := 1721) (by decide +kernel), tb_in (p := 106) (by decide +kernel), tb_in (p := 1722) (by decide +kernel)⟩
set_option maxRecDepth 20000 in
theorem tk_dsub  (F : Fra p l e R s m args meth c G k mc ms d) (hi : insB (mB k) (mT k) (ini k) pc .dsub n = true) (hK : ∀ ls st h c1 z1, K ls st h c1 z1 → MP p l e R s m args below meth c FQ G k mc ms (pc + n) ls st h c1 z1) (hs : stp C mc ms (MP p l e R s m args below meth c FQ G k mc ms) Q .dsub ls st h c1 z1 K) : MP p l e R s m args below meth c FQ G k mc ms pc ls st h c1 z1 := by
  intro hc hz H locs mls hRW hRO hS hl
  obtain ⟨hx, hb, hml, hown, hts, hSU, hROs, hA, hBs, hRc, hRs, hRf, hRl, hini⟩ := F
  obtain ⟨raw, g, a0, g', pl, hd, hn, ht, ho, hg, hq⟩ := inv_lk hi rfl
  obtain ⟨x, y, r, rfl, hr4, hs⟩ := s2L_inv hs
  have go := hK _ _ _ _ _ hs hc hz H locs mls hRW hRO hS hl
  replace hq := li_dsub hq
  have hgg : g = 4 := by
    rcases hg with rfl | ⟨-, -, rfl⟩ | ⟨-, rfl⟩
    · exact hq.1
    · exact absurd hq.1 (by decide)
    · exact absurd hq.1 (by decide)
  subst hgg
  have er := lkO_4 ho
  subst er
  have en : n = 3 := eq_of_beq hn
  subst en
  obtain ⟨m1, m2, m3⟩ := ma_dsub
  exact va_mmin_long hx hb (by rw [hml]; exact hl.1.symm) (hown ht) (hts _ (tb_in hq.2)) (hts _ m1) (hts _ m2) (hts _ m3) (by omega) (by have := cat_le G hr4; omega) (by omega) (by omega) hd go
end SND4
