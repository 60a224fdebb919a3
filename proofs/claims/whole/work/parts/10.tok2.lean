/-! ===== each token: from what holds behind it to what holds ahead of it ===== -/
section SND2
variable {p : Program} {l : Launch} {e : Env} {R : Room} {s : State} {m : MethodId} {args : Array Value} {below : List Frame} {meth : Method} {c : Code} {FQ : State → Prop} {G : GG} {k mc ms d : Nat}
variable {C : Nat → List Value → AH → Nat → Nat → (Option (Option Value) → AH → Prop) → Prop} {Q : Option (Option Value) → AH → Prop} {pc n : Nat} {ls : LL} {st : List Value} {h : AH} {c1 z1 : Nat} {K : LL → List Value → AH → Nat → Nat → Prop}
set_option maxRecDepth 20000 in
theorem tk_iadd  (F : Fra p l e R s m args meth c G k mc ms d) (hi : insB (mB k) (mT k) (ini k) pc .iadd n = true) (hK : ∀ ls st h c1 z1, K ls st h c1 z1 → MP p l e R s m args below meth c FQ G k mc ms (pc + n) ls st h c1 z1) (hs : stp C mc ms (MP p l e R s m args below meth c FQ G k mc ms) Q .iadd ls st h c1 z1 K) : MP p l e R s m args below meth c FQ G k mc ms pc ls st h c1 z1 := by
  intro hc hz H locs mls hRW hRO hS hl
  obtain ⟨hx, hb, hml, hown, hts, hSU, hROs, hA, hBs, hRc, hRs, hRf, hRl, hini⟩ := F
  obtain ⟨raw, hd, hn, hq⟩ := inv_ld hi rfl (by intro v q; cases q) (by intro q; cases q)
  obtain ⟨rfl, rfl⟩ := rq_iadd hq hn
  obtain ⟨x, y, r, rfl, hs⟩ := s2I_inv hs
  exact lv_iadd hx hb hd (hK _ _ _ _ _ hs hc hz H locs mls hRW hRO hS hl)
set_option maxRecDepth 20000 in
theorem tk_isub  (F : Fra p l e R s m args meth c G k mc ms d) (hi : insB (mB k) (mT k) (ini k) pc .isub n = true) (hK : ∀ ls st h c1 z1, K ls st h c1 z1 → MP p l e R s m args below meth c FQ G k mc ms (pc + n) ls st h c1 z1) (hs : stp C mc ms (MP p l e R s m args below meth c FQ G k mc ms) Q .isub ls st h c1 z1 K) : MP p l e R s m args below meth c FQ G k mc ms pc ls st h c1 z1 := by
  intro hc hz H locs mls hRW hRO hS hl
  obtain ⟨hx, hb, hml, hown, hts, hSU, hROs, hA, hBs, hRc, hRs, hRf, hRl, hini⟩ := F
  obtain ⟨raw, hd, hn, hq⟩ := inv_ld hi rfl (by intro v q; cases q) (by intro q; cases q)
  obtain ⟨rfl, rfl⟩ := rq_isub hq hn
  obtain ⟨x, y, r, rfl, hs⟩ := s2I_inv hs
  exact lv_isub hx hb hd (hK _ _ _ _ _ hs hc hz H locs mls hRW hRO hS hl)
set_option maxRecDepth 20000 in
theorem tk_imul  (F : Fra p l e R s m args meth c G k mc ms d) (hi : insB (mB k) (mT k) (ini k) pc .imul n = true) (hK : ∀ ls st h c1 z1, K ls st h c1 z1 → MP p l e R s m args below meth c FQ G k mc ms (pc + n) ls st h c1 z1) (hs : stp C mc ms (MP p l e R s m args below meth c FQ G k mc ms) Q .imul ls st h c1 z1 K) : MP p l e R s m args below meth c FQ G k mc ms pc ls st h c1 z1 := by
  intro hc hz H locs mls hRW hRO hS hl
  obtain ⟨hx, hb, hml, hown, hts, hSU, hROs, hA, hBs, hRc, hRs, hRf, hRl, hini⟩ := F
  obtain ⟨raw, hd, hn, hq⟩ := inv_ld hi rfl (by intro v q; cases q) (by intro q; cases q)
  obtain ⟨rfl, rfl⟩ := rq_imul hq hn
  obtain ⟨x, y, r, rfl, hs⟩ := s2I_inv hs
  exact lv_imul hx hb hd (hK _ _ _ _ _ hs hc hz H locs mls hRW hRO hS hl)
set_option maxRecDepth 20000 in
theorem tk_iand  (F : Fra p l e R s m args meth c G k mc ms d) (hi : insB (mB k) (mT k) (ini k) pc .iand n = true) (hK : ∀ ls st h c1 z1, K ls st h c1 z1 → MP p l e R s m args below meth c FQ G k mc ms (pc + n) ls st h c1 z1) (hs : stp C mc ms (MP p l e R s m args below meth c FQ G k mc ms) Q .iand ls st h c1 z1 K) : MP p l e R s m args below meth c FQ G k mc ms pc ls st h c1 z1 := by
  intro hc hz H locs mls hRW hRO hS hl
  obtain ⟨hx, hb, hml, hown, hts, hSU, hROs, hA, hBs, hRc, hRs, hRf, hRl, hini⟩ := F
  obtain ⟨raw, hd, hn, hq⟩ := inv_ld hi rfl (by intro v q; cases q) (by intro q; cases q)
  obtain ⟨rfl, rfl⟩ := rq_iand hq hn
  obtain ⟨x, y, r, rfl, hs⟩ := s2I_inv hs
  exact lv_iand hx hb hd (hK _ _ _ _ _ hs hc hz H locs mls hRW hRO hS hl)
set_option maxRecDepth 20000 in
theorem tk_ior  (F : Fra p l e R s m args meth c G k mc ms d) (hi : insB (mB k) (mT k) (ini k) pc .ior n = true) (hK : ∀ ls st h c1 z1, K ls st h c1 z1 → MP p l e R s m args below meth c FQ G k mc ms (pc + n) ls st h c1 z1) (hs : stp C mc ms (MP p l e R s m args below meth c FQ G k mc ms) Q .ior ls st h c1 z1 K) : MP p l e R s m args below meth c FQ G k mc ms pc ls st h c1 z1 := by
  intro hc hz H locs mls hRW hRO hS hl
  obtain ⟨hx, hb, hml, hown, hts, hSU, hROs, hA, hBs, hRc, hRs, hRf, hRl, hini⟩ := F
  obtain ⟨raw, hd, hn, hq⟩ := inv_ld hi rfl (by intro v q; cases q) (by intro q; cases q)
  obtain ⟨rfl, rfl⟩ := rq_ior hq hn
  obtain ⟨x, y, r, rfl, hs⟩ := s2I_inv hs
  exact lv_ior hx hb hd (hK _ _ _ _ _ hs hc hz H locs mls hRW hRO hS hl)
set_option maxRecDepth 20000 in
theorem tk_ixor  (F : Fra p l e R s m args meth c G k mc ms d) (hi : insB (mB k) (mT k) (ini k) pc .ixor n = true) (hK : ∀ ls st h c1 z1, K ls st h c1 z1 → MP p l e R s m args below meth c FQ G k mc ms (pc + n) ls st h c1 z1) (hs : stp C mc ms (MP p l e R s m args below meth c FQ G k mc ms) Q .ixor ls st h c1 z1 K) : MP p l e R s m args below meth c FQ G k mc ms pc ls st h c1 z1 := by
  intro hc hz H locs mls hRW hRO hS hl
  obtain ⟨hx, hb, hml, hown, hts, hSU, hROs, hA, hBs, hRc, hRs, hRf, hRl, hini⟩ := F
  obtain ⟨raw, hd, hn, hq⟩ := inv_ld hi rfl (by intro v q; cases q) (by intro q; cases q)
  obtain ⟨rfl, rfl⟩ := rq_ixor hq hn
  obtain ⟨x, y, r, rfl, hs⟩ := s2I_inv hs
  exact lv_ixor hx hb hd (hK _ _ _ _ _ hs hc hz H locs mls hRW hRO hS hl)
set_option maxRecDepth 20000 in
theorem tk_ishl  (F : Fra p l e R s m args meth c G k mc ms d) (hi : insB (mB k) (mT k) (ini k) pc .ishl n = true) (hK : ∀ ls st h c1 z1, K ls st h c1 z1 → MP p l e R s m args below meth c FQ G k mc ms (pc + n) ls st h c1 z1) (hs : stp C mc ms (MP p l e R s m args below meth c FQ G k mc ms) Q .ishl ls st h c1 z1 K) : MP p l e R s m args below meth c FQ G k mc ms pc ls st h c1 z1 := by
  intro hc hz H locs mls hRW hRO hS hl
  obtain ⟨hx, hb, hml, hown, hts, hSU, hROs, hA, hBs, hRc, hRs, hRf, hRl, hini⟩ := F
  obtain ⟨raw, hd, hn, hq⟩ := inv_ld hi rfl (by intro v q; cases q) (by intro q; cases q)
  obtain ⟨rfl, rfl⟩ := rq_ishl hq hn
  obtain ⟨x, y, r, rfl, hs⟩ := s2I_inv hs
  exact lv_ishl hx hb hd (hK _ _ _ _ _ hs hc hz H locs mls hRW hRO hS hl)
set_option maxRecDepth 20000 in
theorem tk_ishr  (F : Fra p l e R s m args meth c G k mc ms d) (hi : insB (mB k) (mT k) (ini k) pc .ishr n = true) (hK : ∀ ls st h c1 z1, K ls st h c1 z1 → MP p l e R s m args below meth c FQ G k mc ms (pc + n) ls st h c1 z1) (hs : stp C mc ms (MP p l e R s m args below meth c FQ G k mc ms) Q .ishr ls st h c1 z1 K) : MP p l e R s m args below meth c FQ G k mc ms pc ls st h c1 z1 := by
  intro hc hz H locs mls hRW hRO hS hl
  obtain ⟨hx, hb, hml, hown, hts, hSU, hROs, hA, hBs, hRc, hRs, hRf, hRl, hini⟩ := F
  obtain ⟨raw, hd, hn, hq⟩ := inv_ld hi rfl (by intro v q; cases q) (by intro q; cases q)
  obtain ⟨rfl, rfl⟩ := rq_ishr hq hn
  obtain ⟨x, y, r, rfl, hs⟩ := s2I_inv hs
  exact lv_ishr hx hb hd (hK _ _ _ _ _ hs hc hz H locs mls hRW hRO hS hl)
set_option maxRecDepth 20000 in
theorem tk_iushr  (F : Fra p l e R s m args meth c G k mc ms d) (hi : insB (mB k) (mT k) (ini k) pc .iushr n = true) (hK : ∀ ls st h c1 z1, K ls st h c1 z1 → MP p l e R s m args below meth c FQ G k mc ms (pc + n) ls st h c1 z1) (hs : stp C mc ms (MP p l e R s m args below meth c FQ G k mc ms) Q .iushr ls st h c1 z1 K) : MP p l e R s m args below meth c FQ G k mc ms pc ls st h c1 z1 := by
  intro hc hz H locs mls hRW hRO hS hl
  obtain ⟨hx, hb, hml, hown, hts, hSU, hROs, hA, hBs, hRc, hRs, hRf, hRl, hini⟩ := F
  obtain ⟨raw, hd, hn, hq⟩ := inv_ld hi rfl (by intro v q; cases q) (by intro q; cases q)
  obtain ⟨rfl, rfl⟩ := rq_iushr hq hn
  obtain ⟨x, y, r, rfl, hs⟩ := s2I_inv hs
  exact lv_iushr hx hb hd rfl (hK _ _ _ _ _ hs hc hz H locs mls hRW hRO hS hl)
set_option maxRecDepth 20000 in
theorem tk_idiv  (F : Fra p l e R s m args meth c G k mc ms d) (hi : insB (mB k) (mT k) (ini k) pc .idiv n = true) (hK : ∀ ls st h c1 z1, K ls st h c1 z1 → MP p l e R s m args below meth c FQ G k mc ms (pc + n) ls st h c1 z1) (hs : stp C mc ms (MP p l e R s m args below meth c FQ G k mc ms) Q .idiv ls st h c1 z1 K) : MP p l e R s m args below meth c FQ G k mc ms pc ls st h c1 z1 := by
  intro hc hz H locs mls hRW hRO hS hl
  obtain ⟨hx, hb, hml, hown, hts, hSU, hROs, hA, hBs, hRc, hRs, hRf, hRl, hini⟩ := F
  obtain ⟨raw, hd, hn, hq⟩ := inv_ld hi rfl (by intro v q; cases q) (by intro q; cases q)
  obtain ⟨rfl, rfl⟩ := rq_idiv hq hn
  obtain ⟨x, y, r, rfl, hne, hs⟩ := s2I_inv hs
  exact lv_idiv hx hb hd hne (hK _ _ _ _ _ hs hc hz H locs mls hRW hRO hS hl)
set_option maxRecDepth 20000 in
theorem tk_irem  (F : Fra p l e R s m args meth c G k mc ms d) (hi : insB (mB k) (mT k) (ini k) pc .irem n = true) (hK : ∀ ls st h c1 z1, K ls st h c1 z1 → MP p l e R s m args below meth c FQ G k mc ms (pc + n) ls st h c1 z1) (hs : stp C mc ms (MP p l e R s m args below meth c FQ G k mc ms) Q .irem ls st h c1 z1 K) : MP p l e R s m args below meth c FQ G k mc ms pc ls st h c1 z1 := by
  intro hc hz H locs mls hRW hRO hS hl
  obtain ⟨hx, hb, hml, hown, hts, hSU, hROs, hA, hBs, hRc, hRs, hRf, hRl, hini⟩ := F
  obtain ⟨raw, hd, hn, hq⟩ := inv_ld hi rfl (by intro v q; cases q) (by intro q; cases q)
  obtain ⟨rfl, rfl⟩ := rq_irem hq hn
  obtain ⟨x, y, r, rfl, hne, hs⟩ := s2I_inv hs
  exact lv_irem hx hb hd hne (hK _ _ _ _ _ hs hc hz H locs mls hRW hRO hS hl)
set_option maxRecDepth 20000 in
theorem tk_ineg  (F : Fra p l e R s m args meth c G k mc ms d) (hi : insB (mB k) (mT k) (ini k) pc .ineg n = true) (hK : ∀ ls st h c1 z1, K ls st h c1 z1 → MP p l e R s m args below meth c FQ G k mc ms (pc + n) ls st h c1 z1) (hs : stp C mc ms (MP p l e R s m args below meth c FQ G k mc ms) Q .ineg ls st h c1 z1 K) : MP p l e R s m args below meth c FQ G k mc ms pc ls st h c1 z1 := by
  intro hc hz H locs mls hRW hRO hS hl
  obtain ⟨hx, hb, hml, hown, hts, hSU, hROs, hA, hBs, hRc, hRs, hRf, hRl, hini⟩ := F
  obtain ⟨raw, hd, hn, hq⟩ := inv_ld hi rfl (by intro v q; cases q) (by intro q; cases q)
  obtain ⟨rfl, rfl⟩ := rq_ineg hq hn
  obtain ⟨x, r, rfl, hs⟩ := s1I_inv hs
  exact lv_ineg hx hb hd (hK _ _ _ _ _ hs hc hz H locs mls hRW hRO hS hl)
set_option maxRecDepth 20000 in
theorem tk_ladd  (F : Fra p l e R s m args meth c G k mc ms d) (hi : insB (mB k) (mT k) (ini k) pc .ladd n = true) (hK : ∀ ls st h c1 z1, K ls st h c1 z1 → MP p l e R s m args below meth c FQ G k mc ms (pc + n) ls st h c1 z1) (hs : stp C mc ms (MP p l e R s m args below meth c FQ G k mc ms) Q .ladd ls st h c1 z1 K) : MP p l e R s m args below meth c FQ G k mc ms pc ls st h c1 z1 := by
  intro hc hz H locs mls hRW hRO hS hl
  obtain ⟨hx, hb, hml, hown, hts, hSU, hROs, hA, hBs, hRc, hRs, hRf, hRl, hini⟩ := F
  obtain ⟨raw, hd, hn, hq⟩ := inv_ld hi rfl (by intro v q; cases q) (by intro q; cases q)
  obtain ⟨rfl, rfl⟩ := rq_ladd hq hn
  obtain ⟨x, y, r, rfl, hs⟩ := s2L_inv hs
  exact lv_ladd hx hb hd (hK _ _ _ _ _ hs hc hz H locs mls hRW hRO hS hl)
set_option maxRecDepth 20000 in
theorem tk_lsub  (F : Fra p l e R s m args meth c G k mc ms d) (hi : insB (mB k) (mT k) (ini k) pc .lsub n = true) (hK : ∀ ls st h c1 z1, K ls st h c1 z1 → MP p l e R s m args below meth c FQ G k mc ms (pc + n) ls st h c1 z1) (hs : stp C mc ms (MP p l e R s m args below meth c FQ G k mc ms) Q .lsub ls st h c1 z1 K) : MP p l e R s m args below meth c FQ G k mc ms pc ls st h c1 z1 := by
  intro hc hz H locs mls hRW hRO hS hl
  obtain ⟨hx, hb, hml, hown, hts, hSU, hROs, hA, hBs, hRc, hRs, hRf, hRl, hini⟩ := F
  obtain ⟨raw, hd, hn, hq⟩ := inv_ld hi rfl (by intro v q; cases q) (by intro q; cases q)
  obtain ⟨rfl, rfl⟩ := rq_lsub hq hn
  obtain ⟨x, y, r, rfl, hs⟩ := s2L_inv hs
  exact lv_lsub hx hb hd (hK _ _ _ _ _ hs hc hz H locs mls hRW hRO hS hl)
set_option maxRecDepth 20000 in
theorem tk_lmul  (F : Fra p l e R s m args meth c G k mc ms d) (hi : insB (mB k) (mT k) (ini k) pc .lmul n = true) (hK : ∀ ls st h c1 z1, K ls st h c1 z1 → MP p l e R s m args below meth c FQ G k mc ms (pc + n) ls st h c1 z1) (hs : stp C mc ms (MP p l e R s m args below meth c FQ G k mc ms) Q .lmul ls st h c1 z1 K) : MP p l e R s m args below meth c FQ G k mc ms pc ls st h c1 z1 := by
  intro hc hz H locs mls hRW hRO hS hl
  obtain ⟨hx, hb, hml, hown, hts, hSU, hROs, hA, hBs, hRc, hRs, hRf, hRl, hini⟩ := F
  obtain ⟨raw, hd, hn, hq⟩ := inv_ld hi rfl (by intro v q; cases q) (by intro q; cases q)
  obtain ⟨rfl, rfl⟩ := rq_lmul hq hn
  obtain ⟨x, y, r, rfl, hs⟩ := s2L_inv hs
  exact lv_lmul hx hb hd (hK _ _ _ _ _ hs hc hz H locs mls hRW hRO hS hl)
set_option maxRecDepth 20000 in
theorem tk_land  (F : Fra p l e R s m args meth c G k mc ms d) (hi : insB (mB k) (mT k) (ini k) pc .land n = true) (hK : ∀ ls st h c1 z1, K ls st h c1 z1 → MP p l e R s m args below meth c FQ G k mc ms (pc + n) ls st h c1 z1) (hs : stp C mc ms (MP p l e R s m args below meth c FQ G k mc ms) Q .land ls st h c1 z1 K) : MP p l e R s m args below meth c FQ G k mc ms pc ls st h c1 z1 := by
  intro hc hz H locs mls hRW hRO hS hl
  obtain ⟨hx, hb, hml, hown, hts, hSU, hROs, hA, hBs, hRc, hRs, hRf, hRl, hini⟩ := F
  obtain ⟨raw, hd, hn, hq⟩ := inv_ld hi rfl (by intro v q; cases q) (by intro q; cases q)
  obtain ⟨rfl, rfl⟩ := rq_land hq hn
  obtain ⟨x, y, r, rfl, hs⟩ := s2L_inv hs
  exact lv_land hx hb hd (hK _ _ _ _ _ hs hc hz H locs mls hRW hRO hS hl)
set_option maxRecDepth 20000 in
theorem tk_lor  (F : Fra p l e R s m args meth c G k mc ms d) (hi : insB (mB k) (mT k) (ini k) pc .lor n = true) (hK : ∀ ls st h c1 z1, K ls st h c1 z1 → MP p l e R s m args below meth c FQ G k mc ms (pc + n) ls st h c1 z1) (hs : stp C mc ms (MP p l e R s m args below meth c FQ G k mc ms) Q .lor ls st h c1 z1 K) : MP p l e R s m args below meth c FQ G k mc ms pc ls st h c1 z1 := by
  intro hc hz H locs mls hRW hRO hS hl
  obtain ⟨hx, hb, hml, hown, hts, hSU, hROs, hA, hBs, hRc, hRs, hRf, hRl, hini⟩ := F
  obtain ⟨raw, hd, hn, hq⟩ := inv_ld hi rfl (by intro v q; cases q) (by intro q; cases q)
  obtain ⟨rfl, rfl⟩ := rq_lor hq hn
  obtain ⟨x, y, r, rfl, hs⟩ := s2L_inv hs
  exact lv_lor hx hb hd (hK _ _ _ _ _ hs hc hz H locs mls hRW hRO hS hl)
set_option maxRecDepth 20000 in
theorem tk_ldiv  (F : Fra p l e R s m args meth c G k mc ms d) (hi : insB (mB k) (mT k) (ini k) pc .ldiv n = true) (hK : ∀ ls st h c1 z1, K ls st h c1 z1 → MP p l e R s m args below meth c FQ G k mc ms (pc + n) ls st h c1 z1) (hs : stp C mc ms (MP p l e R s m args below meth c FQ G k mc ms) Q .ldiv ls st h c1 z1 K) : MP p l e R s m args below meth c FQ G k mc ms pc ls st h c1 z1 := by
  intro hc hz H locs mls hRW hRO hS hl
  obtain ⟨hx, hb, hml, hown, hts, hSU, hROs, hA, hBs, hRc, hRs, hRf, hRl, hini⟩ := F
  obtain ⟨raw, hd, hn, hq⟩ := inv_ld hi rfl (by intro v q; cases q) (by intro q; cases q)
  obtain ⟨rfl, rfl⟩ := rq_ldiv hq hn
  obtain ⟨x, y, r, rfl, hne, hs⟩ := s2L_inv hs
  exact lv_ldiv hx hb hd hne (hK _ _ _ _ _ hs hc hz H locs mls hRW hRO hS hl)
set_option maxRecDepth 20000 in
theorem tk_lcmp  (F : Fra p l e R s m args meth c G k mc ms d) (hi : insB (mB k) (mT k) (ini k) pc .lcmp n = true) (hK : ∀ ls st h c1 z1, K ls st h c1 z1 → MP p l e R s m args below meth c FQ G k mc ms (pc + n) ls st h c1 z1) (hs : stp C mc ms (MP p l e R s m args below meth c FQ G k mc ms) Q .lcmp ls st h c1 z1 K) : MP p l e R s m args below meth c FQ G k mc ms pc ls st h c1 z1 := by
  intro hc hz H locs mls hRW hRO hS hl
  obtain ⟨hx, hb, hml, hown, hts, hSU, hROs, hA, hBs, hRc, hRs, hRf, hRl, hini⟩ := F
  obtain ⟨raw, hd, hn, hq⟩ := inv_ld hi rfl (by intro v q; cases q) (by intro q; cases q)
  obtain ⟨rfl, rfl⟩ := rq_lcmp hq hn
  obtain ⟨x, y, r, rfl, hs⟩ := s2L_inv hs
  exact W.lcmp hx hb hd (hK _ _ _ _ _ hs hc hz H locs mls hRW hRO hS hl)
set_option maxRecDepth 20000 in
theorem tk_lshl  (F : Fra p l e R s m args meth c G k mc ms d) (hi : insB (mB k) (mT k) (ini k) pc .lshl n = true) (hK : ∀ ls st h c1 z1, K ls st h c1 z1 → MP p l e R s m args below meth c FQ G k mc ms (pc + n) ls st h c1 z1) (hs : stp C mc ms (MP p l e R s m args below meth c FQ G k mc ms) Q .lshl ls st h c1 z1 K) : MP p l e R s m args below meth c FQ G k mc ms pc ls st h c1 z1 := by
  intro hc hz H locs mls hRW hRO hS hl
  obtain ⟨hx, hb, hml, hown, hts, hSU, hROs, hA, hBs, hRc, hRs, hRf, hRl, hini⟩ := F
  obtain ⟨raw, hd, hn, hq⟩ := inv_ld hi rfl (by intro v q; cases q) (by intro q; cases q)
  obtain ⟨rfl, rfl⟩ := rq_lshl hq hn
  obtain ⟨y, r, rfl, hs⟩ := s1I_inv hs
  obtain ⟨x, r, rfl, hs⟩ := s1L_inv hs
  exact lv_lshl hx hb hd rfl (hK _ _ _ _ _ hs hc hz H locs mls hRW hRO hS hl)
set_option maxRecDepth 20000 in
theorem tk_i2l  (F : Fra p l e R s m args meth c G k mc ms d) (hi : insB (mB k) (mT k) (ini k) pc .i2l n = true) (hK : ∀ ls st h c1 z1, K ls st h c1 z1 → MP p l e R s m args below meth c FQ G k mc ms (pc + n) ls st h c1 z1) (hs : stp C mc ms (MP p l e R s m args below meth c FQ G k mc ms) Q .i2l ls st h c1 z1 K) : MP p l e R s m args below meth c FQ G k mc ms pc ls st h c1 z1 := by
  intro hc hz H locs mls hRW hRO hS hl
  obtain ⟨hx, hb, hml, hown, hts, hSU, hROs, hA, hBs, hRc, hRs, hRf, hRl, hini⟩ := F
  obtain ⟨raw, hd, hn, hq⟩ := inv_ld hi rfl (by intro v q; cases q) (by intro q; cases q)
  obtain ⟨rfl, rfl⟩ := rq_i2l hq hn
  obtain ⟨x, r, rfl, hs⟩ := s1I_inv hs
  exact lv_i2l hx hb hd rfl (hK _ _ _ _ _ hs hc hz H locs mls hRW hRO hS hl)
set_option maxRecDepth 20000 in
theorem tk_l2i  (F : Fra p l e R s m args meth c G k mc ms d) (hi : insB (mB k) (mT k) (ini k) pc .l2i n = true) (hK : ∀ ls st h c1 z1, K ls st h c1 z1 → MP p l e R s m args below meth c FQ G k mc ms (pc + n) ls st h c1 z1) (hs : stp C mc ms (MP p l e R s m args below meth c FQ G k mc ms) Q .l2i ls st h c1 z1 K) : MP p l e R s m args below meth c FQ G k mc ms pc ls st h c1 z1 := by
  intro hc hz H locs mls hRW hRO hS hl
  obtain ⟨hx, hb, hml, hown, hts, hSU, hROs, hA, hBs, hRc, hRs, hRf, hRl, hini⟩ := F
  obtain ⟨raw, hd, hn, hq⟩ := inv_ld hi rfl (by intro v q; cases q) (by intro q; cases q)
  obtain ⟨rfl, rfl⟩ := rq_l2i hq hn
  obtain ⟨x, r, rfl, hs⟩ := s1L_inv hs
  exact lv_l2i hx hb hd rfl (hK _ _ _ _ _ hs hc hz H locs mls hRW hRO hS hl)
set_option maxRecDepth 20000 in
theorem tk_i2b  (F : Fra p l e R s m args meth c G k mc ms d) (hi : insB (mB k) (mT k) (ini k) pc .i2b n = true) (hK : ∀ ls st h c1 z1, K ls st h c1 z1 → MP p l e R s m args below meth c FQ G k mc ms (pc + n) ls st h c1 z1) (hs : stp C mc ms (MP p l e R s m args below meth c FQ G k mc ms) Q .i2b ls st h c1 z1 K) : MP p l e R s m args below meth c FQ G k mc ms pc ls st h c1 z1 := by
  intro hc hz H locs mls hRW hRO hS hl
  obtain ⟨hx, hb, hml, hown, hts, hSU, hROs, hA, hBs, hRc, hRs, hRf, hRl, hini⟩ := F
  obtain ⟨raw, hd, hn, hq⟩ := inv_ld hi rfl (by intro v q; cases q) (by intro q; cases q)
  obtain ⟨rfl, rfl⟩ := rq_i2b hq hn
  obtain ⟨x, r, rfl, hs⟩ := s1I_inv hs
  exact lv_i2b hx hb hd rfl (hK _ _ _ _ _ hs hc hz H locs mls hRW hRO hS hl)
set_option maxRecDepth 20000 in
theorem tk_i2c  (F : Fra p l e R s m args meth c G k mc ms d) (hi : insB (mB k) (mT k) (ini k) pc .i2c n = true) (hK : ∀ ls st h c1 z1, K ls st h c1 z1 → MP p l e R s m args below meth c FQ G k mc ms (pc + n) ls st h c1 z1) (hs : stp C mc ms (MP p l e R s m args below meth c FQ G k mc ms) Q .i2c ls st h c1 z1 K) : MP p l e R s m args below meth c FQ G k mc ms pc ls st h c1 z1 := by
  intro hc hz H locs mls hRW hRO hS hl
  obtain ⟨hx, hb, hml, hown, hts, hSU, hROs, hA, hBs, hRc, hRs, hRf, hRl, hini⟩ := F
  obtain ⟨raw, hd, hn, hq⟩ := inv_ld hi rfl (by intro v q; cases q) (by intro q; cases q)
  obtain ⟨rfl, rfl⟩ := rq_i2c hq hn
  obtain ⟨x, r, rfl, hs⟩ := s1I_inv hs
  exact lv_i2c hx hb hd rfl (hK _ _ _ _ _ hs hc hz H locs mls hRW hRO hS hl)
set_option maxRecDepth 20000 in
theorem tk_aconst_null  (F : Fra p l e R s m args meth c G k mc ms d) (hi : insB (mB k) (mT k) (ini k) pc .aconst_null n = true) (hK : ∀ ls st h c1 z1, K ls st h c1 z1 → MP p l e R s m args below meth c FQ G k mc ms (pc + n) ls st h c1 z1) (hs : stp C mc ms (MP p l e R s m args below meth c FQ G k mc ms) Q .aconst_null ls st h c1 z1 K) : MP p l e R s m args below meth c FQ G k mc ms pc ls st h c1 z1 := by
  intro hc hz H locs mls hRW hRO hS hl
  obtain ⟨hx, hb, hml, hown, hts, hSU, hROs, hA, hBs, hRc, hRs, hRf, hRl, hini⟩ := F
  obtain ⟨raw, hd, hn, hq⟩ := inv_ld hi rfl (by intro v q; cases q) (by intro q; cases q)
  obtain ⟨rfl, rfl⟩ := rq_aconst_null hq hn
  exact lv_null hx hb hd (hK _ _ _ _ _ hs hc hz H locs mls hRW hRO hS hl)
set_option maxRecDepth 20000 in
theorem tk_dup  (F : Fra p l e R s m args meth c G k mc ms d) (hi : insB (mB k) (mT k) (ini k) pc .dup n = true) (hK : ∀ ls st h c1 z1, K ls st h c1 z1 → MP p l e R s m args below meth c FQ G k mc ms (pc + n) ls st h c1 z1) (hs : stp C mc ms (MP p l e R s m args below meth c FQ G k mc ms) Q .dup ls st h c1 z1 K) : MP p l e R s m args below meth c FQ G k mc ms pc ls st h c1 z1 := by
  intro hc hz H locs mls hRW hRO hS hl
  obtain ⟨hx, hb, hml, hown, hts, hSU, hROs, hA, hBs, hRc, hRs, hRf, hRl, hini⟩ := F
  obtain ⟨raw, hd, hn, hq⟩ := inv_ld hi rfl (by intro v q; cases q) (by intro q; cases q)
  obtain ⟨rfl, rfl⟩ := rq_dup hq hn
  match st, hs with
  | v :: r, hs => exact lv_dup hx hb hd ((tv_cat G v).trans hs.1) (hK _ _ _ _ _ hs.2 hc hz H locs mls hRW hRO hS hl)
set_option maxRecDepth 20000 in
theorem tk_dup2  (F : Fra p l e R s m args meth c G k mc ms d) (hi : insB (mB k) (mT k) (ini k) pc .dup2 n = true) (hK : ∀ ls st h c1 z1, K ls st h c1 z1 → MP p l e R s m args below meth c FQ G k mc ms (pc + n) ls st h c1 z1) (hs : stp C mc ms (MP p l e R s m args below meth c FQ G k mc ms) Q .dup2 ls st h c1 z1 K) : MP p l e R s m args below meth c FQ G k mc ms pc ls st h c1 z1 := by
  intro hc hz H locs mls hRW hRO hS hl
  obtain ⟨hx, hb, hml, hown, hts, hSU, hROs, hA, hBs, hRc, hRs, hRf, hRl, hini⟩ := F
  obtain ⟨raw, hd, hn, hq⟩ := inv_ld hi rfl (by intro v q; cases q) (by intro q; cases q)
  obtain ⟨rfl, rfl⟩ := rq_dup2 hq hn
  match st, hs with
  | v :: w :: r, hs => exact lv_dup2_11 hx hb hd ((tv_cat G v).trans hs.1.1) ((tv_cat G w).trans hs.1.2) (hK _ _ _ _ _ hs.2 hc hz H locs mls hRW hRO hS hl)
set_option maxRecDepth 20000 in
theorem tk_pop  (F : Fra p l e R s m args meth c G k mc ms d) (hi : insB (mB k) (mT k) (ini k) pc .pop n = true) (hK : ∀ ls st h c1 z1, K ls st h c1 z1 → MP p l e R s m args below meth c FQ G k mc ms (pc + n) ls st h c1 z1) (hs : stp C mc ms (MP p l e R s m args below meth c FQ G k mc ms) Q .pop ls st h c1 z1 K) : MP p l e R s m args below meth c FQ G k mc ms pc ls st h c1 z1 := by
  intro hc hz H locs mls hRW hRO hS hl
  obtain ⟨hx, hb, hml, hown, hts, hSU, hROs, hA, hBs, hRc, hRs, hRf, hRl, hini⟩ := F
  obtain ⟨raw, hd, hn, hq⟩ := inv_ld hi rfl (by intro v q; cases q) (by intro q; cases q)
  obtain ⟨rfl, rfl⟩ := rq_pop hq hn
  match st, hs with
  | v :: r, hs => exact lv_pop hx hb hd ((tv_cat G v).trans hs.1) (hK _ _ _ _ _ hs.2 hc hz H locs mls hRW hRO hS hl)
set_option maxRecDepth 20000 in
theorem tk_iconst {v : Int} (F : Fra p l e R s m args meth c G k mc ms d) (hi : insB (mB k) (mT k) (ini k) pc (.iconst v) n = true) (hK : ∀ ls st h c1 z1, K ls st h c1 z1 → MP p l e R s m args below meth c FQ G k mc ms (pc + n) ls st h c1 z1) (hs : stp C mc ms (MP p l e R s m args below meth c FQ G k mc ms) Q (.iconst v) ls st h c1 z1 K) : MP p l e R s m args below meth c FQ G k mc ms pc ls st h c1 z1 := by
  intro hc hz H locs mls hRW hRO hS hl
  obtain ⟨hx, hb, hml, hown, hts, hSU, hROs, hA, hBs, hRc, hRs, hRf, hRl, hini⟩ := F
  obtain ⟨raw, hd, hn, hq⟩ := inv_ld hi rfl (by intro v q; cases q) (by intro q; cases q)
  rcases rq_iconst hq hn with ⟨a, rfl, ha, rfl⟩ | ⟨a, rfl, ha, rfl⟩ | ⟨a, rfl, ha, rfl⟩
  · exact lv_iconst hx hb hd ha (hK _ _ _ _ _ hs hc hz H locs mls hRW hRO hS hl)
  · exact lv_bipush hx hb hd ha (hK _ _ _ _ _ hs hc hz H locs mls hRW hRO hS hl)
  · exact lv_sipush hx hb hd ha (hK _ _ _ _ _ hs hc hz H locs mls hRW hRO hS hl)
set_option maxRecDepth 20000 in
theorem tk_goto_w {v : Int} (F : Fra p l e R s m args meth c G k mc ms d) (hi : insB (mB k) (mT k) (ini k) pc (.goto_w v) n = true) (hK : ∀ ls st h c1 z1, K ls st h c1 z1 → MP p l e R s m args below meth c FQ G k mc ms (pc + n) ls st h c1 z1) (hs : stp C mc ms (MP p l e R s m args below meth c FQ G k mc ms) Q (.goto_w v) ls st h c1 z1 K) : MP p l e R s m args below meth c FQ G k mc ms pc ls st h c1 z1 := by
  intro hc hz H locs mls hRW hRO hS hl
  obtain ⟨hx, hb, hml, hown, hts, hSU, hROs, hA, hBs, hRc, hRs, hRf, hRl, hini⟩ := F
  obtain ⟨raw, hd, hn, hq⟩ := inv_ld hi rfl (by intro v q; cases q) (by intro q; cases q)
  obtain ⟨a, rfl, ha, rfl⟩ := rq_goto_w hq hn
  exact lv_lconst hx hb hd ha (hK _ _ _ _ _ hs hc hz H locs mls hRW hRO hS hl)
set_option maxRecDepth 20000 in
theorem tk_iload {j : Nat} (F : Fra p l e R s m args meth c G k mc ms d) (hi : insB (mB k) (mT k) (ini k) pc (.iload j) n = true) (hK : ∀ ls st h c1 z1, K ls st h c1 z1 → MP p l e R s m args below meth c FQ G k mc ms (pc + n) ls st h c1 z1) (hs : stp C mc ms (MP p l e R s m args below meth c FQ G k mc ms) Q (.iload j) ls st h c1 z1 K) : MP p l e R s m args below meth c FQ G k mc ms pc ls st h c1 z1 := by
  intro hc hz H locs mls hRW hRO hS hl
  obtain ⟨hx, hb, hml, hown, hts, hSU, hROs, hA, hBs, hRc, hRs, hRf, hRl, hini⟩ := F
  obtain ⟨raw, hd, hn, hq⟩ := inv_ld hi rfl (by intro v q; cases q) (by intro q; cases q)
  obtain ⟨x, hv, hs⟩ := kI_inv hs
  rcases rq_iload hq hn with ⟨a, rfl, ha, rfl⟩ | ⟨rfl, rfl⟩
  · exact lv_iload_n hx hb hd ha (hl.2.2.2 _ _ hv) (hK _ _ _ _ _ hs hc hz H locs mls hRW hRO hS hl)
  · exact lv_iload hx hb hd (hl.2.2.2 _ _ hv) (hK _ _ _ _ _ hs hc hz H locs mls hRW hRO hS hl)
set_option maxRecDepth 20000 in
theorem tk_lload {j : Nat} (F : Fra p l e R s m args meth c G k mc ms d) (hi : insB (mB k) (mT k) (ini k) pc (.lload j) n = true) (hK : ∀ ls st h c1 z1, K ls st h c1 z1 → MP p l e R s m args below meth c FQ G k mc ms (pc + n) ls st h c1 z1) (hs : stp C mc ms (MP p l e R s m args below meth c FQ G k mc ms) Q (.lload j) ls st h c1 z1 K) : MP p l e R s m args below meth c FQ G k mc ms pc ls st h c1 z1 := by
  intro hc hz H locs mls hRW hRO hS hl
  obtain ⟨hx, hb, hml, hown, hts, hSU, hROs, hA, hBs, hRc, hRs, hRf, hRl, hini⟩ := F
  obtain ⟨raw, hd, hn, hq⟩ := inv_ld hi rfl (by intro v q; cases q) (by intro q; cases q)
  obtain ⟨x, hv, hs⟩ := kL_inv hs
  rcases rq_lload hq hn with ⟨a, rfl, ha, rfl⟩ | ⟨rfl, rfl⟩
  · exact lv_lload_n hx hb hd ha (hl.2.2.2 _ _ hv) (hK _ _ _ _ _ hs hc hz H locs mls hRW hRO hS hl)
  · exact lv_lload hx hb hd (hl.2.2.2 _ _ hv) (hK _ _ _ _ _ hs hc hz H locs mls hRW hRO hS hl)
set_option maxRecDepth 20000 in
theorem tk_aload {j : Nat} (F : Fra p l e R s m args meth c G k mc ms d) (hi : insB (mB k) (mT k) (ini k) pc (.aload j) n = true) (hK : ∀ ls st h c1 z1, K ls st h c1 z1 → MP p l e R s m args below meth c FQ G k mc ms (pc + n) ls st h c1 z1) (hs : stp C mc ms (MP p l e R s m args below meth c FQ G k mc ms) Q (.aload j) ls st h c1 z1 K) : MP p l e R s m args below meth c FQ G k mc ms pc ls st h c1 z1 := by
  intro hc hz H locs mls hRW hRO hS hl
  obtain ⟨hx, hb, hml, hown, hts, hSU, hROs, hA, hBs, hRc, hRs, hRf, hRl, hini⟩ := F
  obtain ⟨raw, hd, hn, hq⟩ := inv_ld hi rfl (by intro v q; cases q) (by intro q; cases q)
  obtain ⟨x, hv, hs⟩ := kR_inv hs
  have hv2 := hl.2.2.2 _ _ hv
  have hk := hK _ _ _ _ _ hs hc hz H locs mls hRW hRO hS hl
  cases x with
  | none =>
    rcases rq_aload hq hn with ⟨a, rfl, ha, rfl⟩ | ⟨rfl, rfl⟩
    · exact lv_aload_nN hx hb hd ha hv2 hk
    · exact lv_aloadN hx hb hd hv2 hk
  | some x =>
    rcases rq_aload hq hn with ⟨a, rfl, ha, rfl⟩ | ⟨rfl, rfl⟩
    · exact lv_aload_n hx hb hd ha hv2 hk
    · exact lv_aload hx hb hd hv2 hk
set_option maxRecDepth 20000 in
theorem tk_istore {j : Nat} (F : Fra p l e R s m args meth c G k mc ms d) (hi : insB (mB k) (mT k) (ini k) pc (.istore j) n = true) (hK : ∀ ls st h c1 z1, K ls st h c1 z1 → MP p l e R s m args below meth c FQ G k mc ms (pc + n) ls st h c1 z1) (hs : stp C mc ms (MP p l e R s m args below meth c FQ G k mc ms) Q (.istore j) ls st h c1 z1 K) : MP p l e R s m args below meth c FQ G k mc ms pc ls st h c1 z1 := by
  intro hc hz H locs mls hRW hRO hS hl
  obtain ⟨hx, hb, hml, hown, hts, hSU, hROs, hA, hBs, hRc, hRs, hRf, hRl, hini⟩ := F
  obtain ⟨raw, hd, hn, hq⟩ := inv_ld hi rfl (by intro v q; cases q) (by intro q; cases q)
  obtain ⟨x, r, rfl, hj, hs⟩ := s1I_inv hs
  have hj2 : j < mL k := Nat.lt_of_lt_of_le hj hl.2.2.1
  rcases rq_istore hq hn with ⟨a, rfl, ha, rfl⟩ | ⟨rfl, rfl⟩
  · exact lv_istore_n hx hb hd ha hl.has hj2 rfl fun ls' h' => hK _ _ _ _ _ hs hc hz H locs ls' hRW hRO hS (lrel.st1 (v := .int x) hl.2.2.1 h')
  · exact lv_istore hx hb hd hl.has hj2 rfl fun ls' h' => hK _ _ _ _ _ hs hc hz H locs ls' hRW hRO hS (lrel.st1 (v := .int x) hl.2.2.1 h')
set_option maxRecDepth 20000 in
theorem tk_lstore {j : Nat} (F : Fra p l e R s m args meth c G k mc ms d) (hi : insB (mB k) (mT k) (ini k) pc (.lstore j) n = true) (hK : ∀ ls st h c1 z1, K ls st h c1 z1 → MP p l e R s m args below meth c FQ G k mc ms (pc + n) ls st h c1 z1) (hs : stp C mc ms (MP p l e R s m args below meth c FQ G k mc ms) Q (.lstore j) ls st h c1 z1 K) : MP p l e R s m args below meth c FQ G k mc ms pc ls st h c1 z1 := by
  intro hc hz H locs mls hRW hRO hS hl
  obtain ⟨hx, hb, hml, hown, hts, hSU, hROs, hA, hBs, hRc, hRs, hRf, hRl, hini⟩ := F
  obtain ⟨raw, hd, hn, hq⟩ := inv_ld hi rfl (by intro v q; cases q) (by intro q; cases q)
  obtain ⟨x, r, rfl, hj, hs⟩ := s1L_inv hs
  have hj2 : j + 1 < mL k := Nat.lt_of_lt_of_le hj hl.2.2.1
  rcases rq_lstore hq hn with ⟨a, rfl, ha, rfl⟩ | ⟨rfl, rfl⟩
  · exact lv_lstore_n hx hb hd ha hl.has hj2 rfl fun ls' h' => hK _ _ _ _ _ hs hc hz H locs ls' hRW hRO hS (lrel.st2 (v := .long x) hl.2.2.1 h')
  · exact lv_lstore hx hb hd hl.has hj2 rfl fun ls' h' => hK _ _ _ _ _ hs hc hz H locs ls' hRW hRO hS (lrel.st2 (v := .long x) hl.2.2.1 h')
set_option maxRecDepth 20000 in
theorem tk_astore {j : Nat} (F : Fra p l e R s m args meth c G k mc ms d) (hi : insB (mB k) (mT k) (ini k) pc (.astore j) n = true) (hK : ∀ ls st h c1 z1, K ls st h c1 z1 → MP p l e R s m args below meth c FQ G k mc ms (pc + n) ls st h c1 z1) (hs : stp C mc ms (MP p l e R s m args below meth c FQ G k mc ms) Q (.astore j) ls st h c1 z1 K) : MP p l e R s m args below meth c FQ G k mc ms pc ls st h c1 z1 := by
  intro hc hz H locs mls hRW hRO hS hl
  obtain ⟨hx, hb, hml, hown, hts, hSU, hROs, hA, hBs, hRc, hRs, hRf, hRl, hini⟩ := F
  obtain ⟨raw, hd, hn, hq⟩ := inv_ld hi rfl (by intro v q; cases q) (by intro q; cases q)
  obtain ⟨x, r, rfl, hj, hs⟩ := s1R_inv hs
  have hj2 : j < mL k := Nat.lt_of_lt_of_le hj hl.2.2.1
  cases x with
  | none =>
    rcases rq_astore hq hn with ⟨a, rfl, ha, rfl⟩ | ⟨rfl, rfl⟩
    · exact lv_astore_nN hx hb hd ha hl.has hj2 rfl fun ls' h' => hK _ _ _ _ _ hs hc hz H locs ls' hRW hRO hS (lrel.st1 (v := .null) hl.2.2.1 h')
    · exact lv_astoreN hx hb hd hl.has hj2 rfl fun ls' h' => hK _ _ _ _ _ hs hc hz H locs ls' hRW hRO hS (lrel.st1 (v := .null) hl.2.2.1 h')
  | some x =>
    rcases rq_astore hq hn with ⟨a, rfl, ha, rfl⟩ | ⟨rfl, rfl⟩
    · exact lv_astore_n hx hb hd ha hl.has hj2 rfl fun ls' h' => hK _ _ _ _ _ hs hc hz H locs ls' hRW hRO hS (lrel.st1 (v := .ref x) hl.2.2.1 h')
    · exact lv_astore hx hb hd hl.has hj2 rfl fun ls' h' => hK _ _ _ _ _ hs hc hz H locs ls' hRW hRO hS (lrel.st1 (v := .ref x) hl.2.2.1 h')
set_option maxRecDepth 20000 in
theorem tk_iinc {j : Nat} {v : Int} (F : Fra p l e R s m args meth c G k mc ms d) (hi : insB (mB k) (mT k) (ini k) pc (.iinc j v) n = true) (hK : ∀ ls st h c1 z1, K ls st h c1 z1 → MP p l e R s m args below meth c FQ G k mc ms (pc + n) ls st h c1 z1) (hs : stp C mc ms (MP p l e R s m args below meth c FQ G k mc ms) Q (.iinc j v) ls st h c1 z1 K) : MP p l e R s m args below meth c FQ G k mc ms pc ls st h c1 z1 := by
  intro hc hz H locs mls hRW hRO hS hl
  obtain ⟨hx, hb, hml, hown, hts, hSU, hROs, hA, hBs, hRc, hRs, hRf, hRl, hini⟩ := F
  obtain ⟨raw, hd, hn, hq⟩ := inv_ld hi rfl (by intro v q; cases q) (by intro q; cases q)
  obtain ⟨x, hv, hs⟩ := kI_inv hs
  obtain ⟨rfl, rfl⟩ := rq_iinc hq hn
  have hmem : (j, Value.int x) ∈ asc G 0 ls := (asc_mem G ls 0 _).mpr ⟨j, .int x, by rw [Nat.zero_add]; rfl, hv⟩
  obtain ⟨q, hq2⟩ := List.getElem?_of_mem hmem
  exact lv_iinc hx hb hd hl.has hq2 rfl (Nat.lt_of_lt_of_le (lg_len hv) hl.2.2.1) rfl fun ls' h' => hK _ _ _ _ _ hs hc hz H locs ls' hRW hRO hS (lrel.st1 (v := .int (x + Int32.ofInt v)) hl.2.2.1 h')
set_option maxRecDepth 20000 in
theorem tk_goto {v : Int} (F : Fra p l e R s m args meth c G k mc ms d) (hi : insB (mB k) (mT k) (ini k) pc (.goto v) n = true) (hK : ∀ ls st h c1 z1, K ls st h c1 z1 → MP p l e R s m args below meth c FQ G k mc ms (pc + n) ls st h c1 z1) (hs : stp C mc ms (MP p l e R s m args below meth c FQ G k mc ms) Q (.goto v) ls st h c1 z1 K) : MP p l e R s m args below meth c FQ G k mc ms pc ls st h c1 z1 := by
  intro hc hz H locs mls hRW hRO hS hl
  obtain ⟨hx, hb, hml, hown, hts, hSU, hROs, hA, hBs, hRc, hRs, hRf, hRl, hini⟩ := F
  obtain ⟨raw, hd, hn, hq⟩ := inv_ld hi rfl (by intro v q; cases q) (by intro q; cases q)
  obtain ⟨a, rfl, ha, rfl⟩ := rq_goto hq hn
  exact lv_goto hx hb hd ha (hs hc hz H locs mls hRW hRO hS hl)
set_option maxRecDepth 20000 in
theorem tk_if_icmp {cd : ClassFile.Cond} {v : Int} (F : Fra p l e R s m args meth c G k mc ms d) (hi : insB (mB k) (mT k) (ini k) pc (.if_icmp cd v) n = true) (hK : ∀ ls st h c1 z1, K ls st h c1 z1 → MP p l e R s m args below meth c FQ G k mc ms (pc + n) ls st h c1 z1) (hs : stp C mc ms (MP p l e R s m args below meth c FQ G k mc ms) Q (.if_icmp cd v) ls st h c1 z1 K) : MP p l e R s m args below meth c FQ G k mc ms pc ls st h c1 z1 := by
  intro hc hz H locs mls hRW hRO hS hl
  obtain ⟨hx, hb, hml, hown, hts, hSU, hROs, hA, hBs, hRc, hRs, hRf, hRl, hini⟩ := F
  obtain ⟨raw, hd, hn, hq⟩ := inv_ld hi rfl (by intro v q; cases q) (by intro q; cases q)
  obtain ⟨x, y, r, rfl, h1, h2⟩ := s2I_inv hs
  obtain ⟨a, rfl, ha, rfl⟩ := rq_if_icmp hq hn
  cases cd with
  | eq => exact lv_icmp_eq hx hb hd ha (fun q => h1 q hc hz H locs mls hRW hRO hS hl) (fun q => hK _ _ _ _ _ (h2 q) hc hz H locs mls hRW hRO hS hl)
  | ne => exact lv_icmp_ne hx hb hd ha (fun q => h1 q hc hz H locs mls hRW hRO hS hl) (fun q => hK _ _ _ _ _ (h2 (fun z => z q)) hc hz H locs mls hRW hRO hS hl)
  | lt => exact lv_icmp_lt hx hb hd ha (fun q => h1 q hc hz H locs mls hRW hRO hS hl) (fun q => hK _ _ _ _ _ (h2 q) hc hz H locs mls hRW hRO hS hl)
  | ge => exact lv_icmp_ge hx hb hd ha (fun q => h1 q hc hz H locs mls hRW hRO hS hl) (fun q => hK _ _ _ _ _ (h2 q) hc hz H locs mls hRW hRO hS hl)
  | gt => exact lv_icmp_gt hx hb hd ha (fun q => h1 q hc hz H locs mls hRW hRO hS hl) (fun q => hK _ _ _ _ _ (h2 q) hc hz H locs mls hRW hRO hS hl)
  | le => exact lv_icmp_le hx hb hd ha (fun q => h1 q hc hz H locs mls hRW hRO hS hl) (fun q => hK _ _ _ _ _ (h2 q) hc hz H locs mls hRW hRO hS hl)
set_option maxRecDepth 20000 in
theorem tk_ifCond {cd : ClassFile.Cond} {v : Int} (F : Fra p l e R s m args meth c G k mc ms d) (hi : insB (mB k) (mT k) (ini k) pc (.ifCond cd v) n = true) (hK : ∀ ls st h c1 z1, K ls st h c1 z1 → MP p l e R s m args below meth c FQ G k mc ms (pc + n) ls st h c1 z1) (hs : stp C mc ms (MP p l e R s m args below meth c FQ G k mc ms) Q (.ifCond cd v) ls st h c1 z1 K) : MP p l e R s m args below meth c FQ G k mc ms pc ls st h c1 z1 := by
  intro hc hz H locs mls hRW hRO hS hl
  obtain ⟨hx, hb, hml, hown, hts, hSU, hROs, hA, hBs, hRc, hRs, hRf, hRl, hini⟩ := F
  obtain ⟨raw, hd, hn, hq⟩ := inv_ld hi rfl (by intro v q; cases q) (by intro q; cases q)
  obtain ⟨x, r, rfl, h1, h2⟩ := s1I_inv hs
  obtain ⟨a, rfl, ha, rfl⟩ := rq_ifCond hq hn
  cases cd with
  | eq => exact lv_if_eq hx hb hd ha (fun q => h1 q hc hz H locs mls hRW hRO hS hl) (fun q => hK _ _ _ _ _ (h2 q) hc hz H locs mls hRW hRO hS hl)
  | ne => exact lv_if_ne hx hb hd ha (fun q => h1 q hc hz H locs mls hRW hRO hS hl) (fun q => hK _ _ _ _ _ (h2 (fun z => z q)) hc hz H locs mls hRW hRO hS hl)
  | lt => exact lv_if_lt hx hb hd ha (fun q => h1 q hc hz H locs mls hRW hRO hS hl) (fun q => hK _ _ _ _ _ (h2 q) hc hz H locs mls hRW hRO hS hl)
  | ge => exact lv_if_ge hx hb hd ha (fun q => h1 q hc hz H locs mls hRW hRO hS hl) (fun q => hK _ _ _ _ _ (h2 q) hc hz H locs mls hRW hRO hS hl)
  | gt => exact lv_if_gt hx hb hd ha (fun q => h1 q hc hz H locs mls hRW hRO hS hl) (fun q => hK _ _ _ _ _ (h2 q) hc hz H locs mls hRW hRO hS hl)
  | le => exact lv_if_le hx hb hd ha (fun q => h1 q hc hz H locs mls hRW hRO hS hl) (fun q => hK _ _ _ _ _ (h2 q) hc hz H locs mls hRW hRO hS hl)
set_option maxRecDepth 20000 in
theorem tk_ifnull {v : Int} (F : Fra p l e R s m args meth c G k mc ms d) (hi : insB (mB k) (mT k) (ini k) pc (.ifnull v) n = true) (hK : ∀ ls st h c1 z1, K ls st h c1 z1 → MP p l e R s m args below meth c FQ G k mc ms (pc + n) ls st h c1 z1) (hs : stp C mc ms (MP p l e R s m args below meth c FQ G k mc ms) Q (.ifnull v) ls st h c1 z1 K) : MP p l e R s m args below meth c FQ G k mc ms pc ls st h c1 z1 := by
  intro hc hz H locs mls hRW hRO hS hl
  obtain ⟨hx, hb, hml, hown, hts, hSU, hROs, hA, hBs, hRc, hRs, hRf, hRl, hini⟩ := F
  obtain ⟨raw, hd, hn, hq⟩ := inv_ld hi rfl (by intro v q; cases q) (by intro q; cases q)
  obtain ⟨x, r, rfl, h1, h2⟩ := s1R_inv hs
  obtain ⟨a, rfl, ha, rfl⟩ := rq_ifnull hq hn
  cases x with
  | none => exact lv_ifnullN hx hb hd ha (h1 rfl hc hz H locs mls hRW hRO hS hl)
  | some x => exact lv_ifnull hx hb hd (hK _ _ _ _ _ (h2 (fun q => by cases q)) hc hz H locs mls hRW hRO hS hl)
set_option maxRecDepth 20000 in
theorem tk_ifnonnull {v : Int} (F : Fra p l e R s m args meth c G k mc ms d) (hi : insB (mB k) (mT k) (ini k) pc (.ifnonnull v) n = true) (hK : ∀ ls st h c1 z1, K ls st h c1 z1 → MP p l e R s m args below meth c FQ G k mc ms (pc + n) ls st h c1 z1) (hs : stp C mc ms (MP p l e R s m args below meth c FQ G k mc ms) Q (.ifnonnull v) ls st h c1 z1 K) : MP p l e R s m args below meth c FQ G k mc ms pc ls st h c1 z1 := by
  intro hc hz H locs mls hRW hRO hS hl
  obtain ⟨hx, hb, hml, hown, hts, hSU, hROs, hA, hBs, hRc, hRs, hRf, hRl, hini⟩ := F
  obtain ⟨raw, hd, hn, hq⟩ := inv_ld hi rfl (by intro v q; cases q) (by intro q; cases q)
  obtain ⟨x, r, rfl, h1, h2⟩ := s1R_inv hs
  obtain ⟨a, rfl, ha, rfl⟩ := rq_ifnonnull hq hn
  cases x with
  | none => exact lv_ifnonnullN hx hb hd (hK _ _ _ _ _ (h2 rfl) hc hz H locs mls hRW hRO hS hl)
  | some x => exact lv_ifnonnull hx hb hd ha (h1 (fun q => by cases q) hc hz H locs mls hRW hRO hS hl)
theorem ofInt_toInt {z : Int} (h1 : -1000 ≤ z) (h2 : z ≤ 1000) : (Int32.ofInt z).toInt = z := by
  rw [Int32.toInt_ofInt]
  have e : (Int32.size : Int) = 4294967296 := rfl
  exact Int.bmod_eq_of_le (by omega) (by omega)
theorem swt_pick (P : Nat → Prop) (x : Int32) (dd : Int) : ∀ (l : List Int) (lo : Int), -1000 ≤ lo → lo + l.length ≤ 1001 → swt P x dd l lo → (∀ (j : Nat) (t : Int), l[j]? = some t → x.toInt = lo + j → P t.toNat) ∧ ((x.toInt < lo ∨ lo + l.length ≤ x.toInt) → P dd.toNat) := by
  intro l
  induction l with
  | nil => intro lo _ _ hs; exact ⟨fun j t ht _ => by simp at ht, fun _ => hs⟩
  | cons t l ih =>
    intro lo h1 h2 hs
    obtain ⟨ha, hb⟩ := hs
    have h2' : lo + ((l.length : Int) + 1) ≤ 1001 := by simpa using h2
    have hlo := ofInt_toInt (z := lo) h1 (by omega)
    refine ⟨fun j t' ht hx => ?_, fun hx => ?_⟩
    · cases j with
      | zero =>
        simp at ht
        subst ht
        exact ha (Int32.toInt_inj.mp (by rw [hlo]; simpa using hx))
      | succ j =>
        have hne : ¬ x = Int32.ofInt lo := fun q => by rw [q, hlo] at hx; push_cast at hx; omega
        exact (ih (lo + 1) (by omega) (by omega) (hb hne)).1 j t' (by simpa using ht) (by rw [hx]; push_cast; omega)
    · have hne : ¬ x = Int32.ofInt lo := fun q => by rw [q, hlo] at hx; simp at hx; omega
      refine (ih (lo + 1) (by omega) (by omega) (hb hne)).2 ?_
      simp at hx
      omega
set_option maxRecDepth 20000 in
theorem tk_tableswitch {dd lo hi2 : Int} {ts : Array Int} (F : Fra p l e R s m args meth c G k mc ms d) (hi : insB (mB k) (mT k) (ini k) pc (.tableswitch dd lo hi2 ts) n = true) (hK : ∀ ls st h c1 z1, K ls st h c1 z1 → MP p l e R s m args below meth c FQ G k mc ms (pc + n) ls st h c1 z1) (hs : stp C mc ms (MP p l e R s m args below meth c FQ G k mc ms) Q (.tableswitch dd lo hi2 ts) ls st h c1 z1 K) : MP p l e R s m args below meth c FQ G k mc ms pc ls st h c1 z1 := by
  intro hc hz H locs mls hRW hRO hS hl
  obtain ⟨hx, hb, hml, hown, hts, hSU, hROs, hA, hBs, hRc, hRs, hRf, hRl, hini⟩ := F
  obtain ⟨raw, hd, hn, hq⟩ := inv_ld hi rfl (by intro v q; cases q) (by intro q; cases q)
  obtain ⟨x, r, rfl, hs⟩ := s1I_inv hs
  obtain ⟨dr, offs, rfl, h1, h2, h3, h4, h5⟩ := rq_tableswitch hq
  have hlen : offs.toList.length = ts.toList.length := by have := congrArg List.length h5; simpa using this
  have hsz : offs.size = ts.toList.length := by rw [← hlen]; simp
  obtain ⟨p1, p2⟩ := swt_pick _ x dd ts.toList lo h2 (by rw [← hsz]; omega) hs
  by_cases q1 : x.toInt < lo
  · exact lv_tableOut hx hb hd (Or.inl q1) h4 (p2 (Or.inl q1) hc hz H locs mls hRW hRO hS hl)
  · by_cases q2 : hi2 < x.toInt
    · exact lv_tableOut hx hb hd (Or.inr q2) h4 (p2 (Or.inr (by rw [← hsz]; omega)) hc hz H locs mls hRW hRO hS hl)
    · have hj : (x.toInt - lo).toNat < offs.size := by omega
      have hj2 : (x.toInt - lo).toNat < ts.toList.length := by rw [← hsz]; exact hj
      have e0 := congrArg (fun l : List Int => l[(x.toInt - lo).toNat]?) h5
      simp only [List.getElem?_map] at e0
      have ho : offs[(x.toInt - lo).toNat]? = some offs[(x.toInt - lo).toNat] := Array.getElem?_eq_getElem hj
      have ht : ts.toList[(x.toInt - lo).toNat]? = some ts.toList[(x.toInt - lo).toNat] := List.getElem?_eq_getElem hj2
      rw [Array.getElem?_toList, ho, ht] at e0
      simp only [Option.map_some, Option.some.injEq] at e0
      exact lv_tableIn hx hb hd q1 q2 ho e0 (p1 _ _ ht (by omega) hc hz H locs mls hRW hRO hS hl)
end SND2
