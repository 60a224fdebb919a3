/-! ===== the class: a text is weighed ===== -/
def cl0 : Cl := (0, none, [])
def cdL : List Cl → List Nat
  | [] => []
  | c :: cs => clC c ++ cdL cs
theorem cdL_len : ∀ cs : List Cl, (cdL cs).length = clT cs := by
  intro cs
  induction cs with
  | nil => rfl
  | cons c cs ih =>
    show (clC c ++ cdL cs).length = (clC c).length + clT cs
    rw [List.length_append, ih]
def ccL (c : Cl) : List Nat := match c.2.1 with
  | none => []
  | some cc => cc
theorem clC_eq (c : Cl) : clC c = ccL c ++ c.2.2 := rfl
/-- a text's object, its code, its clauses -/
def TXT (h : AH) (t : Nat) (cs : List Cl) : Prop :=
  (164 < t ∧ t + 2 < gn h) ∧ (gk h t = some (.inl 10) ∧ gk h (t + 1) = some (.inr (0, clT cs)) ∧ gk h (t + 2) = some (.inr (0, 4 * cs.length)) ∧ gr h t 0 = some (t + 1) ∧ gr h t 1 = some (t + 2)) ∧ (∀ i, i < clT cs → gi h (t + 1) i = nI ((cdL cs).getD i 0)) ∧
  ∀ c, c < cs.length → gi h (t + 2) (4 * c) = nI (cs.getD c cl0).1 ∧ gi h (t + 2) (4 * c + 1) = nI (clT (cs.take c)) ∧ gi h (t + 2) (4 * c + 2) = nI (clT (cs.take c) + (ccL (cs.getD c cl0)).length) ∧ gi h (t + 2) (4 * c + 3) = nI (clT (cs.take c) + (clC (cs.getD c cl0)).length)
theorem Fp.txt {X : Nat → Prop} {h h' : AH} (F : Fp X h h') {t : Nat} {cs : List Cl} (T : TXT h t cs) (hx : ∀ a, X a → a < t ∨ t + 2 < a) : TXT h' t cs := by
  obtain ⟨⟨a1, a2⟩, ⟨b1, b2, b3, b4, b5⟩, c1, c2⟩ := T
  have e1 : gi h' (t + 1) = gi h (t + 1) := F.2 _ (fun q => by have := hx _ q; omega)
  have e2 : gi h' (t + 2) = gi h (t + 2) := F.2 _ (fun q => by have := hx _ q; omega)
  refine ⟨⟨a1, by rw [F.gn]; exact a2⟩, ⟨by rw [F.gk]; exact b1, by rw [F.gk]; exact b2, by rw [F.gk]; exact b3, by rw [F.gr]; exact b4, by rw [F.gr]; exact b5⟩, ?_, ?_⟩
  · rw [e1]
    exact c1
  · rw [e2]
    exact c2
theorem cd_at : ∀ (cs : List Cl) (c j : Nat), c < cs.length → j < (clC (cs.getD c cl0)).length → clT (cs.take c) + j < clT cs ∧ (cdL cs).getD (clT (cs.take c) + j) 0 = (clC (cs.getD c cl0)).getD j 0 := by
  intro cs
  induction cs with
  | nil => intro c j h; exact absurd h (Nat.not_lt_zero _)
  | cons x cs ih =>
    intro c j hc hj
    cases c with
    | zero =>
      have hj2 : j < (clC x).length := hj
      refine ⟨?_, ?_⟩
      · show 0 + j < (clC x).length + clT cs
        omega
      · show (clC x ++ cdL cs).getD (0 + j) 0 = (clC x).getD j 0
        rw [Nat.zero_add, List.getD_eq_getElem?_getD, List.getD_eq_getElem?_getD, List.getElem?_append_left hj2]
    | succ c =>
      have i := ih c j (by rw [List.length_cons] at hc; omega) hj
      refine ⟨?_, ?_⟩
      · show (clC x).length + clT (cs.take c) + j < (clC x).length + clT cs
        omega
      · show (clC x ++ cdL cs).getD ((clC x).length + clT (cs.take c) + j) 0 = _
        rw [List.getD_eq_getElem?_getD, List.getElem?_append_right (by omega), show (clC x).length + clT (cs.take c) + j - (clC x).length = clT (cs.take c) + j by omega, ← List.getD_eq_getElem?_getD]
        exact i.2
/-- what weighing gives -/
def wgL : Option Int32 → Int64
  | none => Int64.ofInt 1099511627776
  | some v => v.toInt64
def PWg (h : AH) (w : Option Int32) (r : Option (Option Value)) (h' : AH) : Prop := r = some (some (.long (wgL w))) ∧ Fp (fun a => a = 44) h h'
section
variable {h : AH} {d : Nat}
theorem c_Sc_weigh0 (L : Lay h) {lb : Nat} : Mz (d + 2) 212 [.ref 42, .null, .int (nI lb)] h 0 0 (PWg h none) := by
  refine mz_in (l := [some (.ref 42), some .null, some (.int (nI lb)), none, none, none, none, none]) mk_Sc_weigh n_Sc_weigh rfl l_Sc_weigh rfl (Nat.le_of_ble_eq_true rfl) fun P hP => ?_
  refine hP.1 _ _ s_Sc_weigh_0 _ _ _ _ _ ?_
  simp (maxSteps := 1000000) (disch := omega) only [g_Sc_weigh_0, slk, List.map_cons, List.map_nil, List.sum_cons, List.sum_nil, vc_i, vc_r, vc_n, vc_l, vc_o, Nat.add_zero, kO_e, kA_e, hdO_a, eq_self, blk, stp, lg, ls0, lk, ls1, ls2, kI_i, kL_l, kR_r, kR_n, kR_o, s1I_i, s2I_i, s1L_l, s2L_l, s1R_r, s1R_n, s1R_o, s1A_a, cmpc, popn, swt, rf_s, rf_n, cat_i, cat_r, cat_n, cat_l, true_and, and_true, List.length_cons, List.length_nil, Nat.zero_add, Int.reduceToNat, Nat.reduceAdd, Nat.reduceDiv, Nat.reduceMod, Nat.reduceMul, Nat.reduceSub, Nat.reduceLeDiff, Nat.reduceLT, Nat.reduceEqDiff, ↓reduceIte, r_gr_wi, r_gl_wi, r_gk_wi, r_gn_wi, r_wi_eq, r_wi_ne, r_wi_nj, r_gi_wr, r_gl_wr, r_gk_wr, r_gn_wr, r_gr_wa, r_gl_wa, r_gk_wa, r_gn_wa, aa_e, as_e, al_e, u_lt, u_le, u_gt, u_ge, u_lt0, u_le0, u_gt0, u_ge0, Classical.not_not, not_true_eq_false, not_false_eq_true, oi_n, oi_m, n_dec, nI_add, pk_mul, n_sub, n_eq, n_le, n_lt, n_eq0, n_lt0, n_le0, n_0lt, n_0le, n_eqm, m_eqn, n_ltm, n_and, n_or, n_xor, n_shl, n_shr, tb1, tb0, bP_1, bP_0, bP_n0, ix_n, inb_n, u_eq, u_eqm]
  refine ⟨fun z => by first | exact absurd rfl z | exact z.elim, fun _ => ?_⟩
  refine hP.1 _ _ s_Sc_weigh_4 _ _ _ _ _ ?_
  simp (maxSteps := 1000000) (disch := omega) only [g_Sc_weigh_4, slk, List.map_cons, List.map_nil, List.sum_cons, List.sum_nil, vc_i, vc_r, vc_n, vc_l, vc_o, Nat.add_zero, kO_e, kA_e, hdO_a, eq_self, blk, stp, lg, ls0, lk, ls1, ls2, kI_i, kL_l, kR_r, kR_n, kR_o, s1I_i, s2I_i, s1L_l, s2L_l, s1R_r, s1R_n, s1R_o, s1A_a, cmpc, popn, swt, rf_s, rf_n, cat_i, cat_r, cat_n, cat_l, true_and, and_true, List.length_cons, List.length_nil, Nat.zero_add, Int.reduceToNat, Nat.reduceAdd, Nat.reduceDiv, Nat.reduceMod, Nat.reduceMul, Nat.reduceSub, Nat.reduceLeDiff, Nat.reduceLT, Nat.reduceEqDiff, ↓reduceIte, r_gr_wi, r_gl_wi, r_gk_wi, r_gn_wi, r_wi_eq, r_wi_ne, r_wi_nj, r_gi_wr, r_gl_wr, r_gk_wr, r_gn_wr, r_gr_wa, r_gl_wa, r_gk_wa, r_gn_wa, aa_e, as_e, al_e, u_lt, u_le, u_gt, u_ge, u_lt0, u_le0, u_gt0, u_ge0, Classical.not_not, not_true_eq_false, not_false_eq_true, oi_n, oi_m, n_dec, nI_add, pk_mul, n_sub, n_eq, n_le, n_lt, n_eq0, n_lt0, n_le0, n_0lt, n_0le, n_eqm, m_eqn, n_ltm, n_and, n_or, n_xor, n_shl, n_shr, tb1, tb0, bP_1, bP_0, bP_n0, ix_n, inb_n, u_eq, u_eqm]
  rw [r_Sc_weigh]
  exact ⟨trivial, rfl, Fp.refl _ _⟩
theorem xc_len {l : Nat → Int32} : ∀ (cd : List Nat) (st : List Int32), (xc l cd st).length ≤ st.length + cd.length := by
  intro cd
  induction cd with
  | nil => intro st; exact Nat.le_refl _
  | cons t cd ih =>
    intro st
    have h1 := ih (xc1 l t st)
    have h2 : (xc1 l t st).length ≤ st.length + 1 := by
      unfold xc1
      split
      · simp
      · split
        · simp
        · split
          · split <;> simp
          · split <;> simp
    show (xc l cd (xc1 l t st)).length ≤ _
    rw [List.length_cons]
    omega
theorem c_Sc_weigh (L : Lay h) {l : Nat → Int32} {mind : Bool} {t lb : Nat} {cs : List Cl} (T : LTC h l) (X : TXT h t cs) (G : ∀ c ∈ cs, CGl mind c) (hn : clT cs ≤ 160) (hc : cs.length ≤ 160) (hlb : lb < 4294967296) : Mz (d + 2) 212 [.ref 42, .ref t, .int (nI lb)] h 0 0 (PWg h (wrS l lb cs)) := by
  have hal := fun c q => (als_b mind c q).1
  have Xk := X.2.1
  have tb := X.1.1
  have lbb : ∀ c ∈ cs, c.1 < 128 := fun c q => by
    have := List.contains_iff_mem.mp (G c q).1
    revert this
    generalize c.1 = y
    cases mind <;> (revert y; decide)
  refine mz_in (l := [some (.ref 42), some (.ref t), some (.int (nI lb)), none, none, none, none, none]) mk_Sc_weigh n_Sc_weigh rfl l_Sc_weigh rfl (Nat.le_of_ble_eq_true rfl) fun P hP => ?_
  have outer : ∀ n c, c + n = cs.length → ∀ H x5 x6 x7, Fp (fun a => a = 44) h H → wrS l lb cs = wrS l lb (cs.drop c) → P 16 [some (.ref 42), some (.ref t), some (.int (nI lb)), some (.ref (t + 2)), some (.int (nI (4 * c))), x5, x6, x7] [] H 0 0 := by
    intro n
    induction n using Nat.strongRecOn with
    | _ n ih =>
      intro c hcn H x5 x6 x7 F hw
      have LH := F.lay L
      have XH := F.txt X (fun a q => by omega)
      have Yk := XH.2.1
      have e22 : gi H (t + 2) = gi h (t + 2) := F.2 _ (by omega)
      refine hP.1 _ _ s_Sc_weigh_16 _ _ _ _ _ ?_
      simp (maxSteps := 1000000) (disch := omega) only [g_Sc_weigh_16, slk, List.map_cons, List.map_nil, List.sum_cons, List.sum_nil, vc_i, vc_r, vc_n, vc_l, vc_o, Nat.add_zero, kO_e, kA_e, hdO_a, eq_self, blk, stp, lg, ls0, lk, ls1, ls2, kI_i, kL_l, kR_r, kR_n, kR_o, s1I_i, s2I_i, s1L_l, s2L_l, s1R_r, s1R_n, s1R_o, s1A_a, cmpc, popn, swt, rf_s, rf_n, cat_i, cat_r, cat_n, cat_l, true_and, and_true, List.length_cons, List.length_nil, Nat.zero_add, Int.reduceToNat, Nat.reduceAdd, Nat.reduceDiv, Nat.reduceMod, Nat.reduceMul, Nat.reduceSub, Nat.reduceLeDiff, Nat.reduceLT, Nat.reduceEqDiff, ↓reduceIte, r_gr_wi, r_gl_wi, r_gk_wi, r_gn_wi, r_wi_eq, r_wi_ne, r_wi_nj, r_gi_wr, r_gl_wr, r_gk_wr, r_gn_wr, r_gr_wa, r_gl_wa, r_gk_wa, r_gn_wa, aa_e, as_e, al_e, u_lt, u_le, u_gt, u_ge, u_lt0, u_le0, u_gt0, u_ge0, Classical.not_not, not_true_eq_false, not_false_eq_true, oi_n, oi_m, n_dec, nI_add, pk_mul, n_sub, n_eq, n_le, n_lt, n_eq0, n_lt0, n_le0, n_0lt, n_0le, n_eqm, m_eqn, n_ltm, n_and, n_or, n_xor, n_shl, n_shr, tb1, tb0, bP_1, bP_0, bP_n0, ix_n, inb_n, u_eq, u_eqm, Yk.1, Yk.2.1, Yk.2.2.1, Yk.2.2.2.1, Yk.2.2.2.2]
      refine ⟨fun q => ?_, fun q => ?_⟩
      · have e1 : cs.drop c = [] := List.drop_eq_nil_of_le (by omega)
        rw [e1] at hw
        refine hP.1 _ _ s_Sc_weigh_142 _ _ _ _ _ ?_
        simp (maxSteps := 1000000) (disch := omega) only [g_Sc_weigh_142, slk, List.map_cons, List.map_nil, List.sum_cons, List.sum_nil, vc_i, vc_r, vc_n, vc_l, vc_o, Nat.add_zero, kO_e, kA_e, hdO_a, eq_self, blk, stp, lg, ls0, lk, ls1, ls2, kI_i, kL_l, kR_r, kR_n, kR_o, s1I_i, s2I_i, s1L_l, s2L_l, s1R_r, s1R_n, s1R_o, s1A_a, cmpc, popn, swt, rf_s, rf_n, cat_i, cat_r, cat_n, cat_l, true_and, and_true, List.length_cons, List.length_nil, Nat.zero_add, Int.reduceToNat, Nat.reduceAdd, Nat.reduceDiv, Nat.reduceMod, Nat.reduceMul, Nat.reduceSub, Nat.reduceLeDiff, Nat.reduceLT, Nat.reduceEqDiff, ↓reduceIte, r_gr_wi, r_gl_wi, r_gk_wi, r_gn_wi, r_wi_eq, r_wi_ne, r_wi_nj, r_gi_wr, r_gl_wr, r_gk_wr, r_gn_wr, r_gr_wa, r_gl_wa, r_gk_wa, r_gn_wa, aa_e, as_e, al_e, u_lt, u_le, u_gt, u_ge, u_lt0, u_le0, u_gt0, u_ge0, Classical.not_not, not_true_eq_false, not_false_eq_true, oi_n, oi_m, n_dec, nI_add, pk_mul, n_sub, n_eq, n_le, n_lt, n_eq0, n_lt0, n_le0, n_0lt, n_0le, n_eqm, m_eqn, n_ltm, n_and, n_or, n_xor, n_shl, n_shr, tb1, tb0, bP_1, bP_0, bP_n0, ix_n, inb_n, u_eq, u_eqm, Yk.1, Yk.2.1, Yk.2.2.1, Yk.2.2.2.1, Yk.2.2.2.2]
        rw [r_Sc_weigh, hw]
        exact ⟨trivial, rfl, F⟩
      have hc2 : c < cs.length := by omega
      have mem : cs.getD c cl0 ∈ cs := by
        rw [List.getD_eq_getElem?_getD, List.getElem?_eq_getElem hc2]
        exact List.getElem_mem hc2
      have gc := G _ mem
      have lb2 := lbb _ mem
      have xcl := XH.2.2.2 c hc2
      have at1 := cd_at cs c
      have ed : cs.drop c = cs.getD c cl0 :: cs.drop (c + 1) := by
        rw [List.getD_eq_getElem?_getD, List.getElem?_eq_getElem hc2]
        exact List.drop_eq_getElem_cons hc2
      generalize cs.getD c cl0 = cl at gc lb2 xcl at1 ed
      have ecc : clC cl = ccL cl ++ cl.2.2 := clC_eq cl
      have elen : (clC cl).length = (ccL cl).length + cl.2.2.length := by rw [ecc, List.length_append]
      have s1 := gc.2.2.2.1
      have off : clT (cs.take c) + (clC cl).length ≤ clT cs := by
        have := (at1 ((clC cl).length - 1) hc2 (by omega)).1
        omega
      -- the next clause
      have next : ∀ H x5 x6 x7, Fp (fun a => a = 44) h H → wrS l lb (cl :: cs.drop (c + 1)) = wrS l lb (cs.drop (c + 1)) → P 136 [some (.ref 42), some (.ref t), some (.int (nI lb)), some (.ref (t + 2)), some (.int (nI (4 * c))), x5, x6, x7] [] H 0 0 := by
        intro H x5 x6 x7 F e
        refine hP.1 _ _ s_Sc_weigh_136 _ _ _ _ _ ?_
        simp (maxSteps := 1000000) (disch := omega) only [g_Sc_weigh_136, slk, List.map_cons, List.map_nil, List.sum_cons, List.sum_nil, vc_i, vc_r, vc_n, vc_l, vc_o, Nat.add_zero, kO_e, kA_e, hdO_a, eq_self, blk, stp, lg, ls0, lk, ls1, ls2, kI_i, kL_l, kR_r, kR_n, kR_o, s1I_i, s2I_i, s1L_l, s2L_l, s1R_r, s1R_n, s1R_o, s1A_a, cmpc, popn, swt, rf_s, rf_n, cat_i, cat_r, cat_n, cat_l, true_and, and_true, List.length_cons, List.length_nil, Nat.zero_add, Int.reduceToNat, Nat.reduceAdd, Nat.reduceDiv, Nat.reduceMod, Nat.reduceMul, Nat.reduceSub, Nat.reduceLeDiff, Nat.reduceLT, Nat.reduceEqDiff, ↓reduceIte, r_gr_wi, r_gl_wi, r_gk_wi, r_gn_wi, r_wi_eq, r_wi_ne, r_wi_nj, r_gi_wr, r_gl_wr, r_gk_wr, r_gn_wr, r_gr_wa, r_gl_wa, r_gk_wa, r_gn_wa, aa_e, as_e, al_e, u_lt, u_le, u_gt, u_ge, u_lt0, u_le0, u_gt0, u_ge0, Classical.not_not, not_true_eq_false, not_false_eq_true, oi_n, oi_m, n_dec, nI_add, pk_mul, n_sub, n_eq, n_le, n_lt, n_eq0, n_lt0, n_le0, n_0lt, n_0le, n_eqm, m_eqn, n_ltm, n_and, n_or, n_xor, n_shl, n_shr, tb1, tb0, bP_1, bP_0, bP_n0, ix_n, inb_n, u_eq, u_eqm, Yk.1, Yk.2.1, Yk.2.2.1, Yk.2.2.2.1, Yk.2.2.2.2]
        have := ih (n - 1) (by omega) (c + 1) (by omega) H x5 x6 x7 F (by rw [hw, ed, e])
        rw [show 4 * (c + 1) = 4 * c + 4 by omega] at this
        exact this
      have oz : (clC cl).length + clT (cs.take c) ≤ clT cs := by omega
      have XF : ∀ H, Fp (fun a => a = 44) h H → (gi H (t + 2) (4 * c + 1) = nI (clT (cs.take c)) ∧ gi H (t + 2) (4 * c + 2) = nI (clT (cs.take c) + (ccL cl).length) ∧ gi H (t + 2) (4 * c + 3) = nI (clT (cs.take c) + (clC cl).length)) := by
        intro H F2
        have e3 : gi H (t + 2) = gi h (t + 2) := F2.2 _ (by omega)
        rw [e3, ← e22]
        exact xcl.2
      generalize clT (cs.take c) = o at xcl at1 off oz XF
      -- one step
      have one : ∀ (x5 tk j : Nat) (st : List Int32) H, j < (clC cl).length → (clC cl).getD j 0 = tk → tkG (als mind) tk → ok1 tk st → st.length < 160 → Fp (fun a => a = 44) h H → SKT H st → (∀ H, Fp (fun a => a = 44) h H → SKT H (xc1 l tk st) → P 51 [some (.ref 42), some (.ref t), some (.int (nI lb)), some (.ref (t + 2)), some (.int (nI (4 * c))), some (.int (nI x5)), some (.int (nI ((xc1 l tk st).length))), some (.int (nI (o + j + 1)))] [] H 0 0) → P 102 [some (.ref 42), some (.ref t), some (.int (nI lb)), some (.ref (t + 2)), some (.int (nI (4 * c))), some (.int (nI x5)), some (.int (nI st.length)), some (.int (nI (o + j)))] [] H 0 0 := by
        intro x5 tk j st H hj et g1 o1 hs F S J
        have LH := F.lay L
        have XH := F.txt X (fun a q => by omega)
        have Yk := XH.2.1
        have a1 := at1 j hc2 hj
        have gx := XH.2.2.1 (o + j) a1.1
        rw [a1.2, et] at gx
        refine hP.1 _ _ s_Sc_weigh_102 _ _ _ _ _ ?_
        simp (maxSteps := 1000000) (disch := omega) only [g_Sc_weigh_102, slk, List.map_cons, List.map_nil, List.sum_cons, List.sum_nil, vc_i, vc_r, vc_n, vc_l, vc_o, Nat.add_zero, kO_e, kA_e, hdO_a, eq_self, blk, stp, lg, ls0, lk, ls1, ls2, kI_i, kL_l, kR_r, kR_n, kR_o, s1I_i, s2I_i, s1L_l, s2L_l, s1R_r, s1R_n, s1R_o, s1A_a, cmpc, popn, swt, rf_s, rf_n, cat_i, cat_r, cat_n, cat_l, true_and, and_true, List.length_cons, List.length_nil, Nat.zero_add, Int.reduceToNat, Nat.reduceAdd, Nat.reduceDiv, Nat.reduceMod, Nat.reduceMul, Nat.reduceSub, Nat.reduceLeDiff, Nat.reduceLT, Nat.reduceEqDiff, ↓reduceIte, r_gr_wi, r_gl_wi, r_gk_wi, r_gn_wi, r_wi_eq, r_wi_ne, r_wi_nj, r_gi_wr, r_gl_wr, r_gk_wr, r_gn_wr, r_gr_wa, r_gl_wa, r_gk_wa, r_gn_wa, aa_e, as_e, al_e, u_lt, u_le, u_gt, u_ge, u_lt0, u_le0, u_gt0, u_ge0, Classical.not_not, not_true_eq_false, not_false_eq_true, oi_n, oi_m, n_dec, nI_add, pk_mul, n_sub, n_eq, n_le, n_lt, n_eq0, n_lt0, n_le0, n_0lt, n_0le, n_eqm, m_eqn, n_ltm, n_and, n_or, n_xor, n_shl, n_shr, tb1, tb0, bP_1, bP_0, bP_n0, ix_n, inb_n, u_eq, u_eqm, k42 LH, Yk.1, Yk.2.1, Yk.2.2.1, Yk.2.2.2.1, Yk.2.2.2.2, gx]
        refine ⟨_, _, _, c_Sc_step (d := d) LH (F.ltc T (by omega)) S hal g1 o1 hs, ⟨by omega, by omega⟩, ?_⟩
        rintro r H2 ⟨rfl, F2, S2⟩
        simp (maxSteps := 1000000) (disch := omega) only [slk, List.map_cons, List.map_nil, List.sum_cons, List.sum_nil, vc_i, vc_r, vc_n, vc_l, vc_o, Nat.add_zero, kO_e, kA_e, hdO_a, eq_self, blk, stp, lg, ls0, lk, ls1, ls2, kI_i, kL_l, kR_r, kR_n, kR_o, s1I_i, s2I_i, s1L_l, s2L_l, s1R_r, s1R_n, s1R_o, s1A_a, cmpc, popn, swt, rf_s, rf_n, cat_i, cat_r, cat_n, cat_l, true_and, and_true, List.length_cons, List.length_nil, Nat.zero_add, Int.reduceToNat, Nat.reduceAdd, Nat.reduceDiv, Nat.reduceMod, Nat.reduceMul, Nat.reduceSub, Nat.reduceLeDiff, Nat.reduceLT, Nat.reduceEqDiff, ↓reduceIte, r_gr_wi, r_gl_wi, r_gk_wi, r_gn_wi, r_wi_eq, r_wi_ne, r_wi_nj, r_gi_wr, r_gl_wr, r_gk_wr, r_gn_wr, r_gr_wa, r_gl_wa, r_gk_wa, r_gn_wa, aa_e, as_e, al_e, u_lt, u_le, u_gt, u_ge, u_lt0, u_le0, u_gt0, u_ge0, Classical.not_not, not_true_eq_false, not_false_eq_true, oi_n, oi_m, n_dec, nI_add, pk_mul, n_sub, n_eq, n_le, n_lt, n_eq0, n_lt0, n_le0, n_0lt, n_0le, n_eqm, m_eqn, n_ltm, n_and, n_or, n_xor, n_shl, n_shr, tb1, tb0, bP_1, bP_0, bP_n0, ix_n, inb_n, u_eq, u_eqm, k42 LH, Yk.1, Yk.2.1, Yk.2.2.1, Yk.2.2.2.1, Yk.2.2.2.2, gx]
        exact J H2 (F.trans F2) S2
      have run : ∀ (D : List Nat) (j : Nat) (st : List Int32) H, D ≠ [] → Fp (fun a => a = 44) h H → SKT H st → (∀ i, i < D.length → (clC cl).getD (j + i) 0 = D.getD i 0) → j + D.length ≤ (clC cl).length → (∀ tk ∈ D, tkG (als mind) tk) → okC l D st → st.length + D.length ≤ 160 → ((ccL cl).length ≤ j ∨ j + D.length ≤ (ccL cl).length) → (∀ H, Fp (fun a => a = 44) h H → SKT H (xc l D st) → P 51 [some (.ref 42), some (.ref t), some (.int (nI lb)), some (.ref (t + 2)), some (.int (nI (4 * c))), some (.int (nI 1)), some (.int (nI ((xc l D st).length))), some (.int (nI (o + (j + D.length))))] [] H 0 0) → P 102 [some (.ref 42), some (.ref t), some (.int (nI lb)), some (.ref (t + 2)), some (.int (nI (4 * c))), some (.int (nI 1)), some (.int (nI st.length)), some (.int (nI (o + j)))] [] H 0 0 := by
        intro D
        induction D with
        | nil => intro j st H q; exact absurd rfl q
        | cons tk D ihD =>
          intro j st H _ F S hD hz hg ho hs ha J
          rw [List.length_cons] at hz hs ha
          have hd0 := hD 0 (by simp)
          refine one 1 tk j st H (by omega) hd0 (hg tk List.mem_cons_self) ho.1 (by omega) F S fun H2 F2 S2 => ?_
          cases D with
          | nil => exact J H2 F2 S2
          | cons tk2 D =>
            have x := XF H2 F2
            have XH := F2.txt X (fun a q => by omega)
            have Yk := XH.2.1
            rw [List.length_cons] at hz hs ha
            have ls : (xc1 l tk st).length ≤ st.length + 1 := xc_len [tk] st
            refine hP.1 _ _ s_Sc_weigh_51 _ _ _ _ _ ?_
            simp (maxSteps := 1000000) (disch := omega) only [g_Sc_weigh_51, slk, List.map_cons, List.map_nil, List.sum_cons, List.sum_nil, vc_i, vc_r, vc_n, vc_l, vc_o, Nat.add_zero, kO_e, kA_e, hdO_a, eq_self, blk, stp, lg, ls0, lk, ls1, ls2, kI_i, kL_l, kR_r, kR_n, kR_o, s1I_i, s2I_i, s1L_l, s2L_l, s1R_r, s1R_n, s1R_o, s1A_a, cmpc, popn, swt, rf_s, rf_n, cat_i, cat_r, cat_n, cat_l, true_and, and_true, List.length_cons, List.length_nil, Nat.zero_add, Int.reduceToNat, Nat.reduceAdd, Nat.reduceDiv, Nat.reduceMod, Nat.reduceMul, Nat.reduceSub, Nat.reduceLeDiff, Nat.reduceLT, Nat.reduceEqDiff, ↓reduceIte, r_gr_wi, r_gl_wi, r_gk_wi, r_gn_wi, r_wi_eq, r_wi_ne, r_wi_nj, r_gi_wr, r_gl_wr, r_gk_wr, r_gn_wr, r_gr_wa, r_gl_wa, r_gk_wa, r_gn_wa, aa_e, as_e, al_e, u_lt, u_le, u_gt, u_ge, u_lt0, u_le0, u_gt0, u_ge0, Classical.not_not, not_true_eq_false, not_false_eq_true, oi_n, oi_m, n_dec, nI_add, pk_mul, n_sub, n_eq, n_le, n_lt, n_eq0, n_lt0, n_le0, n_0lt, n_0le, n_eqm, m_eqn, n_ltm, n_and, n_or, n_xor, n_shl, n_shr, tb1, tb0, bP_1, bP_0, bP_n0, ix_n, inb_n, u_eq, u_eqm, Yk.1, Yk.2.1, Yk.2.2.1, Yk.2.2.2.1, Yk.2.2.2.2, x.2.1, x.2.2]
            refine ⟨fun z => by first | exact absurd z (by decide) | exact z.elim, fun _ => ?_⟩
            refine hP.1 _ _ s_Sc_weigh_56 _ _ _ _ _ ?_
            simp (maxSteps := 1000000) (disch := omega) only [g_Sc_weigh_56, slk, List.map_cons, List.map_nil, List.sum_cons, List.sum_nil, vc_i, vc_r, vc_n, vc_l, vc_o, Nat.add_zero, kO_e, kA_e, hdO_a, eq_self, blk, stp, lg, ls0, lk, ls1, ls2, kI_i, kL_l, kR_r, kR_n, kR_o, s1I_i, s2I_i, s1L_l, s2L_l, s1R_r, s1R_n, s1R_o, s1A_a, cmpc, popn, swt, rf_s, rf_n, cat_i, cat_r, cat_n, cat_l, true_and, and_true, List.length_cons, List.length_nil, Nat.zero_add, Int.reduceToNat, Nat.reduceAdd, Nat.reduceDiv, Nat.reduceMod, Nat.reduceMul, Nat.reduceSub, Nat.reduceLeDiff, Nat.reduceLT, Nat.reduceEqDiff, ↓reduceIte, r_gr_wi, r_gl_wi, r_gk_wi, r_gn_wi, r_wi_eq, r_wi_ne, r_wi_nj, r_gi_wr, r_gl_wr, r_gk_wr, r_gn_wr, r_gr_wa, r_gl_wa, r_gk_wa, r_gn_wa, aa_e, as_e, al_e, u_lt, u_le, u_gt, u_ge, u_lt0, u_le0, u_gt0, u_ge0, Classical.not_not, not_true_eq_false, not_false_eq_true, oi_n, oi_m, n_dec, nI_add, pk_mul, n_sub, n_eq, n_le, n_lt, n_eq0, n_lt0, n_le0, n_0lt, n_0le, n_eqm, m_eqn, n_ltm, n_and, n_or, n_xor, n_shl, n_shr, tb1, tb0, bP_1, bP_0, bP_n0, ix_n, inb_n, u_eq, u_eqm, Yk.1, Yk.2.1, Yk.2.2.1, Yk.2.2.2.1, Yk.2.2.2.2, x.2.1, x.2.2]
            refine ⟨fun z => by first | exact z.elim | (exfalso; omega), fun _ => ?_⟩
            refine hP.1 _ _ s_Sc_weigh_67 _ _ _ _ _ ?_
            simp (maxSteps := 1000000) (disch := omega) only [g_Sc_weigh_67, slk, List.map_cons, List.map_nil, List.sum_cons, List.sum_nil, vc_i, vc_r, vc_n, vc_l, vc_o, Nat.add_zero, kO_e, kA_e, hdO_a, eq_self, blk, stp, lg, ls0, lk, ls1, ls2, kI_i, kL_l, kR_r, kR_n, kR_o, s1I_i, s2I_i, s1L_l, s2L_l, s1R_r, s1R_n, s1R_o, s1A_a, cmpc, popn, swt, rf_s, rf_n, cat_i, cat_r, cat_n, cat_l, true_and, and_true, List.length_cons, List.length_nil, Nat.zero_add, Int.reduceToNat, Nat.reduceAdd, Nat.reduceDiv, Nat.reduceMod, Nat.reduceMul, Nat.reduceSub, Nat.reduceLeDiff, Nat.reduceLT, Nat.reduceEqDiff, ↓reduceIte, r_gr_wi, r_gl_wi, r_gk_wi, r_gn_wi, r_wi_eq, r_wi_ne, r_wi_nj, r_gi_wr, r_gl_wr, r_gk_wr, r_gn_wr, r_gr_wa, r_gl_wa, r_gk_wa, r_gn_wa, aa_e, as_e, al_e, u_lt, u_le, u_gt, u_ge, u_lt0, u_le0, u_gt0, u_ge0, Classical.not_not, not_true_eq_false, not_false_eq_true, oi_n, oi_m, n_dec, nI_add, pk_mul, n_sub, n_eq, n_le, n_lt, n_eq0, n_lt0, n_le0, n_0lt, n_0le, n_eqm, m_eqn, n_ltm, n_and, n_or, n_xor, n_shl, n_shr, tb1, tb0, bP_1, bP_0, bP_n0, ix_n, inb_n, u_eq, u_eqm, Yk.1, Yk.2.1, Yk.2.2.1, Yk.2.2.2.1, Yk.2.2.2.2, x.2.1, x.2.2]
            refine ⟨fun _ => ?_, fun z => by first | exact z.elim | (exfalso; omega)⟩
            have := ihD (j + 1) (xc1 l tk st) H2 (by simp) F2 S2 (fun i hi => by
              have := hD (i + 1) (by rw [List.length_cons]; omega)
              rw [show j + 1 + i = j + (i + 1) by omega]
              exact this) (by rw [List.length_cons]; omega) (fun x hx => hg x (List.mem_cons_of_mem _ hx)) ho.2 (by rw [List.length_cons]; omega) (by rw [List.length_cons]; omega) (fun H3 F3 S3 => by
              have := J H3 F3 S3
              rw [show j + 1 + (tk2 :: D).length = j + (tk :: tk2 :: D).length by simp only [List.length_cons]; omega]
              exact this)
            rw [show o + (j + 1) = o + j + 1 by omega] at this
            exact this
      obtain ⟨w, vw, ow, _⟩ := gc.2.2.2.2 l
      have fin : (cl.1 = lb ∧ ∀ cc, cl.2.1 = some cc → ¬ (xc l cc []).headD 0 = 0) → ∀ H x7, Fp (fun a => a = 44) h H → SKT H (xc l cl.2.2 []) → x7 = o + (clC cl).length → P 51 [some (.ref 42), some (.ref t), some (.int (nI lb)), some (.ref (t + 2)), some (.int (nI (4 * c))), some (.int (nI 1)), some (.int (nI ((xc l cl.2.2 []).length))), some (.int (nI x7))] [] H 0 0 := by
        intro q H x7 F S ex
        have x := XF H F
        have XH := F.txt X (fun a q => by omega)
        have Yk := XH.2.1
        rw [vw []] at S
        have s0 : gi H 44 0 = w := S.1
        refine hP.1 _ _ s_Sc_weigh_51 _ _ _ _ _ ?_
        simp (maxSteps := 1000000) (disch := omega) only [g_Sc_weigh_51, slk, List.map_cons, List.map_nil, List.sum_cons, List.sum_nil, vc_i, vc_r, vc_n, vc_l, vc_o, Nat.add_zero, kO_e, kA_e, hdO_a, eq_self, blk, stp, lg, ls0, lk, ls1, ls2, kI_i, kL_l, kR_r, kR_n, kR_o, s1I_i, s2I_i, s1L_l, s2L_l, s1R_r, s1R_n, s1R_o, s1A_a, cmpc, popn, swt, rf_s, rf_n, cat_i, cat_r, cat_n, cat_l, true_and, and_true, List.length_cons, List.length_nil, Nat.zero_add, Int.reduceToNat, Nat.reduceAdd, Nat.reduceDiv, Nat.reduceMod, Nat.reduceMul, Nat.reduceSub, Nat.reduceLeDiff, Nat.reduceLT, Nat.reduceEqDiff, ↓reduceIte, r_gr_wi, r_gl_wi, r_gk_wi, r_gn_wi, r_wi_eq, r_wi_ne, r_wi_nj, r_gi_wr, r_gl_wr, r_gk_wr, r_gn_wr, r_gr_wa, r_gl_wa, r_gk_wa, r_gn_wa, aa_e, as_e, al_e, u_lt, u_le, u_gt, u_ge, u_lt0, u_le0, u_gt0, u_ge0, Classical.not_not, not_true_eq_false, not_false_eq_true, oi_n, oi_m, n_dec, nI_add, pk_mul, n_sub, n_eq, n_le, n_lt, n_eq0, n_lt0, n_le0, n_0lt, n_0le, n_eqm, m_eqn, n_ltm, n_and, n_or, n_xor, n_shl, n_shr, tb1, tb0, bP_1, bP_0, bP_n0, ix_n, inb_n, u_eq, u_eqm, Yk.1, Yk.2.1, Yk.2.2.1, Yk.2.2.2.1, Yk.2.2.2.2, x.2.1, x.2.2, ex]
        refine ⟨fun z => by first | exact absurd z (by decide) | exact z.elim, fun _ => ?_⟩
        refine hP.1 _ _ s_Sc_weigh_56 _ _ _ _ _ ?_
        simp (maxSteps := 1000000) (disch := omega) only [g_Sc_weigh_56, slk, List.map_cons, List.map_nil, List.sum_cons, List.sum_nil, vc_i, vc_r, vc_n, vc_l, vc_o, Nat.add_zero, kO_e, kA_e, hdO_a, eq_self, blk, stp, lg, ls0, lk, ls1, ls2, kI_i, kL_l, kR_r, kR_n, kR_o, s1I_i, s2I_i, s1L_l, s2L_l, s1R_r, s1R_n, s1R_o, s1A_a, cmpc, popn, swt, rf_s, rf_n, cat_i, cat_r, cat_n, cat_l, true_and, and_true, List.length_cons, List.length_nil, Nat.zero_add, Int.reduceToNat, Nat.reduceAdd, Nat.reduceDiv, Nat.reduceMod, Nat.reduceMul, Nat.reduceSub, Nat.reduceLeDiff, Nat.reduceLT, Nat.reduceEqDiff, ↓reduceIte, r_gr_wi, r_gl_wi, r_gk_wi, r_gn_wi, r_wi_eq, r_wi_ne, r_wi_nj, r_gi_wr, r_gl_wr, r_gk_wr, r_gn_wr, r_gr_wa, r_gl_wa, r_gk_wa, r_gn_wa, aa_e, as_e, al_e, u_lt, u_le, u_gt, u_ge, u_lt0, u_le0, u_gt0, u_ge0, Classical.not_not, not_true_eq_false, not_false_eq_true, oi_n, oi_m, n_dec, nI_add, pk_mul, n_sub, n_eq, n_le, n_lt, n_eq0, n_lt0, n_le0, n_0lt, n_0le, n_eqm, m_eqn, n_ltm, n_and, n_or, n_xor, n_shl, n_shr, tb1, tb0, bP_1, bP_0, bP_n0, ix_n, inb_n, u_eq, u_eqm, Yk.1, Yk.2.1, Yk.2.2.1, Yk.2.2.2.1, Yk.2.2.2.2, x.2.1, x.2.2, ex]
        refine ⟨fun _ => ?_, fun z => by first | exact z.elim | (exfalso; omega)⟩
        refine hP.1 _ _ s_Sc_weigh_123 _ _ _ _ _ ?_
        simp (maxSteps := 1000000) (disch := omega) only [g_Sc_weigh_123, slk, List.map_cons, List.map_nil, List.sum_cons, List.sum_nil, vc_i, vc_r, vc_n, vc_l, vc_o, Nat.add_zero, kO_e, kA_e, hdO_a, eq_self, blk, stp, lg, ls0, lk, ls1, ls2, kI_i, kL_l, kR_r, kR_n, kR_o, s1I_i, s2I_i, s1L_l, s2L_l, s1R_r, s1R_n, s1R_o, s1A_a, cmpc, popn, swt, rf_s, rf_n, cat_i, cat_r, cat_n, cat_l, true_and, and_true, List.length_cons, List.length_nil, Nat.zero_add, Int.reduceToNat, Nat.reduceAdd, Nat.reduceDiv, Nat.reduceMod, Nat.reduceMul, Nat.reduceSub, Nat.reduceLeDiff, Nat.reduceLT, Nat.reduceEqDiff, ↓reduceIte, r_gr_wi, r_gl_wi, r_gk_wi, r_gn_wi, r_wi_eq, r_wi_ne, r_wi_nj, r_gi_wr, r_gl_wr, r_gk_wr, r_gn_wr, r_gr_wa, r_gl_wa, r_gk_wa, r_gn_wa, aa_e, as_e, al_e, u_lt, u_le, u_gt, u_ge, u_lt0, u_le0, u_gt0, u_ge0, Classical.not_not, not_true_eq_false, not_false_eq_true, oi_n, oi_m, n_dec, nI_add, pk_mul, n_sub, n_eq, n_le, n_lt, n_eq0, n_lt0, n_le0, n_0lt, n_0le, n_eqm, m_eqn, n_ltm, n_and, n_or, n_xor, n_shl, n_shr, tb1, tb0, bP_1, bP_0, bP_n0, ix_n, inb_n, u_eq, u_eqm, Yk.1, Yk.2.1, Yk.2.2.1, Yk.2.2.2.1, Yk.2.2.2.2, x.2.1, x.2.2, ex]
        refine ⟨fun z => by first | exact absurd z (by decide) | exact z.elim, fun _ => ?_⟩
        refine hP.1 _ _ s_Sc_weigh_128 _ _ _ _ _ ?_
        simp (maxSteps := 1000000) (disch := omega) only [g_Sc_weigh_128, slk, List.map_cons, List.map_nil, List.sum_cons, List.sum_nil, vc_i, vc_r, vc_n, vc_l, vc_o, Nat.add_zero, kO_e, kA_e, hdO_a, eq_self, blk, stp, lg, ls0, lk, ls1, ls2, kI_i, kL_l, kR_r, kR_n, kR_o, s1I_i, s2I_i, s1L_l, s2L_l, s1R_r, s1R_n, s1R_o, s1A_a, cmpc, popn, swt, rf_s, rf_n, cat_i, cat_r, cat_n, cat_l, true_and, and_true, List.length_cons, List.length_nil, Nat.zero_add, Int.reduceToNat, Nat.reduceAdd, Nat.reduceDiv, Nat.reduceMod, Nat.reduceMul, Nat.reduceSub, Nat.reduceLeDiff, Nat.reduceLT, Nat.reduceEqDiff, ↓reduceIte, r_gr_wi, r_gl_wi, r_gk_wi, r_gn_wi, r_wi_eq, r_wi_ne, r_wi_nj, r_gi_wr, r_gl_wr, r_gk_wr, r_gn_wr, r_gr_wa, r_gl_wa, r_gk_wa, r_gn_wa, aa_e, as_e, al_e, u_lt, u_le, u_gt, u_ge, u_lt0, u_le0, u_gt0, u_ge0, Classical.not_not, not_true_eq_false, not_false_eq_true, oi_n, oi_m, n_dec, nI_add, pk_mul, n_sub, n_eq, n_le, n_lt, n_eq0, n_lt0, n_le0, n_0lt, n_0le, n_eqm, m_eqn, n_ltm, n_and, n_or, n_xor, n_shl, n_shr, tb1, tb0, bP_1, bP_0, bP_n0, ix_n, inb_n, u_eq, u_eqm, k42 (F.lay L), f42_1 (F.lay L), k44 (F.lay L), Yk.1, Yk.2.1, Yk.2.2.1, Yk.2.2.2.1, Yk.2.2.2.2, x.2.1, x.2.2, ex, s0]
        rw [r_Sc_weigh, hw, ed, show wrS l lb (cl :: cs.drop (c + 1)) = some ((xc l cl.2.2 []).headD 0) from if_pos q, vw []]
        exact ⟨trivial, rfl, F⟩
      have skip : ¬ (cl.1 = lb ∧ ∀ cc, cl.2.1 = some cc → ¬ (xc l cc []).headD 0 = 0) → ∀ H x6 x7, Fp (fun a => a = 44) h H → P 51 [some (.ref 42), some (.ref t), some (.int (nI lb)), some (.ref (t + 2)), some (.int (nI (4 * c))), some (.int (nI 0)), x6, x7] [] H 0 0 := by
        intro q H x6 x7 F
        refine hP.1 _ _ s_Sc_weigh_51 _ _ _ _ _ ?_
        simp (maxSteps := 1000000) (disch := omega) only [g_Sc_weigh_51, slk, List.map_cons, List.map_nil, List.sum_cons, List.sum_nil, vc_i, vc_r, vc_n, vc_l, vc_o, Nat.add_zero, kO_e, kA_e, hdO_a, eq_self, blk, stp, lg, ls0, lk, ls1, ls2, kI_i, kL_l, kR_r, kR_n, kR_o, s1I_i, s2I_i, s1L_l, s2L_l, s1R_r, s1R_n, s1R_o, s1A_a, cmpc, popn, swt, rf_s, rf_n, cat_i, cat_r, cat_n, cat_l, true_and, and_true, List.length_cons, List.length_nil, Nat.zero_add, Int.reduceToNat, Nat.reduceAdd, Nat.reduceDiv, Nat.reduceMod, Nat.reduceMul, Nat.reduceSub, Nat.reduceLeDiff, Nat.reduceLT, Nat.reduceEqDiff, ↓reduceIte, r_gr_wi, r_gl_wi, r_gk_wi, r_gn_wi, r_wi_eq, r_wi_ne, r_wi_nj, r_gi_wr, r_gl_wr, r_gk_wr, r_gn_wr, r_gr_wa, r_gl_wa, r_gk_wa, r_gn_wa, aa_e, as_e, al_e, u_lt, u_le, u_gt, u_ge, u_lt0, u_le0, u_gt0, u_ge0, Classical.not_not, not_true_eq_false, not_false_eq_true, oi_n, oi_m, n_dec, nI_add, pk_mul, n_sub, n_eq, n_le, n_lt, n_eq0, n_lt0, n_le0, n_0lt, n_0le, n_eqm, m_eqn, n_ltm, n_and, n_or, n_xor, n_shl, n_shr, tb1, tb0, bP_1, bP_0, bP_n0, ix_n, inb_n, u_eq, u_eqm, Yk.1, Yk.2.1, Yk.2.2.1, Yk.2.2.2.1, Yk.2.2.2.2]
        refine ⟨fun _ => ?_, fun z => by first | exact z.elim | exact absurd rfl z | exact absurd trivial z⟩
        refine hP.1 _ _ s_Sc_weigh_123 _ _ _ _ _ ?_
        simp (maxSteps := 1000000) (disch := omega) only [g_Sc_weigh_123, slk, List.map_cons, List.map_nil, List.sum_cons, List.sum_nil, vc_i, vc_r, vc_n, vc_l, vc_o, Nat.add_zero, kO_e, kA_e, hdO_a, eq_self, blk, stp, lg, ls0, lk, ls1, ls2, kI_i, kL_l, kR_r, kR_n, kR_o, s1I_i, s2I_i, s1L_l, s2L_l, s1R_r, s1R_n, s1R_o, s1A_a, cmpc, popn, swt, rf_s, rf_n, cat_i, cat_r, cat_n, cat_l, true_and, and_true, List.length_cons, List.length_nil, Nat.zero_add, Int.reduceToNat, Nat.reduceAdd, Nat.reduceDiv, Nat.reduceMod, Nat.reduceMul, Nat.reduceSub, Nat.reduceLeDiff, Nat.reduceLT, Nat.reduceEqDiff, ↓reduceIte, r_gr_wi, r_gl_wi, r_gk_wi, r_gn_wi, r_wi_eq, r_wi_ne, r_wi_nj, r_gi_wr, r_gl_wr, r_gk_wr, r_gn_wr, r_gr_wa, r_gl_wa, r_gk_wa, r_gn_wa, aa_e, as_e, al_e, u_lt, u_le, u_gt, u_ge, u_lt0, u_le0, u_gt0, u_ge0, Classical.not_not, not_true_eq_false, not_false_eq_true, oi_n, oi_m, n_dec, nI_add, pk_mul, n_sub, n_eq, n_le, n_lt, n_eq0, n_lt0, n_le0, n_0lt, n_0le, n_eqm, m_eqn, n_ltm, n_and, n_or, n_xor, n_shl, n_shr, tb1, tb0, bP_1, bP_0, bP_n0, ix_n, inb_n, u_eq, u_eqm, Yk.1, Yk.2.1, Yk.2.2.1, Yk.2.2.2.1, Yk.2.2.2.2]
        refine ⟨fun _ => ?_, fun z => by first | exact z.elim | exact absurd rfl z | exact absurd trivial z⟩
        exact next H _ _ _ F (if_neg q)
      have x := XF H F
      refine hP.1 _ _ s_Sc_weigh_25 _ _ _ _ _ ?_
      simp (maxSteps := 1000000) (disch := omega) only [g_Sc_weigh_25, slk, List.map_cons, List.map_nil, List.sum_cons, List.sum_nil, vc_i, vc_r, vc_n, vc_l, vc_o, Nat.add_zero, kO_e, kA_e, hdO_a, eq_self, blk, stp, lg, ls0, lk, ls1, ls2, kI_i, kL_l, kR_r, kR_n, kR_o, s1I_i, s2I_i, s1L_l, s2L_l, s1R_r, s1R_n, s1R_o, s1A_a, cmpc, popn, swt, rf_s, rf_n, cat_i, cat_r, cat_n, cat_l, true_and, and_true, List.length_cons, List.length_nil, Nat.zero_add, Int.reduceToNat, Nat.reduceAdd, Nat.reduceDiv, Nat.reduceMod, Nat.reduceMul, Nat.reduceSub, Nat.reduceLeDiff, Nat.reduceLT, Nat.reduceEqDiff, ↓reduceIte, r_gr_wi, r_gl_wi, r_gk_wi, r_gn_wi, r_wi_eq, r_wi_ne, r_wi_nj, r_gi_wr, r_gl_wr, r_gk_wr, r_gn_wr, r_gr_wa, r_gl_wa, r_gk_wa, r_gn_wa, aa_e, as_e, al_e, u_lt, u_le, u_gt, u_ge, u_lt0, u_le0, u_gt0, u_ge0, Classical.not_not, not_true_eq_false, not_false_eq_true, oi_n, oi_m, n_dec, nI_add, pk_mul, n_sub, n_eq, n_le, n_lt, n_eq0, n_lt0, n_le0, n_0lt, n_0le, n_eqm, m_eqn, n_ltm, n_and, n_or, n_xor, n_shl, n_shr, tb1, tb0, bP_1, bP_0, bP_n0, ix_n, inb_n, u_eq, u_eqm, Yk.1, Yk.2.1, Yk.2.2.1, Yk.2.2.2.1, Yk.2.2.2.2, x.1, x.2.1, x.2.2, xcl.1]
      refine ⟨fun q1 => ?_, fun q1 => ?_⟩
      · refine hP.1 _ _ s_Sc_weigh_37 _ _ _ _ _ ?_
        simp (maxSteps := 1000000) (disch := omega) only [g_Sc_weigh_37, slk, List.map_cons, List.map_nil, List.sum_cons, List.sum_nil, vc_i, vc_r, vc_n, vc_l, vc_o, Nat.add_zero, kO_e, kA_e, hdO_a, eq_self, blk, stp, lg, ls0, lk, ls1, ls2, kI_i, kL_l, kR_r, kR_n, kR_o, s1I_i, s2I_i, s1L_l, s2L_l, s1R_r, s1R_n, s1R_o, s1A_a, cmpc, popn, swt, rf_s, rf_n, cat_i, cat_r, cat_n, cat_l, true_and, and_true, List.length_cons, List.length_nil, Nat.zero_add, Int.reduceToNat, Nat.reduceAdd, Nat.reduceDiv, Nat.reduceMod, Nat.reduceMul, Nat.reduceSub, Nat.reduceLeDiff, Nat.reduceLT, Nat.reduceEqDiff, ↓reduceIte, r_gr_wi, r_gl_wi, r_gk_wi, r_gn_wi, r_wi_eq, r_wi_ne, r_wi_nj, r_gi_wr, r_gl_wr, r_gk_wr, r_gn_wr, r_gr_wa, r_gl_wa, r_gk_wa, r_gn_wa, aa_e, as_e, al_e, u_lt, u_le, u_gt, u_ge, u_lt0, u_le0, u_gt0, u_ge0, Classical.not_not, not_true_eq_false, not_false_eq_true, oi_n, oi_m, n_dec, nI_add, pk_mul, n_sub, n_eq, n_le, n_lt, n_eq0, n_lt0, n_le0, n_0lt, n_0le, n_eqm, m_eqn, n_ltm, n_and, n_or, n_xor, n_shl, n_shr, tb1, tb0, bP_1, bP_0, bP_n0, ix_n, inb_n, u_eq, u_eqm, Yk.1, Yk.2.1, Yk.2.2.1, Yk.2.2.2.1, Yk.2.2.2.2, x.1, x.2.1, x.2.2, xcl.1]
        refine hP.1 _ _ s_Sc_weigh_38 _ _ _ _ _ ?_
        simp (maxSteps := 1000000) (disch := omega) only [g_Sc_weigh_38, slk, List.map_cons, List.map_nil, List.sum_cons, List.sum_nil, vc_i, vc_r, vc_n, vc_l, vc_o, Nat.add_zero, kO_e, kA_e, hdO_a, eq_self, blk, stp, lg, ls0, lk, ls1, ls2, kI_i, kL_l, kR_r, kR_n, kR_o, s1I_i, s2I_i, s1L_l, s2L_l, s1R_r, s1R_n, s1R_o, s1A_a, cmpc, popn, swt, rf_s, rf_n, cat_i, cat_r, cat_n, cat_l, true_and, and_true, List.length_cons, List.length_nil, Nat.zero_add, Int.reduceToNat, Nat.reduceAdd, Nat.reduceDiv, Nat.reduceMod, Nat.reduceMul, Nat.reduceSub, Nat.reduceLeDiff, Nat.reduceLT, Nat.reduceEqDiff, ↓reduceIte, r_gr_wi, r_gl_wi, r_gk_wi, r_gn_wi, r_wi_eq, r_wi_ne, r_wi_nj, r_gi_wr, r_gl_wr, r_gk_wr, r_gn_wr, r_gr_wa, r_gl_wa, r_gk_wa, r_gn_wa, aa_e, as_e, al_e, u_lt, u_le, u_gt, u_ge, u_lt0, u_le0, u_gt0, u_ge0, Classical.not_not, not_true_eq_false, not_false_eq_true, oi_n, oi_m, n_dec, nI_add, pk_mul, n_sub, n_eq, n_le, n_lt, n_eq0, n_lt0, n_le0, n_0lt, n_0le, n_eqm, m_eqn, n_ltm, n_and, n_or, n_xor, n_shl, n_shr, tb1, tb0, bP_1, bP_0, bP_n0, ix_n, inb_n, u_eq, u_eqm, Yk.1, Yk.2.1, Yk.2.2.1, Yk.2.2.2.1, Yk.2.2.2.2, x.1, x.2.1, x.2.2, xcl.1]
        exact skip (fun z => q1 z.1) H _ _ F
      have sumD : ∀ i, i < cl.2.2.length → (clC cl).getD ((ccL cl).length + i) 0 = cl.2.2.getD i 0 := by
        intro i hi
        rw [ecc, List.getD_eq_getElem?_getD, List.getElem?_append_right (by omega), show (ccL cl).length + i - (ccL cl).length = i by omega, ← List.getD_eq_getElem?_getD]
      have sne : cl.2.2 ≠ [] := fun z => by rw [z] at s1; exact absurd s1 (by decide)
      refine hP.1 _ _ s_Sc_weigh_33 _ _ _ _ _ ?_
      simp (maxSteps := 1000000) (disch := omega) only [g_Sc_weigh_33, slk, List.map_cons, List.map_nil, List.sum_cons, List.sum_nil, vc_i, vc_r, vc_n, vc_l, vc_o, Nat.add_zero, kO_e, kA_e, hdO_a, eq_self, blk, stp, lg, ls0, lk, ls1, ls2, kI_i, kL_l, kR_r, kR_n, kR_o, s1I_i, s2I_i, s1L_l, s2L_l, s1R_r, s1R_n, s1R_o, s1A_a, cmpc, popn, swt, rf_s, rf_n, cat_i, cat_r, cat_n, cat_l, true_and, and_true, List.length_cons, List.length_nil, Nat.zero_add, Int.reduceToNat, Nat.reduceAdd, Nat.reduceDiv, Nat.reduceMod, Nat.reduceMul, Nat.reduceSub, Nat.reduceLeDiff, Nat.reduceLT, Nat.reduceEqDiff, ↓reduceIte, r_gr_wi, r_gl_wi, r_gk_wi, r_gn_wi, r_wi_eq, r_wi_ne, r_wi_nj, r_gi_wr, r_gl_wr, r_gk_wr, r_gn_wr, r_gr_wa, r_gl_wa, r_gk_wa, r_gn_wa, aa_e, as_e, al_e, u_lt, u_le, u_gt, u_ge, u_lt0, u_le0, u_gt0, u_ge0, Classical.not_not, not_true_eq_false, not_false_eq_true, oi_n, oi_m, n_dec, nI_add, pk_mul, n_sub, n_eq, n_le, n_lt, n_eq0, n_lt0, n_le0, n_0lt, n_0le, n_eqm, m_eqn, n_ltm, n_and, n_or, n_xor, n_shl, n_shr, tb1, tb0, bP_1, bP_0, bP_n0, ix_n, inb_n, u_eq, u_eqm, Yk.1, Yk.2.1, Yk.2.2.1, Yk.2.2.2.1, Yk.2.2.2.2, x.1, x.2.1, x.2.2, xcl.1]
      refine hP.1 _ _ s_Sc_weigh_38 _ _ _ _ _ ?_
      simp (maxSteps := 1000000) (disch := omega) only [g_Sc_weigh_38, slk, List.map_cons, List.map_nil, List.sum_cons, List.sum_nil, vc_i, vc_r, vc_n, vc_l, vc_o, Nat.add_zero, kO_e, kA_e, hdO_a, eq_self, blk, stp, lg, ls0, lk, ls1, ls2, kI_i, kL_l, kR_r, kR_n, kR_o, s1I_i, s2I_i, s1L_l, s2L_l, s1R_r, s1R_n, s1R_o, s1A_a, cmpc, popn, swt, rf_s, rf_n, cat_i, cat_r, cat_n, cat_l, true_and, and_true, List.length_cons, List.length_nil, Nat.zero_add, Int.reduceToNat, Nat.reduceAdd, Nat.reduceDiv, Nat.reduceMod, Nat.reduceMul, Nat.reduceSub, Nat.reduceLeDiff, Nat.reduceLT, Nat.reduceEqDiff, ↓reduceIte, r_gr_wi, r_gl_wi, r_gk_wi, r_gn_wi, r_wi_eq, r_wi_ne, r_wi_nj, r_gi_wr, r_gl_wr, r_gk_wr, r_gn_wr, r_gr_wa, r_gl_wa, r_gk_wa, r_gn_wa, aa_e, as_e, al_e, u_lt, u_le, u_gt, u_ge, u_lt0, u_le0, u_gt0, u_ge0, Classical.not_not, not_true_eq_false, not_false_eq_true, oi_n, oi_m, n_dec, nI_add, pk_mul, n_sub, n_eq, n_le, n_lt, n_eq0, n_lt0, n_le0, n_0lt, n_0le, n_eqm, m_eqn, n_ltm, n_and, n_or, n_xor, n_shl, n_shr, tb1, tb0, bP_1, bP_0, bP_n0, ix_n, inb_n, u_eq, u_eqm, Yk.1, Yk.2.1, Yk.2.2.1, Yk.2.2.2.1, Yk.2.2.2.2, x.1, x.2.1, x.2.2, xcl.1]
      refine hP.1 _ _ s_Sc_weigh_51 _ _ _ _ _ ?_
      simp (maxSteps := 1000000) (disch := omega) only [g_Sc_weigh_51, slk, List.map_cons, List.map_nil, List.sum_cons, List.sum_nil, vc_i, vc_r, vc_n, vc_l, vc_o, Nat.add_zero, kO_e, kA_e, hdO_a, eq_self, blk, stp, lg, ls0, lk, ls1, ls2, kI_i, kL_l, kR_r, kR_n, kR_o, s1I_i, s2I_i, s1L_l, s2L_l, s1R_r, s1R_n, s1R_o, s1A_a, cmpc, popn, swt, rf_s, rf_n, cat_i, cat_r, cat_n, cat_l, true_and, and_true, List.length_cons, List.length_nil, Nat.zero_add, Int.reduceToNat, Nat.reduceAdd, Nat.reduceDiv, Nat.reduceMod, Nat.reduceMul, Nat.reduceSub, Nat.reduceLeDiff, Nat.reduceLT, Nat.reduceEqDiff, ↓reduceIte, r_gr_wi, r_gl_wi, r_gk_wi, r_gn_wi, r_wi_eq, r_wi_ne, r_wi_nj, r_gi_wr, r_gl_wr, r_gk_wr, r_gn_wr, r_gr_wa, r_gl_wa, r_gk_wa, r_gn_wa, aa_e, as_e, al_e, u_lt, u_le, u_gt, u_ge, u_lt0, u_le0, u_gt0, u_ge0, Classical.not_not, not_true_eq_false, not_false_eq_true, oi_n, oi_m, n_dec, nI_add, pk_mul, n_sub, n_eq, n_le, n_lt, n_eq0, n_lt0, n_le0, n_0lt, n_0le, n_eqm, m_eqn, n_ltm, n_and, n_or, n_xor, n_shl, n_shr, tb1, tb0, bP_1, bP_0, bP_n0, ix_n, inb_n, u_eq, u_eqm, Yk.1, Yk.2.1, Yk.2.2.1, Yk.2.2.2.1, Yk.2.2.2.2, x.1, x.2.1, x.2.2, xcl.1]
      refine ⟨fun z => by first | exact absurd z (by decide) | exact z.elim, fun _ => ?_⟩
      refine hP.1 _ _ s_Sc_weigh_56 _ _ _ _ _ ?_
      simp (maxSteps := 1000000) (disch := omega) only [g_Sc_weigh_56, slk, List.map_cons, List.map_nil, List.sum_cons, List.sum_nil, vc_i, vc_r, vc_n, vc_l, vc_o, Nat.add_zero, kO_e, kA_e, hdO_a, eq_self, blk, stp, lg, ls0, lk, ls1, ls2, kI_i, kL_l, kR_r, kR_n, kR_o, s1I_i, s2I_i, s1L_l, s2L_l, s1R_r, s1R_n, s1R_o, s1A_a, cmpc, popn, swt, rf_s, rf_n, cat_i, cat_r, cat_n, cat_l, true_and, and_true, List.length_cons, List.length_nil, Nat.zero_add, Int.reduceToNat, Nat.reduceAdd, Nat.reduceDiv, Nat.reduceMod, Nat.reduceMul, Nat.reduceSub, Nat.reduceLeDiff, Nat.reduceLT, Nat.reduceEqDiff, ↓reduceIte, r_gr_wi, r_gl_wi, r_gk_wi, r_gn_wi, r_wi_eq, r_wi_ne, r_wi_nj, r_gi_wr, r_gl_wr, r_gk_wr, r_gn_wr, r_gr_wa, r_gl_wa, r_gk_wa, r_gn_wa, aa_e, as_e, al_e, u_lt, u_le, u_gt, u_ge, u_lt0, u_le0, u_gt0, u_ge0, Classical.not_not, not_true_eq_false, not_false_eq_true, oi_n, oi_m, n_dec, nI_add, pk_mul, n_sub, n_eq, n_le, n_lt, n_eq0, n_lt0, n_le0, n_0lt, n_0le, n_eqm, m_eqn, n_ltm, n_and, n_or, n_xor, n_shl, n_shr, tb1, tb0, bP_1, bP_0, bP_n0, ix_n, inb_n, u_eq, u_eqm, Yk.1, Yk.2.1, Yk.2.2.1, Yk.2.2.2.1, Yk.2.2.2.2, x.1, x.2.1, x.2.2, xcl.1]
      refine ⟨fun z => by first | exact z.elim | (exfalso; omega), fun _ => ?_⟩
      cases ec : cl.2.1 with
      | none =>
        have ea : (ccL cl).length = 0 := by
          unfold ccL
          rw [ec]
          rfl
        rw [ea] at x elen sumD run
        have go := run cl.2.2 0 [] H sne F trivial sumD (by omega) gc.2.2.1 (ow []) (by simp only [List.length_nil]; omega) (Or.inl (by omega)) (fun H2 F2 S2 => fin ⟨q1, fun cc e => by rw [ec] at e; cases e⟩ H2 _ F2 S2 (by omega))
        refine hP.1 _ _ s_Sc_weigh_67 _ _ _ _ _ ?_
        simp (maxSteps := 1000000) (disch := omega) only [g_Sc_weigh_67, slk, List.map_cons, List.map_nil, List.sum_cons, List.sum_nil, vc_i, vc_r, vc_n, vc_l, vc_o, Nat.add_zero, kO_e, kA_e, hdO_a, eq_self, blk, stp, lg, ls0, lk, ls1, ls2, kI_i, kL_l, kR_r, kR_n, kR_o, s1I_i, s2I_i, s1L_l, s2L_l, s1R_r, s1R_n, s1R_o, s1A_a, cmpc, popn, swt, rf_s, rf_n, cat_i, cat_r, cat_n, cat_l, true_and, and_true, List.length_cons, List.length_nil, Nat.zero_add, Int.reduceToNat, Nat.reduceAdd, Nat.reduceDiv, Nat.reduceMod, Nat.reduceMul, Nat.reduceSub, Nat.reduceLeDiff, Nat.reduceLT, Nat.reduceEqDiff, ↓reduceIte, r_gr_wi, r_gl_wi, r_gk_wi, r_gn_wi, r_wi_eq, r_wi_ne, r_wi_nj, r_gi_wr, r_gl_wr, r_gk_wr, r_gn_wr, r_gr_wa, r_gl_wa, r_gk_wa, r_gn_wa, aa_e, as_e, al_e, u_lt, u_le, u_gt, u_ge, u_lt0, u_le0, u_gt0, u_ge0, Classical.not_not, not_true_eq_false, not_false_eq_true, oi_n, oi_m, n_dec, nI_add, pk_mul, n_sub, n_eq, n_le, n_lt, n_eq0, n_lt0, n_le0, n_0lt, n_0le, n_eqm, m_eqn, n_ltm, n_and, n_or, n_xor, n_shl, n_shr, tb1, tb0, bP_1, bP_0, bP_n0, ix_n, inb_n, u_eq, u_eqm, Yk.1, Yk.2.1, Yk.2.2.1, Yk.2.2.2.1, Yk.2.2.2.2, x.1, x.2.1, x.2.2, xcl.1]
        refine ⟨fun z => by first | exact z.elim | exact absurd (by omega) z, fun _ => ?_⟩
        refine hP.1 _ _ s_Sc_weigh_78 _ _ _ _ _ ?_
        simp (maxSteps := 1000000) (disch := omega) only [g_Sc_weigh_78, slk, List.map_cons, List.map_nil, List.sum_cons, List.sum_nil, vc_i, vc_r, vc_n, vc_l, vc_o, Nat.add_zero, kO_e, kA_e, hdO_a, eq_self, blk, stp, lg, ls0, lk, ls1, ls2, kI_i, kL_l, kR_r, kR_n, kR_o, s1I_i, s2I_i, s1L_l, s2L_l, s1R_r, s1R_n, s1R_o, s1A_a, cmpc, popn, swt, rf_s, rf_n, cat_i, cat_r, cat_n, cat_l, true_and, and_true, List.length_cons, List.length_nil, Nat.zero_add, Int.reduceToNat, Nat.reduceAdd, Nat.reduceDiv, Nat.reduceMod, Nat.reduceMul, Nat.reduceSub, Nat.reduceLeDiff, Nat.reduceLT, Nat.reduceEqDiff, ↓reduceIte, r_gr_wi, r_gl_wi, r_gk_wi, r_gn_wi, r_wi_eq, r_wi_ne, r_wi_nj, r_gi_wr, r_gl_wr, r_gk_wr, r_gn_wr, r_gr_wa, r_gl_wa, r_gk_wa, r_gn_wa, aa_e, as_e, al_e, u_lt, u_le, u_gt, u_ge, u_lt0, u_le0, u_gt0, u_ge0, Classical.not_not, not_true_eq_false, not_false_eq_true, oi_n, oi_m, n_dec, nI_add, pk_mul, n_sub, n_eq, n_le, n_lt, n_eq0, n_lt0, n_le0, n_0lt, n_0le, n_eqm, m_eqn, n_ltm, n_and, n_or, n_xor, n_shl, n_shr, tb1, tb0, bP_1, bP_0, bP_n0, ix_n, inb_n, u_eq, u_eqm, Yk.1, Yk.2.1, Yk.2.2.1, Yk.2.2.2.1, Yk.2.2.2.2, x.1, x.2.1, x.2.2, xcl.1]
        refine ⟨fun _ => go, fun z => by first | exact z.elim | exact absurd trivial z | (exfalso; omega)⟩
      | some cc =>
        have ecl : ccL cl = cc := by
          unfold ccL
          rw [ec]
        have gcc := gc.2.1 cc ec
        obtain ⟨v, vv, ov, tv⟩ := gcc.2.2 l
        have l1 := gcc.2.1
        have cne : cc ≠ [] := fun z => by rw [z] at l1; exact absurd l1 (by decide)
        have xm := xc_len (l := l) cc []
        rw [ecl] at x elen sumD run XF
        rw [ecl] at ecc
        have go := run cc 0 [] H cne F trivial (fun i hi => by rw [ecc, Nat.zero_add, List.getD_eq_getElem?_getD, List.getElem?_append_left hi, ← List.getD_eq_getElem?_getD]) (by omega) gcc.1 (ov []) (by simp only [List.length_nil]; omega) (Or.inr (by omega)) (fun H2 F2 S2 => by
          have x := XF H2 F2
          have XH := F2.txt X (fun a q => by omega)
          have Yk := XH.2.1
          rw [vv []] at S2 ⊢
          have s0 : gi H2 44 0 = v := S2.1
          have e9 : o + (0 + cc.length) = o + cc.length := by omega
          rw [e9]
          refine hP.1 _ _ s_Sc_weigh_51 _ _ _ _ _ ?_
          simp (maxSteps := 1000000) (disch := omega) only [g_Sc_weigh_51, slk, List.map_cons, List.map_nil, List.sum_cons, List.sum_nil, vc_i, vc_r, vc_n, vc_l, vc_o, Nat.add_zero, kO_e, kA_e, hdO_a, eq_self, blk, stp, lg, ls0, lk, ls1, ls2, kI_i, kL_l, kR_r, kR_n, kR_o, s1I_i, s2I_i, s1L_l, s2L_l, s1R_r, s1R_n, s1R_o, s1A_a, cmpc, popn, swt, rf_s, rf_n, cat_i, cat_r, cat_n, cat_l, true_and, and_true, List.length_cons, List.length_nil, Nat.zero_add, Int.reduceToNat, Nat.reduceAdd, Nat.reduceDiv, Nat.reduceMod, Nat.reduceMul, Nat.reduceSub, Nat.reduceLeDiff, Nat.reduceLT, Nat.reduceEqDiff, ↓reduceIte, r_gr_wi, r_gl_wi, r_gk_wi, r_gn_wi, r_wi_eq, r_wi_ne, r_wi_nj, r_gi_wr, r_gl_wr, r_gk_wr, r_gn_wr, r_gr_wa, r_gl_wa, r_gk_wa, r_gn_wa, aa_e, as_e, al_e, u_lt, u_le, u_gt, u_ge, u_lt0, u_le0, u_gt0, u_ge0, Classical.not_not, not_true_eq_false, not_false_eq_true, oi_n, oi_m, n_dec, nI_add, pk_mul, n_sub, n_eq, n_le, n_lt, n_eq0, n_lt0, n_le0, n_0lt, n_0le, n_eqm, m_eqn, n_ltm, n_and, n_or, n_xor, n_shl, n_shr, tb1, tb0, bP_1, bP_0, bP_n0, ix_n, inb_n, u_eq, u_eqm, Yk.1, Yk.2.1, Yk.2.2.1, Yk.2.2.2.1, Yk.2.2.2.2, x.1, x.2.1, x.2.2, s0]
          refine ⟨fun z => by first | exact absurd z (by decide) | exact z.elim, fun _ => ?_⟩
          refine hP.1 _ _ s_Sc_weigh_56 _ _ _ _ _ ?_
          simp (maxSteps := 1000000) (disch := omega) only [g_Sc_weigh_56, slk, List.map_cons, List.map_nil, List.sum_cons, List.sum_nil, vc_i, vc_r, vc_n, vc_l, vc_o, Nat.add_zero, kO_e, kA_e, hdO_a, eq_self, blk, stp, lg, ls0, lk, ls1, ls2, kI_i, kL_l, kR_r, kR_n, kR_o, s1I_i, s2I_i, s1L_l, s2L_l, s1R_r, s1R_n, s1R_o, s1A_a, cmpc, popn, swt, rf_s, rf_n, cat_i, cat_r, cat_n, cat_l, true_and, and_true, List.length_cons, List.length_nil, Nat.zero_add, Int.reduceToNat, Nat.reduceAdd, Nat.reduceDiv, Nat.reduceMod, Nat.reduceMul, Nat.reduceSub, Nat.reduceLeDiff, Nat.reduceLT, Nat.reduceEqDiff, ↓reduceIte, r_gr_wi, r_gl_wi, r_gk_wi, r_gn_wi, r_wi_eq, r_wi_ne, r_wi_nj, r_gi_wr, r_gl_wr, r_gk_wr, r_gn_wr, r_gr_wa, r_gl_wa, r_gk_wa, r_gn_wa, aa_e, as_e, al_e, u_lt, u_le, u_gt, u_ge, u_lt0, u_le0, u_gt0, u_ge0, Classical.not_not, not_true_eq_false, not_false_eq_true, oi_n, oi_m, n_dec, nI_add, pk_mul, n_sub, n_eq, n_le, n_lt, n_eq0, n_lt0, n_le0, n_0lt, n_0le, n_eqm, m_eqn, n_ltm, n_and, n_or, n_xor, n_shl, n_shr, tb1, tb0, bP_1, bP_0, bP_n0, ix_n, inb_n, u_eq, u_eqm, Yk.1, Yk.2.1, Yk.2.2.1, Yk.2.2.2.1, Yk.2.2.2.2, x.1, x.2.1, x.2.2, s0]
          refine ⟨fun z => by first | exact z.elim | (exfalso; omega), fun _ => ?_⟩
          refine hP.1 _ _ s_Sc_weigh_67 _ _ _ _ _ ?_
          simp (maxSteps := 1000000) (disch := omega) only [g_Sc_weigh_67, slk, List.map_cons, List.map_nil, List.sum_cons, List.sum_nil, vc_i, vc_r, vc_n, vc_l, vc_o, Nat.add_zero, kO_e, kA_e, hdO_a, eq_self, blk, stp, lg, ls0, lk, ls1, ls2, kI_i, kL_l, kR_r, kR_n, kR_o, s1I_i, s2I_i, s1L_l, s2L_l, s1R_r, s1R_n, s1R_o, s1A_a, cmpc, popn, swt, rf_s, rf_n, cat_i, cat_r, cat_n, cat_l, true_and, and_true, List.length_cons, List.length_nil, Nat.zero_add, Int.reduceToNat, Nat.reduceAdd, Nat.reduceDiv, Nat.reduceMod, Nat.reduceMul, Nat.reduceSub, Nat.reduceLeDiff, Nat.reduceLT, Nat.reduceEqDiff, ↓reduceIte, r_gr_wi, r_gl_wi, r_gk_wi, r_gn_wi, r_wi_eq, r_wi_ne, r_wi_nj, r_gi_wr, r_gl_wr, r_gk_wr, r_gn_wr, r_gr_wa, r_gl_wa, r_gk_wa, r_gn_wa, aa_e, as_e, al_e, u_lt, u_le, u_gt, u_ge, u_lt0, u_le0, u_gt0, u_ge0, Classical.not_not, not_true_eq_false, not_false_eq_true, oi_n, oi_m, n_dec, nI_add, pk_mul, n_sub, n_eq, n_le, n_lt, n_eq0, n_lt0, n_le0, n_0lt, n_0le, n_eqm, m_eqn, n_ltm, n_and, n_or, n_xor, n_shl, n_shr, tb1, tb0, bP_1, bP_0, bP_n0, ix_n, inb_n, u_eq, u_eqm, Yk.1, Yk.2.1, Yk.2.2.1, Yk.2.2.2.1, Yk.2.2.2.2, x.1, x.2.1, x.2.2, s0]
          refine ⟨fun z => by first | exact z.elim | exact absurd rfl z | exact absurd trivial z, fun _ => ?_⟩
          refine hP.1 _ _ s_Sc_weigh_78 _ _ _ _ _ ?_
          simp (maxSteps := 1000000) (disch := omega) only [g_Sc_weigh_78, slk, List.map_cons, List.map_nil, List.sum_cons, List.sum_nil, vc_i, vc_r, vc_n, vc_l, vc_o, Nat.add_zero, kO_e, kA_e, hdO_a, eq_self, blk, stp, lg, ls0, lk, ls1, ls2, kI_i, kL_l, kR_r, kR_n, kR_o, s1I_i, s2I_i, s1L_l, s2L_l, s1R_r, s1R_n, s1R_o, s1A_a, cmpc, popn, swt, rf_s, rf_n, cat_i, cat_r, cat_n, cat_l, true_and, and_true, List.length_cons, List.length_nil, Nat.zero_add, Int.reduceToNat, Nat.reduceAdd, Nat.reduceDiv, Nat.reduceMod, Nat.reduceMul, Nat.reduceSub, Nat.reduceLeDiff, Nat.reduceLT, Nat.reduceEqDiff, ↓reduceIte, r_gr_wi, r_gl_wi, r_gk_wi, r_gn_wi, r_wi_eq, r_wi_ne, r_wi_nj, r_gi_wr, r_gl_wr, r_gk_wr, r_gn_wr, r_gr_wa, r_gl_wa, r_gk_wa, r_gn_wa, aa_e, as_e, al_e, u_lt, u_le, u_gt, u_ge, u_lt0, u_le0, u_gt0, u_ge0, Classical.not_not, not_true_eq_false, not_false_eq_true, oi_n, oi_m, n_dec, nI_add, pk_mul, n_sub, n_eq, n_le, n_lt, n_eq0, n_lt0, n_le0, n_0lt, n_0le, n_eqm, m_eqn, n_ltm, n_and, n_or, n_xor, n_shl, n_shr, tb1, tb0, bP_1, bP_0, bP_n0, ix_n, inb_n, u_eq, u_eqm, Yk.1, Yk.2.1, Yk.2.2.1, Yk.2.2.2.1, Yk.2.2.2.2, x.1, x.2.1, x.2.2, s0]
          refine ⟨fun z => by first | exact absurd z (by decide) | exact z.elim, fun _ => ?_⟩
          refine hP.1 _ _ s_Sc_weigh_83 _ _ _ _ _ ?_
          simp (maxSteps := 1000000) (disch := omega) only [g_Sc_weigh_83, slk, List.map_cons, List.map_nil, List.sum_cons, List.sum_nil, vc_i, vc_r, vc_n, vc_l, vc_o, Nat.add_zero, kO_e, kA_e, hdO_a, eq_self, blk, stp, lg, ls0, lk, ls1, ls2, kI_i, kL_l, kR_r, kR_n, kR_o, s1I_i, s2I_i, s1L_l, s2L_l, s1R_r, s1R_n, s1R_o, s1A_a, cmpc, popn, swt, rf_s, rf_n, cat_i, cat_r, cat_n, cat_l, true_and, and_true, List.length_cons, List.length_nil, Nat.zero_add, Int.reduceToNat, Nat.reduceAdd, Nat.reduceDiv, Nat.reduceMod, Nat.reduceMul, Nat.reduceSub, Nat.reduceLeDiff, Nat.reduceLT, Nat.reduceEqDiff, ↓reduceIte, r_gr_wi, r_gl_wi, r_gk_wi, r_gn_wi, r_wi_eq, r_wi_ne, r_wi_nj, r_gi_wr, r_gl_wr, r_gk_wr, r_gn_wr, r_gr_wa, r_gl_wa, r_gk_wa, r_gn_wa, aa_e, as_e, al_e, u_lt, u_le, u_gt, u_ge, u_lt0, u_le0, u_gt0, u_ge0, Classical.not_not, not_true_eq_false, not_false_eq_true, oi_n, oi_m, n_dec, nI_add, pk_mul, n_sub, n_eq, n_le, n_lt, n_eq0, n_lt0, n_le0, n_0lt, n_0le, n_eqm, m_eqn, n_ltm, n_and, n_or, n_xor, n_shl, n_shr, tb1, tb0, bP_1, bP_0, bP_n0, ix_n, inb_n, u_eq, u_eqm, k42 (F2.lay L), f42_1 (F2.lay L), k44 (F2.lay L), Yk.1, Yk.2.1, Yk.2.2.1, Yk.2.2.2.1, Yk.2.2.2.2, x.1, x.2.1, x.2.2, s0]
          refine ⟨fun z => ?_, fun z => ?_⟩
          · refine hP.1 _ _ s_Sc_weigh_96 _ _ _ _ _ ?_
            simp (maxSteps := 1000000) (disch := omega) only [g_Sc_weigh_96, slk, List.map_cons, List.map_nil, List.sum_cons, List.sum_nil, vc_i, vc_r, vc_n, vc_l, vc_o, Nat.add_zero, kO_e, kA_e, hdO_a, eq_self, blk, stp, lg, ls0, lk, ls1, ls2, kI_i, kL_l, kR_r, kR_n, kR_o, s1I_i, s2I_i, s1L_l, s2L_l, s1R_r, s1R_n, s1R_o, s1A_a, cmpc, popn, swt, rf_s, rf_n, cat_i, cat_r, cat_n, cat_l, true_and, and_true, List.length_cons, List.length_nil, Nat.zero_add, Int.reduceToNat, Nat.reduceAdd, Nat.reduceDiv, Nat.reduceMod, Nat.reduceMul, Nat.reduceSub, Nat.reduceLeDiff, Nat.reduceLT, Nat.reduceEqDiff, ↓reduceIte, r_gr_wi, r_gl_wi, r_gk_wi, r_gn_wi, r_wi_eq, r_wi_ne, r_wi_nj, r_gi_wr, r_gl_wr, r_gk_wr, r_gn_wr, r_gr_wa, r_gl_wa, r_gk_wa, r_gn_wa, aa_e, as_e, al_e, u_lt, u_le, u_gt, u_ge, u_lt0, u_le0, u_gt0, u_ge0, Classical.not_not, not_true_eq_false, not_false_eq_true, oi_n, oi_m, n_dec, nI_add, pk_mul, n_sub, n_eq, n_le, n_lt, n_eq0, n_lt0, n_le0, n_0lt, n_0le, n_eqm, m_eqn, n_ltm, n_and, n_or, n_xor, n_shl, n_shr, tb1, tb0, bP_1, bP_0, bP_n0, ix_n, inb_n, u_eq, u_eqm, Yk.1, Yk.2.1, Yk.2.2.1, Yk.2.2.2.1, Yk.2.2.2.2, x.1, x.2.1, x.2.2, s0]
            refine hP.1 _ _ s_Sc_weigh_97 _ _ _ _ _ ?_
            simp (maxSteps := 1000000) (disch := omega) only [g_Sc_weigh_97, slk, List.map_cons, List.map_nil, List.sum_cons, List.sum_nil, vc_i, vc_r, vc_n, vc_l, vc_o, Nat.add_zero, kO_e, kA_e, hdO_a, eq_self, blk, stp, lg, ls0, lk, ls1, ls2, kI_i, kL_l, kR_r, kR_n, kR_o, s1I_i, s2I_i, s1L_l, s2L_l, s1R_r, s1R_n, s1R_o, s1A_a, cmpc, popn, swt, rf_s, rf_n, cat_i, cat_r, cat_n, cat_l, true_and, and_true, List.length_cons, List.length_nil, Nat.zero_add, Int.reduceToNat, Nat.reduceAdd, Nat.reduceDiv, Nat.reduceMod, Nat.reduceMul, Nat.reduceSub, Nat.reduceLeDiff, Nat.reduceLT, Nat.reduceEqDiff, ↓reduceIte, r_gr_wi, r_gl_wi, r_gk_wi, r_gn_wi, r_wi_eq, r_wi_ne, r_wi_nj, r_gi_wr, r_gl_wr, r_gk_wr, r_gn_wr, r_gr_wa, r_gl_wa, r_gk_wa, r_gn_wa, aa_e, as_e, al_e, u_lt, u_le, u_gt, u_ge, u_lt0, u_le0, u_gt0, u_ge0, Classical.not_not, not_true_eq_false, not_false_eq_true, oi_n, oi_m, n_dec, nI_add, pk_mul, n_sub, n_eq, n_le, n_lt, n_eq0, n_lt0, n_le0, n_0lt, n_0le, n_eqm, m_eqn, n_ltm, n_and, n_or, n_xor, n_shl, n_shr, tb1, tb0, bP_1, bP_0, bP_n0, ix_n, inb_n, u_eq, u_eqm, Yk.1, Yk.2.1, Yk.2.2.1, Yk.2.2.2.1, Yk.2.2.2.2, x.1, x.2.1, x.2.2, s0]
            cases es : cl.2.2 with
            | nil => exact absurd es sne
            | cons tk D =>
              have d0 := sumD 0 (by omega)
              rw [es] at d0
              have hg := gc.2.2.1 tk (by rw [es]; exact List.mem_cons_self)
              have hk := ow []
              rw [es] at hk
              exact one 0 tk cc.length [] H2 (by omega) d0 hg hk.1 (by decide) F2 trivial (fun H3 F3 S3 => skip (fun y => y.2 cc ec (by rw [vv []]; exact z)) H3 _ _ F3)
          · refine hP.1 _ _ s_Sc_weigh_92 _ _ _ _ _ ?_
            simp (maxSteps := 1000000) (disch := omega) only [g_Sc_weigh_92, slk, List.map_cons, List.map_nil, List.sum_cons, List.sum_nil, vc_i, vc_r, vc_n, vc_l, vc_o, Nat.add_zero, kO_e, kA_e, hdO_a, eq_self, blk, stp, lg, ls0, lk, ls1, ls2, kI_i, kL_l, kR_r, kR_n, kR_o, s1I_i, s2I_i, s1L_l, s2L_l, s1R_r, s1R_n, s1R_o, s1A_a, cmpc, popn, swt, rf_s, rf_n, cat_i, cat_r, cat_n, cat_l, true_and, and_true, List.length_cons, List.length_nil, Nat.zero_add, Int.reduceToNat, Nat.reduceAdd, Nat.reduceDiv, Nat.reduceMod, Nat.reduceMul, Nat.reduceSub, Nat.reduceLeDiff, Nat.reduceLT, Nat.reduceEqDiff, ↓reduceIte, r_gr_wi, r_gl_wi, r_gk_wi, r_gn_wi, r_wi_eq, r_wi_ne, r_wi_nj, r_gi_wr, r_gl_wr, r_gk_wr, r_gn_wr, r_gr_wa, r_gl_wa, r_gk_wa, r_gn_wa, aa_e, as_e, al_e, u_lt, u_le, u_gt, u_ge, u_lt0, u_le0, u_gt0, u_ge0, Classical.not_not, not_true_eq_false, not_false_eq_true, oi_n, oi_m, n_dec, nI_add, pk_mul, n_sub, n_eq, n_le, n_lt, n_eq0, n_lt0, n_le0, n_0lt, n_0le, n_eqm, m_eqn, n_ltm, n_and, n_or, n_xor, n_shl, n_shr, tb1, tb0, bP_1, bP_0, bP_n0, ix_n, inb_n, u_eq, u_eqm, Yk.1, Yk.2.1, Yk.2.2.1, Yk.2.2.2.1, Yk.2.2.2.2, x.1, x.2.1, x.2.2, s0]
            refine hP.1 _ _ s_Sc_weigh_97 _ _ _ _ _ ?_
            simp (maxSteps := 1000000) (disch := omega) only [g_Sc_weigh_97, slk, List.map_cons, List.map_nil, List.sum_cons, List.sum_nil, vc_i, vc_r, vc_n, vc_l, vc_o, Nat.add_zero, kO_e, kA_e, hdO_a, eq_self, blk, stp, lg, ls0, lk, ls1, ls2, kI_i, kL_l, kR_r, kR_n, kR_o, s1I_i, s2I_i, s1L_l, s2L_l, s1R_r, s1R_n, s1R_o, s1A_a, cmpc, popn, swt, rf_s, rf_n, cat_i, cat_r, cat_n, cat_l, true_and, and_true, List.length_cons, List.length_nil, Nat.zero_add, Int.reduceToNat, Nat.reduceAdd, Nat.reduceDiv, Nat.reduceMod, Nat.reduceMul, Nat.reduceSub, Nat.reduceLeDiff, Nat.reduceLT, Nat.reduceEqDiff, ↓reduceIte, r_gr_wi, r_gl_wi, r_gk_wi, r_gn_wi, r_wi_eq, r_wi_ne, r_wi_nj, r_gi_wr, r_gl_wr, r_gk_wr, r_gn_wr, r_gr_wa, r_gl_wa, r_gk_wa, r_gn_wa, aa_e, as_e, al_e, u_lt, u_le, u_gt, u_ge, u_lt0, u_le0, u_gt0, u_ge0, Classical.not_not, not_true_eq_false, not_false_eq_true, oi_n, oi_m, n_dec, nI_add, pk_mul, n_sub, n_eq, n_le, n_lt, n_eq0, n_lt0, n_le0, n_0lt, n_0le, n_eqm, m_eqn, n_ltm, n_and, n_or, n_xor, n_shl, n_shr, tb1, tb0, bP_1, bP_0, bP_n0, ix_n, inb_n, u_eq, u_eqm, Yk.1, Yk.2.1, Yk.2.2.1, Yk.2.2.2.1, Yk.2.2.2.2, x.1, x.2.1, x.2.2, s0]
            exact run cl.2.2 cc.length [] H2 sne F2 trivial sumD (by omega) gc.2.2.1 (ow []) (by simp only [List.length_nil]; omega) (Or.inl (Nat.le_refl _)) (fun H3 F3 S3 => fin ⟨q1, fun c2 e2 => by rw [ec] at e2; cases e2; rw [vv []]; exact z⟩ H3 _ F3 S3 (by omega)))
        refine hP.1 _ _ s_Sc_weigh_67 _ _ _ _ _ ?_
        simp (maxSteps := 1000000) (disch := omega) only [g_Sc_weigh_67, slk, List.map_cons, List.map_nil, List.sum_cons, List.sum_nil, vc_i, vc_r, vc_n, vc_l, vc_o, Nat.add_zero, kO_e, kA_e, hdO_a, eq_self, blk, stp, lg, ls0, lk, ls1, ls2, kI_i, kL_l, kR_r, kR_n, kR_o, s1I_i, s2I_i, s1L_l, s2L_l, s1R_r, s1R_n, s1R_o, s1A_a, cmpc, popn, swt, rf_s, rf_n, cat_i, cat_r, cat_n, cat_l, true_and, and_true, List.length_cons, List.length_nil, Nat.zero_add, Int.reduceToNat, Nat.reduceAdd, Nat.reduceDiv, Nat.reduceMod, Nat.reduceMul, Nat.reduceSub, Nat.reduceLeDiff, Nat.reduceLT, Nat.reduceEqDiff, ↓reduceIte, r_gr_wi, r_gl_wi, r_gk_wi, r_gn_wi, r_wi_eq, r_wi_ne, r_wi_nj, r_gi_wr, r_gl_wr, r_gk_wr, r_gn_wr, r_gr_wa, r_gl_wa, r_gk_wa, r_gn_wa, aa_e, as_e, al_e, u_lt, u_le, u_gt, u_ge, u_lt0, u_le0, u_gt0, u_ge0, Classical.not_not, not_true_eq_false, not_false_eq_true, oi_n, oi_m, n_dec, nI_add, pk_mul, n_sub, n_eq, n_le, n_lt, n_eq0, n_lt0, n_le0, n_0lt, n_0le, n_eqm, m_eqn, n_ltm, n_and, n_or, n_xor, n_shl, n_shr, tb1, tb0, bP_1, bP_0, bP_n0, ix_n, inb_n, u_eq, u_eqm, Yk.1, Yk.2.1, Yk.2.2.1, Yk.2.2.2.1, Yk.2.2.2.2, x.1, x.2.1, x.2.2, xcl.1]
        refine ⟨fun _ => go, fun z => by first | exact z.elim | (exfalso; omega)⟩
  refine hP.1 _ _ s_Sc_weigh_0 _ _ _ _ _ ?_
  simp (maxSteps := 1000000) (disch := omega) only [g_Sc_weigh_0, slk, List.map_cons, List.map_nil, List.sum_cons, List.sum_nil, vc_i, vc_r, vc_n, vc_l, vc_o, Nat.add_zero, kO_e, kA_e, hdO_a, eq_self, blk, stp, lg, ls0, lk, ls1, ls2, kI_i, kL_l, kR_r, kR_n, kR_o, s1I_i, s2I_i, s1L_l, s2L_l, s1R_r, s1R_n, s1R_o, s1A_a, cmpc, popn, swt, rf_s, rf_n, cat_i, cat_r, cat_n, cat_l, true_and, and_true, List.length_cons, List.length_nil, Nat.zero_add, Int.reduceToNat, Nat.reduceAdd, Nat.reduceDiv, Nat.reduceMod, Nat.reduceMul, Nat.reduceSub, Nat.reduceLeDiff, Nat.reduceLT, Nat.reduceEqDiff, ↓reduceIte, r_gr_wi, r_gl_wi, r_gk_wi, r_gn_wi, r_wi_eq, r_wi_ne, r_wi_nj, r_gi_wr, r_gl_wr, r_gk_wr, r_gn_wr, r_gr_wa, r_gl_wa, r_gk_wa, r_gn_wa, aa_e, as_e, al_e, u_lt, u_le, u_gt, u_ge, u_lt0, u_le0, u_gt0, u_ge0, Classical.not_not, not_true_eq_false, not_false_eq_true, oi_n, oi_m, n_dec, nI_add, pk_mul, n_sub, n_eq, n_le, n_lt, n_eq0, n_lt0, n_le0, n_0lt, n_0le, n_eqm, m_eqn, n_ltm, n_and, n_or, n_xor, n_shl, n_shr, tb1, tb0, bP_1, bP_0, bP_n0, ix_n, inb_n, u_eq, u_eqm, Xk.1, Xk.2.1, Xk.2.2.1, Xk.2.2.2.1, Xk.2.2.2.2]
  refine ⟨fun _ => ?_, fun z => by first | exact z.elim | cases z⟩
  refine hP.1 _ _ s_Sc_weigh_8 _ _ _ _ _ ?_
  simp (maxSteps := 1000000) (disch := omega) only [g_Sc_weigh_8, slk, List.map_cons, List.map_nil, List.sum_cons, List.sum_nil, vc_i, vc_r, vc_n, vc_l, vc_o, Nat.add_zero, kO_e, kA_e, hdO_a, eq_self, blk, stp, lg, ls0, lk, ls1, ls2, kI_i, kL_l, kR_r, kR_n, kR_o, s1I_i, s2I_i, s1L_l, s2L_l, s1R_r, s1R_n, s1R_o, s1A_a, cmpc, popn, swt, rf_s, rf_n, cat_i, cat_r, cat_n, cat_l, true_and, and_true, List.length_cons, List.length_nil, Nat.zero_add, Int.reduceToNat, Nat.reduceAdd, Nat.reduceDiv, Nat.reduceMod, Nat.reduceMul, Nat.reduceSub, Nat.reduceLeDiff, Nat.reduceLT, Nat.reduceEqDiff, ↓reduceIte, r_gr_wi, r_gl_wi, r_gk_wi, r_gn_wi, r_wi_eq, r_wi_ne, r_wi_nj, r_gi_wr, r_gl_wr, r_gk_wr, r_gn_wr, r_gr_wa, r_gl_wa, r_gk_wa, r_gn_wa, aa_e, as_e, al_e, u_lt, u_le, u_gt, u_ge, u_lt0, u_le0, u_gt0, u_ge0, Classical.not_not, not_true_eq_false, not_false_eq_true, oi_n, oi_m, n_dec, nI_add, pk_mul, n_sub, n_eq, n_le, n_lt, n_eq0, n_lt0, n_le0, n_0lt, n_0le, n_eqm, m_eqn, n_ltm, n_and, n_or, n_xor, n_shl, n_shr, tb1, tb0, bP_1, bP_0, bP_n0, ix_n, inb_n, u_eq, u_eqm, Xk.1, Xk.2.1, Xk.2.2.1, Xk.2.2.2.1, Xk.2.2.2.2]
  exact outer cs.length 0 (Nat.zero_add _) h _ _ _ (Fp.refl _ _) rfl
end
