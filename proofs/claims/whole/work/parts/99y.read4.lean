/-! ===== the class: its reader of texts, clauses ===== -/
theorem n_Re_putClause : mN 197 = 4 := rfl
theorem l_Re_putClause : mL 197 = 4 := rfl
theorem r_Re_putClause : mR 197 = none := rfl
theorem n_Re_readClause : mN 198 = 1 := rfl
theorem l_Re_readClause : mL 198 = 5 := rfl
theorem r_Re_readClause : mR 198 = some .boolean := rfl
section
variable {n : Nat} {B : Nat → Nat} {mind : Bool}
theorem rsum_ok : ∀ r, r ≤ 6 → ∀ k, CRr (k + 9 + 3 * r) 205 n B mind (6 - r) 0 (sumS B n (als mind) r) := by
  intro r
  induction r with
  | zero =>
    intro _ k
    have a := c_Re_atom (d := k) (n := n) (B := B) (mind := mind) (dp := 6) (by omega) (inner := none) (fun _ => rfl) (fun f e => by cases e)
    have t := c_Re_term (d := k) (atomS_gp (mind := mind) (fun f e => by cases e)) a
    exact CRr_c (c_Re_sum (d := k) (chS_gp (atomS_gp (fun f e => by cases e)) (by omega) (by omega)) t) (by omega)
  | succ r ih =>
    intro hr k
    have gi1 : ∀ f, some (sumS B n (als mind) r) = some f → GP n f := fun f e => by cases e; exact sumS_gp r
    have a := c_Re_atom (d := k + 3 + 3 * r) (n := n) (B := B) (mind := mind) (dp := 6 - (r + 1)) (by omega) (inner := some (sumS B n (als mind) r)) (fun e => by cases e) (fun f e => by
      cases e
      refine ⟨by omega, ?_⟩
      have e2 : 6 - (r + 1) + 1 = 6 - r := by omega
      rw [e2]
      exact CRr_c (ih (by omega) k) (by omega))
    have t := c_Re_term (d := k + 3 + 3 * r) (atomS_gp gi1) a
    exact CRr_c (c_Re_sum (d := k + 3 + 3 * r) (chS_gp (atomS_gp gi1) (by omega) (by omega)) t) (by omega)
theorem rrel_ok (r : Nat) (hr : r ≤ 6) (k : Nat) : CRr (k + 10 + 3 * r) 204 n B mind (6 - r) 0 (fun p => relS B n (sumS B n (als mind) r) p []) :=
  CRr_c (c_Re_relation (d := k + 3 * r) (sumS_gp r) (CRr_c (rsum_ok r hr k) (by omega))) (by omega)
theorem rmu_ok {r k : Nat} (u : CRr (k + 11 + 5 * r) 203 n B mind (6 - r) 0 (uniS B n (als mind) r)) : CRr (k + 12 + 5 * r) 202 n B mind (6 - r) 0 (fun p => lpS B n 38 38 (uniS B n (als mind) r) (n + 1) p []) :=
  CRr_c (c_Re_moreUnits (d := k + 5 * r) (uniS_gp r) (CRr_c u (by omega))) (by omega)
theorem rtr_ok {r k : Nat} (u : CRr (k + 12 + 5 * r) 203 n B mind (6 - r) 0 (uniS B n (als mind) r)) (u1 : CRr (k + 11 + 5 * r) 203 n B mind (6 - r) 0 (uniS B n (als mind) r)) : CRr (k + 13 + 5 * r) 201 n B mind (6 - r) 0 (truS B n (uniS B n (als mind) r)) :=
  CRr_c (c_Re_truth (d := k + 5 * r) (CRr_c u (by omega)) (CRr_c (rmu_ok u1) (by omega))) (by omega)
theorem rmt_ok {r k : Nat} (t : CRr (k + 13 + 5 * r) 201 n B mind (6 - r) 0 (truS B n (uniS B n (als mind) r))) : CRr (k + 14 + 5 * r) 200 n B mind (6 - r) 0 (fun p => lpS B n 124 124 (truS B n (uniS B n (als mind) r)) (n + 1) p []) :=
  CRr_c (c_Re_moreTruths (d := k + 5 * r) (chS_gp (uniS_gp r) (by omega) (by omega)) (CRr_c t (by omega))) (by omega)
theorem rcd_ok {r k : Nat} (u : ∀ k, CRr (k + 11 + 5 * r) 203 n B mind (6 - r) 0 (uniS B n (als mind) r)) : CRr (k + 15 + 5 * r) 199 n B mind (6 - r) 0 (cndG B n (uniS B n (als mind) r)) :=
  CRr_c (c_Re_condition (d := k + 5 * r) (CRr_c (rtr_ok (k := k + 1) (CRr_c (u (k + 2)) (by omega)) (CRr_c (u (k + 1)) (by omega))) (by omega)) (CRr_c (rmt_ok (k := k) (CRr_c (rtr_ok (k := k) (CRr_c (u (k + 1)) (by omega)) (CRr_c (u k) (by omega))) (by omega))) (by omega))) (by omega)
theorem runi_ok : ∀ r, r ≤ 6 → ∀ k, CRr (k + 11 + 5 * r) 203 n B mind (6 - r) 0 (uniS B n (als mind) r) := by
  intro r
  induction r with
  | zero =>
    intro _ k
    exact CRr_c (c_Re_unit (d := k) (dp := 6) (by omega) (sumS_gp 0) (iu := none) (ic := none) (fun _ => rfl) (fun _ => rfl) (CRr_c (rsum_ok 0 (by omega) (k + 1)) (by omega)) (CRr_c (rrel_ok 0 (by omega) k) (by omega)) (fun f e => by cases e) (fun f e => by cases e)) (by omega)
  | succ r ih =>
    intro hr k
    have i1 := ih (by omega)
    have e2 : 6 - (r + 1) + 1 = 6 - r := by omega
    refine CRr_c (c_Re_unit (d := k + 5 * r + 5) (dp := 6 - (r + 1)) (by omega) (sumS_gp (r + 1)) (iu := some (uniS B n (als mind) r)) (ic := some (cndG B n (uniS B n (als mind) r))) (fun e => by cases e) (fun e => by cases e) (CRr_c (rsum_ok (r + 1) hr (k + 2 * r + 3)) (by omega)) (CRr_c (rrel_ok (r + 1) hr (k + 2 * r + 2)) (by omega)) (fun f e => ?_) (fun f e => ?_)) (by omega)
    · cases e
      rw [e2]
      exact ⟨uniS_gp r, by omega, CRr_c (i1 (k + 4)) (by omega)⟩
    · cases e
      rw [e2]
      exact ⟨cndG_gp (uniS_gp r), by omega, CRr_c (rcd_ok (k := k) i1) (by omega)⟩
end
/-- the clauses kept so far -/
def CLR (H : AH) (cs : List Cl) : Prop := gi H 37 7 = nI (4 * cs.length) ∧
  ∀ c, c < cs.length → gi H 39 (4 * c) = nI (cs.getD c cl0).1 ∧ gi H 39 (4 * c + 1) = nI (clT (cs.take c)) ∧ gi H 39 (4 * c + 2) = nI (clT (cs.take c) + (ccL (cs.getD c cl0)).length) ∧ gi H 39 (4 * c + 3) = nI (clT (cs.take c) + (clC (cs.getD c cl0)).length)
theorem Fr3.clr {H H' : AH} (F : Fr3 H H') {cs : List Cl} (C : CLR H cs) : CLR H' cs := by
  have e : gi H' 39 = gi H 39 := F.1.2 39 (fun q => by rcases q with q | q <;> omega)
  refine ⟨F.2.trans C.1, fun c hc => ?_⟩
  rw [e]
  exact C.2 c hc
/-- behind putClause -/
def PCl (H : AH) (n p : Nat) (L : List Nat) (k a b c : Nat) (r : Option (Option Value)) (H' : AH) : Prop :=
  r = some none ∧ Fp X39 H H' ∧ RD H' n p L ∧ ∃ k', k' ≤ 164 ∧ gi H' 37 7 = nI k' ∧ (k + 4 ≤ 164 → k' = k + 4 ∧ (gi H' 39 k = nI a ∧ gi H' 39 (k + 1) = nI b ∧ gi H' 39 (k + 2) = nI c ∧ gi H' 39 (k + 3) = nI L.length) ∧ ∀ j, j < k → gi H' 39 j = gi H 39 j)
theorem clT_ap2 : ∀ (cs : List Cl) (c : Cl), clT (cs ++ [c]) = clT cs + (clC c).length := by
  intro cs
  induction cs with
  | nil => intro c; show (clC c).length + 0 = 0 + _; omega
  | cons a cs ih => intro c; show (clC a).length + clT (cs ++ [c]) = (clC a).length + clT cs + _; rw [ih c]; omega
theorem cdL_ap2 : ∀ (cs : List Cl) (c : Cl), cdL (cs ++ [c]) = cdL cs ++ clC c := by
  intro cs
  induction cs with
  | nil => intro c; show clC c ++ [] = [] ++ clC c; rw [List.append_nil, List.nil_append]
  | cons a cs ih => intro c; show clC a ++ cdL (cs ++ [c]) = clC a ++ cdL cs ++ _; rw [ih c, List.append_assoc]
theorem cs_lo {cs : List Cl} {c : Cl} {j : Nat} (h : j < cs.length) : (cs ++ [c]).getD j cl0 = cs.getD j cl0 ∧ (cs ++ [c]).take j = cs.take j := by
  refine ⟨?_, List.take_append_of_le_length (Nat.le_of_lt h)⟩
  rw [List.getD_eq_getElem?_getD, List.getD_eq_getElem?_getD, List.getElem?_append_left h]
theorem cs_hi {cs : List Cl} {c : Cl} : (cs ++ [c]).getD cs.length cl0 = c ∧ (cs ++ [c]).take cs.length = cs := by
  refine ⟨?_, List.take_left⟩
  rw [List.getD_eq_getElem?_getD, List.getElem?_append_right (Nat.le_refl _), Nat.sub_self]
  rfl
theorem clr_step {H H' : AH} {n p : Nat} {L : List Nat} {cs : List Cl} {c : Cl} {r : Option (Option Value)} (C : CLR H cs) (hl : 4 * cs.length ≤ 160) (hL : L.length = clT cs + (clC c).length) (Q : PCl H n p L (4 * cs.length) c.1 (clT cs) (clT cs + (ccL c).length) r H') : CLR H' (cs ++ [c]) := by
  obtain ⟨_, _, _, k', _, e7, q⟩ := Q
  obtain ⟨ek, ⟨a1, a2, a3, a4⟩, o⟩ := q (by omega)
  refine ⟨by rw [e7, ek, List.length_append, List.length_singleton, Nat.mul_add], fun j hj => ?_⟩
  rw [List.length_append, List.length_singleton] at hj
  by_cases z : j < cs.length
  · rw [(cs_lo z).1, (cs_lo z).2, o _ (by omega), o _ (by omega), o _ (by omega), o _ (by omega)]
    exact C.2 j z
  · have ej : j = cs.length := by omega
    subst ej
    rw [cs_hi.1, cs_hi.2, a1, a2, a3, a4, hL]
    exact ⟨rfl, rfl, rfl, rfl⟩
/-- behind readClause -/
def RK (H : AH) (n : Nat) (B : Nat → Nat) (p : Nat) (cs : List Cl) (res : Nat × Option Cl) (r : Option (Option Value)) (H' : AH) : Prop :=
  ∃ (t : Prop) (L' : List Nat), r = some (some (.int (bP t))) ∧ Fp X39 H H' ∧ RD H' n res.1 L' ∧ (∀ c, res.2 = some c → t ∧ L' = cdL (cs ++ [c]) ∧ CLR H' (cs ++ [c]) ∧ p + (clC c).length + 2 ≤ res.1 ∧ p + 3 ≤ res.1) ∧ (res.2 = none → t → dig (ch B n res.1) = true)
section
variable {k n p q : Nat} {H H' : AH} {B : Nat → Nat} {L' : List Nat} {cs : List Cl} {res : Nat × Option Cl}
theorem rk_0 (hr : mR k = some .boolean) (e : res = (q, none)) (F : Fp X39 H H') (D : RD H' n q L') : rtok (mR k) (some (some (.int (nI 0)))) ∧ RK H n B p cs res (some (some (.int (nI 0)))) H' := by
  subst e
  exact ⟨rtok_0 hr, False, L', by rw [bP_f id], F, D, fun cd z => (by cases z), fun _ z => z.elim⟩
theorem rk_d (hr : mR k = some .boolean) (e : res = (q, none)) (F : Fp X39 H H') (D : RD H' n q L') (hd : dig (ch B n q) = true) : rtok (mR k) (some (some (.int (nI 1)))) ∧ RK H n B p cs res (some (some (.int (nI 1)))) H' := by
  subst e
  exact ⟨rtok_1 hr, True, L', by rw [bP_t trivial], F, D, fun cd z => (by cases z), fun _ _ => hd⟩
theorem rk_n (hr : mR k = some .boolean) (t : Prop) (e : res = (q, none)) (F : Fp X39 H H') (D : RD H' n q L') (ht : t → dig (ch B n q) = true) : rtok (mR k) (some (some (.int (bP t)))) ∧ RK H n B p cs res (some (some (.int (bP t)))) H' := by
  subst e
  exact ⟨rtok_b t hr, t, L', rfl, F, D, fun cd z => (by cases z), fun _ => ht⟩
theorem rk_s {c : Cl} (hr : mR k = some .boolean) {t : Prop} (ht : t) (e : res = (q, some c)) (F : Fp X39 H H') (D : RD H' n q L') (hL : L' = cdL (cs ++ [c])) (C : CLR H' (cs ++ [c])) (hl : p + (clC c).length + 2 ≤ q) (hp : p + 3 ≤ q) : rtok (mR k) (some (some (.int (bP t)))) ∧ RK H n B p cs res (some (some (.int (bP t)))) H' := by
  subst e
  exact ⟨rtok_b t hr, t, L', rfl, F, D, fun c2 z => (by cases z; exact ⟨ht, hL, C, hl, hp⟩), fun z => (by cases z)⟩
theorem Fr3.x39 (F : Fr3 H H') : Fp X39 H H' := F.1.mono (fun a q => by rcases q with q | q; exact Or.inl q; exact Or.inr (Or.inl q))
end
section
variable {d n : Nat} {H : AH} {B : Nat → Nat} {mind : Bool}
theorem c_Re_putClause (R : RST H n B mind) {p : Nat} {L : List Nat} (D : RD H n p L) {k : Nat} (hk : gi H 37 7 = nI k) (k164 : k ≤ 164) {a b c : Nat} : Mz (d + 1) 197 [.ref 37, .int (nI a), .int (nI b), .int (nI c)] H 0 0 (PCl H n p L k a b c) := by
  have L0 := R.1.1
  refine mz_in (l := [some (.ref 37), some (.int (nI a)), some (.int (nI b)), some (.int (nI c))]) mk_Re_putClause n_Re_putClause rfl l_Re_putClause rfl (Nat.le_of_ble_eq_true rfl) fun P hP => ?_
  refine hP.1 _ _ sx_Re_putClause_0 _ _ _ _ _ ?_
  simp (maxSteps := 1000000) (disch := omega) only [gx_Re_putClause_0, slk, List.map_cons, List.map_nil, List.sum_cons, List.sum_nil, vc_i, vc_r, vc_n, vc_l, vc_o, Nat.add_zero, kO_e, kA_e, hdO_a, eq_self, blk, stp, lg, ls0, lk, ls1, ls2, kI_i, kL_l, kR_r, kR_n, kR_o, s1I_i, s2I_i, s1L_l, s2L_l, s1R_r, s1R_n, s1R_o, s1A_a, cmpc, popn, swt, rf_s, rf_n, cat_i, cat_r, cat_n, cat_l, true_and, and_true, List.length_cons, List.length_nil, Nat.zero_add, Int.reduceToNat, Nat.reduceAdd, Nat.reduceDiv, Nat.reduceMod, Nat.reduceMul, Nat.reduceSub, Nat.reduceLeDiff, Nat.reduceLT, Nat.reduceEqDiff, ↓reduceIte, r_gr_wi, r_gl_wi, r_gk_wi, r_gn_wi, r_wi_eq, r_wi_ne, r_wi_nj, r_gi_wr, r_gl_wr, r_gk_wr, r_gn_wr, r_gr_wa, r_gl_wa, r_gk_wa, r_gn_wa, aa_e, as_e, al_e, u_lt, u_le, u_gt, u_ge, u_lt0, u_le0, u_gt0, u_ge0, Classical.not_not, not_true_eq_false, not_false_eq_true, oi_n, oi_m, n_dec, nI_add, pk_mul, n_sub, n_eq, n_le, n_lt, n_eq0, n_lt0, n_le0, n_0lt, n_0le, n_eqm, m_eqn, n_ltm, n_and, n_or, n_xor, n_shl, n_shr, tb1, tb0, bP_1, bP_0, bP_n0, ix_n, inb_n, u_eq, u_eqm, k37 L0, f37_2 L0, k39 L0, k37 L0, f37_2 L0, k39 L0, D.2.2.1, hk]
  refine ⟨fun z => ?_, fun z => ?_⟩
  · refine hP.1 _ _ sx_Re_putClause_73 _ _ _ _ _ ?_
    simp (maxSteps := 1000000) (disch := omega) only [gx_Re_putClause_73, slk, List.map_cons, List.map_nil, List.sum_cons, List.sum_nil, vc_i, vc_r, vc_n, vc_l, vc_o, Nat.add_zero, kO_e, kA_e, hdO_a, eq_self, blk, stp, lg, ls0, lk, ls1, ls2, kI_i, kL_l, kR_r, kR_n, kR_o, s1I_i, s2I_i, s1L_l, s2L_l, s1R_r, s1R_n, s1R_o, s1A_a, cmpc, popn, swt, rf_s, rf_n, cat_i, cat_r, cat_n, cat_l, true_and, and_true, List.length_cons, List.length_nil, Nat.zero_add, Int.reduceToNat, Nat.reduceAdd, Nat.reduceDiv, Nat.reduceMod, Nat.reduceMul, Nat.reduceSub, Nat.reduceLeDiff, Nat.reduceLT, Nat.reduceEqDiff, ↓reduceIte, r_gr_wi, r_gl_wi, r_gk_wi, r_gn_wi, r_wi_eq, r_wi_ne, r_wi_nj, r_gi_wr, r_gl_wr, r_gk_wr, r_gn_wr, r_gr_wa, r_gl_wa, r_gk_wa, r_gn_wa, aa_e, as_e, al_e, u_lt, u_le, u_gt, u_ge, u_lt0, u_le0, u_gt0, u_ge0, Classical.not_not, not_true_eq_false, not_false_eq_true, oi_n, oi_m, n_dec, nI_add, pk_mul, n_sub, n_eq, n_le, n_lt, n_eq0, n_lt0, n_le0, n_0lt, n_0le, n_eqm, m_eqn, n_ltm, n_and, n_or, n_xor, n_shl, n_shr, tb1, tb0, bP_1, bP_0, bP_n0, ix_n, inb_n, u_eq, u_eqm, k37 L0, f37_2 L0, k39 L0, D.2.2.1, hk]
    rw [r_Re_putClause]
    exact ⟨trivial, rfl, Fp.refl _ H, D, k, k164, hk, fun y => by exfalso; omega⟩
  · have k4 : k + 4 ≤ 164 := by omega
    refine hP.1 _ _ sx_Re_putClause_14 _ _ _ _ _ ?_
    simp (maxSteps := 1000000) (disch := omega) only [gx_Re_putClause_14, slk, List.map_cons, List.map_nil, List.sum_cons, List.sum_nil, vc_i, vc_r, vc_n, vc_l, vc_o, Nat.add_zero, kO_e, kA_e, hdO_a, eq_self, blk, stp, lg, ls0, lk, ls1, ls2, kI_i, kL_l, kR_r, kR_n, kR_o, s1I_i, s2I_i, s1L_l, s2L_l, s1R_r, s1R_n, s1R_o, s1A_a, cmpc, popn, swt, rf_s, rf_n, cat_i, cat_r, cat_n, cat_l, true_and, and_true, List.length_cons, List.length_nil, Nat.zero_add, Int.reduceToNat, Nat.reduceAdd, Nat.reduceDiv, Nat.reduceMod, Nat.reduceMul, Nat.reduceSub, Nat.reduceLeDiff, Nat.reduceLT, Nat.reduceEqDiff, ↓reduceIte, r_gr_wi, r_gl_wi, r_gk_wi, r_gn_wi, r_wi_eq, r_wi_ne, r_wi_nj, r_gi_wr, r_gl_wr, r_gk_wr, r_gn_wr, r_gr_wa, r_gl_wa, r_gk_wa, r_gn_wa, aa_e, as_e, al_e, u_lt, u_le, u_gt, u_ge, u_lt0, u_le0, u_gt0, u_ge0, Classical.not_not, not_true_eq_false, not_false_eq_true, oi_n, oi_m, n_dec, nI_add, pk_mul, n_sub, n_eq, n_le, n_lt, n_eq0, n_lt0, n_le0, n_0lt, n_0le, n_eqm, m_eqn, n_ltm, n_and, n_or, n_xor, n_shl, n_shr, tb1, tb0, bP_1, bP_0, bP_n0, ix_n, inb_n, u_eq, u_eqm, k37 L0, f37_2 L0, k39 L0, k37 L0, f37_2 L0, k39 L0, D.2.2.1, hk]
    refine hP.1 _ _ sx_Re_putClause_24 _ _ _ _ _ ?_
    simp (maxSteps := 1000000) (disch := omega) only [gx_Re_putClause_24, slk, List.map_cons, List.map_nil, List.sum_cons, List.sum_nil, vc_i, vc_r, vc_n, vc_l, vc_o, Nat.add_zero, kO_e, kA_e, hdO_a, eq_self, blk, stp, lg, ls0, lk, ls1, ls2, kI_i, kL_l, kR_r, kR_n, kR_o, s1I_i, s2I_i, s1L_l, s2L_l, s1R_r, s1R_n, s1R_o, s1A_a, cmpc, popn, swt, rf_s, rf_n, cat_i, cat_r, cat_n, cat_l, true_and, and_true, List.length_cons, List.length_nil, Nat.zero_add, Int.reduceToNat, Nat.reduceAdd, Nat.reduceDiv, Nat.reduceMod, Nat.reduceMul, Nat.reduceSub, Nat.reduceLeDiff, Nat.reduceLT, Nat.reduceEqDiff, ↓reduceIte, r_gr_wi, r_gl_wi, r_gk_wi, r_gn_wi, r_wi_eq, r_wi_ne, r_wi_nj, r_gi_wr, r_gl_wr, r_gk_wr, r_gn_wr, r_gr_wa, r_gl_wa, r_gk_wa, r_gn_wa, aa_e, as_e, al_e, u_lt, u_le, u_gt, u_ge, u_lt0, u_le0, u_gt0, u_ge0, Classical.not_not, not_true_eq_false, not_false_eq_true, oi_n, oi_m, n_dec, nI_add, pk_mul, n_sub, n_eq, n_le, n_lt, n_eq0, n_lt0, n_le0, n_0lt, n_0le, n_eqm, m_eqn, n_ltm, n_and, n_or, n_xor, n_shl, n_shr, tb1, tb0, bP_1, bP_0, bP_n0, ix_n, inb_n, u_eq, u_eqm, k37 L0, f37_2 L0, k39 L0, k37 L0, f37_2 L0, k39 L0, D.2.2.1, hk]
    refine hP.1 _ _ sx_Re_putClause_36 _ _ _ _ _ ?_
    simp (maxSteps := 1000000) (disch := omega) only [gx_Re_putClause_36, slk, List.map_cons, List.map_nil, List.sum_cons, List.sum_nil, vc_i, vc_r, vc_n, vc_l, vc_o, Nat.add_zero, kO_e, kA_e, hdO_a, eq_self, blk, stp, lg, ls0, lk, ls1, ls2, kI_i, kL_l, kR_r, kR_n, kR_o, s1I_i, s2I_i, s1L_l, s2L_l, s1R_r, s1R_n, s1R_o, s1A_a, cmpc, popn, swt, rf_s, rf_n, cat_i, cat_r, cat_n, cat_l, true_and, and_true, List.length_cons, List.length_nil, Nat.zero_add, Int.reduceToNat, Nat.reduceAdd, Nat.reduceDiv, Nat.reduceMod, Nat.reduceMul, Nat.reduceSub, Nat.reduceLeDiff, Nat.reduceLT, Nat.reduceEqDiff, ↓reduceIte, r_gr_wi, r_gl_wi, r_gk_wi, r_gn_wi, r_wi_eq, r_wi_ne, r_wi_nj, r_gi_wr, r_gl_wr, r_gk_wr, r_gn_wr, r_gr_wa, r_gl_wa, r_gk_wa, r_gn_wa, aa_e, as_e, al_e, u_lt, u_le, u_gt, u_ge, u_lt0, u_le0, u_gt0, u_ge0, Classical.not_not, not_true_eq_false, not_false_eq_true, oi_n, oi_m, n_dec, nI_add, pk_mul, n_sub, n_eq, n_le, n_lt, n_eq0, n_lt0, n_le0, n_0lt, n_0le, n_eqm, m_eqn, n_ltm, n_and, n_or, n_xor, n_shl, n_shr, tb1, tb0, bP_1, bP_0, bP_n0, ix_n, inb_n, u_eq, u_eqm, k37 L0, f37_2 L0, k39 L0, k37 L0, f37_2 L0, k39 L0, D.2.2.1, hk]
    refine hP.1 _ _ sx_Re_putClause_48 _ _ _ _ _ ?_
    simp (maxSteps := 1000000) (disch := omega) only [gx_Re_putClause_48, slk, List.map_cons, List.map_nil, List.sum_cons, List.sum_nil, vc_i, vc_r, vc_n, vc_l, vc_o, Nat.add_zero, kO_e, kA_e, hdO_a, eq_self, blk, stp, lg, ls0, lk, ls1, ls2, kI_i, kL_l, kR_r, kR_n, kR_o, s1I_i, s2I_i, s1L_l, s2L_l, s1R_r, s1R_n, s1R_o, s1A_a, cmpc, popn, swt, rf_s, rf_n, cat_i, cat_r, cat_n, cat_l, true_and, and_true, List.length_cons, List.length_nil, Nat.zero_add, Int.reduceToNat, Nat.reduceAdd, Nat.reduceDiv, Nat.reduceMod, Nat.reduceMul, Nat.reduceSub, Nat.reduceLeDiff, Nat.reduceLT, Nat.reduceEqDiff, ↓reduceIte, r_gr_wi, r_gl_wi, r_gk_wi, r_gn_wi, r_wi_eq, r_wi_ne, r_wi_nj, r_gi_wr, r_gl_wr, r_gk_wr, r_gn_wr, r_gr_wa, r_gl_wa, r_gk_wa, r_gn_wa, aa_e, as_e, al_e, u_lt, u_le, u_gt, u_ge, u_lt0, u_le0, u_gt0, u_ge0, Classical.not_not, not_true_eq_false, not_false_eq_true, oi_n, oi_m, n_dec, nI_add, pk_mul, n_sub, n_eq, n_le, n_lt, n_eq0, n_lt0, n_le0, n_0lt, n_0le, n_eqm, m_eqn, n_ltm, n_and, n_or, n_xor, n_shl, n_shr, tb1, tb0, bP_1, bP_0, bP_n0, ix_n, inb_n, u_eq, u_eqm, k37 L0, f37_2 L0, k39 L0, k37 L0, f37_2 L0, k39 L0, D.2.2.1, hk]
    refine hP.1 _ _ sx_Re_putClause_63 _ _ _ _ _ ?_
    simp (maxSteps := 1000000) (disch := omega) only [gx_Re_putClause_63, slk, List.map_cons, List.map_nil, List.sum_cons, List.sum_nil, vc_i, vc_r, vc_n, vc_l, vc_o, Nat.add_zero, kO_e, kA_e, hdO_a, eq_self, blk, stp, lg, ls0, lk, ls1, ls2, kI_i, kL_l, kR_r, kR_n, kR_o, s1I_i, s2I_i, s1L_l, s2L_l, s1R_r, s1R_n, s1R_o, s1A_a, cmpc, popn, swt, rf_s, rf_n, cat_i, cat_r, cat_n, cat_l, true_and, and_true, List.length_cons, List.length_nil, Nat.zero_add, Int.reduceToNat, Nat.reduceAdd, Nat.reduceDiv, Nat.reduceMod, Nat.reduceMul, Nat.reduceSub, Nat.reduceLeDiff, Nat.reduceLT, Nat.reduceEqDiff, ↓reduceIte, r_gr_wi, r_gl_wi, r_gk_wi, r_gn_wi, r_wi_eq, r_wi_ne, r_wi_nj, r_gi_wr, r_gl_wr, r_gk_wr, r_gn_wr, r_gr_wa, r_gl_wa, r_gk_wa, r_gn_wa, aa_e, as_e, al_e, u_lt, u_le, u_gt, u_ge, u_lt0, u_le0, u_gt0, u_ge0, Classical.not_not, not_true_eq_false, not_false_eq_true, oi_n, oi_m, n_dec, nI_add, pk_mul, n_sub, n_eq, n_le, n_lt, n_eq0, n_lt0, n_le0, n_0lt, n_0le, n_eqm, m_eqn, n_ltm, n_and, n_or, n_xor, n_shl, n_shr, tb1, tb0, bP_1, bP_0, bP_n0, ix_n, inb_n, u_eq, u_eqm, k37 L0, k37 L0, f37_2 L0, k39 L0, D.2.2.1, hk]
    refine hP.1 _ _ sx_Re_putClause_73 _ _ _ _ _ ?_
    simp (maxSteps := 1000000) (disch := omega) only [gx_Re_putClause_73, slk, List.map_cons, List.map_nil, List.sum_cons, List.sum_nil, vc_i, vc_r, vc_n, vc_l, vc_o, Nat.add_zero, kO_e, kA_e, hdO_a, eq_self, blk, stp, lg, ls0, lk, ls1, ls2, kI_i, kL_l, kR_r, kR_n, kR_o, s1I_i, s2I_i, s1L_l, s2L_l, s1R_r, s1R_n, s1R_o, s1A_a, cmpc, popn, swt, rf_s, rf_n, cat_i, cat_r, cat_n, cat_l, true_and, and_true, List.length_cons, List.length_nil, Nat.zero_add, Int.reduceToNat, Nat.reduceAdd, Nat.reduceDiv, Nat.reduceMod, Nat.reduceMul, Nat.reduceSub, Nat.reduceLeDiff, Nat.reduceLT, Nat.reduceEqDiff, ↓reduceIte, r_gr_wi, r_gl_wi, r_gk_wi, r_gn_wi, r_wi_eq, r_wi_ne, r_wi_nj, r_gi_wr, r_gl_wr, r_gk_wr, r_gn_wr, r_gr_wa, r_gl_wa, r_gk_wa, r_gn_wa, aa_e, as_e, al_e, u_lt, u_le, u_gt, u_ge, u_lt0, u_le0, u_gt0, u_ge0, Classical.not_not, not_true_eq_false, not_false_eq_true, oi_n, oi_m, n_dec, nI_add, pk_mul, n_sub, n_eq, n_le, n_lt, n_eq0, n_lt0, n_le0, n_0lt, n_0le, n_eqm, m_eqn, n_ltm, n_and, n_or, n_xor, n_shl, n_shr, tb1, tb0, bP_1, bP_0, bP_n0, ix_n, inb_n, u_eq, u_eqm, k37 L0, f37_2 L0, k39 L0, D.2.2.1, hk]
    rw [r_Re_putClause]
    refine ⟨trivial, rfl, (((((Fp.refl _ H).wi (Or.inr (Or.inr rfl)) _ _).wi (Or.inr (Or.inr rfl)) _ _).wi (Or.inr (Or.inr rfl)) _ _).wi (Or.inr (Or.inr rfl)) _ _).wi (Or.inl rfl) _ _, ⟨D.1, ?_, ?_, D.2.2.2.1, fun j hj => ?_⟩, k + 4, k4, r_wi_eq _ _ _ _, fun _ => ⟨rfl, ⟨?_, ?_, ?_, ?_⟩, fun j hj => ?_⟩⟩
    · simp (disch := omega) only [r_wi_eq, r_wi_ne, r_wi_nj]
      exact D.2.1
    · simp (disch := omega) only [r_wi_eq, r_wi_ne, r_wi_nj]
      exact D.2.2.1
    · simp (disch := omega) only [r_wi_eq, r_wi_ne, r_wi_nj]
      exact D.2.2.2.2 j hj
    · simp (disch := omega) only [r_wi_eq, r_wi_ne, r_wi_nj]
    · simp (disch := omega) only [r_wi_eq, r_wi_ne, r_wi_nj]
    · simp (disch := omega) only [r_wi_eq, r_wi_ne, r_wi_nj]
    · simp (disch := omega) only [r_wi_eq, r_wi_ne, r_wi_nj]
    · simp (disch := omega) only [r_wi_eq, r_wi_ne, r_wi_nj]
end
