/-! ===== the class: what is said, the way instead, who is sifted ===== -/
theorem n_lem {a : Nat} (ha : a < 2147483648) : (nI a ≤ -1) = False := by
  refine eq_false fun e => ?_
  have h1 := nI_toInt (n := a) (by omega)
  rw [Int32.le_iff_toInt_le, h1] at e
  have : (-1 : Int32).toInt = -1 := by decide
  omega
theorem bP_e (p q : Prop) : (bP p = bP q) = (p ↔ q) := by
  by_cases h1 : p <;> by_cases h2 : q
  · rw [bP_t h1, bP_t h2]
    exact propext ⟨fun _ => ⟨fun _ => h2, fun _ => h1⟩, fun _ => rfl⟩
  · rw [bP_t h1, bP_f h2]
    exact propext ⟨fun e => absurd e (by decide), fun e => absurd (e.mp h1) h2⟩
  · rw [bP_f h1, bP_t h2]
    exact propext ⟨fun e => absurd e (by decide), fun e => absurd (e.mpr h2) h1⟩
  · rw [bP_f h1, bP_f h2]
    exact propext ⟨fun _ => ⟨fun z => absurd z h1, fun z => absurd z h2⟩, fun _ => rfl⟩
theorem ta_20 {T : Nat} (hT : isT T) : 20 ≤ T := by
  have := ta_b hT
  omega
theorem ta_2k {T : Nat} (hT : isT T) (k : Nat) : 20 ≤ T + k := by
  have := ta_b hT
  omega
/-- whether a word says what hadn't been said; the last such word -/
def isNew (ws : List Wd) (x : Wd) : Prop := ¬ ((cnB ws x.1).testBit (4 * x.2.2.1 + x.2.2.2.1) = true ∧ (cfB ws x.1).testBit (4 * x.2.2.1 + x.2.2.2.2.1) = true)
noncomputable def nwN (ws : List Wd) : Nat → Nat
  | 0 => 0
  | k + 1 => nif (isNew (ws.take k) (ws.getD k w0)) (k + 1) (nwN ws k)
noncomputable def nwB (ws : List Wd) : Nat := nwN ws ws.length
theorem nwN_le (ws : List Wd) : ∀ k, nwN ws k ≤ k := by
  intro k
  induction k with
  | zero => exact Nat.le_refl _
  | succ k ih => exact nif_le (Nat.le_refl _) (by omega)
theorem nwB_le (ws : List Wd) : nwB ws ≤ ws.length := nwN_le ws _
theorem nwN_app (ws : List Wd) (x : Wd) : ∀ k, k ≤ ws.length → nwN (ws ++ [x]) k = nwN ws k := by
  intro k
  induction k with
  | zero => exact fun _ => rfl
  | succ k ih =>
    intro hk
    show nif (isNew ((ws ++ [x]).take k) ((ws ++ [x]).getD k w0)) (k + 1) (nwN (ws ++ [x]) k) = nif (isNew (ws.take k) (ws.getD k w0)) (k + 1) (nwN ws k)
    rw [ih (by omega), List.take_append_of_le_length (by omega), getD_app, if_pos (by omega)]
theorem nwB_app (ws : List Wd) (x : Wd) : nwB (ws ++ [x]) = nif (isNew ws x) (ws.length + 1) (nwB ws) := by
  unfold nwB
  rw [List.length_append]
  show nif (isNew ((ws ++ [x]).take ws.length) ((ws ++ [x]).getD ws.length w0)) (ws.length + 1) (nwN (ws ++ [x]) ws.length) = _
  rw [nwN_app ws x _ (Nat.le_refl _), getD_app, if_neg (Nat.lt_irrefl _), if_pos rfl, List.take_left]
/-- the cells that a turn may change -/
def XU (T : Nat) : Nat → Prop := fun a => (42 ≤ a ∧ a ≤ 44) ∨ a = T ∨ (T + 2 ≤ a ∧ a ≤ T + 5)
theorem xu_b {T : Nat} (hT : isT T) : ∀ a, XU T a → 33 < a ∧ a ≤ 164 := by
  intro a q
  have := ta_b hT
  unfold XU at q
  omega
section
variable {h : AH} {s : St} {d m b : Nat}
theorem c_Ta_noteSaid (L : Lay h) {T A e i : Nat} {f : Nat → Nat} (hT : isT T) (hA : gk h A = some (.inr (0, 8))) (hf : gi h A e = nI (f e) ∧ f e < 2 ^ 20) (hAT : A ≠ T) (hA2 : 20 ≤ A) (he : e < 8) (hi : i < 20) : Mz (d + 1) 227 [.ref T, .ref A, .int (nI e), .int (nI i)] h 0 0 (Rv (if (f e).testBit i = true then h else wi (wi h A e (nI (f e ||| 1 <<< i))) T 16 (gi h T 14))) := by
  have tb := ta_b hT
  refine mz_in (l := [some (.ref T), some (.ref A), some (.int (nI e)), some (.int (nI i))]) mk_Ta_noteSaid n_Ta_noteSaid rfl l_Ta_noteSaid rfl (Nat.le_of_ble_eq_true rfl) fun P hP => ?_
  refine hP.1 _ _ s_Ta_noteSaid_0 _ _ _ _ _ ?_
  simp (maxSteps := 1000000) (disch := omega) only [g_Ta_noteSaid_0, slk, List.map_cons, List.map_nil, List.sum_cons, List.sum_nil, vc_i, vc_r, vc_n, vc_l, vc_o, Nat.add_zero, kO_e, kA_e, hdO_a, eq_self, blk, stp, lg, ls0, lk, ls1, ls2, kI_i, kL_l, kR_r, kR_n, kR_o, s1I_i, s2I_i, s1L_l, s2L_l, s1R_r, s1R_n, s1R_o, s1A_a, cmpc, popn, swt, rf_s, rf_n, cat_i, cat_r, cat_n, cat_l, true_and, and_true, List.length_cons, List.length_nil, Nat.zero_add, Int.reduceToNat, Nat.reduceAdd, Nat.reduceDiv, Nat.reduceMod, Nat.reduceMul, Nat.reduceSub, Nat.reduceLeDiff, Nat.reduceLT, Nat.reduceEqDiff, ↓reduceIte, r_gr_wi, r_gl_wi, r_gk_wi, r_gn_wi, r_wi_eq, r_wi_ne, r_wi_nj, r_gi_wr, r_gl_wr, r_gk_wr, r_gn_wr, r_gr_wa, r_gl_wa, r_gk_wa, r_gn_wa, aa_e, as_e, al_e, u_lt, u_le, u_gt, u_ge, u_lt0, u_le0, u_gt0, u_ge0, Classical.not_not, not_true_eq_false, not_false_eq_true, oi_n, oi_m, n_dec, nI_add, pk_mul, n_sub, n_eq, n_le, n_lt, n_eq0, n_lt0, n_le0, n_0lt, n_0le, n_eqm, m_eqn, n_ltm, n_and, n_or, n_xor, n_shl, n_shr, tb1, tb0, bP_1, bP_0, bP_n0, ix_n, inb_n, u_eq, u_eqm, (ta_k L hT).1, (ta_k L hT).2.1, (ta_k L hT).2.2.1, (ta_k L hT).2.2.2.1, (ta_k L hT).2.2.2.2.1, (ta_k L hT).2.2.2.2.2.1, (ta_k L hT).2.2.2.2.2.2.1, (ta_k L hT).2.2.2.2.2.2.2, (ta_r L hT).1, (ta_r L hT).2.1, (ta_r L hT).2.2.1, (ta_r L hT).2.2.2.1, (ta_r L hT).2.2.2.2.1, (ta_r L hT).2.2.2.2.2.1, (ta_r L hT).2.2.2.2.2.2.1, (ta_r L hT).2.2.2.2.2.2.2.1, (ta_r L hT).2.2.2.2.2.2.2.2.1, (ta_r L hT).2.2.2.2.2.2.2.2.2, k21 L, k42 L, k33 L, k32 L, f21_0 L, f21_1 L, f21_2 L, f21_3 L, ta_20 hT, ta_2k hT, hA, hA2, hf.1]
  refine ⟨fun q => ?_, fun q => ?_⟩
  · refine hP.1 _ _ s_Ta_noteSaid_27 _ _ _ _ _ ?_
    simp (maxSteps := 1000000) (disch := omega) only [g_Ta_noteSaid_27, slk, List.map_cons, List.map_nil, List.sum_cons, List.sum_nil, vc_i, vc_r, vc_n, vc_l, vc_o, Nat.add_zero, kO_e, kA_e, hdO_a, eq_self, blk, stp, lg, ls0, lk, ls1, ls2, kI_i, kL_l, kR_r, kR_n, kR_o, s1I_i, s2I_i, s1L_l, s2L_l, s1R_r, s1R_n, s1R_o, s1A_a, cmpc, popn, swt, rf_s, rf_n, cat_i, cat_r, cat_n, cat_l, true_and, and_true, List.length_cons, List.length_nil, Nat.zero_add, Int.reduceToNat, Nat.reduceAdd, Nat.reduceDiv, Nat.reduceMod, Nat.reduceMul, Nat.reduceSub, Nat.reduceLeDiff, Nat.reduceLT, Nat.reduceEqDiff, ↓reduceIte, r_gr_wi, r_gl_wi, r_gk_wi, r_gn_wi, r_wi_eq, r_wi_ne, r_wi_nj, r_gi_wr, r_gl_wr, r_gk_wr, r_gn_wr, r_gr_wa, r_gl_wa, r_gk_wa, r_gn_wa, aa_e, as_e, al_e, u_lt, u_le, u_gt, u_ge, u_lt0, u_le0, u_gt0, u_ge0, Classical.not_not, not_true_eq_false, not_false_eq_true, oi_n, oi_m, n_dec, nI_add, pk_mul, n_sub, n_eq, n_le, n_lt, n_eq0, n_lt0, n_le0, n_0lt, n_0le, n_eqm, m_eqn, n_ltm, n_and, n_or, n_xor, n_shl, n_shr, tb1, tb0, bP_1, bP_0, bP_n0, ix_n, inb_n, u_eq, u_eqm, (ta_k L hT).1, (ta_k L hT).2.1, (ta_k L hT).2.2.1, (ta_k L hT).2.2.2.1, (ta_k L hT).2.2.2.2.1, (ta_k L hT).2.2.2.2.2.1, (ta_k L hT).2.2.2.2.2.2.1, (ta_k L hT).2.2.2.2.2.2.2, (ta_r L hT).1, (ta_r L hT).2.1, (ta_r L hT).2.2.1, (ta_r L hT).2.2.2.1, (ta_r L hT).2.2.2.2.1, (ta_r L hT).2.2.2.2.2.1, (ta_r L hT).2.2.2.2.2.2.1, (ta_r L hT).2.2.2.2.2.2.2.1, (ta_r L hT).2.2.2.2.2.2.2.2.1, (ta_r L hT).2.2.2.2.2.2.2.2.2, k21 L, k42 L, k33 L, k32 L, f21_0 L, f21_1 L, f21_2 L, f21_3 L, ta_20 hT, ta_2k hT, hA, hA2, hf.1]
    exact lfV r_Ta_noteSaid (if_pos (show (f e).testBit i = true by simpa using q)).symm
  · refine hP.1 _ _ s_Ta_noteSaid_10 _ _ _ _ _ ?_
    simp (maxSteps := 1000000) (disch := omega) only [g_Ta_noteSaid_10, slk, List.map_cons, List.map_nil, List.sum_cons, List.sum_nil, vc_i, vc_r, vc_n, vc_l, vc_o, Nat.add_zero, kO_e, kA_e, hdO_a, eq_self, blk, stp, lg, ls0, lk, ls1, ls2, kI_i, kL_l, kR_r, kR_n, kR_o, s1I_i, s2I_i, s1L_l, s2L_l, s1R_r, s1R_n, s1R_o, s1A_a, cmpc, popn, swt, rf_s, rf_n, cat_i, cat_r, cat_n, cat_l, true_and, and_true, List.length_cons, List.length_nil, Nat.zero_add, Int.reduceToNat, Nat.reduceAdd, Nat.reduceDiv, Nat.reduceMod, Nat.reduceMul, Nat.reduceSub, Nat.reduceLeDiff, Nat.reduceLT, Nat.reduceEqDiff, ↓reduceIte, r_gr_wi, r_gl_wi, r_gk_wi, r_gn_wi, r_wi_eq, r_wi_ne, r_wi_nj, r_gi_wr, r_gl_wr, r_gk_wr, r_gn_wr, r_gr_wa, r_gl_wa, r_gk_wa, r_gn_wa, aa_e, as_e, al_e, u_lt, u_le, u_gt, u_ge, u_lt0, u_le0, u_gt0, u_ge0, Classical.not_not, not_true_eq_false, not_false_eq_true, oi_n, oi_m, n_dec, nI_add, pk_mul, n_sub, n_eq, n_le, n_lt, n_eq0, n_lt0, n_le0, n_0lt, n_0le, n_eqm, m_eqn, n_ltm, n_and, n_or, n_xor, n_shl, n_shr, tb1, tb0, bP_1, bP_0, bP_n0, ix_n, inb_n, u_eq, u_eqm, (ta_k L hT).1, (ta_k L hT).2.1, (ta_k L hT).2.2.1, (ta_k L hT).2.2.2.1, (ta_k L hT).2.2.2.2.1, (ta_k L hT).2.2.2.2.2.1, (ta_k L hT).2.2.2.2.2.2.1, (ta_k L hT).2.2.2.2.2.2.2, (ta_r L hT).1, (ta_r L hT).2.1, (ta_r L hT).2.2.1, (ta_r L hT).2.2.2.1, (ta_r L hT).2.2.2.2.1, (ta_r L hT).2.2.2.2.2.1, (ta_r L hT).2.2.2.2.2.2.1, (ta_r L hT).2.2.2.2.2.2.2.1, (ta_r L hT).2.2.2.2.2.2.2.2.1, (ta_r L hT).2.2.2.2.2.2.2.2.2, k21 L, k42 L, k33 L, k32 L, f21_0 L, f21_1 L, f21_2 L, f21_3 L, ta_20 hT, ta_2k hT, hA, hA2, hf.1]
    refine hP.1 _ _ s_Ta_noteSaid_27 _ _ _ _ _ ?_
    simp (maxSteps := 1000000) (disch := omega) only [g_Ta_noteSaid_27, slk, List.map_cons, List.map_nil, List.sum_cons, List.sum_nil, vc_i, vc_r, vc_n, vc_l, vc_o, Nat.add_zero, kO_e, kA_e, hdO_a, eq_self, blk, stp, lg, ls0, lk, ls1, ls2, kI_i, kL_l, kR_r, kR_n, kR_o, s1I_i, s2I_i, s1L_l, s2L_l, s1R_r, s1R_n, s1R_o, s1A_a, cmpc, popn, swt, rf_s, rf_n, cat_i, cat_r, cat_n, cat_l, true_and, and_true, List.length_cons, List.length_nil, Nat.zero_add, Int.reduceToNat, Nat.reduceAdd, Nat.reduceDiv, Nat.reduceMod, Nat.reduceMul, Nat.reduceSub, Nat.reduceLeDiff, Nat.reduceLT, Nat.reduceEqDiff, ↓reduceIte, r_gr_wi, r_gl_wi, r_gk_wi, r_gn_wi, r_wi_eq, r_wi_ne, r_wi_nj, r_gi_wr, r_gl_wr, r_gk_wr, r_gn_wr, r_gr_wa, r_gl_wa, r_gk_wa, r_gn_wa, aa_e, as_e, al_e, u_lt, u_le, u_gt, u_ge, u_lt0, u_le0, u_gt0, u_ge0, Classical.not_not, not_true_eq_false, not_false_eq_true, oi_n, oi_m, n_dec, nI_add, pk_mul, n_sub, n_eq, n_le, n_lt, n_eq0, n_lt0, n_le0, n_0lt, n_0le, n_eqm, m_eqn, n_ltm, n_and, n_or, n_xor, n_shl, n_shr, tb1, tb0, bP_1, bP_0, bP_n0, ix_n, inb_n, u_eq, u_eqm, (ta_k L hT).1, (ta_k L hT).2.1, (ta_k L hT).2.2.1, (ta_k L hT).2.2.2.1, (ta_k L hT).2.2.2.2.1, (ta_k L hT).2.2.2.2.2.1, (ta_k L hT).2.2.2.2.2.2.1, (ta_k L hT).2.2.2.2.2.2.2, (ta_r L hT).1, (ta_r L hT).2.1, (ta_r L hT).2.2.1, (ta_r L hT).2.2.2.1, (ta_r L hT).2.2.2.2.1, (ta_r L hT).2.2.2.2.2.1, (ta_r L hT).2.2.2.2.2.2.1, (ta_r L hT).2.2.2.2.2.2.2.1, (ta_r L hT).2.2.2.2.2.2.2.2.1, (ta_r L hT).2.2.2.2.2.2.2.2.2, k21 L, k42 L, k33 L, k32 L, f21_0 L, f21_1 L, f21_2 L, f21_3 L, ta_20 hT, ta_2k hT, hA, hA2, hf.1]
    exact lfV r_Ta_noteSaid (if_neg (show ¬ (f e).testBit i = true by simpa using q)).symm
theorem oN_h {o : Option Nat} {f : Nat → Nat} {a : Nat} (hf : ∀ q, f q < 2147483648) (ha : a < 2147483648) : (nI a ≤ oN (o.map f)) = ∃ q, o = some q ∧ a ≤ f q := by
  cases o with
  | none =>
    show (nI a ≤ -1) = _
    rw [n_lem ha]
    exact propext ⟨fun q => q.elim, fun ⟨q, e, _⟩ => by cases e⟩
  | some q =>
    show (nI a ≤ nI (f q)) = _
    rw [n_le ha (hf q)]
    exact propext ⟨fun z => ⟨q, rfl, z⟩, fun ⟨q2, e, z⟩ => by cases e; exact z⟩
theorem c_Ta_wayInstead (W : RH h s) {h2 : AH} (E : EV h2 s m b) (hm : m < s 107 19) {T : Nat} (hT : isT T) (h3 : gr h2 T 3 = some b) {g e p : Nat} (h13 : gi h2 T 13 = nI g) {ps : List (Nat × Int32)} (TL : LTC h2 (ltF ps)) (he : e < s 107 18) (hp : p < s 112 m) (hg : g < 2147483648) : Mz (d + 3) 228 [.ref T, .int (nI e), .int (nI p)] h2 0 0 (PNs h2 (insS s e m p (wyN (s 112 m) g p) ps)) := by
  have tb := ta_b hT
  have b1 := rs_e W
  have b4 := rs_p W hm
  have w4 := wyN_lt (s 112 m) g p
  have L := E.1
  have M := E.2.2.1
  have V := E.2.2.2.1
  obtain ⟨bb, be, bl, bn⟩ := bst_ok (e := e) (p := p) (w := wyN (s 112 m) g p) W hm
  generalize ew : wyN (s 112 m) g p = w at w4 be bn
  have es : ∀ o, mindW s e 99 ps = o → insS s e m p w ps = match o with
    | none => o0 id (bstS s e m p w (s 113 m))
    | some v => if tn v < s 113 m ∧ ¬ tn v = w then tn v else o0 id (bstS s e m p w (s 113 m)) := by
    intro o q
    unfold insS
    rw [q]
    cases o <;> rfl
  have eo : o0 id (bstS s e m p w (s 113 m)) = bb := by rw [be]; rfl
  refine mz_in (l := [some (.ref T), some (.int (nI e)), some (.int (nI p)), none, none, none, none, none, none, none]) mk_Ta_wayInstead n_Ta_wayInstead rfl l_Ta_wayInstead rfl (Nat.le_of_ble_eq_true rfl) fun P hP => ?_
  have loop : ∀ H, Fp XSc h2 H → insS s e m p w ps = bb → ∀ n k (x : Int64) (x9 : Option Value), k + n = s 113 m → P 75 [some (.ref T), some (.int (nI e)), some (.int (nI p)), some (.int (nI w)), some (.long x), none, some (.int (oN (bstS s e m p w k))), some (.int (oN ((bstS s e m p w k).map (fun q => s 114 (20 * (4 * e + m) + (4 * p + q)))))), some (.int (nI k)), x9] [] H 0 0 := by
    intro H F ei n
    have LH := F.lay L
    have EH := F.ev E (fun a q => by unfold XSc at q; omega)
    have MH := EH.2.2.1
    have VH := EH.2.2.2.1
    have h3H : gr H T 3 = some b := by rw [F.gr]; exact h3
    have LL := L
    have L := LH
    have hl := fun q => rs_h W (20 * (4 * e + m) + (4 * p + q))
    induction n using Nat.strongRecOn with
    | _ n ih =>
      intro k x x9 hk
      refine hP.1 _ _ s_Ta_wayInstead_75 _ _ _ _ _ ?_
      simp (maxSteps := 1000000) (disch := omega) only [g_Ta_wayInstead_75, slk, List.map_cons, List.map_nil, List.sum_cons, List.sum_nil, vc_i, vc_r, vc_n, vc_l, vc_o, Nat.add_zero, kO_e, kA_e, hdO_a, eq_self, blk, stp, lg, ls0, lk, ls1, ls2, kI_i, kL_l, kR_r, kR_n, kR_o, s1I_i, s2I_i, s1L_l, s2L_l, s1R_r, s1R_n, s1R_o, s1A_a, cmpc, popn, swt, rf_s, rf_n, cat_i, cat_r, cat_n, cat_l, true_and, and_true, List.length_cons, List.length_nil, Nat.zero_add, Int.reduceToNat, Nat.reduceAdd, Nat.reduceDiv, Nat.reduceMod, Nat.reduceMul, Nat.reduceSub, Nat.reduceLeDiff, Nat.reduceLT, Nat.reduceEqDiff, ↓reduceIte, r_gr_wi, r_gl_wi, r_gk_wi, r_gn_wi, r_wi_eq, r_wi_ne, r_wi_nj, r_gi_wr, r_gl_wr, r_gk_wr, r_gn_wr, r_gr_wa, r_gl_wa, r_gk_wa, r_gn_wa, aa_e, as_e, al_e, u_lt, u_le, u_gt, u_ge, u_lt0, u_le0, u_gt0, u_ge0, Classical.not_not, not_true_eq_false, not_false_eq_true, oi_n, oi_m, n_dec, nI_add, pk_mul, n_sub, n_eq, n_le, n_lt, n_eq0, n_lt0, n_le0, n_0lt, n_0le, n_eqm, m_eqn, n_ltm, n_and, n_or, n_xor, n_shl, n_shr, tb1, tb0, bP_1, bP_0, bP_n0, ix_n, inb_n, u_eq, u_eqm, (ta_k L hT).1, (ta_k L hT).2.1, (ta_k L hT).2.2.1, (ta_k L hT).2.2.2.1, (ta_k L hT).2.2.2.2.1, (ta_k L hT).2.2.2.2.2.1, (ta_k L hT).2.2.2.2.2.2.1, (ta_k L hT).2.2.2.2.2.2.2, (ta_r L hT).1, (ta_r L hT).2.1, (ta_r L hT).2.2.1, (ta_r L hT).2.2.2.1, (ta_r L hT).2.2.2.2.1, (ta_r L hT).2.2.2.2.2.1, (ta_r L hT).2.2.2.2.2.2.1, (ta_r L hT).2.2.2.2.2.2.2.1, (ta_r L hT).2.2.2.2.2.2.2.2.1, (ta_r L hT).2.2.2.2.2.2.2.2.2, k21 L, k42 L, k33 L, k32 L, f21_0 L, f21_1 L, f21_2 L, f21_3 L, ta_20 hT, ta_2k hT, h3H, ma_k MH, VH.1.2.1]
      refine ⟨fun hc => ?_, fun hc => ?_⟩
      · have e1 : k = s 113 m := by omega
        subst e1
        refine hP.1 _ _ s_Ta_wayInstead_130 _ _ _ _ _ ?_
        simp (maxSteps := 1000000) (disch := omega) only [g_Ta_wayInstead_130, slk, List.map_cons, List.map_nil, List.sum_cons, List.sum_nil, vc_i, vc_r, vc_n, vc_l, vc_o, Nat.add_zero, kO_e, kA_e, hdO_a, eq_self, blk, stp, lg, ls0, lk, ls1, ls2, kI_i, kL_l, kR_r, kR_n, kR_o, s1I_i, s2I_i, s1L_l, s2L_l, s1R_r, s1R_n, s1R_o, s1A_a, cmpc, popn, swt, rf_s, rf_n, cat_i, cat_r, cat_n, cat_l, true_and, and_true, List.length_cons, List.length_nil, Nat.zero_add, Int.reduceToNat, Nat.reduceAdd, Nat.reduceDiv, Nat.reduceMod, Nat.reduceMul, Nat.reduceSub, Nat.reduceLeDiff, Nat.reduceLT, Nat.reduceEqDiff, ↓reduceIte, r_gr_wi, r_gl_wi, r_gk_wi, r_gn_wi, r_wi_eq, r_wi_ne, r_wi_nj, r_gi_wr, r_gl_wr, r_gk_wr, r_gn_wr, r_gr_wa, r_gl_wa, r_gk_wa, r_gn_wa, aa_e, as_e, al_e, u_lt, u_le, u_gt, u_ge, u_lt0, u_le0, u_gt0, u_ge0, Classical.not_not, not_true_eq_false, not_false_eq_true, oi_n, oi_m, n_dec, nI_add, pk_mul, n_sub, n_eq, n_le, n_lt, n_eq0, n_lt0, n_le0, n_0lt, n_0le, n_eqm, m_eqn, n_ltm, n_and, n_or, n_xor, n_shl, n_shr, tb1, tb0, bP_1, bP_0, bP_n0, ix_n, inb_n, u_eq, u_eqm, (ta_k L hT).1, (ta_k L hT).2.1, (ta_k L hT).2.2.1, (ta_k L hT).2.2.2.1, (ta_k L hT).2.2.2.2.1, (ta_k L hT).2.2.2.2.2.1, (ta_k L hT).2.2.2.2.2.2.1, (ta_k L hT).2.2.2.2.2.2.2, (ta_r L hT).1, (ta_r L hT).2.1, (ta_r L hT).2.2.1, (ta_r L hT).2.2.2.1, (ta_r L hT).2.2.2.2.1, (ta_r L hT).2.2.2.2.2.1, (ta_r L hT).2.2.2.2.2.2.1, (ta_r L hT).2.2.2.2.2.2.2.1, (ta_r L hT).2.2.2.2.2.2.2.2.1, (ta_r L hT).2.2.2.2.2.2.2.2.2, k21 L, k42 L, k33 L, k32 L, f21_0 L, f21_1 L, f21_2 L, f21_3 L, ta_20 hT, ta_2k hT, h3H, ma_k MH, VH.1.2.1]
        rw [r_Ta_wayInstead]
        exact ⟨trivial, by rw [ei, be]; rfl, F⟩
      · have hk2 : k < s 113 m := by omega
        have nx : ∀ (v6 v7 : Int32) x9, v6 = oN (bstS s e m p w (k + 1)) → v7 = oN ((bstS s e m p w (k + 1)).map (fun q => s 114 (20 * (4 * e + m) + (4 * p + q)))) → P 124 [some (.ref T), some (.int (nI e)), some (.int (nI p)), some (.int (nI w)), some (.long x), none, some (.int (v6)), some (.int (v7)), some (.int (nI k)), x9] [] H 0 0 := by
          intro v6 v7 x9 e6 e7
          refine hP.1 _ _ s_Ta_wayInstead_124 _ _ _ _ _ ?_
          simp (maxSteps := 1000000) (disch := omega) only [g_Ta_wayInstead_124, slk, List.map_cons, List.map_nil, List.sum_cons, List.sum_nil, vc_i, vc_r, vc_n, vc_l, vc_o, Nat.add_zero, kO_e, kA_e, hdO_a, eq_self, blk, stp, lg, ls0, lk, ls1, ls2, kI_i, kL_l, kR_r, kR_n, kR_o, s1I_i, s2I_i, s1L_l, s2L_l, s1R_r, s1R_n, s1R_o, s1A_a, cmpc, popn, swt, rf_s, rf_n, cat_i, cat_r, cat_n, cat_l, true_and, and_true, List.length_cons, List.length_nil, Nat.zero_add, Int.reduceToNat, Nat.reduceAdd, Nat.reduceDiv, Nat.reduceMod, Nat.reduceMul, Nat.reduceSub, Nat.reduceLeDiff, Nat.reduceLT, Nat.reduceEqDiff, ↓reduceIte, r_gr_wi, r_gl_wi, r_gk_wi, r_gn_wi, r_wi_eq, r_wi_ne, r_wi_nj, r_gi_wr, r_gl_wr, r_gk_wr, r_gn_wr, r_gr_wa, r_gl_wa, r_gk_wa, r_gn_wa, aa_e, as_e, al_e, u_lt, u_le, u_gt, u_ge, u_lt0, u_le0, u_gt0, u_ge0, Classical.not_not, not_true_eq_false, not_false_eq_true, oi_n, oi_m, n_dec, nI_add, pk_mul, n_sub, n_eq, n_le, n_lt, n_eq0, n_lt0, n_le0, n_0lt, n_0le, n_eqm, m_eqn, n_ltm, n_and, n_or, n_xor, n_shl, n_shr, tb1, tb0, bP_1, bP_0, bP_n0, ix_n, inb_n, u_eq, u_eqm, (ta_k L hT).1, (ta_k L hT).2.1, (ta_k L hT).2.2.1, (ta_k L hT).2.2.2.1, (ta_k L hT).2.2.2.2.1, (ta_k L hT).2.2.2.2.2.1, (ta_k L hT).2.2.2.2.2.2.1, (ta_k L hT).2.2.2.2.2.2.2, (ta_r L hT).1, (ta_r L hT).2.1, (ta_r L hT).2.2.1, (ta_r L hT).2.2.2.1, (ta_r L hT).2.2.2.2.1, (ta_r L hT).2.2.2.2.2.1, (ta_r L hT).2.2.2.2.2.2.1, (ta_r L hT).2.2.2.2.2.2.2.1, (ta_r L hT).2.2.2.2.2.2.2.2.1, (ta_r L hT).2.2.2.2.2.2.2.2.2, k21 L, k42 L, k33 L, k32 L, f21_0 L, f21_1 L, f21_2 L, f21_3 L, ta_20 hT, ta_2k hT, h3H, ma_k MH, VH.1.2.1]
          rw [e6, e7]
          exact ih (n - 1) (by omega) (k + 1) x x9 (by omega)
        have hk3 := hl k
        have lt_k : ∀ q, (s 114 (((4 * e + m) * 5 + p) * 4 + q) < s 114 (((4 * e + m) * 5 + p) * 4 + k)) ↔ s 114 (20 * (4 * e + m) + (4 * p + q)) < s 114 (20 * (4 * e + m) + (4 * p + k)) := fun q => by rw [idx_eq, idx_eq]
        have no : ¬ (¬ k = w ∧ ∀ q, bstS s e m p w k = some q → s 114 (20 * (4 * e + m) + (4 * p + q)) < s 114 (20 * (4 * e + m) + (4 * p + k))) → bstS s e m p w (k + 1) = bstS s e m p w k := fun z => mnG_f (fun y => z ⟨y.1, fun q hq => (lt_k q).mp (y.2 q hq)⟩)
        have yes : (¬ k = w ∧ ∀ q, bstS s e m p w k = some q → s 114 (20 * (4 * e + m) + (4 * p + q)) < s 114 (20 * (4 * e + m) + (4 * p + k))) → bstS s e m p w (k + 1) = some k := fun z => mnG_t ⟨z.1, fun q hq => (lt_k q).mpr (z.2 q hq)⟩
        refine hP.1 _ _ s_Ta_wayInstead_87 _ _ _ _ _ ?_
        simp (maxSteps := 1000000) (disch := omega) only [g_Ta_wayInstead_87, slk, List.map_cons, List.map_nil, List.sum_cons, List.sum_nil, vc_i, vc_r, vc_n, vc_l, vc_o, Nat.add_zero, kO_e, kA_e, hdO_a, eq_self, blk, stp, lg, ls0, lk, ls1, ls2, kI_i, kL_l, kR_r, kR_n, kR_o, s1I_i, s2I_i, s1L_l, s2L_l, s1R_r, s1R_n, s1R_o, s1A_a, cmpc, popn, swt, rf_s, rf_n, cat_i, cat_r, cat_n, cat_l, true_and, and_true, List.length_cons, List.length_nil, Nat.zero_add, Int.reduceToNat, Nat.reduceAdd, Nat.reduceDiv, Nat.reduceMod, Nat.reduceMul, Nat.reduceSub, Nat.reduceLeDiff, Nat.reduceLT, Nat.reduceEqDiff, ↓reduceIte, r_gr_wi, r_gl_wi, r_gk_wi, r_gn_wi, r_wi_eq, r_wi_ne, r_wi_nj, r_gi_wr, r_gl_wr, r_gk_wr, r_gn_wr, r_gr_wa, r_gl_wa, r_gk_wa, r_gn_wa, aa_e, as_e, al_e, u_lt, u_le, u_gt, u_ge, u_lt0, u_le0, u_gt0, u_ge0, Classical.not_not, not_true_eq_false, not_false_eq_true, oi_n, oi_m, n_dec, nI_add, pk_mul, n_sub, n_eq, n_le, n_lt, n_eq0, n_lt0, n_le0, n_0lt, n_0le, n_eqm, m_eqn, n_ltm, n_and, n_or, n_xor, n_shl, n_shr, tb1, tb0, bP_1, bP_0, bP_n0, ix_n, inb_n, u_eq, u_eqm, (ta_k L hT).1, (ta_k L hT).2.1, (ta_k L hT).2.2.1, (ta_k L hT).2.2.2.1, (ta_k L hT).2.2.2.2.1, (ta_k L hT).2.2.2.2.2.1, (ta_k L hT).2.2.2.2.2.2.1, (ta_k L hT).2.2.2.2.2.2.2, (ta_r L hT).1, (ta_r L hT).2.1, (ta_r L hT).2.2.1, (ta_r L hT).2.2.2.1, (ta_r L hT).2.2.2.2.1, (ta_r L hT).2.2.2.2.2.1, (ta_r L hT).2.2.2.2.2.2.1, (ta_r L hT).2.2.2.2.2.2.2.1, (ta_r L hT).2.2.2.2.2.2.2.2.1, (ta_r L hT).2.2.2.2.2.2.2.2.2, k21 L, k42 L, k33 L, k32 L, f21_0 L, f21_1 L, f21_2 L, f21_3 L, ta_20 hT, ta_2k hT, h3H, ma_k MH, VH.1.2.1]
        refine wc (c_T_slot) ⟨by omega, by omega⟩ ?_
        simp (maxSteps := 1000000) (disch := omega) only [slk, List.map_cons, List.map_nil, List.sum_cons, List.sum_nil, vc_i, vc_r, vc_n, vc_l, vc_o, Nat.add_zero, kO_e, kA_e, hdO_a, eq_self, blk, stp, lg, ls0, lk, ls1, ls2, kI_i, kL_l, kR_r, kR_n, kR_o, s1I_i, s2I_i, s1L_l, s2L_l, s1R_r, s1R_n, s1R_o, s1A_a, cmpc, popn, swt, rf_s, rf_n, cat_i, cat_r, cat_n, cat_l, true_and, and_true, List.length_cons, List.length_nil, Nat.zero_add, Int.reduceToNat, Nat.reduceAdd, Nat.reduceDiv, Nat.reduceMod, Nat.reduceMul, Nat.reduceSub, Nat.reduceLeDiff, Nat.reduceLT, Nat.reduceEqDiff, ↓reduceIte, r_gr_wi, r_gl_wi, r_gk_wi, r_gn_wi, r_wi_eq, r_wi_ne, r_wi_nj, r_gi_wr, r_gl_wr, r_gk_wr, r_gn_wr, r_gr_wa, r_gl_wa, r_gk_wa, r_gn_wa, aa_e, as_e, al_e, u_lt, u_le, u_gt, u_ge, u_lt0, u_le0, u_gt0, u_ge0, Classical.not_not, not_true_eq_false, not_false_eq_true, oi_n, oi_m, n_dec, nI_add, pk_mul, n_sub, n_eq, n_le, n_lt, n_eq0, n_lt0, n_le0, n_0lt, n_0le, n_eqm, m_eqn, n_ltm, n_and, n_or, n_xor, n_shl, n_shr, tb1, tb0, bP_1, bP_0, bP_n0, ix_n, inb_n, u_eq, u_eqm, (ta_k L hT).1, (ta_k L hT).2.1, (ta_k L hT).2.2.1, (ta_k L hT).2.2.2.1, (ta_k L hT).2.2.2.2.1, (ta_k L hT).2.2.2.2.2.1, (ta_k L hT).2.2.2.2.2.2.1, (ta_k L hT).2.2.2.2.2.2.2, (ta_r L hT).1, (ta_r L hT).2.1, (ta_r L hT).2.2.1, (ta_r L hT).2.2.2.1, (ta_r L hT).2.2.2.2.1, (ta_r L hT).2.2.2.2.2.1, (ta_r L hT).2.2.2.2.2.2.1, (ta_r L hT).2.2.2.2.2.2.2.1, (ta_r L hT).2.2.2.2.2.2.2.2.1, (ta_r L hT).2.2.2.2.2.2.2.2.2, k21 L, k42 L, k33 L, k32 L, f21_0 L, f21_1 L, f21_2 L, f21_3 L, ta_20 hT, ta_2k hT, h3H, ma_k MH, VH.1.2.1]
        refine wc (c_Ma_holdOf W MH VH he (i := 4 * p + k) (by omega)) ⟨by omega, by omega⟩ ?_
        simp (maxSteps := 1000000) (disch := omega) only [slk, List.map_cons, List.map_nil, List.sum_cons, List.sum_nil, vc_i, vc_r, vc_n, vc_l, vc_o, Nat.add_zero, kO_e, kA_e, hdO_a, eq_self, blk, stp, lg, ls0, lk, ls1, ls2, kI_i, kL_l, kR_r, kR_n, kR_o, s1I_i, s2I_i, s1L_l, s2L_l, s1R_r, s1R_n, s1R_o, s1A_a, cmpc, popn, swt, rf_s, rf_n, cat_i, cat_r, cat_n, cat_l, true_and, and_true, List.length_cons, List.length_nil, Nat.zero_add, Int.reduceToNat, Nat.reduceAdd, Nat.reduceDiv, Nat.reduceMod, Nat.reduceMul, Nat.reduceSub, Nat.reduceLeDiff, Nat.reduceLT, Nat.reduceEqDiff, ↓reduceIte, r_gr_wi, r_gl_wi, r_gk_wi, r_gn_wi, r_wi_eq, r_wi_ne, r_wi_nj, r_gi_wr, r_gl_wr, r_gk_wr, r_gn_wr, r_gr_wa, r_gl_wa, r_gk_wa, r_gn_wa, aa_e, as_e, al_e, u_lt, u_le, u_gt, u_ge, u_lt0, u_le0, u_gt0, u_ge0, Classical.not_not, not_true_eq_false, not_false_eq_true, oi_n, oi_m, n_dec, nI_add, pk_mul, n_sub, n_eq, n_le, n_lt, n_eq0, n_lt0, n_le0, n_0lt, n_0le, n_eqm, m_eqn, n_ltm, n_and, n_or, n_xor, n_shl, n_shr, tb1, tb0, bP_1, bP_0, bP_n0, ix_n, inb_n, u_eq, u_eqm, (ta_k L hT).1, (ta_k L hT).2.1, (ta_k L hT).2.2.1, (ta_k L hT).2.2.2.1, (ta_k L hT).2.2.2.2.1, (ta_k L hT).2.2.2.2.2.1, (ta_k L hT).2.2.2.2.2.2.1, (ta_k L hT).2.2.2.2.2.2.2, (ta_r L hT).1, (ta_r L hT).2.1, (ta_r L hT).2.2.1, (ta_r L hT).2.2.2.1, (ta_r L hT).2.2.2.2.1, (ta_r L hT).2.2.2.2.2.1, (ta_r L hT).2.2.2.2.2.2.1, (ta_r L hT).2.2.2.2.2.2.2.1, (ta_r L hT).2.2.2.2.2.2.2.2.1, (ta_r L hT).2.2.2.2.2.2.2.2.2, k21 L, k42 L, k33 L, k32 L, f21_0 L, f21_1 L, f21_2 L, f21_3 L, ta_20 hT, ta_2k hT, h3H, ma_k MH, VH.1.2.1]
        refine ⟨fun q => ?_, fun q => ?_⟩
        · have e1 := no (fun z => z.1 q)
          exact nx _ _ _ (by rw [e1]) (by rw [e1])
        · have oh := oN_h (o := bstS s e m p w k) (f := fun q => s 114 (20 * (4 * e + m) + (4 * p + q))) (a := s 114 (20 * (4 * e + m) + (4 * p + k))) (fun q => by have := hl q; show s 114 _ < _; omega) (by omega)
          refine hP.1 _ _ s_Ta_wayInstead_109 _ _ _ _ _ ?_
          simp (maxSteps := 1000000) (disch := omega) only [g_Ta_wayInstead_109, slk, List.map_cons, List.map_nil, List.sum_cons, List.sum_nil, vc_i, vc_r, vc_n, vc_l, vc_o, Nat.add_zero, kO_e, kA_e, hdO_a, eq_self, blk, stp, lg, ls0, lk, ls1, ls2, kI_i, kL_l, kR_r, kR_n, kR_o, s1I_i, s2I_i, s1L_l, s2L_l, s1R_r, s1R_n, s1R_o, s1A_a, cmpc, popn, swt, rf_s, rf_n, cat_i, cat_r, cat_n, cat_l, true_and, and_true, List.length_cons, List.length_nil, Nat.zero_add, Int.reduceToNat, Nat.reduceAdd, Nat.reduceDiv, Nat.reduceMod, Nat.reduceMul, Nat.reduceSub, Nat.reduceLeDiff, Nat.reduceLT, Nat.reduceEqDiff, ↓reduceIte, r_gr_wi, r_gl_wi, r_gk_wi, r_gn_wi, r_wi_eq, r_wi_ne, r_wi_nj, r_gi_wr, r_gl_wr, r_gk_wr, r_gn_wr, r_gr_wa, r_gl_wa, r_gk_wa, r_gn_wa, aa_e, as_e, al_e, u_lt, u_le, u_gt, u_ge, u_lt0, u_le0, u_gt0, u_ge0, Classical.not_not, not_true_eq_false, not_false_eq_true, oi_n, oi_m, n_dec, nI_add, pk_mul, n_sub, n_eq, n_le, n_lt, n_eq0, n_lt0, n_le0, n_0lt, n_0le, n_eqm, m_eqn, n_ltm, n_and, n_or, n_xor, n_shl, n_shr, tb1, tb0, bP_1, bP_0, bP_n0, ix_n, inb_n, u_eq, u_eqm, (ta_k L hT).1, (ta_k L hT).2.1, (ta_k L hT).2.2.1, (ta_k L hT).2.2.2.1, (ta_k L hT).2.2.2.2.1, (ta_k L hT).2.2.2.2.2.1, (ta_k L hT).2.2.2.2.2.2.1, (ta_k L hT).2.2.2.2.2.2.2, (ta_r L hT).1, (ta_r L hT).2.1, (ta_r L hT).2.2.1, (ta_r L hT).2.2.2.1, (ta_r L hT).2.2.2.2.1, (ta_r L hT).2.2.2.2.2.1, (ta_r L hT).2.2.2.2.2.2.1, (ta_r L hT).2.2.2.2.2.2.2.1, (ta_r L hT).2.2.2.2.2.2.2.2.1, (ta_r L hT).2.2.2.2.2.2.2.2.2, k21 L, k42 L, k33 L, k32 L, f21_0 L, f21_1 L, f21_2 L, f21_3 L, ta_20 hT, ta_2k hT, h3H, ma_k MH, VH.1.2.1, oh]
          refine ⟨fun q2 => ?_, fun q2 => ?_⟩
          · have e1 := no (fun z => by
              obtain ⟨y, y1, y2⟩ := q2
              have := z.2 y y1
              omega)
            exact nx _ _ _ (by rw [e1]) (by rw [e1])
          · have e1 := yes ⟨q, fun y hy => by
              apply Classical.byContradiction
              intro z
              exact q2 ⟨y, hy, by omega⟩⟩
            refine hP.1 _ _ s_Ta_wayInstead_116 _ _ _ _ _ ?_
            simp (maxSteps := 1000000) (disch := omega) only [g_Ta_wayInstead_116, slk, List.map_cons, List.map_nil, List.sum_cons, List.sum_nil, vc_i, vc_r, vc_n, vc_l, vc_o, Nat.add_zero, kO_e, kA_e, hdO_a, eq_self, blk, stp, lg, ls0, lk, ls1, ls2, kI_i, kL_l, kR_r, kR_n, kR_o, s1I_i, s2I_i, s1L_l, s2L_l, s1R_r, s1R_n, s1R_o, s1A_a, cmpc, popn, swt, rf_s, rf_n, cat_i, cat_r, cat_n, cat_l, true_and, and_true, List.length_cons, List.length_nil, Nat.zero_add, Int.reduceToNat, Nat.reduceAdd, Nat.reduceDiv, Nat.reduceMod, Nat.reduceMul, Nat.reduceSub, Nat.reduceLeDiff, Nat.reduceLT, Nat.reduceEqDiff, ↓reduceIte, r_gr_wi, r_gl_wi, r_gk_wi, r_gn_wi, r_wi_eq, r_wi_ne, r_wi_nj, r_gi_wr, r_gl_wr, r_gk_wr, r_gn_wr, r_gr_wa, r_gl_wa, r_gk_wa, r_gn_wa, aa_e, as_e, al_e, u_lt, u_le, u_gt, u_ge, u_lt0, u_le0, u_gt0, u_ge0, Classical.not_not, not_true_eq_false, not_false_eq_true, oi_n, oi_m, n_dec, nI_add, pk_mul, n_sub, n_eq, n_le, n_lt, n_eq0, n_lt0, n_le0, n_0lt, n_0le, n_eqm, m_eqn, n_ltm, n_and, n_or, n_xor, n_shl, n_shr, tb1, tb0, bP_1, bP_0, bP_n0, ix_n, inb_n, u_eq, u_eqm, (ta_k L hT).1, (ta_k L hT).2.1, (ta_k L hT).2.2.1, (ta_k L hT).2.2.2.1, (ta_k L hT).2.2.2.2.1, (ta_k L hT).2.2.2.2.2.1, (ta_k L hT).2.2.2.2.2.2.1, (ta_k L hT).2.2.2.2.2.2.2, (ta_r L hT).1, (ta_r L hT).2.1, (ta_r L hT).2.2.1, (ta_r L hT).2.2.2.1, (ta_r L hT).2.2.2.2.1, (ta_r L hT).2.2.2.2.2.1, (ta_r L hT).2.2.2.2.2.2.1, (ta_r L hT).2.2.2.2.2.2.2.1, (ta_r L hT).2.2.2.2.2.2.2.2.1, (ta_r L hT).2.2.2.2.2.2.2.2.2, k21 L, k42 L, k33 L, k32 L, f21_0 L, f21_1 L, f21_2 L, f21_3 L, ta_20 hT, ta_2k hT, h3H, ma_k MH, VH.1.2.1, oh]
            exact nx _ _ _ (by rw [e1]; rfl) (by rw [e1]; rfl)
  refine hP.1 _ _ s_Ta_wayInstead_0 _ _ _ _ _ ?_
  simp (maxSteps := 1000000) (disch := omega) only [g_Ta_wayInstead_0, slk, List.map_cons, List.map_nil, List.sum_cons, List.sum_nil, vc_i, vc_r, vc_n, vc_l, vc_o, Nat.add_zero, kO_e, kA_e, hdO_a, eq_self, blk, stp, lg, ls0, lk, ls1, ls2, kI_i, kL_l, kR_r, kR_n, kR_o, s1I_i, s2I_i, s1L_l, s2L_l, s1R_r, s1R_n, s1R_o, s1A_a, cmpc, popn, swt, rf_s, rf_n, cat_i, cat_r, cat_n, cat_l, true_and, and_true, List.length_cons, List.length_nil, Nat.zero_add, Int.reduceToNat, Nat.reduceAdd, Nat.reduceDiv, Nat.reduceMod, Nat.reduceMul, Nat.reduceSub, Nat.reduceLeDiff, Nat.reduceLT, Nat.reduceEqDiff, ↓reduceIte, r_gr_wi, r_gl_wi, r_gk_wi, r_gn_wi, r_wi_eq, r_wi_ne, r_wi_nj, r_gi_wr, r_gl_wr, r_gk_wr, r_gn_wr, r_gr_wa, r_gl_wa, r_gk_wa, r_gn_wa, aa_e, as_e, al_e, u_lt, u_le, u_gt, u_ge, u_lt0, u_le0, u_gt0, u_ge0, Classical.not_not, not_true_eq_false, not_false_eq_true, oi_n, oi_m, n_dec, nI_add, pk_mul, n_sub, n_eq, n_le, n_lt, n_eq0, n_lt0, n_le0, n_0lt, n_0le, n_eqm, m_eqn, n_ltm, n_and, n_or, n_xor, n_shl, n_shr, tb1, tb0, bP_1, bP_0, bP_n0, ix_n, inb_n, u_eq, u_eqm, (ta_k L hT).1, (ta_k L hT).2.1, (ta_k L hT).2.2.1, (ta_k L hT).2.2.2.1, (ta_k L hT).2.2.2.2.1, (ta_k L hT).2.2.2.2.2.1, (ta_k L hT).2.2.2.2.2.2.1, (ta_k L hT).2.2.2.2.2.2.2, (ta_r L hT).1, (ta_r L hT).2.1, (ta_r L hT).2.2.1, (ta_r L hT).2.2.2.1, (ta_r L hT).2.2.2.2.1, (ta_r L hT).2.2.2.2.2.1, (ta_r L hT).2.2.2.2.2.2.1, (ta_r L hT).2.2.2.2.2.2.2.1, (ta_r L hT).2.2.2.2.2.2.2.2.1, (ta_r L hT).2.2.2.2.2.2.2.2.2, k21 L, k42 L, k33 L, k32 L, f21_0 L, f21_1 L, f21_2 L, f21_3 L, ta_20 hT, ta_2k hT, h3, ma_k M, h13]
  refine wc (c_Ma_wayIn W M V hm hg hp) ⟨by omega, by omega⟩ ?_
  simp (maxSteps := 1000000) (disch := omega) only [slk, List.map_cons, List.map_nil, List.sum_cons, List.sum_nil, vc_i, vc_r, vc_n, vc_l, vc_o, Nat.add_zero, kO_e, kA_e, hdO_a, eq_self, blk, stp, lg, ls0, lk, ls1, ls2, kI_i, kL_l, kR_r, kR_n, kR_o, s1I_i, s2I_i, s1L_l, s2L_l, s1R_r, s1R_n, s1R_o, s1A_a, cmpc, popn, swt, rf_s, rf_n, cat_i, cat_r, cat_n, cat_l, true_and, and_true, List.length_cons, List.length_nil, Nat.zero_add, Int.reduceToNat, Nat.reduceAdd, Nat.reduceDiv, Nat.reduceMod, Nat.reduceMul, Nat.reduceSub, Nat.reduceLeDiff, Nat.reduceLT, Nat.reduceEqDiff, ↓reduceIte, r_gr_wi, r_gl_wi, r_gk_wi, r_gn_wi, r_wi_eq, r_wi_ne, r_wi_nj, r_gi_wr, r_gl_wr, r_gk_wr, r_gn_wr, r_gr_wa, r_gl_wa, r_gk_wa, r_gn_wa, aa_e, as_e, al_e, u_lt, u_le, u_gt, u_ge, u_lt0, u_le0, u_gt0, u_ge0, Classical.not_not, not_true_eq_false, not_false_eq_true, oi_n, oi_m, n_dec, nI_add, pk_mul, n_sub, n_eq, n_le, n_lt, n_eq0, n_lt0, n_le0, n_0lt, n_0le, n_eqm, m_eqn, n_ltm, n_and, n_or, n_xor, n_shl, n_shr, tb1, tb0, bP_1, bP_0, bP_n0, ix_n, inb_n, u_eq, u_eqm, (ta_k L hT).1, (ta_k L hT).2.1, (ta_k L hT).2.2.1, (ta_k L hT).2.2.2.1, (ta_k L hT).2.2.2.2.1, (ta_k L hT).2.2.2.2.2.1, (ta_k L hT).2.2.2.2.2.2.1, (ta_k L hT).2.2.2.2.2.2.2, (ta_r L hT).1, (ta_r L hT).2.1, (ta_r L hT).2.2.1, (ta_r L hT).2.2.2.1, (ta_r L hT).2.2.2.2.1, (ta_r L hT).2.2.2.2.2.1, (ta_r L hT).2.2.2.2.2.2.1, (ta_r L hT).2.2.2.2.2.2.2.1, (ta_r L hT).2.2.2.2.2.2.2.2.1, (ta_r L hT).2.2.2.2.2.2.2.2.2, k21 L, k42 L, k33 L, k32 L, f21_0 L, f21_1 L, f21_2 L, f21_3 L, ta_20 hT, ta_2k hT, h3, ma_k M, h13]
  rw [ew]
  refine ⟨_, _, _, c_Sc_mind W E TL (fun _ _ _ => rfl) he (lb := 99) (by omega), ⟨by omega, by omega⟩, ?_⟩
  rintro r H ⟨rfl, F44⟩
  have F : Fp XSc h2 H := F44.mono x44
  have L := F.lay L
  have EH := F.ev E (fun a q => by unfold XSc at q; omega)
  have MH := EH.2.2.1
  have VH := EH.2.2.2.1
  have h3H : gr H T 3 = some b := by rw [F.gr]; exact h3
  have i0 : (Int64.ofInt 0).toInt = 0 := by decide
  have best : ∀ x : Int64, insS s e m p w ps = bb → P 66 [some (.ref T), some (.int (nI e)), some (.int (nI p)), some (.int (nI w)), some (.long x), none, none, none, none, none] [] H 0 0 := by
    intro x ei
    refine hP.1 _ _ s_Ta_wayInstead_66 _ _ _ _ _ ?_
    simp (maxSteps := 1000000) (disch := omega) only [g_Ta_wayInstead_66, slk, List.map_cons, List.map_nil, List.sum_cons, List.sum_nil, vc_i, vc_r, vc_n, vc_l, vc_o, Nat.add_zero, kO_e, kA_e, hdO_a, eq_self, blk, stp, lg, ls0, lk, ls1, ls2, kI_i, kL_l, kR_r, kR_n, kR_o, s1I_i, s2I_i, s1L_l, s2L_l, s1R_r, s1R_n, s1R_o, s1A_a, cmpc, popn, swt, rf_s, rf_n, cat_i, cat_r, cat_n, cat_l, true_and, and_true, List.length_cons, List.length_nil, Nat.zero_add, Int.reduceToNat, Nat.reduceAdd, Nat.reduceDiv, Nat.reduceMod, Nat.reduceMul, Nat.reduceSub, Nat.reduceLeDiff, Nat.reduceLT, Nat.reduceEqDiff, ↓reduceIte, r_gr_wi, r_gl_wi, r_gk_wi, r_gn_wi, r_wi_eq, r_wi_ne, r_wi_nj, r_gi_wr, r_gl_wr, r_gk_wr, r_gn_wr, r_gr_wa, r_gl_wa, r_gk_wa, r_gn_wa, aa_e, as_e, al_e, u_lt, u_le, u_gt, u_ge, u_lt0, u_le0, u_gt0, u_ge0, Classical.not_not, not_true_eq_false, not_false_eq_true, oi_n, oi_m, n_dec, nI_add, pk_mul, n_sub, n_eq, n_le, n_lt, n_eq0, n_lt0, n_le0, n_0lt, n_0le, n_eqm, m_eqn, n_ltm, n_and, n_or, n_xor, n_shl, n_shr, tb1, tb0, bP_1, bP_0, bP_n0, ix_n, inb_n, u_eq, u_eqm, (ta_k L hT).1, (ta_k L hT).2.1, (ta_k L hT).2.2.1, (ta_k L hT).2.2.2.1, (ta_k L hT).2.2.2.2.1, (ta_k L hT).2.2.2.2.2.1, (ta_k L hT).2.2.2.2.2.2.1, (ta_k L hT).2.2.2.2.2.2.2, (ta_r L hT).1, (ta_r L hT).2.1, (ta_r L hT).2.2.1, (ta_r L hT).2.2.2.1, (ta_r L hT).2.2.2.2.1, (ta_r L hT).2.2.2.2.2.1, (ta_r L hT).2.2.2.2.2.2.1, (ta_r L hT).2.2.2.2.2.2.2.1, (ta_r L hT).2.2.2.2.2.2.2.2.1, (ta_r L hT).2.2.2.2.2.2.2.2.2, k21 L, k42 L, k33 L, k32 L, f21_0 L, f21_1 L, f21_2 L, f21_3 L, ta_20 hT, ta_2k hT, h3, ma_k M, h13]
    exact loop H F ei (s 113 m) 0 x none (Nat.zero_add _)
  simp (maxSteps := 1000000) (disch := omega) only [slk, List.map_cons, List.map_nil, List.sum_cons, List.sum_nil, vc_i, vc_r, vc_n, vc_l, vc_o, Nat.add_zero, kO_e, kA_e, hdO_a, eq_self, blk, stp, lg, ls0, lk, ls1, ls2, kI_i, kL_l, kR_r, kR_n, kR_o, s1I_i, s2I_i, s1L_l, s2L_l, s1R_r, s1R_n, s1R_o, s1A_a, cmpc, popn, swt, rf_s, rf_n, cat_i, cat_r, cat_n, cat_l, true_and, and_true, List.length_cons, List.length_nil, Nat.zero_add, Int.reduceToNat, Nat.reduceAdd, Nat.reduceDiv, Nat.reduceMod, Nat.reduceMul, Nat.reduceSub, Nat.reduceLeDiff, Nat.reduceLT, Nat.reduceEqDiff, ↓reduceIte, r_gr_wi, r_gl_wi, r_gk_wi, r_gn_wi, r_wi_eq, r_wi_ne, r_wi_nj, r_gi_wr, r_gl_wr, r_gk_wr, r_gn_wr, r_gr_wa, r_gl_wa, r_gk_wa, r_gn_wa, aa_e, as_e, al_e, u_lt, u_le, u_gt, u_ge, u_lt0, u_le0, u_gt0, u_ge0, Classical.not_not, not_true_eq_false, not_false_eq_true, oi_n, oi_m, n_dec, nI_add, pk_mul, n_sub, n_eq, n_le, n_lt, n_eq0, n_lt0, n_le0, n_0lt, n_0le, n_eqm, m_eqn, n_ltm, n_and, n_or, n_xor, n_shl, n_shr, tb1, tb0, bP_1, bP_0, bP_n0, ix_n, inb_n, u_eq, u_eqm, (ta_k L hT).1, (ta_k L hT).2.1, (ta_k L hT).2.2.1, (ta_k L hT).2.2.2.1, (ta_k L hT).2.2.2.2.1, (ta_k L hT).2.2.2.2.2.1, (ta_k L hT).2.2.2.2.2.2.1, (ta_k L hT).2.2.2.2.2.2.2, (ta_r L hT).1, (ta_r L hT).2.1, (ta_r L hT).2.2.1, (ta_r L hT).2.2.2.1, (ta_r L hT).2.2.2.2.1, (ta_r L hT).2.2.2.2.2.1, (ta_r L hT).2.2.2.2.2.2.1, (ta_r L hT).2.2.2.2.2.2.2.1, (ta_r L hT).2.2.2.2.2.2.2.2.1, (ta_r L hT).2.2.2.2.2.2.2.2.2, k21 L, k42 L, k33 L, k32 L, f21_0 L, f21_1 L, f21_2 L, f21_3 L, ta_20 hT, ta_2k hT, h3H, ma_k MH, VH.1.2.1, lc_lt0, i0]
  cases eo2 : mindW s e 99 ps with
  | none =>
    have ei := (es _ eo2).trans eo
    have iN : (wgL none).toInt = 1099511627776 := by decide
    refine ⟨fun _ => best _ ei, fun q => ?_⟩
    have i1 : (nI (s 113 m)).toInt64.toInt = (s 113 m : Int) := by rw [Int32.toInt_toInt64, nI_toInt (by omega)]
    refine hP.1 _ _ s_Ta_wayInstead_40 _ _ _ _ _ ?_
    simp (maxSteps := 1000000) (disch := omega) only [g_Ta_wayInstead_40, slk, List.map_cons, List.map_nil, List.sum_cons, List.sum_nil, vc_i, vc_r, vc_n, vc_l, vc_o, Nat.add_zero, kO_e, kA_e, hdO_a, eq_self, blk, stp, lg, ls0, lk, ls1, ls2, kI_i, kL_l, kR_r, kR_n, kR_o, s1I_i, s2I_i, s1L_l, s2L_l, s1R_r, s1R_n, s1R_o, s1A_a, cmpc, popn, swt, rf_s, rf_n, cat_i, cat_r, cat_n, cat_l, true_and, and_true, List.length_cons, List.length_nil, Nat.zero_add, Int.reduceToNat, Nat.reduceAdd, Nat.reduceDiv, Nat.reduceMod, Nat.reduceMul, Nat.reduceSub, Nat.reduceLeDiff, Nat.reduceLT, Nat.reduceEqDiff, ↓reduceIte, r_gr_wi, r_gl_wi, r_gk_wi, r_gn_wi, r_wi_eq, r_wi_ne, r_wi_nj, r_gi_wr, r_gl_wr, r_gk_wr, r_gn_wr, r_gr_wa, r_gl_wa, r_gk_wa, r_gn_wa, aa_e, as_e, al_e, u_lt, u_le, u_gt, u_ge, u_lt0, u_le0, u_gt0, u_ge0, Classical.not_not, not_true_eq_false, not_false_eq_true, oi_n, oi_m, n_dec, nI_add, pk_mul, n_sub, n_eq, n_le, n_lt, n_eq0, n_lt0, n_le0, n_0lt, n_0le, n_eqm, m_eqn, n_ltm, n_and, n_or, n_xor, n_shl, n_shr, tb1, tb0, bP_1, bP_0, bP_n0, ix_n, inb_n, u_eq, u_eqm, (ta_k L hT).1, (ta_k L hT).2.1, (ta_k L hT).2.2.1, (ta_k L hT).2.2.2.1, (ta_k L hT).2.2.2.2.1, (ta_k L hT).2.2.2.2.2.1, (ta_k L hT).2.2.2.2.2.2.1, (ta_k L hT).2.2.2.2.2.2.2, (ta_r L hT).1, (ta_r L hT).2.1, (ta_r L hT).2.2.1, (ta_r L hT).2.2.2.1, (ta_r L hT).2.2.2.2.1, (ta_r L hT).2.2.2.2.2.1, (ta_r L hT).2.2.2.2.2.2.1, (ta_r L hT).2.2.2.2.2.2.2.1, (ta_r L hT).2.2.2.2.2.2.2.2.1, (ta_r L hT).2.2.2.2.2.2.2.2.2, k21 L, k42 L, k33 L, k32 L, f21_0 L, f21_1 L, f21_2 L, f21_3 L, ta_20 hT, ta_2k hT, h3H, ma_k MH, VH.1.2.1, lc_ge0, i1, iN]
    refine ⟨fun _ => best _ ei, fun q2 => absurd q2 ?_⟩
    omega
  | some v =>
    have ei := es _ eo2
    dsimp only at ei
    rw [eo] at ei
    have vt := wgL_t v
    have vb := i32_b v
    have tl := tn_lt v
    have et : (tn v : Int) = if v.toInt < 0 then v.toInt + 4294967296 else v.toInt := by
      have h1 := nI_tn v
      rcases Nat.lt_or_ge (tn v) 2147483648 with q | q
      · have h2 := nI_toInt (n := tn v) (by omega)
        rw [h1] at h2
        rw [if_neg (by omega), h2]
      · have h2 := u_neg q tl
        rw [h1] at h2
        rw [if_pos (by omega), h2]
        omega
    refine ⟨fun q => best _ ?_, fun q => ?_⟩
    · rw [vt] at q
      rw [if_pos q] at et
      rw [ei, if_neg (fun z => by have := z.1; omega)]
    · rw [vt] at q
      rw [if_neg q] at et
      have i1 : (nI (s 113 m)).toInt64.toInt = (s 113 m : Int) := by rw [Int32.toInt_toInt64, nI_toInt (by omega)]
      have i2 : (nI w).toInt64.toInt = (w : Int) := by rw [Int32.toInt_toInt64, nI_toInt (by omega)]
      refine hP.1 _ _ s_Ta_wayInstead_40 _ _ _ _ _ ?_
      simp (maxSteps := 1000000) (disch := omega) only [g_Ta_wayInstead_40, slk, List.map_cons, List.map_nil, List.sum_cons, List.sum_nil, vc_i, vc_r, vc_n, vc_l, vc_o, Nat.add_zero, kO_e, kA_e, hdO_a, eq_self, blk, stp, lg, ls0, lk, ls1, ls2, kI_i, kL_l, kR_r, kR_n, kR_o, s1I_i, s2I_i, s1L_l, s2L_l, s1R_r, s1R_n, s1R_o, s1A_a, cmpc, popn, swt, rf_s, rf_n, cat_i, cat_r, cat_n, cat_l, true_and, and_true, List.length_cons, List.length_nil, Nat.zero_add, Int.reduceToNat, Nat.reduceAdd, Nat.reduceDiv, Nat.reduceMod, Nat.reduceMul, Nat.reduceSub, Nat.reduceLeDiff, Nat.reduceLT, Nat.reduceEqDiff, ↓reduceIte, r_gr_wi, r_gl_wi, r_gk_wi, r_gn_wi, r_wi_eq, r_wi_ne, r_wi_nj, r_gi_wr, r_gl_wr, r_gk_wr, r_gn_wr, r_gr_wa, r_gl_wa, r_gk_wa, r_gn_wa, aa_e, as_e, al_e, u_lt, u_le, u_gt, u_ge, u_lt0, u_le0, u_gt0, u_ge0, Classical.not_not, not_true_eq_false, not_false_eq_true, oi_n, oi_m, n_dec, nI_add, pk_mul, n_sub, n_eq, n_le, n_lt, n_eq0, n_lt0, n_le0, n_0lt, n_0le, n_eqm, m_eqn, n_ltm, n_and, n_or, n_xor, n_shl, n_shr, tb1, tb0, bP_1, bP_0, bP_n0, ix_n, inb_n, u_eq, u_eqm, (ta_k L hT).1, (ta_k L hT).2.1, (ta_k L hT).2.2.1, (ta_k L hT).2.2.2.1, (ta_k L hT).2.2.2.2.1, (ta_k L hT).2.2.2.2.2.1, (ta_k L hT).2.2.2.2.2.2.1, (ta_k L hT).2.2.2.2.2.2.2, (ta_r L hT).1, (ta_r L hT).2.1, (ta_r L hT).2.2.1, (ta_r L hT).2.2.2.1, (ta_r L hT).2.2.2.2.1, (ta_r L hT).2.2.2.2.2.1, (ta_r L hT).2.2.2.2.2.2.1, (ta_r L hT).2.2.2.2.2.2.2.1, (ta_r L hT).2.2.2.2.2.2.2.2.1, (ta_r L hT).2.2.2.2.2.2.2.2.2, k21 L, k42 L, k33 L, k32 L, f21_0 L, f21_1 L, f21_2 L, f21_3 L, ta_20 hT, ta_2k hT, h3H, ma_k MH, VH.1.2.1, lc_ge0, lc_eq0, i1, i2, vt]
      refine ⟨fun q2 => best _ ?_, fun q2 => ?_⟩
      · rw [ei, if_neg (fun z => by have := z.1; omega)]
      · refine hP.1 _ _ s_Ta_wayInstead_54 _ _ _ _ _ ?_
        simp (maxSteps := 1000000) (disch := omega) only [g_Ta_wayInstead_54, slk, List.map_cons, List.map_nil, List.sum_cons, List.sum_nil, vc_i, vc_r, vc_n, vc_l, vc_o, Nat.add_zero, kO_e, kA_e, hdO_a, eq_self, blk, stp, lg, ls0, lk, ls1, ls2, kI_i, kL_l, kR_r, kR_n, kR_o, s1I_i, s2I_i, s1L_l, s2L_l, s1R_r, s1R_n, s1R_o, s1A_a, cmpc, popn, swt, rf_s, rf_n, cat_i, cat_r, cat_n, cat_l, true_and, and_true, List.length_cons, List.length_nil, Nat.zero_add, Int.reduceToNat, Nat.reduceAdd, Nat.reduceDiv, Nat.reduceMod, Nat.reduceMul, Nat.reduceSub, Nat.reduceLeDiff, Nat.reduceLT, Nat.reduceEqDiff, ↓reduceIte, r_gr_wi, r_gl_wi, r_gk_wi, r_gn_wi, r_wi_eq, r_wi_ne, r_wi_nj, r_gi_wr, r_gl_wr, r_gk_wr, r_gn_wr, r_gr_wa, r_gl_wa, r_gk_wa, r_gn_wa, aa_e, as_e, al_e, u_lt, u_le, u_gt, u_ge, u_lt0, u_le0, u_gt0, u_ge0, Classical.not_not, not_true_eq_false, not_false_eq_true, oi_n, oi_m, n_dec, nI_add, pk_mul, n_sub, n_eq, n_le, n_lt, n_eq0, n_lt0, n_le0, n_0lt, n_0le, n_eqm, m_eqn, n_ltm, n_and, n_or, n_xor, n_shl, n_shr, tb1, tb0, bP_1, bP_0, bP_n0, ix_n, inb_n, u_eq, u_eqm, (ta_k L hT).1, (ta_k L hT).2.1, (ta_k L hT).2.2.1, (ta_k L hT).2.2.2.1, (ta_k L hT).2.2.2.2.1, (ta_k L hT).2.2.2.2.2.1, (ta_k L hT).2.2.2.2.2.2.1, (ta_k L hT).2.2.2.2.2.2.2, (ta_r L hT).1, (ta_r L hT).2.1, (ta_r L hT).2.2.1, (ta_r L hT).2.2.2.1, (ta_r L hT).2.2.2.2.1, (ta_r L hT).2.2.2.2.2.1, (ta_r L hT).2.2.2.2.2.2.1, (ta_r L hT).2.2.2.2.2.2.2.1, (ta_r L hT).2.2.2.2.2.2.2.2.1, (ta_r L hT).2.2.2.2.2.2.2.2.2, k21 L, k42 L, k33 L, k32 L, f21_0 L, f21_1 L, f21_2 L, f21_3 L, ta_20 hT, ta_2k hT, h3H, ma_k MH, VH.1.2.1, lc_ge0, lc_eq0, i1, i2, vt]
        refine ⟨fun q3 => best _ ?_, fun q3 => ?_⟩
        · rw [ei, if_neg (fun z => by have := z.2; omega)]
        · refine hP.1 _ _ s_Ta_wayInstead_62 _ _ _ _ _ ?_
          simp (maxSteps := 1000000) (disch := omega) only [g_Ta_wayInstead_62, slk, List.map_cons, List.map_nil, List.sum_cons, List.sum_nil, vc_i, vc_r, vc_n, vc_l, vc_o, Nat.add_zero, kO_e, kA_e, hdO_a, eq_self, blk, stp, lg, ls0, lk, ls1, ls2, kI_i, kL_l, kR_r, kR_n, kR_o, s1I_i, s2I_i, s1L_l, s2L_l, s1R_r, s1R_n, s1R_o, s1A_a, cmpc, popn, swt, rf_s, rf_n, cat_i, cat_r, cat_n, cat_l, true_and, and_true, List.length_cons, List.length_nil, Nat.zero_add, Int.reduceToNat, Nat.reduceAdd, Nat.reduceDiv, Nat.reduceMod, Nat.reduceMul, Nat.reduceSub, Nat.reduceLeDiff, Nat.reduceLT, Nat.reduceEqDiff, ↓reduceIte, r_gr_wi, r_gl_wi, r_gk_wi, r_gn_wi, r_wi_eq, r_wi_ne, r_wi_nj, r_gi_wr, r_gl_wr, r_gk_wr, r_gn_wr, r_gr_wa, r_gl_wa, r_gk_wa, r_gn_wa, aa_e, as_e, al_e, u_lt, u_le, u_gt, u_ge, u_lt0, u_le0, u_gt0, u_ge0, Classical.not_not, not_true_eq_false, not_false_eq_true, oi_n, oi_m, n_dec, nI_add, pk_mul, n_sub, n_eq, n_le, n_lt, n_eq0, n_lt0, n_le0, n_0lt, n_0le, n_eqm, m_eqn, n_ltm, n_and, n_or, n_xor, n_shl, n_shr, tb1, tb0, bP_1, bP_0, bP_n0, ix_n, inb_n, u_eq, u_eqm, (ta_k L hT).1, (ta_k L hT).2.1, (ta_k L hT).2.2.1, (ta_k L hT).2.2.2.1, (ta_k L hT).2.2.2.2.1, (ta_k L hT).2.2.2.2.2.1, (ta_k L hT).2.2.2.2.2.2.1, (ta_k L hT).2.2.2.2.2.2.2, (ta_r L hT).1, (ta_r L hT).2.1, (ta_r L hT).2.2.1, (ta_r L hT).2.2.2.1, (ta_r L hT).2.2.2.2.1, (ta_r L hT).2.2.2.2.2.1, (ta_r L hT).2.2.2.2.2.2.1, (ta_r L hT).2.2.2.2.2.2.2.1, (ta_r L hT).2.2.2.2.2.2.2.2.1, (ta_r L hT).2.2.2.2.2.2.2.2.2, k21 L, k42 L, k33 L, k32 L, f21_0 L, f21_1 L, f21_2 L, f21_3 L, ta_20 hT, ta_2k hT, h3H, ma_k MH, VH.1.2.1, lc_ge0, lc_eq0, i1, i2, vt]
          rw [r_Ta_wayInstead]
          exact ⟨trivial, by rw [ei, if_pos ⟨by omega, by omega⟩, nI_tn, wgL_32], F⟩
/-- the minds that are left of su behind the looks L -/
def suR (s : St) (su su2 : Nat) (L : List Lk) : Prop := su2 < 2 ^ s 107 30 ∧ ∀ k, su2.testBit k = true ↔ su.testBit k = true ∧ ∀ y ∈ L, mdX s y k
theorem suR_nil {s : St} {su : Nat} (h : su < 2 ^ s 107 30) : suR s su su [] := ⟨h, fun k => ⟨fun q => ⟨q, fun y hy => by cases hy⟩, fun q => q.1⟩⟩
theorem suR_app {s : St} {su a c : Nat} {L1 L2 : List Lk} (h1 : suR s su a L1) (h2 : suR s a c L2) : suR s su c (L1 ++ L2) := by
  refine ⟨h2.1, fun k => ?_⟩
  rw [h2.2, h1.2]
  constructor
  · rintro ⟨⟨q1, q2⟩, q3⟩
    refine ⟨q1, fun y hy => ?_⟩
    rcases List.mem_append.mp hy with z | z
    · exact q2 y z
    · exact q3 y z
  · rintro ⟨q1, q2⟩
    exact ⟨⟨q1, fun y hy => q2 y (List.mem_append.mpr (Or.inl hy))⟩, fun y hy => q2 y (List.mem_append.mpr (Or.inr hy))⟩
def PSi (h : AH) (s : St) (T su : Nat) (y : Lk) (r : Option (Option Value)) (h' : AH) : Prop := r = some none ∧ Fp (fun a => a = 44 ∨ a = T) h h' ∧ (∀ j, j ≠ 18 → gi h' T j = gi h T j) ∧ ∃ su2, gi h' T 18 = nI su2 ∧ suR s su su2 [y]
theorem c_Ta_sift (W : RH h s) {h2 : AH} (E : EV h2 s m b) (hm : m < s 107 19) {T : Nat} (hT : isT T) (h3 : gr h2 T 3 = some b) {g e p su : Nat} {y : Lk} (h13 : gi h2 T 13 = nI g) (TL : LTC h2 (ltF y.1)) (he : e < s 107 18) (hp : p < s 112 m) (hg : isPr s m g) (h18 : gi h2 T 18 = nI su) (hsu : su < 2 ^ s 107 30) {no : Prop} (y1 : 1 < y.2 ↔ plP s e m p g) (y2 : y.2 % 2 = 1 ↔ no) : Mz (d + 3) 225 [.ref T, .int (nI e), .int (nI p), .int (bP no)] h2 0 0 (PSi h2 s T su y) := by
  have tb := ta_b hT
  have b1 := rs_e W
  have b2 := rs_minds W
  have pw : 2 ^ s 107 30 ≤ 256 := Nat.pow_le_pow_right (n := 2) (by omega) b2
  have L0 := E.1
  refine mz_in (l := [some (.ref T), some (.int (nI e)), some (.int (nI p)), some (.int (bP no)), none]) mk_Ta_sift n_Ta_sift rfl l_Ta_sift rfl (Nat.le_of_ble_eq_true rfl) fun P hP => ?_
  have loop : ∀ n k, k + n = 8 → ∀ H bs, Fp (fun a => a = 44 ∨ a = T) h2 H → (∀ j, j ≠ 18 → gi H T j = gi h2 T j) → gi H T 18 = nI bs → (∀ j, bs.testBit j = true ↔ su.testBit j = true ∧ (j < k → mdX s y j)) → P 3 [some (.ref T), some (.int (nI e)), some (.int (nI p)), some (.int (bP no)), some (.int (nI k))] [] H 0 0 := by
    intro n
    induction n using Nat.strongRecOn with
    | _ n ih =>
      intro k hk H bs F hj h18 hb
      have L := F.lay L0
      have bl : bs < 2 ^ s 107 30 := by
        rw [lt_pow_bit] at hsu ⊢
        intro i hi
        have := hsu i hi
        cases q : bs.testBit i with
        | false => rfl
        | true =>
          have := ((hb i).mp q).1
          rw [hsu i hi] at this
          cases this
      refine hP.1 _ _ s_Ta_sift_3 _ _ _ _ _ ?_
      simp (maxSteps := 1000000) (disch := omega) only [g_Ta_sift_3, slk, List.map_cons, List.map_nil, List.sum_cons, List.sum_nil, vc_i, vc_r, vc_n, vc_l, vc_o, Nat.add_zero, kO_e, kA_e, hdO_a, eq_self, blk, stp, lg, ls0, lk, ls1, ls2, kI_i, kL_l, kR_r, kR_n, kR_o, s1I_i, s2I_i, s1L_l, s2L_l, s1R_r, s1R_n, s1R_o, s1A_a, cmpc, popn, swt, rf_s, rf_n, cat_i, cat_r, cat_n, cat_l, true_and, and_true, List.length_cons, List.length_nil, Nat.zero_add, Int.reduceToNat, Nat.reduceAdd, Nat.reduceDiv, Nat.reduceMod, Nat.reduceMul, Nat.reduceSub, Nat.reduceLeDiff, Nat.reduceLT, Nat.reduceEqDiff, ↓reduceIte, r_gr_wi, r_gl_wi, r_gk_wi, r_gn_wi, r_wi_eq, r_wi_ne, r_wi_nj, r_gi_wr, r_gl_wr, r_gk_wr, r_gn_wr, r_gr_wa, r_gl_wa, r_gk_wa, r_gn_wa, aa_e, as_e, al_e, u_lt, u_le, u_gt, u_ge, u_lt0, u_le0, u_gt0, u_ge0, Classical.not_not, not_true_eq_false, not_false_eq_true, oi_n, oi_m, n_dec, nI_add, pk_mul, n_sub, n_eq, n_le, n_lt, n_eq0, n_lt0, n_le0, n_0lt, n_0le, n_eqm, m_eqn, n_ltm, n_and, n_or, n_xor, n_shl, n_shr, tb1, tb0, bP_1, bP_0, bP_n0, ix_n, inb_n, u_eq, u_eqm, (ta_k L hT).1, (ta_k L hT).2.1, (ta_k L hT).2.2.1, (ta_k L hT).2.2.2.1, (ta_k L hT).2.2.2.2.1, (ta_k L hT).2.2.2.2.2.1, (ta_k L hT).2.2.2.2.2.2.1, (ta_k L hT).2.2.2.2.2.2.2, (ta_r L hT).1, (ta_r L hT).2.1, (ta_r L hT).2.2.1, (ta_r L hT).2.2.2.1, (ta_r L hT).2.2.2.2.1, (ta_r L hT).2.2.2.2.2.1, (ta_r L hT).2.2.2.2.2.2.1, (ta_r L hT).2.2.2.2.2.2.2.1, (ta_r L hT).2.2.2.2.2.2.2.2.1, (ta_r L hT).2.2.2.2.2.2.2.2.2, k21 L, k42 L, k33 L, k32 L, f21_0 L, f21_1 L, f21_2 L, f21_3 L, ta_20 hT, ta_2k hT, h18, k41 L]
      refine ⟨fun hc => ?_, fun hc => ?_⟩
      · have e1 : k = 8 := by omega
        subst e1
        refine hP.1 _ _ s_Ta_sift_69 _ _ _ _ _ ?_
        simp (maxSteps := 1000000) (disch := omega) only [g_Ta_sift_69, slk, List.map_cons, List.map_nil, List.sum_cons, List.sum_nil, vc_i, vc_r, vc_n, vc_l, vc_o, Nat.add_zero, kO_e, kA_e, hdO_a, eq_self, blk, stp, lg, ls0, lk, ls1, ls2, kI_i, kL_l, kR_r, kR_n, kR_o, s1I_i, s2I_i, s1L_l, s2L_l, s1R_r, s1R_n, s1R_o, s1A_a, cmpc, popn, swt, rf_s, rf_n, cat_i, cat_r, cat_n, cat_l, true_and, and_true, List.length_cons, List.length_nil, Nat.zero_add, Int.reduceToNat, Nat.reduceAdd, Nat.reduceDiv, Nat.reduceMod, Nat.reduceMul, Nat.reduceSub, Nat.reduceLeDiff, Nat.reduceLT, Nat.reduceEqDiff, ↓reduceIte, r_gr_wi, r_gl_wi, r_gk_wi, r_gn_wi, r_wi_eq, r_wi_ne, r_wi_nj, r_gi_wr, r_gl_wr, r_gk_wr, r_gn_wr, r_gr_wa, r_gl_wa, r_gk_wa, r_gn_wa, aa_e, as_e, al_e, u_lt, u_le, u_gt, u_ge, u_lt0, u_le0, u_gt0, u_ge0, Classical.not_not, not_true_eq_false, not_false_eq_true, oi_n, oi_m, n_dec, nI_add, pk_mul, n_sub, n_eq, n_le, n_lt, n_eq0, n_lt0, n_le0, n_0lt, n_0le, n_eqm, m_eqn, n_ltm, n_and, n_or, n_xor, n_shl, n_shr, tb1, tb0, bP_1, bP_0, bP_n0, ix_n, inb_n, u_eq, u_eqm, (ta_k L hT).1, (ta_k L hT).2.1, (ta_k L hT).2.2.1, (ta_k L hT).2.2.2.1, (ta_k L hT).2.2.2.2.1, (ta_k L hT).2.2.2.2.2.1, (ta_k L hT).2.2.2.2.2.2.1, (ta_k L hT).2.2.2.2.2.2.2, (ta_r L hT).1, (ta_r L hT).2.1, (ta_r L hT).2.2.1, (ta_r L hT).2.2.2.1, (ta_r L hT).2.2.2.2.1, (ta_r L hT).2.2.2.2.2.1, (ta_r L hT).2.2.2.2.2.2.1, (ta_r L hT).2.2.2.2.2.2.2.1, (ta_r L hT).2.2.2.2.2.2.2.2.1, (ta_r L hT).2.2.2.2.2.2.2.2.2, k21 L, k42 L, k33 L, k32 L, f21_0 L, f21_1 L, f21_2 L, f21_3 L, ta_20 hT, ta_2k hT, h18, k41 L]
        rw [r_Ta_sift]
        refine ⟨trivial, rfl, F, hj, bs, h18, bl, fun j => ?_⟩
        rw [hb]
        constructor
        · rintro ⟨q1, q2⟩
          refine ⟨q1, fun z hz => ?_⟩
          rw [List.mem_singleton] at hz
          subst hz
          refine q2 (Nat.lt_of_not_le fun q3 => ?_)
          have := (lt_pow_bit.mp hsu) j (by omega)
          rw [q1] at this
          cases this
        · rintro ⟨q1, q2⟩
          exact ⟨q1, fun _ => q2 y (List.mem_singleton.mpr rfl)⟩
      · have hk8 : k < 8 := by omega
        have nx : ∀ H bs, Fp (fun a => a = 44 ∨ a = T) h2 H → (∀ j, j ≠ 18 → gi H T j = gi h2 T j) → gi H T 18 = nI bs → (∀ j, bs.testBit j = true ↔ su.testBit j = true ∧ (j < k + 1 → mdX s y j)) → P 63 [some (.ref T), some (.int (nI e)), some (.int (nI p)), some (.int (bP no)), some (.int (nI k))] [] H 0 0 := by
          intro H bs F hj h18 hb
          refine hP.1 _ _ s_Ta_sift_63 _ _ _ _ _ ?_
          simp (maxSteps := 1000000) (disch := omega) only [g_Ta_sift_63, slk, List.map_cons, List.map_nil, List.sum_cons, List.sum_nil, vc_i, vc_r, vc_n, vc_l, vc_o, Nat.add_zero, kO_e, kA_e, hdO_a, eq_self, blk, stp, lg, ls0, lk, ls1, ls2, kI_i, kL_l, kR_r, kR_n, kR_o, s1I_i, s2I_i, s1L_l, s2L_l, s1R_r, s1R_n, s1R_o, s1A_a, cmpc, popn, swt, rf_s, rf_n, cat_i, cat_r, cat_n, cat_l, true_and, and_true, List.length_cons, List.length_nil, Nat.zero_add, Int.reduceToNat, Nat.reduceAdd, Nat.reduceDiv, Nat.reduceMod, Nat.reduceMul, Nat.reduceSub, Nat.reduceLeDiff, Nat.reduceLT, Nat.reduceEqDiff, ↓reduceIte, r_gr_wi, r_gl_wi, r_gk_wi, r_gn_wi, r_wi_eq, r_wi_ne, r_wi_nj, r_gi_wr, r_gl_wr, r_gk_wr, r_gn_wr, r_gr_wa, r_gl_wa, r_gk_wa, r_gn_wa, aa_e, as_e, al_e, u_lt, u_le, u_gt, u_ge, u_lt0, u_le0, u_gt0, u_ge0, Classical.not_not, not_true_eq_false, not_false_eq_true, oi_n, oi_m, n_dec, nI_add, pk_mul, n_sub, n_eq, n_le, n_lt, n_eq0, n_lt0, n_le0, n_0lt, n_0le, n_eqm, m_eqn, n_ltm, n_and, n_or, n_xor, n_shl, n_shr, tb1, tb0, bP_1, bP_0, bP_n0, ix_n, inb_n, u_eq, u_eqm, (ta_k L hT).1, (ta_k L hT).2.1, (ta_k L hT).2.2.1, (ta_k L hT).2.2.2.1, (ta_k L hT).2.2.2.2.1, (ta_k L hT).2.2.2.2.2.1, (ta_k L hT).2.2.2.2.2.2.1, (ta_k L hT).2.2.2.2.2.2.2, (ta_r L hT).1, (ta_r L hT).2.1, (ta_r L hT).2.2.1, (ta_r L hT).2.2.2.1, (ta_r L hT).2.2.2.2.1, (ta_r L hT).2.2.2.2.2.1, (ta_r L hT).2.2.2.2.2.2.1, (ta_r L hT).2.2.2.2.2.2.2.1, (ta_r L hT).2.2.2.2.2.2.2.2.1, (ta_r L hT).2.2.2.2.2.2.2.2.2, k21 L, k42 L, k33 L, k32 L, f21_0 L, f21_1 L, f21_2 L, f21_3 L, ta_20 hT, ta_2k hT, h18, k41 L]
          exact ih (n - 1) (by omega) (k + 1) (by omega) H bs F hj h18 hb
        refine hP.1 _ _ s_Ta_sift_10 _ _ _ _ _ ?_
        simp (maxSteps := 1000000) (disch := omega) only [g_Ta_sift_10, slk, List.map_cons, List.map_nil, List.sum_cons, List.sum_nil, vc_i, vc_r, vc_n, vc_l, vc_o, Nat.add_zero, kO_e, kA_e, hdO_a, eq_self, blk, stp, lg, ls0, lk, ls1, ls2, kI_i, kL_l, kR_r, kR_n, kR_o, s1I_i, s2I_i, s1L_l, s2L_l, s1R_r, s1R_n, s1R_o, s1A_a, cmpc, popn, swt, rf_s, rf_n, cat_i, cat_r, cat_n, cat_l, true_and, and_true, List.length_cons, List.length_nil, Nat.zero_add, Int.reduceToNat, Nat.reduceAdd, Nat.reduceDiv, Nat.reduceMod, Nat.reduceMul, Nat.reduceSub, Nat.reduceLeDiff, Nat.reduceLT, Nat.reduceEqDiff, ↓reduceIte, r_gr_wi, r_gl_wi, r_gk_wi, r_gn_wi, r_wi_eq, r_wi_ne, r_wi_nj, r_gi_wr, r_gl_wr, r_gk_wr, r_gn_wr, r_gr_wa, r_gl_wa, r_gk_wa, r_gn_wa, aa_e, as_e, al_e, u_lt, u_le, u_gt, u_ge, u_lt0, u_le0, u_gt0, u_ge0, Classical.not_not, not_true_eq_false, not_false_eq_true, oi_n, oi_m, n_dec, nI_add, pk_mul, n_sub, n_eq, n_le, n_lt, n_eq0, n_lt0, n_le0, n_0lt, n_0le, n_eqm, m_eqn, n_ltm, n_and, n_or, n_xor, n_shl, n_shr, tb1, tb0, bP_1, bP_0, bP_n0, ix_n, inb_n, u_eq, u_eqm, (ta_k L hT).1, (ta_k L hT).2.1, (ta_k L hT).2.2.1, (ta_k L hT).2.2.2.1, (ta_k L hT).2.2.2.2.1, (ta_k L hT).2.2.2.2.2.1, (ta_k L hT).2.2.2.2.2.2.1, (ta_k L hT).2.2.2.2.2.2.2, (ta_r L hT).1, (ta_r L hT).2.1, (ta_r L hT).2.2.1, (ta_r L hT).2.2.2.1, (ta_r L hT).2.2.2.2.1, (ta_r L hT).2.2.2.2.2.1, (ta_r L hT).2.2.2.2.2.2.1, (ta_r L hT).2.2.2.2.2.2.2.1, (ta_r L hT).2.2.2.2.2.2.2.2.1, (ta_r L hT).2.2.2.2.2.2.2.2.2, k21 L, k42 L, k33 L, k32 L, f21_0 L, f21_1 L, f21_2 L, f21_3 L, ta_20 hT, ta_2k hT, h18, k41 L]
        refine ⟨fun q => ?_, fun q => ?_⟩
        · refine nx H bs F hj h18 fun j => ?_
          rw [hb]
          refine and_congr_right fun q1 => ⟨fun z hz => ?_, fun z hz => z (by omega)⟩
          by_cases q3 : j = k
          · subst q3
            have := (hb j).mpr ⟨q1, fun z => absurd z (Nat.lt_irrefl _)⟩
            rw [q] at this
            cases this
          · exact z (by omega)
        · have q' : bs.testBit k = true := by simpa using q
          have kM : k < s 107 30 := Nat.lt_of_not_le fun z => by
            have := (lt_pow_bit.mp bl) k z
            rw [q'] at this
            cases this
          have EH := F.ev E (fun a q => by have q2 : a = 44 ∨ a = T := q; omega)
          have h3H : gr H T 3 = some b := by rw [F.gr]; exact h3
          have TLH : LTC H (ltF y.1) := F.ltc TL (by show ¬ (43 = 44 ∨ 43 = T); omega)
          refine hP.1 _ _ s_Ta_sift_22 _ _ _ _ _ ?_
          simp (maxSteps := 1000000) (disch := omega) only [g_Ta_sift_22, slk, List.map_cons, List.map_nil, List.sum_cons, List.sum_nil, vc_i, vc_r, vc_n, vc_l, vc_o, Nat.add_zero, kO_e, kA_e, hdO_a, eq_self, blk, stp, lg, ls0, lk, ls1, ls2, kI_i, kL_l, kR_r, kR_n, kR_o, s1I_i, s2I_i, s1L_l, s2L_l, s1R_r, s1R_n, s1R_o, s1A_a, cmpc, popn, swt, rf_s, rf_n, cat_i, cat_r, cat_n, cat_l, true_and, and_true, List.length_cons, List.length_nil, Nat.zero_add, Int.reduceToNat, Nat.reduceAdd, Nat.reduceDiv, Nat.reduceMod, Nat.reduceMul, Nat.reduceSub, Nat.reduceLeDiff, Nat.reduceLT, Nat.reduceEqDiff, ↓reduceIte, r_gr_wi, r_gl_wi, r_gk_wi, r_gn_wi, r_wi_eq, r_wi_ne, r_wi_nj, r_gi_wr, r_gl_wr, r_gk_wr, r_gn_wr, r_gr_wa, r_gl_wa, r_gk_wa, r_gn_wa, aa_e, as_e, al_e, u_lt, u_le, u_gt, u_ge, u_lt0, u_le0, u_gt0, u_ge0, Classical.not_not, not_true_eq_false, not_false_eq_true, oi_n, oi_m, n_dec, nI_add, pk_mul, n_sub, n_eq, n_le, n_lt, n_eq0, n_lt0, n_le0, n_0lt, n_0le, n_eqm, m_eqn, n_ltm, n_and, n_or, n_xor, n_shl, n_shr, tb1, tb0, bP_1, bP_0, bP_n0, ix_n, inb_n, u_eq, u_eqm, (ta_k L hT).1, (ta_k L hT).2.1, (ta_k L hT).2.2.1, (ta_k L hT).2.2.2.1, (ta_k L hT).2.2.2.2.1, (ta_k L hT).2.2.2.2.2.1, (ta_k L hT).2.2.2.2.2.2.1, (ta_k L hT).2.2.2.2.2.2.2, (ta_r L hT).1, (ta_r L hT).2.1, (ta_r L hT).2.2.1, (ta_r L hT).2.2.2.1, (ta_r L hT).2.2.2.2.1, (ta_r L hT).2.2.2.2.2.1, (ta_r L hT).2.2.2.2.2.2.1, (ta_r L hT).2.2.2.2.2.2.2.1, (ta_r L hT).2.2.2.2.2.2.2.2.1, (ta_r L hT).2.2.2.2.2.2.2.2.2, k21 L, k42 L, k33 L, k32 L, f21_0 L, f21_1 L, f21_2 L, f21_3 L, ta_20 hT, ta_2k hT, h18, k41 L]
          refine ⟨_, _, _, c_Sc_wt L TLH (EH.2.2.2.2.1.2 k kM) (rs_tl W _) (lb := 110) (by omega), ⟨by omega, by omega⟩, ?_⟩
          rintro r H1 ⟨rfl, F1⟩
          have FF : Fp (fun a => a = 44 ∨ a = T) h2 H1 := F.trans (F1.mono fun a q => Or.inl q)
          have E1 := FF.ev E (fun a q => by have q2 : a = 44 ∨ a = T := q; omega)
          have h31 : gr H1 T 3 = some b := by rw [FF.gr]; exact h3
          have e1 : ∀ j, gi H1 T j = gi H T j := fun j => F1.at (by show ¬ T = 44; omega) j
          have L := FF.lay L0
          have h181 : gi H1 T 18 = nI bs := (e1 18).trans h18
          simp (maxSteps := 1000000) (disch := omega) only [slk, List.map_cons, List.map_nil, List.sum_cons, List.sum_nil, vc_i, vc_r, vc_n, vc_l, vc_o, Nat.add_zero, kO_e, kA_e, hdO_a, eq_self, blk, stp, lg, ls0, lk, ls1, ls2, kI_i, kL_l, kR_r, kR_n, kR_o, s1I_i, s2I_i, s1L_l, s2L_l, s1R_r, s1R_n, s1R_o, s1A_a, cmpc, popn, swt, rf_s, rf_n, cat_i, cat_r, cat_n, cat_l, true_and, and_true, List.length_cons, List.length_nil, Nat.zero_add, Int.reduceToNat, Nat.reduceAdd, Nat.reduceDiv, Nat.reduceMod, Nat.reduceMul, Nat.reduceSub, Nat.reduceLeDiff, Nat.reduceLT, Nat.reduceEqDiff, ↓reduceIte, r_gr_wi, r_gl_wi, r_gk_wi, r_gn_wi, r_wi_eq, r_wi_ne, r_wi_nj, r_gi_wr, r_gl_wr, r_gk_wr, r_gn_wr, r_gr_wa, r_gl_wa, r_gk_wa, r_gn_wa, aa_e, as_e, al_e, u_lt, u_le, u_gt, u_ge, u_lt0, u_le0, u_gt0, u_ge0, Classical.not_not, not_true_eq_false, not_false_eq_true, oi_n, oi_m, n_dec, nI_add, pk_mul, n_sub, n_eq, n_le, n_lt, n_eq0, n_lt0, n_le0, n_0lt, n_0le, n_eqm, m_eqn, n_ltm, n_and, n_or, n_xor, n_shl, n_shr, tb1, tb0, bP_1, bP_0, bP_n0, ix_n, inb_n, u_eq, u_eqm, (ta_k L hT).1, (ta_k L hT).2.1, (ta_k L hT).2.2.1, (ta_k L hT).2.2.2.1, (ta_k L hT).2.2.2.2.1, (ta_k L hT).2.2.2.2.2.1, (ta_k L hT).2.2.2.2.2.2.1, (ta_k L hT).2.2.2.2.2.2.2, (ta_r L hT).1, (ta_r L hT).2.1, (ta_r L hT).2.2.1, (ta_r L hT).2.2.2.1, (ta_r L hT).2.2.2.2.1, (ta_r L hT).2.2.2.2.2.1, (ta_r L hT).2.2.2.2.2.2.1, (ta_r L hT).2.2.2.2.2.2.2.1, (ta_r L hT).2.2.2.2.2.2.2.2.1, (ta_r L hT).2.2.2.2.2.2.2.2.2, k21 L, k42 L, k33 L, k32 L, f21_0 L, f21_1 L, f21_2 L, f21_3 L, ta_20 hT, ta_2k hT, h181, bP_e]
          refine wc (c_Ta_isNo W E1 hm hT h31 ((e1 13).trans ((hj 13 (by omega)).trans h13)) he hp hg _) ⟨by omega, by omega⟩ ?_
          simp (maxSteps := 1000000) (disch := omega) only [slk, List.map_cons, List.map_nil, List.sum_cons, List.sum_nil, vc_i, vc_r, vc_n, vc_l, vc_o, Nat.add_zero, kO_e, kA_e, hdO_a, eq_self, blk, stp, lg, ls0, lk, ls1, ls2, kI_i, kL_l, kR_r, kR_n, kR_o, s1I_i, s2I_i, s1L_l, s2L_l, s1R_r, s1R_n, s1R_o, s1A_a, cmpc, popn, swt, rf_s, rf_n, cat_i, cat_r, cat_n, cat_l, true_and, and_true, List.length_cons, List.length_nil, Nat.zero_add, Int.reduceToNat, Nat.reduceAdd, Nat.reduceDiv, Nat.reduceMod, Nat.reduceMul, Nat.reduceSub, Nat.reduceLeDiff, Nat.reduceLT, Nat.reduceEqDiff, ↓reduceIte, r_gr_wi, r_gl_wi, r_gk_wi, r_gn_wi, r_wi_eq, r_wi_ne, r_wi_nj, r_gi_wr, r_gl_wr, r_gk_wr, r_gn_wr, r_gr_wa, r_gl_wa, r_gk_wa, r_gn_wa, aa_e, as_e, al_e, u_lt, u_le, u_gt, u_ge, u_lt0, u_le0, u_gt0, u_ge0, Classical.not_not, not_true_eq_false, not_false_eq_true, oi_n, oi_m, n_dec, nI_add, pk_mul, n_sub, n_eq, n_le, n_lt, n_eq0, n_lt0, n_le0, n_0lt, n_0le, n_eqm, m_eqn, n_ltm, n_and, n_or, n_xor, n_shl, n_shr, tb1, tb0, bP_1, bP_0, bP_n0, ix_n, inb_n, u_eq, u_eqm, (ta_k L hT).1, (ta_k L hT).2.1, (ta_k L hT).2.2.1, (ta_k L hT).2.2.2.1, (ta_k L hT).2.2.2.2.1, (ta_k L hT).2.2.2.2.2.1, (ta_k L hT).2.2.2.2.2.2.1, (ta_k L hT).2.2.2.2.2.2.2, (ta_r L hT).1, (ta_r L hT).2.1, (ta_r L hT).2.2.1, (ta_r L hT).2.2.2.1, (ta_r L hT).2.2.2.2.1, (ta_r L hT).2.2.2.2.2.1, (ta_r L hT).2.2.2.2.2.2.1, (ta_r L hT).2.2.2.2.2.2.2.1, (ta_r L hT).2.2.2.2.2.2.2.2.1, (ta_r L hT).2.2.2.2.2.2.2.2.2, k21 L, k42 L, k33 L, k32 L, f21_0 L, f21_1 L, f21_2 L, f21_3 L, ta_20 hT, ta_2k hT, h181, bP_e]
          have em : mdX s y k ↔ (wnP (wtS s true (ltF y.1) (kOf true k) 110) (plP s e m p g) ↔ no) := by
            unfold mdX
            rw [y2, show (1 < y.2) = plP s e m p g from propext y1]
            exact Iff.rfl
          refine ⟨fun q2 => ?_, fun q2 => ?_⟩
          · refine nx H1 bs FF (fun j hn => (e1 j).trans (hj j hn)) h181 fun j => ?_
            rw [hb]
            refine and_congr_right fun q1 => ⟨fun z hz => ?_, fun z hz => z (by omega)⟩
            by_cases q3 : j = k
            · subst q3
              exact em.mpr q2
            · exact z (by omega)
          · have al := adN_lt (b := 1 <<< k) (show bs < 2 ^ 8 by omega)
            refine hP.1 _ _ s_Ta_sift_48 _ _ _ _ _ ?_
            simp (maxSteps := 1000000) (disch := omega) only [g_Ta_sift_48, slk, List.map_cons, List.map_nil, List.sum_cons, List.sum_nil, vc_i, vc_r, vc_n, vc_l, vc_o, Nat.add_zero, kO_e, kA_e, hdO_a, eq_self, blk, stp, lg, ls0, lk, ls1, ls2, kI_i, kL_l, kR_r, kR_n, kR_o, s1I_i, s2I_i, s1L_l, s2L_l, s1R_r, s1R_n, s1R_o, s1A_a, cmpc, popn, swt, rf_s, rf_n, cat_i, cat_r, cat_n, cat_l, true_and, and_true, List.length_cons, List.length_nil, Nat.zero_add, Int.reduceToNat, Nat.reduceAdd, Nat.reduceDiv, Nat.reduceMod, Nat.reduceMul, Nat.reduceSub, Nat.reduceLeDiff, Nat.reduceLT, Nat.reduceEqDiff, ↓reduceIte, r_gr_wi, r_gl_wi, r_gk_wi, r_gn_wi, r_wi_eq, r_wi_ne, r_wi_nj, r_gi_wr, r_gl_wr, r_gk_wr, r_gn_wr, r_gr_wa, r_gl_wa, r_gk_wa, r_gn_wa, aa_e, as_e, al_e, u_lt, u_le, u_gt, u_ge, u_lt0, u_le0, u_gt0, u_ge0, Classical.not_not, not_true_eq_false, not_false_eq_true, oi_n, oi_m, n_dec, nI_add, pk_mul, n_sub, n_eq, n_le, n_lt, n_eq0, n_lt0, n_le0, n_0lt, n_0le, n_eqm, m_eqn, n_ltm, n_and, n_or, n_xor, n_shl, n_shr, tb1, tb0, bP_1, bP_0, bP_n0, ix_n, inb_n, u_eq, u_eqm, (ta_k L hT).1, (ta_k L hT).2.1, (ta_k L hT).2.2.1, (ta_k L hT).2.2.2.1, (ta_k L hT).2.2.2.2.1, (ta_k L hT).2.2.2.2.2.1, (ta_k L hT).2.2.2.2.2.2.1, (ta_k L hT).2.2.2.2.2.2.2, (ta_r L hT).1, (ta_r L hT).2.1, (ta_r L hT).2.2.1, (ta_r L hT).2.2.2.1, (ta_r L hT).2.2.2.2.1, (ta_r L hT).2.2.2.2.2.1, (ta_r L hT).2.2.2.2.2.2.1, (ta_r L hT).2.2.2.2.2.2.2.1, (ta_r L hT).2.2.2.2.2.2.2.2.1, (ta_r L hT).2.2.2.2.2.2.2.2.2, k21 L, k42 L, k33 L, k32 L, f21_0 L, f21_1 L, f21_2 L, f21_3 L, ta_20 hT, ta_2k hT, h181, n_andn]
            refine nx _ (adN bs (1 <<< k)) (FF.wi (Or.inr rfl) _ _) (fun j hn => ?_) (r_wi_eq _ _ _ _) fun j => ?_
            · rw [r_wi_nj _ _ _ hn]
              exact (e1 j).trans (hj j hn)
            · rw [adN_bit, Bool.and_eq_true, hb]
              by_cases q3 : j = k
              · subst q3
                have e2 : (1 <<< j).testBit j = true := (bit_one j j).mpr rfl
                rw [e2]
                exact ⟨fun z => (by cases z.2), fun z => absurd (em.mp (z.2 (by omega))) q2⟩
              · have e2 : (1 <<< k).testBit j = false := by
                  cases z : (1 <<< k).testBit j with
                  | false => rfl
                  | true => exact absurd ((bit_one k j).mp z).symm q3
                rw [e2]
                constructor
                · rintro ⟨⟨z1, z2⟩, _⟩
                  exact ⟨z1, fun z3 => z2 (by omega)⟩
                · rintro ⟨z1, z2⟩
                  exact ⟨⟨z1, fun z3 => z2 (by omega)⟩, rfl⟩
  refine hP.1 _ _ s_Ta_sift_0 _ _ _ _ _ ?_
  simp (maxSteps := 1000000) (disch := omega) only [g_Ta_sift_0, slk, List.map_cons, List.map_nil, List.sum_cons, List.sum_nil, vc_i, vc_r, vc_n, vc_l, vc_o, Nat.add_zero, kO_e, kA_e, hdO_a, eq_self, blk, stp, lg, ls0, lk, ls1, ls2, kI_i, kL_l, kR_r, kR_n, kR_o, s1I_i, s2I_i, s1L_l, s2L_l, s1R_r, s1R_n, s1R_o, s1A_a, cmpc, popn, swt, rf_s, rf_n, cat_i, cat_r, cat_n, cat_l, true_and, and_true, List.length_cons, List.length_nil, Nat.zero_add, Int.reduceToNat, Nat.reduceAdd, Nat.reduceDiv, Nat.reduceMod, Nat.reduceMul, Nat.reduceSub, Nat.reduceLeDiff, Nat.reduceLT, Nat.reduceEqDiff, ↓reduceIte, r_gr_wi, r_gl_wi, r_gk_wi, r_gn_wi, r_wi_eq, r_wi_ne, r_wi_nj, r_gi_wr, r_gl_wr, r_gk_wr, r_gn_wr, r_gr_wa, r_gl_wa, r_gk_wa, r_gn_wa, aa_e, as_e, al_e, u_lt, u_le, u_gt, u_ge, u_lt0, u_le0, u_gt0, u_ge0, Classical.not_not, not_true_eq_false, not_false_eq_true, oi_n, oi_m, n_dec, nI_add, pk_mul, n_sub, n_eq, n_le, n_lt, n_eq0, n_lt0, n_le0, n_0lt, n_0le, n_eqm, m_eqn, n_ltm, n_and, n_or, n_xor, n_shl, n_shr, tb1, tb0, bP_1, bP_0, bP_n0, ix_n, inb_n, u_eq, u_eqm]
  exact loop 8 0 rfl h2 su (Fp.refl _ _) (fun _ _ => rfl) h18 (fun j => ⟨fun q => ⟨q, fun z => absurd z (Nat.not_lt_zero _)⟩, fun q => q.1⟩)
end
