/-! ===== the class: what a call changes; the circle ===== -/
theorem n_Ci_has : mN 150 = 2 := rfl
theorem l_Ci_has : mL 150 = 2 := rfl
theorem r_Ci_has : mR 150 = some .boolean := rfl
theorem n_Ci_hasTwo : mN 151 = 3 := rfl
theorem l_Ci_hasTwo : mL 151 = 3 := rfl
theorem r_Ci_hasTwo : mR 151 = some .boolean := rfl
theorem n_Ci_sits : mN 152 = 2 := rfl
theorem l_Ci_sits : mL 152 = 2 := rfl
theorem r_Ci_sits : mR 152 = some .boolean := rfl
theorem n_Ci_add : mN 153 = 2 := rfl
theorem l_Ci_add : mL 153 = 2 := rfl
theorem r_Ci_add : mR 153 = some .int := rfl
theorem n_Ci_setSitting : mN 154 = 3 := rfl
theorem l_Ci_setSitting : mL 154 = 4 := rfl
theorem r_Ci_setSitting : mR 154 = none := rfl
theorem n_Ci_seatNext : mN 155 = 2 := rfl
theorem l_Ci_seatNext : mL 155 = 3 := rfl
theorem r_Ci_seatNext : mR 155 = none := rfl
theorem rh_of {h : AH} {s : St} (L : Lay h) (R : RS s) : ∃ h', RH h' s :=
  ⟨(fun a j => if pers a j = true then enc a (s a j) else gi h a j, h.2), ⟨L.1, L.2.1, L.2.2⟩, fun a j hp => if_pos hp, R⟩
/-- only cells of the objects X change -/
def Fp (X : Nat → Prop) (h h' : AH) : Prop := h'.2 = h.2 ∧ ∀ a, ¬ X a → gi h' a = gi h a
theorem Fp.gk {X : Nat → Prop} {h h' : AH} (F : Fp X h h') : gk h' = gk h := congrArg (fun q => q.2.2.1) F.1
theorem Fp.gr {X : Nat → Prop} {h h' : AH} (F : Fp X h h') : gr h' = gr h := congrArg (fun q => q.1) F.1
theorem Fp.gn {X : Nat → Prop} {h h' : AH} (F : Fp X h h') : gn h' = gn h := congrArg (fun q => q.2.2.2) F.1
theorem Fp.gl {X : Nat → Prop} {h h' : AH} (F : Fp X h h') : gl h' = gl h := congrArg (fun q => q.2.1) F.1
theorem Fp.lay {X : Nat → Prop} {h h' : AH} (F : Fp X h h') (L : Lay h) : Lay h' := by
  refine ⟨fun q hq => ?_, fun q hq => ?_, ?_⟩
  · rw [F.gk]
    exact L.1 q hq
  · rw [F.gr]
    exact L.2.1 q hq
  · rw [F.gn]
    exact L.2.2
theorem Fp.refl (X : Nat → Prop) (h : AH) : Fp X h h := ⟨rfl, fun _ _ => rfl⟩
theorem Fp.trans {X : Nat → Prop} {h h' h2 : AH} (F : Fp X h h') (F2 : Fp X h' h2) : Fp X h h2 := ⟨F2.1.trans F.1, fun a q => (F2.2 a q).trans (F.2 a q)⟩
theorem Fp.mono {X Y : Nat → Prop} {h h' : AH} (F : Fp X h h') (hx : ∀ a, X a → Y a) : Fp Y h h' := ⟨F.1, fun a q => F.2 a (fun z => q (hx a z))⟩
theorem Fp.wi {X : Nat → Prop} {h h' : AH} (F : Fp X h h') {a : Nat} (hx : X a) (k : Nat) (v : Int32) : Fp X h (wi h' a k v) := by
  refine ⟨F.1, fun b q => ?_⟩
  funext j
  have ne : ¬ b = a := fun e => q (by rw [e]; exact hx)
  rw [r_gi_wi, if_neg ne, F.2 b q]
theorem Fp.wa {X : Nat → Prop} {h h' : AH} (F : Fp X h h') {a : Nat} (hx : X a) (f : Nat → Int32) : Fp X h (wa h' a f) := by
  refine ⟨F.1, fun b q => ?_⟩
  funext j
  have ne : ¬ b = a := fun e => q (by rw [e]; exact hx)
  rw [r_gi_wa, if_neg ne, F.2 b q]
theorem Fp.at {X : Nat → Prop} {h h' : AH} (F : Fp X h h') {a : Nat} (hx : ¬ X a) (k : Nat) : gi h' a k = gi h a k := congrFun (F.2 a hx) k
theorem Fp.sk {X : Nat → Prop} {h h' : AH} (F : Fp X h h') (K : SK h) (hx : ∀ a, X a → 18 ≤ a) : SK h' := by
  intro i hi
  obtain ⟨a, b, c, e, f⟩ := K i hi
  refine ⟨by rw [F.gk]; exact a, by rw [F.gk]; exact b, by rw [F.gr]; exact c, (F.at (fun q => by have := hx _ q; omega) _).trans e, fun j hj => (F.at (fun q => by have := hx _ q; omega) _).trans (f j hj)⟩
theorem Fp.rw {X : Nat → Prop} {h h' : AH} (F : Fp X h h') {s : St} (W : RH h s) (hx : ∀ a, X a → a < 107 ∨ 163 < a) : RH h' s := by
  refine ⟨F.lay W.1, fun a j hp => ?_, W.2.2⟩
  have ha : 107 ≤ a ∧ a ≤ 163 := by
    unfold pers at hp
    split at hp
    · omega
    · have hl : ∀ a ∈ persA, 107 ≤ a ∧ a ≤ 163 := by decide
      exact hl a (List.contains_iff_mem.mp hp)
  exact (F.at (fun q => by have := hx _ q; omega) _).trans (W.2.1 a j hp)
/-- the circle holds the elders -/
def mdR (h : AH) (s : St) (e : Nat) : Option Nat := if e < s 107 18 ∧ s 118 e ≠ 4294967295 then gr h 41 (s 118 e) else none
def CC (h : AH) (s : St) : Prop := (gi h 21 4 = nI (s 107 18) ∧ gi h 21 5 = nI (sn s) ∧ gi h 21 6 = nI (thoN s)) ∧ (∀ e, e < s 107 18 → gi h 22 e = nI (s 108 e)) ∧ (∀ e o, e < 8 → o < 8 → gi h (24 + e) o = nI (s 109 (8 * e + o))) ∧ (∀ k, k < sn s → gi h 33 k = nI (sd s k)) ∧ ∀ e, e < 8 → gr h 32 e = mdR h s e
theorem Fp.cc {X : Nat → Prop} {h h' : AH} (F : Fp X h h') {s : St} (C : CC h s) (hx : ∀ a, X a → a < 21 ∨ 33 < a) : CC h' s := by
  obtain ⟨⟨c1, c2, c3⟩, c4, c5, c6, c7⟩ := C
  have n : ∀ a, 21 ≤ a → a ≤ 33 → ¬ X a := fun a h1 h2 q => by have := hx a q; omega
  refine ⟨⟨(F.at (n 21 (by omega) (by omega)) _).trans c1, (F.at (n 21 (by omega) (by omega)) _).trans c2, (F.at (n 21 (by omega) (by omega)) _).trans c3⟩, fun e he => (F.at (n 22 (by omega) (by omega)) _).trans (c4 e he), fun e o he ho => (F.at (n (24 + e) (by omega) (by omega)) _).trans (c5 e o he ho), fun k hk => (F.at (n 33 (by omega) (by omega)) _).trans (c6 k hk), fun e he => ?_⟩
  unfold mdR
  rw [F.gr]
  exact c7 e he
theorem tho_bit {h : AH} {s : St} (W : RH h s) (e : Nat) : (thoN s).testBit e = true ↔ e < s 107 18 ∧ s 111 e = 0 := by
  rw [← mem_seats W]
  unfold thoN
  rw [orN_bit]
  constructor
  · rintro ⟨j, hj, q⟩
    rw [bit_one] at q
    rw [← q]
    exact sd_mem hj
  · intro q
    obtain ⟨j, hj, q2⟩ := List.mem_iff_getElem.mp q
    refine ⟨j, hj, ?_⟩
    rw [bit_one]
    unfold sd
    rw [List.getD_eq_getElem?_getD, List.getElem?_eq_getElem hj]
    exact q2
section
variable {h : AH} {s : St} {d n : Nat}
theorem c_Ci_has (L : Lay h) (h4 : gi h 21 4 = nI n) (hn : n ≤ 8) {x : Nat} (hx : x < 4294967296) : Mz (d + 1) 150 [.ref 21, .int (nI x)] h 0 0 (Rt (bP (x < n)) h) := by
  refine mz_in (l := [some (.ref 21), some (.int (nI x))]) mk_Ci_has n_Ci_has rfl l_Ci_has rfl (Nat.le_of_ble_eq_true rfl) fun P hP => ?_
  rcases Nat.lt_or_ge x 2147483648 with q | q
  · refine hP.1 _ _ s_Ci_has_0 _ _ _ _ _ ?_
    simp (maxSteps := 1000000) (disch := omega) only [g_Ci_has_0, slk, List.map_cons, List.map_nil, List.sum_cons, List.sum_nil, vc_i, vc_r, vc_n, vc_l, vc_o, Nat.add_zero, kO_e, kA_e, hdO_a, eq_self, blk, stp, lg, ls0, lk, ls1, ls2, kI_i, kL_l, kR_r, kR_n, kR_o, s1I_i, s2I_i, s1L_l, s2L_l, s1R_r, s1R_n, s1R_o, s1A_a, cmpc, popn, swt, rf_s, rf_n, cat_i, cat_r, cat_n, cat_l, true_and, and_true, List.length_cons, List.length_nil, Nat.zero_add, Int.reduceToNat, Nat.reduceAdd, Nat.reduceDiv, Nat.reduceMod, Nat.reduceMul, Nat.reduceSub, Nat.reduceLeDiff, Nat.reduceLT, Nat.reduceEqDiff, ↓reduceIte, r_gr_wi, r_gl_wi, r_gk_wi, r_gn_wi, r_wi_eq, r_wi_ne, r_wi_nj, r_gi_wr, r_gl_wr, r_gk_wr, r_gn_wr, r_gr_wa, r_gl_wa, r_gk_wa, r_gn_wa, aa_e, as_e, al_e, u_lt, u_le, u_gt, u_ge, u_lt0, u_le0, u_gt0, u_ge0, Classical.not_not, not_true_eq_false, not_false_eq_true, oi_n, oi_m, n_dec, nI_add, pk_mul, n_sub, n_eq, n_le, n_lt, n_eq0, n_lt0, n_le0, n_0lt, n_0le, n_eqm, m_eqn, n_ltm, n_and, n_or, n_xor, n_shl, n_shr, tb1, tb0, bP_1, bP_0, bP_n0, ix_n, inb_n, u_eq, u_eqm, h4]
    refine ⟨fun hc1 => ?_, fun hc1 => ?_⟩
    · refine hP.1 _ _ s_Ci_has_16 _ _ _ _ _ ?_
      simp (maxSteps := 1000000) (disch := omega) only [g_Ci_has_16, slk, List.map_cons, List.map_nil, List.sum_cons, List.sum_nil, vc_i, vc_r, vc_n, vc_l, vc_o, Nat.add_zero, kO_e, kA_e, hdO_a, eq_self, blk, stp, lg, ls0, lk, ls1, ls2, kI_i, kL_l, kR_r, kR_n, kR_o, s1I_i, s2I_i, s1L_l, s2L_l, s1R_r, s1R_n, s1R_o, s1A_a, cmpc, popn, swt, rf_s, rf_n, cat_i, cat_r, cat_n, cat_l, true_and, and_true, List.length_cons, List.length_nil, Nat.zero_add, Int.reduceToNat, Nat.reduceAdd, Nat.reduceDiv, Nat.reduceMod, Nat.reduceMul, Nat.reduceSub, Nat.reduceLeDiff, Nat.reduceLT, Nat.reduceEqDiff, ↓reduceIte, r_gr_wi, r_gl_wi, r_gk_wi, r_gn_wi, r_wi_eq, r_wi_ne, r_wi_nj, r_gi_wr, r_gl_wr, r_gk_wr, r_gn_wr, r_gr_wa, r_gl_wa, r_gk_wa, r_gn_wa, aa_e, as_e, al_e, u_lt, u_le, u_gt, u_ge, u_lt0, u_le0, u_gt0, u_ge0, Classical.not_not, not_true_eq_false, not_false_eq_true, oi_n, oi_m, n_dec, nI_add, pk_mul, n_sub, n_eq, n_le, n_lt, n_eq0, n_lt0, n_le0, n_0lt, n_0le, n_eqm, m_eqn, n_ltm, n_and, n_or, n_xor, n_shl, n_shr, tb1, tb0, bP_1, bP_0, bP_n0, ix_n, inb_n, u_eq, u_eqm, h4]
      refine hP.1 _ _ s_Ci_has_17 _ _ _ _ _ ?_
      simp (maxSteps := 1000000) (disch := omega) only [g_Ci_has_17, slk, List.map_cons, List.map_nil, List.sum_cons, List.sum_nil, vc_i, vc_r, vc_n, vc_l, vc_o, Nat.add_zero, kO_e, kA_e, hdO_a, eq_self, blk, stp, lg, ls0, lk, ls1, ls2, kI_i, kL_l, kR_r, kR_n, kR_o, s1I_i, s2I_i, s1L_l, s2L_l, s1R_r, s1R_n, s1R_o, s1A_a, cmpc, popn, swt, rf_s, rf_n, cat_i, cat_r, cat_n, cat_l, true_and, and_true, List.length_cons, List.length_nil, Nat.zero_add, Int.reduceToNat, Nat.reduceAdd, Nat.reduceDiv, Nat.reduceMod, Nat.reduceMul, Nat.reduceSub, Nat.reduceLeDiff, Nat.reduceLT, Nat.reduceEqDiff, ↓reduceIte, r_gr_wi, r_gl_wi, r_gk_wi, r_gn_wi, r_wi_eq, r_wi_ne, r_wi_nj, r_gi_wr, r_gl_wr, r_gk_wr, r_gn_wr, r_gr_wa, r_gl_wa, r_gk_wa, r_gn_wa, aa_e, as_e, al_e, u_lt, u_le, u_gt, u_ge, u_lt0, u_le0, u_gt0, u_ge0, Classical.not_not, not_true_eq_false, not_false_eq_true, oi_n, oi_m, n_dec, nI_add, pk_mul, n_sub, n_eq, n_le, n_lt, n_eq0, n_lt0, n_le0, n_0lt, n_0le, n_eqm, m_eqn, n_ltm, n_and, n_or, n_xor, n_shl, n_shr, tb1, tb0, bP_1, bP_0, bP_n0, ix_n, inb_n, u_eq, u_eqm, h4]
      (first | contradiction | exact lfT r_Ci_has (by omega) rfl | exact lfF r_Ci_has (by omega) rfl)
    · skip
      refine hP.1 _ _ s_Ci_has_4 _ _ _ _ _ ?_
      simp (maxSteps := 1000000) (disch := omega) only [g_Ci_has_4, slk, List.map_cons, List.map_nil, List.sum_cons, List.sum_nil, vc_i, vc_r, vc_n, vc_l, vc_o, Nat.add_zero, kO_e, kA_e, hdO_a, eq_self, blk, stp, lg, ls0, lk, ls1, ls2, kI_i, kL_l, kR_r, kR_n, kR_o, s1I_i, s2I_i, s1L_l, s2L_l, s1R_r, s1R_n, s1R_o, s1A_a, cmpc, popn, swt, rf_s, rf_n, cat_i, cat_r, cat_n, cat_l, true_and, and_true, List.length_cons, List.length_nil, Nat.zero_add, Int.reduceToNat, Nat.reduceAdd, Nat.reduceDiv, Nat.reduceMod, Nat.reduceMul, Nat.reduceSub, Nat.reduceLeDiff, Nat.reduceLT, Nat.reduceEqDiff, ↓reduceIte, r_gr_wi, r_gl_wi, r_gk_wi, r_gn_wi, r_wi_eq, r_wi_ne, r_wi_nj, r_gi_wr, r_gl_wr, r_gk_wr, r_gn_wr, r_gr_wa, r_gl_wa, r_gk_wa, r_gn_wa, aa_e, as_e, al_e, u_lt, u_le, u_gt, u_ge, u_lt0, u_le0, u_gt0, u_ge0, Classical.not_not, not_true_eq_false, not_false_eq_true, oi_n, oi_m, n_dec, nI_add, pk_mul, n_sub, n_eq, n_le, n_lt, n_eq0, n_lt0, n_le0, n_0lt, n_0le, n_eqm, m_eqn, n_ltm, n_and, n_or, n_xor, n_shl, n_shr, tb1, tb0, bP_1, bP_0, bP_n0, ix_n, inb_n, u_eq, u_eqm, k21 L, h4]
      refine ⟨fun hc2 => ?_, fun hc2 => ?_⟩
      · refine hP.1 _ _ s_Ci_has_16 _ _ _ _ _ ?_
        simp (maxSteps := 1000000) (disch := omega) only [g_Ci_has_16, slk, List.map_cons, List.map_nil, List.sum_cons, List.sum_nil, vc_i, vc_r, vc_n, vc_l, vc_o, Nat.add_zero, kO_e, kA_e, hdO_a, eq_self, blk, stp, lg, ls0, lk, ls1, ls2, kI_i, kL_l, kR_r, kR_n, kR_o, s1I_i, s2I_i, s1L_l, s2L_l, s1R_r, s1R_n, s1R_o, s1A_a, cmpc, popn, swt, rf_s, rf_n, cat_i, cat_r, cat_n, cat_l, true_and, and_true, List.length_cons, List.length_nil, Nat.zero_add, Int.reduceToNat, Nat.reduceAdd, Nat.reduceDiv, Nat.reduceMod, Nat.reduceMul, Nat.reduceSub, Nat.reduceLeDiff, Nat.reduceLT, Nat.reduceEqDiff, ↓reduceIte, r_gr_wi, r_gl_wi, r_gk_wi, r_gn_wi, r_wi_eq, r_wi_ne, r_wi_nj, r_gi_wr, r_gl_wr, r_gk_wr, r_gn_wr, r_gr_wa, r_gl_wa, r_gk_wa, r_gn_wa, aa_e, as_e, al_e, u_lt, u_le, u_gt, u_ge, u_lt0, u_le0, u_gt0, u_ge0, Classical.not_not, not_true_eq_false, not_false_eq_true, oi_n, oi_m, n_dec, nI_add, pk_mul, n_sub, n_eq, n_le, n_lt, n_eq0, n_lt0, n_le0, n_0lt, n_0le, n_eqm, m_eqn, n_ltm, n_and, n_or, n_xor, n_shl, n_shr, tb1, tb0, bP_1, bP_0, bP_n0, ix_n, inb_n, u_eq, u_eqm, h4]
        refine hP.1 _ _ s_Ci_has_17 _ _ _ _ _ ?_
        simp (maxSteps := 1000000) (disch := omega) only [g_Ci_has_17, slk, List.map_cons, List.map_nil, List.sum_cons, List.sum_nil, vc_i, vc_r, vc_n, vc_l, vc_o, Nat.add_zero, kO_e, kA_e, hdO_a, eq_self, blk, stp, lg, ls0, lk, ls1, ls2, kI_i, kL_l, kR_r, kR_n, kR_o, s1I_i, s2I_i, s1L_l, s2L_l, s1R_r, s1R_n, s1R_o, s1A_a, cmpc, popn, swt, rf_s, rf_n, cat_i, cat_r, cat_n, cat_l, true_and, and_true, List.length_cons, List.length_nil, Nat.zero_add, Int.reduceToNat, Nat.reduceAdd, Nat.reduceDiv, Nat.reduceMod, Nat.reduceMul, Nat.reduceSub, Nat.reduceLeDiff, Nat.reduceLT, Nat.reduceEqDiff, ↓reduceIte, r_gr_wi, r_gl_wi, r_gk_wi, r_gn_wi, r_wi_eq, r_wi_ne, r_wi_nj, r_gi_wr, r_gl_wr, r_gk_wr, r_gn_wr, r_gr_wa, r_gl_wa, r_gk_wa, r_gn_wa, aa_e, as_e, al_e, u_lt, u_le, u_gt, u_ge, u_lt0, u_le0, u_gt0, u_ge0, Classical.not_not, not_true_eq_false, not_false_eq_true, oi_n, oi_m, n_dec, nI_add, pk_mul, n_sub, n_eq, n_le, n_lt, n_eq0, n_lt0, n_le0, n_0lt, n_0le, n_eqm, m_eqn, n_ltm, n_and, n_or, n_xor, n_shl, n_shr, tb1, tb0, bP_1, bP_0, bP_n0, ix_n, inb_n, u_eq, u_eqm, h4]
        (first | contradiction | exact lfT r_Ci_has (by omega) rfl | exact lfF r_Ci_has (by omega) rfl)
      · skip
        refine hP.1 _ _ s_Ci_has_12 _ _ _ _ _ ?_
        simp (maxSteps := 1000000) (disch := omega) only [g_Ci_has_12, slk, List.map_cons, List.map_nil, List.sum_cons, List.sum_nil, vc_i, vc_r, vc_n, vc_l, vc_o, Nat.add_zero, kO_e, kA_e, hdO_a, eq_self, blk, stp, lg, ls0, lk, ls1, ls2, kI_i, kL_l, kR_r, kR_n, kR_o, s1I_i, s2I_i, s1L_l, s2L_l, s1R_r, s1R_n, s1R_o, s1A_a, cmpc, popn, swt, rf_s, rf_n, cat_i, cat_r, cat_n, cat_l, true_and, and_true, List.length_cons, List.length_nil, Nat.zero_add, Int.reduceToNat, Nat.reduceAdd, Nat.reduceDiv, Nat.reduceMod, Nat.reduceMul, Nat.reduceSub, Nat.reduceLeDiff, Nat.reduceLT, Nat.reduceEqDiff, ↓reduceIte, r_gr_wi, r_gl_wi, r_gk_wi, r_gn_wi, r_wi_eq, r_wi_ne, r_wi_nj, r_gi_wr, r_gl_wr, r_gk_wr, r_gn_wr, r_gr_wa, r_gl_wa, r_gk_wa, r_gn_wa, aa_e, as_e, al_e, u_lt, u_le, u_gt, u_ge, u_lt0, u_le0, u_gt0, u_ge0, Classical.not_not, not_true_eq_false, not_false_eq_true, oi_n, oi_m, n_dec, nI_add, pk_mul, n_sub, n_eq, n_le, n_lt, n_eq0, n_lt0, n_le0, n_0lt, n_0le, n_eqm, m_eqn, n_ltm, n_and, n_or, n_xor, n_shl, n_shr, tb1, tb0, bP_1, bP_0, bP_n0, ix_n, inb_n, u_eq, u_eqm, h4]
        refine hP.1 _ _ s_Ci_has_17 _ _ _ _ _ ?_
        simp (maxSteps := 1000000) (disch := omega) only [g_Ci_has_17, slk, List.map_cons, List.map_nil, List.sum_cons, List.sum_nil, vc_i, vc_r, vc_n, vc_l, vc_o, Nat.add_zero, kO_e, kA_e, hdO_a, eq_self, blk, stp, lg, ls0, lk, ls1, ls2, kI_i, kL_l, kR_r, kR_n, kR_o, s1I_i, s2I_i, s1L_l, s2L_l, s1R_r, s1R_n, s1R_o, s1A_a, cmpc, popn, swt, rf_s, rf_n, cat_i, cat_r, cat_n, cat_l, true_and, and_true, List.length_cons, List.length_nil, Nat.zero_add, Int.reduceToNat, Nat.reduceAdd, Nat.reduceDiv, Nat.reduceMod, Nat.reduceMul, Nat.reduceSub, Nat.reduceLeDiff, Nat.reduceLT, Nat.reduceEqDiff, ↓reduceIte, r_gr_wi, r_gl_wi, r_gk_wi, r_gn_wi, r_wi_eq, r_wi_ne, r_wi_nj, r_gi_wr, r_gl_wr, r_gk_wr, r_gn_wr, r_gr_wa, r_gl_wa, r_gk_wa, r_gn_wa, aa_e, as_e, al_e, u_lt, u_le, u_gt, u_ge, u_lt0, u_le0, u_gt0, u_ge0, Classical.not_not, not_true_eq_false, not_false_eq_true, oi_n, oi_m, n_dec, nI_add, pk_mul, n_sub, n_eq, n_le, n_lt, n_eq0, n_lt0, n_le0, n_0lt, n_0le, n_eqm, m_eqn, n_ltm, n_and, n_or, n_xor, n_shl, n_shr, tb1, tb0, bP_1, bP_0, bP_n0, ix_n, inb_n, u_eq, u_eqm, h4]
        (first | contradiction | exact lfT r_Ci_has (by omega) rfl | exact lfF r_Ci_has (by omega) rfl)
  · refine hP.1 _ _ s_Ci_has_0 _ _ _ _ _ ?_
    simp (maxSteps := 1000000) (disch := omega) only [g_Ci_has_0, slk, List.map_cons, List.map_nil, List.sum_cons, List.sum_nil, vc_i, vc_r, vc_n, vc_l, vc_o, Nat.add_zero, kO_e, kA_e, hdO_a, eq_self, blk, stp, lg, ls0, lk, ls1, ls2, kI_i, kL_l, kR_r, kR_n, kR_o, s1I_i, s2I_i, s1L_l, s2L_l, s1R_r, s1R_n, s1R_o, s1A_a, cmpc, popn, swt, rf_s, rf_n, cat_i, cat_r, cat_n, cat_l, true_and, and_true, List.length_cons, List.length_nil, Nat.zero_add, Int.reduceToNat, Nat.reduceAdd, Nat.reduceDiv, Nat.reduceMod, Nat.reduceMul, Nat.reduceSub, Nat.reduceLeDiff, Nat.reduceLT, Nat.reduceEqDiff, ↓reduceIte, r_gr_wi, r_gl_wi, r_gk_wi, r_gn_wi, r_wi_eq, r_wi_ne, r_wi_nj, r_gi_wr, r_gl_wr, r_gk_wr, r_gn_wr, r_gr_wa, r_gl_wa, r_gk_wa, r_gn_wa, aa_e, as_e, al_e, u_lt, u_le, u_gt, u_ge, u_lt0, u_le0, u_gt0, u_ge0, Classical.not_not, not_true_eq_false, not_false_eq_true, oi_n, oi_m, n_dec, nI_add, pk_mul, n_sub, n_eq, n_le, n_lt, n_eq0, n_lt0, n_le0, n_0lt, n_0le, n_eqm, m_eqn, n_ltm, n_and, n_or, n_xor, n_shl, n_shr, tb1, tb0, bP_1, bP_0, bP_n0, ix_n, inb_n, u_eq, u_eqm, h4]
    refine ⟨fun _ => ?_, fun z => z.elim⟩
    refine hP.1 _ _ s_Ci_has_16 _ _ _ _ _ ?_
    simp (maxSteps := 1000000) (disch := omega) only [g_Ci_has_16, slk, List.map_cons, List.map_nil, List.sum_cons, List.sum_nil, vc_i, vc_r, vc_n, vc_l, vc_o, Nat.add_zero, kO_e, kA_e, hdO_a, eq_self, blk, stp, lg, ls0, lk, ls1, ls2, kI_i, kL_l, kR_r, kR_n, kR_o, s1I_i, s2I_i, s1L_l, s2L_l, s1R_r, s1R_n, s1R_o, s1A_a, cmpc, popn, swt, rf_s, rf_n, cat_i, cat_r, cat_n, cat_l, true_and, and_true, List.length_cons, List.length_nil, Nat.zero_add, Int.reduceToNat, Nat.reduceAdd, Nat.reduceDiv, Nat.reduceMod, Nat.reduceMul, Nat.reduceSub, Nat.reduceLeDiff, Nat.reduceLT, Nat.reduceEqDiff, ↓reduceIte, r_gr_wi, r_gl_wi, r_gk_wi, r_gn_wi, r_wi_eq, r_wi_ne, r_wi_nj, r_gi_wr, r_gl_wr, r_gk_wr, r_gn_wr, r_gr_wa, r_gl_wa, r_gk_wa, r_gn_wa, aa_e, as_e, al_e, u_lt, u_le, u_gt, u_ge, u_lt0, u_le0, u_gt0, u_ge0, Classical.not_not, not_true_eq_false, not_false_eq_true, oi_n, oi_m, n_dec, nI_add, pk_mul, n_sub, n_eq, n_le, n_lt, n_eq0, n_lt0, n_le0, n_0lt, n_0le, n_eqm, m_eqn, n_ltm, n_and, n_or, n_xor, n_shl, n_shr, tb1, tb0, bP_1, bP_0, bP_n0, ix_n, inb_n, u_eq, u_eqm, h4]
    refine hP.1 _ _ s_Ci_has_17 _ _ _ _ _ ?_
    simp (maxSteps := 1000000) (disch := omega) only [g_Ci_has_17, slk, List.map_cons, List.map_nil, List.sum_cons, List.sum_nil, vc_i, vc_r, vc_n, vc_l, vc_o, Nat.add_zero, kO_e, kA_e, hdO_a, eq_self, blk, stp, lg, ls0, lk, ls1, ls2, kI_i, kL_l, kR_r, kR_n, kR_o, s1I_i, s2I_i, s1L_l, s2L_l, s1R_r, s1R_n, s1R_o, s1A_a, cmpc, popn, swt, rf_s, rf_n, cat_i, cat_r, cat_n, cat_l, true_and, and_true, List.length_cons, List.length_nil, Nat.zero_add, Int.reduceToNat, Nat.reduceAdd, Nat.reduceDiv, Nat.reduceMod, Nat.reduceMul, Nat.reduceSub, Nat.reduceLeDiff, Nat.reduceLT, Nat.reduceEqDiff, ↓reduceIte, r_gr_wi, r_gl_wi, r_gk_wi, r_gn_wi, r_wi_eq, r_wi_ne, r_wi_nj, r_gi_wr, r_gl_wr, r_gk_wr, r_gn_wr, r_gr_wa, r_gl_wa, r_gk_wa, r_gn_wa, aa_e, as_e, al_e, u_lt, u_le, u_gt, u_ge, u_lt0, u_le0, u_gt0, u_ge0, Classical.not_not, not_true_eq_false, not_false_eq_true, oi_n, oi_m, n_dec, nI_add, pk_mul, n_sub, n_eq, n_le, n_lt, n_eq0, n_lt0, n_le0, n_0lt, n_0le, n_eqm, m_eqn, n_ltm, n_and, n_or, n_xor, n_shl, n_shr, tb1, tb0, bP_1, bP_0, bP_n0, ix_n, inb_n, u_eq, u_eqm, h4]
    exact lfF r_Ci_has (by omega) rfl
theorem c_Ci_hasTwo (L : Lay h) (h4 : gi h 21 4 = nI n) (hn : n ≤ 8) {x y : Nat} (hx : x < 4294967296) (hy : y < 4294967296) : Mz (d + 2) 151 [.ref 21, .int (nI x), .int (nI y)] h 0 0 (Rt (bP (x < n ∧ y < n ∧ ¬ x = y)) h) := by
  refine mz_in (l := [some (.ref 21), some (.int (nI x)), some (.int (nI y))]) mk_Ci_hasTwo n_Ci_hasTwo rfl l_Ci_hasTwo rfl (Nat.le_of_ble_eq_true rfl) fun P hP => ?_
  refine hP.1 _ _ s_Ci_hasTwo_0 _ _ _ _ _ ?_
  simp (maxSteps := 1000000) (disch := omega) only [g_Ci_hasTwo_0, slk, List.map_cons, List.map_nil, List.sum_cons, List.sum_nil, vc_i, vc_r, vc_n, vc_l, vc_o, Nat.add_zero, kO_e, kA_e, hdO_a, eq_self, blk, stp, lg, ls0, lk, ls1, ls2, kI_i, kL_l, kR_r, kR_n, kR_o, s1I_i, s2I_i, s1L_l, s2L_l, s1R_r, s1R_n, s1R_o, s1A_a, cmpc, popn, swt, rf_s, rf_n, cat_i, cat_r, cat_n, cat_l, true_and, and_true, List.length_cons, List.length_nil, Nat.zero_add, Int.reduceToNat, Nat.reduceAdd, Nat.reduceDiv, Nat.reduceMod, Nat.reduceMul, Nat.reduceSub, Nat.reduceLeDiff, Nat.reduceLT, Nat.reduceEqDiff, ↓reduceIte, r_gr_wi, r_gl_wi, r_gk_wi, r_gn_wi, r_wi_eq, r_wi_ne, r_wi_nj, r_gi_wr, r_gl_wr, r_gk_wr, r_gn_wr, r_gr_wa, r_gl_wa, r_gk_wa, r_gn_wa, aa_e, as_e, al_e, u_lt, u_le, u_gt, u_ge, u_lt0, u_le0, u_gt0, u_ge0, Classical.not_not, not_true_eq_false, not_false_eq_true, oi_n, oi_m, n_dec, nI_add, pk_mul, n_sub, n_eq, n_le, n_lt, n_eq0, n_lt0, n_le0, n_0lt, n_0le, n_eqm, m_eqn, n_ltm, n_and, n_or, n_xor, n_shl, n_shr, tb1, tb0, bP_1, bP_0, bP_n0, ix_n, inb_n, u_eq, u_eqm, k21 L]
  refine wc (c_Ci_has L h4 hn hx) ⟨by omega, by omega⟩ ?_
  simp (maxSteps := 1000000) (disch := omega) only [slk, List.map_cons, List.map_nil, List.sum_cons, List.sum_nil, vc_i, vc_r, vc_n, vc_l, vc_o, Nat.add_zero, kO_e, kA_e, hdO_a, eq_self, blk, stp, lg, ls0, lk, ls1, ls2, kI_i, kL_l, kR_r, kR_n, kR_o, s1I_i, s2I_i, s1L_l, s2L_l, s1R_r, s1R_n, s1R_o, s1A_a, cmpc, popn, swt, rf_s, rf_n, cat_i, cat_r, cat_n, cat_l, true_and, and_true, List.length_cons, List.length_nil, Nat.zero_add, Int.reduceToNat, Nat.reduceAdd, Nat.reduceDiv, Nat.reduceMod, Nat.reduceMul, Nat.reduceSub, Nat.reduceLeDiff, Nat.reduceLT, Nat.reduceEqDiff, ↓reduceIte, r_gr_wi, r_gl_wi, r_gk_wi, r_gn_wi, r_wi_eq, r_wi_ne, r_wi_nj, r_gi_wr, r_gl_wr, r_gk_wr, r_gn_wr, r_gr_wa, r_gl_wa, r_gk_wa, r_gn_wa, aa_e, as_e, al_e, u_lt, u_le, u_gt, u_ge, u_lt0, u_le0, u_gt0, u_ge0, Classical.not_not, not_true_eq_false, not_false_eq_true, oi_n, oi_m, n_dec, nI_add, pk_mul, n_sub, n_eq, n_le, n_lt, n_eq0, n_lt0, n_le0, n_0lt, n_0le, n_eqm, m_eqn, n_ltm, n_and, n_or, n_xor, n_shl, n_shr, tb1, tb0, bP_1, bP_0, bP_n0, ix_n, inb_n, u_eq, u_eqm, k21 L]
  refine ⟨fun q => ?_, fun q => ?_⟩
  · refine hP.1 _ _ s_Ci_hasTwo_25 _ _ _ _ _ ?_
    simp (maxSteps := 1000000) (disch := omega) only [g_Ci_hasTwo_25, slk, List.map_cons, List.map_nil, List.sum_cons, List.sum_nil, vc_i, vc_r, vc_n, vc_l, vc_o, Nat.add_zero, kO_e, kA_e, hdO_a, eq_self, blk, stp, lg, ls0, lk, ls1, ls2, kI_i, kL_l, kR_r, kR_n, kR_o, s1I_i, s2I_i, s1L_l, s2L_l, s1R_r, s1R_n, s1R_o, s1A_a, cmpc, popn, swt, rf_s, rf_n, cat_i, cat_r, cat_n, cat_l, true_and, and_true, List.length_cons, List.length_nil, Nat.zero_add, Int.reduceToNat, Nat.reduceAdd, Nat.reduceDiv, Nat.reduceMod, Nat.reduceMul, Nat.reduceSub, Nat.reduceLeDiff, Nat.reduceLT, Nat.reduceEqDiff, ↓reduceIte, r_gr_wi, r_gl_wi, r_gk_wi, r_gn_wi, r_wi_eq, r_wi_ne, r_wi_nj, r_gi_wr, r_gl_wr, r_gk_wr, r_gn_wr, r_gr_wa, r_gl_wa, r_gk_wa, r_gn_wa, aa_e, as_e, al_e, u_lt, u_le, u_gt, u_ge, u_lt0, u_le0, u_gt0, u_ge0, Classical.not_not, not_true_eq_false, not_false_eq_true, oi_n, oi_m, n_dec, nI_add, pk_mul, n_sub, n_eq, n_le, n_lt, n_eq0, n_lt0, n_le0, n_0lt, n_0le, n_eqm, m_eqn, n_ltm, n_and, n_or, n_xor, n_shl, n_shr, tb1, tb0, bP_1, bP_0, bP_n0, ix_n, inb_n, u_eq, u_eqm]
    refine hP.1 _ _ s_Ci_hasTwo_26 _ _ _ _ _ ?_
    simp (maxSteps := 1000000) (disch := omega) only [g_Ci_hasTwo_26, slk, List.map_cons, List.map_nil, List.sum_cons, List.sum_nil, vc_i, vc_r, vc_n, vc_l, vc_o, Nat.add_zero, kO_e, kA_e, hdO_a, eq_self, blk, stp, lg, ls0, lk, ls1, ls2, kI_i, kL_l, kR_r, kR_n, kR_o, s1I_i, s2I_i, s1L_l, s2L_l, s1R_r, s1R_n, s1R_o, s1A_a, cmpc, popn, swt, rf_s, rf_n, cat_i, cat_r, cat_n, cat_l, true_and, and_true, List.length_cons, List.length_nil, Nat.zero_add, Int.reduceToNat, Nat.reduceAdd, Nat.reduceDiv, Nat.reduceMod, Nat.reduceMul, Nat.reduceSub, Nat.reduceLeDiff, Nat.reduceLT, Nat.reduceEqDiff, ↓reduceIte, r_gr_wi, r_gl_wi, r_gk_wi, r_gn_wi, r_wi_eq, r_wi_ne, r_wi_nj, r_gi_wr, r_gl_wr, r_gk_wr, r_gn_wr, r_gr_wa, r_gl_wa, r_gk_wa, r_gn_wa, aa_e, as_e, al_e, u_lt, u_le, u_gt, u_ge, u_lt0, u_le0, u_gt0, u_ge0, Classical.not_not, not_true_eq_false, not_false_eq_true, oi_n, oi_m, n_dec, nI_add, pk_mul, n_sub, n_eq, n_le, n_lt, n_eq0, n_lt0, n_le0, n_0lt, n_0le, n_eqm, m_eqn, n_ltm, n_and, n_or, n_xor, n_shl, n_shr, tb1, tb0, bP_1, bP_0, bP_n0, ix_n, inb_n, u_eq, u_eqm]
    exact lfF r_Ci_hasTwo (by omega) rfl
  · refine hP.1 _ _ s_Ci_hasTwo_8 _ _ _ _ _ ?_
    simp (maxSteps := 1000000) (disch := omega) only [g_Ci_hasTwo_8, slk, List.map_cons, List.map_nil, List.sum_cons, List.sum_nil, vc_i, vc_r, vc_n, vc_l, vc_o, Nat.add_zero, kO_e, kA_e, hdO_a, eq_self, blk, stp, lg, ls0, lk, ls1, ls2, kI_i, kL_l, kR_r, kR_n, kR_o, s1I_i, s2I_i, s1L_l, s2L_l, s1R_r, s1R_n, s1R_o, s1A_a, cmpc, popn, swt, rf_s, rf_n, cat_i, cat_r, cat_n, cat_l, true_and, and_true, List.length_cons, List.length_nil, Nat.zero_add, Int.reduceToNat, Nat.reduceAdd, Nat.reduceDiv, Nat.reduceMod, Nat.reduceMul, Nat.reduceSub, Nat.reduceLeDiff, Nat.reduceLT, Nat.reduceEqDiff, ↓reduceIte, r_gr_wi, r_gl_wi, r_gk_wi, r_gn_wi, r_wi_eq, r_wi_ne, r_wi_nj, r_gi_wr, r_gl_wr, r_gk_wr, r_gn_wr, r_gr_wa, r_gl_wa, r_gk_wa, r_gn_wa, aa_e, as_e, al_e, u_lt, u_le, u_gt, u_ge, u_lt0, u_le0, u_gt0, u_ge0, Classical.not_not, not_true_eq_false, not_false_eq_true, oi_n, oi_m, n_dec, nI_add, pk_mul, n_sub, n_eq, n_le, n_lt, n_eq0, n_lt0, n_le0, n_0lt, n_0le, n_eqm, m_eqn, n_ltm, n_and, n_or, n_xor, n_shl, n_shr, tb1, tb0, bP_1, bP_0, bP_n0, ix_n, inb_n, u_eq, u_eqm, k21 L]
    refine wc (c_Ci_has L h4 hn hy) ⟨by omega, by omega⟩ ?_
    simp (maxSteps := 1000000) (disch := omega) only [slk, List.map_cons, List.map_nil, List.sum_cons, List.sum_nil, vc_i, vc_r, vc_n, vc_l, vc_o, Nat.add_zero, kO_e, kA_e, hdO_a, eq_self, blk, stp, lg, ls0, lk, ls1, ls2, kI_i, kL_l, kR_r, kR_n, kR_o, s1I_i, s2I_i, s1L_l, s2L_l, s1R_r, s1R_n, s1R_o, s1A_a, cmpc, popn, swt, rf_s, rf_n, cat_i, cat_r, cat_n, cat_l, true_and, and_true, List.length_cons, List.length_nil, Nat.zero_add, Int.reduceToNat, Nat.reduceAdd, Nat.reduceDiv, Nat.reduceMod, Nat.reduceMul, Nat.reduceSub, Nat.reduceLeDiff, Nat.reduceLT, Nat.reduceEqDiff, ↓reduceIte, r_gr_wi, r_gl_wi, r_gk_wi, r_gn_wi, r_wi_eq, r_wi_ne, r_wi_nj, r_gi_wr, r_gl_wr, r_gk_wr, r_gn_wr, r_gr_wa, r_gl_wa, r_gk_wa, r_gn_wa, aa_e, as_e, al_e, u_lt, u_le, u_gt, u_ge, u_lt0, u_le0, u_gt0, u_ge0, Classical.not_not, not_true_eq_false, not_false_eq_true, oi_n, oi_m, n_dec, nI_add, pk_mul, n_sub, n_eq, n_le, n_lt, n_eq0, n_lt0, n_le0, n_0lt, n_0le, n_eqm, m_eqn, n_ltm, n_and, n_or, n_xor, n_shl, n_shr, tb1, tb0, bP_1, bP_0, bP_n0, ix_n, inb_n, u_eq, u_eqm, k21 L]
    refine ⟨fun q2 => ?_, fun q2 => ?_⟩
    · refine hP.1 _ _ s_Ci_hasTwo_25 _ _ _ _ _ ?_
      simp (maxSteps := 1000000) (disch := omega) only [g_Ci_hasTwo_25, slk, List.map_cons, List.map_nil, List.sum_cons, List.sum_nil, vc_i, vc_r, vc_n, vc_l, vc_o, Nat.add_zero, kO_e, kA_e, hdO_a, eq_self, blk, stp, lg, ls0, lk, ls1, ls2, kI_i, kL_l, kR_r, kR_n, kR_o, s1I_i, s2I_i, s1L_l, s2L_l, s1R_r, s1R_n, s1R_o, s1A_a, cmpc, popn, swt, rf_s, rf_n, cat_i, cat_r, cat_n, cat_l, true_and, and_true, List.length_cons, List.length_nil, Nat.zero_add, Int.reduceToNat, Nat.reduceAdd, Nat.reduceDiv, Nat.reduceMod, Nat.reduceMul, Nat.reduceSub, Nat.reduceLeDiff, Nat.reduceLT, Nat.reduceEqDiff, ↓reduceIte, r_gr_wi, r_gl_wi, r_gk_wi, r_gn_wi, r_wi_eq, r_wi_ne, r_wi_nj, r_gi_wr, r_gl_wr, r_gk_wr, r_gn_wr, r_gr_wa, r_gl_wa, r_gk_wa, r_gn_wa, aa_e, as_e, al_e, u_lt, u_le, u_gt, u_ge, u_lt0, u_le0, u_gt0, u_ge0, Classical.not_not, not_true_eq_false, not_false_eq_true, oi_n, oi_m, n_dec, nI_add, pk_mul, n_sub, n_eq, n_le, n_lt, n_eq0, n_lt0, n_le0, n_0lt, n_0le, n_eqm, m_eqn, n_ltm, n_and, n_or, n_xor, n_shl, n_shr, tb1, tb0, bP_1, bP_0, bP_n0, ix_n, inb_n, u_eq, u_eqm]
      refine hP.1 _ _ s_Ci_hasTwo_26 _ _ _ _ _ ?_
      simp (maxSteps := 1000000) (disch := omega) only [g_Ci_hasTwo_26, slk, List.map_cons, List.map_nil, List.sum_cons, List.sum_nil, vc_i, vc_r, vc_n, vc_l, vc_o, Nat.add_zero, kO_e, kA_e, hdO_a, eq_self, blk, stp, lg, ls0, lk, ls1, ls2, kI_i, kL_l, kR_r, kR_n, kR_o, s1I_i, s2I_i, s1L_l, s2L_l, s1R_r, s1R_n, s1R_o, s1A_a, cmpc, popn, swt, rf_s, rf_n, cat_i, cat_r, cat_n, cat_l, true_and, and_true, List.length_cons, List.length_nil, Nat.zero_add, Int.reduceToNat, Nat.reduceAdd, Nat.reduceDiv, Nat.reduceMod, Nat.reduceMul, Nat.reduceSub, Nat.reduceLeDiff, Nat.reduceLT, Nat.reduceEqDiff, ↓reduceIte, r_gr_wi, r_gl_wi, r_gk_wi, r_gn_wi, r_wi_eq, r_wi_ne, r_wi_nj, r_gi_wr, r_gl_wr, r_gk_wr, r_gn_wr, r_gr_wa, r_gl_wa, r_gk_wa, r_gn_wa, aa_e, as_e, al_e, u_lt, u_le, u_gt, u_ge, u_lt0, u_le0, u_gt0, u_ge0, Classical.not_not, not_true_eq_false, not_false_eq_true, oi_n, oi_m, n_dec, nI_add, pk_mul, n_sub, n_eq, n_le, n_lt, n_eq0, n_lt0, n_le0, n_0lt, n_0le, n_eqm, m_eqn, n_ltm, n_and, n_or, n_xor, n_shl, n_shr, tb1, tb0, bP_1, bP_0, bP_n0, ix_n, inb_n, u_eq, u_eqm]
      exact lfF r_Ci_hasTwo (by omega) rfl
    · refine hP.1 _ _ s_Ci_hasTwo_16 _ _ _ _ _ ?_
      simp (maxSteps := 1000000) (disch := omega) only [g_Ci_hasTwo_16, slk, List.map_cons, List.map_nil, List.sum_cons, List.sum_nil, vc_i, vc_r, vc_n, vc_l, vc_o, Nat.add_zero, kO_e, kA_e, hdO_a, eq_self, blk, stp, lg, ls0, lk, ls1, ls2, kI_i, kL_l, kR_r, kR_n, kR_o, s1I_i, s2I_i, s1L_l, s2L_l, s1R_r, s1R_n, s1R_o, s1A_a, cmpc, popn, swt, rf_s, rf_n, cat_i, cat_r, cat_n, cat_l, true_and, and_true, List.length_cons, List.length_nil, Nat.zero_add, Int.reduceToNat, Nat.reduceAdd, Nat.reduceDiv, Nat.reduceMod, Nat.reduceMul, Nat.reduceSub, Nat.reduceLeDiff, Nat.reduceLT, Nat.reduceEqDiff, ↓reduceIte, r_gr_wi, r_gl_wi, r_gk_wi, r_gn_wi, r_wi_eq, r_wi_ne, r_wi_nj, r_gi_wr, r_gl_wr, r_gk_wr, r_gn_wr, r_gr_wa, r_gl_wa, r_gk_wa, r_gn_wa, aa_e, as_e, al_e, u_lt, u_le, u_gt, u_ge, u_lt0, u_le0, u_gt0, u_ge0, Classical.not_not, not_true_eq_false, not_false_eq_true, oi_n, oi_m, n_dec, nI_add, pk_mul, n_sub, n_eq, n_le, n_lt, n_eq0, n_lt0, n_le0, n_0lt, n_0le, n_eqm, m_eqn, n_ltm, n_and, n_or, n_xor, n_shl, n_shr, tb1, tb0, bP_1, bP_0, bP_n0, ix_n, inb_n, u_eq, u_eqm]
      refine ⟨fun hc1 => ?_, fun hc1 => ?_⟩
      · refine hP.1 _ _ s_Ci_hasTwo_25 _ _ _ _ _ ?_
        simp (maxSteps := 1000000) (disch := omega) only [g_Ci_hasTwo_25, slk, List.map_cons, List.map_nil, List.sum_cons, List.sum_nil, vc_i, vc_r, vc_n, vc_l, vc_o, Nat.add_zero, kO_e, kA_e, hdO_a, eq_self, blk, stp, lg, ls0, lk, ls1, ls2, kI_i, kL_l, kR_r, kR_n, kR_o, s1I_i, s2I_i, s1L_l, s2L_l, s1R_r, s1R_n, s1R_o, s1A_a, cmpc, popn, swt, rf_s, rf_n, cat_i, cat_r, cat_n, cat_l, true_and, and_true, List.length_cons, List.length_nil, Nat.zero_add, Int.reduceToNat, Nat.reduceAdd, Nat.reduceDiv, Nat.reduceMod, Nat.reduceMul, Nat.reduceSub, Nat.reduceLeDiff, Nat.reduceLT, Nat.reduceEqDiff, ↓reduceIte, r_gr_wi, r_gl_wi, r_gk_wi, r_gn_wi, r_wi_eq, r_wi_ne, r_wi_nj, r_gi_wr, r_gl_wr, r_gk_wr, r_gn_wr, r_gr_wa, r_gl_wa, r_gk_wa, r_gn_wa, aa_e, as_e, al_e, u_lt, u_le, u_gt, u_ge, u_lt0, u_le0, u_gt0, u_ge0, Classical.not_not, not_true_eq_false, not_false_eq_true, oi_n, oi_m, n_dec, nI_add, pk_mul, n_sub, n_eq, n_le, n_lt, n_eq0, n_lt0, n_le0, n_0lt, n_0le, n_eqm, m_eqn, n_ltm, n_and, n_or, n_xor, n_shl, n_shr, tb1, tb0, bP_1, bP_0, bP_n0, ix_n, inb_n, u_eq, u_eqm]
        refine hP.1 _ _ s_Ci_hasTwo_26 _ _ _ _ _ ?_
        simp (maxSteps := 1000000) (disch := omega) only [g_Ci_hasTwo_26, slk, List.map_cons, List.map_nil, List.sum_cons, List.sum_nil, vc_i, vc_r, vc_n, vc_l, vc_o, Nat.add_zero, kO_e, kA_e, hdO_a, eq_self, blk, stp, lg, ls0, lk, ls1, ls2, kI_i, kL_l, kR_r, kR_n, kR_o, s1I_i, s2I_i, s1L_l, s2L_l, s1R_r, s1R_n, s1R_o, s1A_a, cmpc, popn, swt, rf_s, rf_n, cat_i, cat_r, cat_n, cat_l, true_and, and_true, List.length_cons, List.length_nil, Nat.zero_add, Int.reduceToNat, Nat.reduceAdd, Nat.reduceDiv, Nat.reduceMod, Nat.reduceMul, Nat.reduceSub, Nat.reduceLeDiff, Nat.reduceLT, Nat.reduceEqDiff, ↓reduceIte, r_gr_wi, r_gl_wi, r_gk_wi, r_gn_wi, r_wi_eq, r_wi_ne, r_wi_nj, r_gi_wr, r_gl_wr, r_gk_wr, r_gn_wr, r_gr_wa, r_gl_wa, r_gk_wa, r_gn_wa, aa_e, as_e, al_e, u_lt, u_le, u_gt, u_ge, u_lt0, u_le0, u_gt0, u_ge0, Classical.not_not, not_true_eq_false, not_false_eq_true, oi_n, oi_m, n_dec, nI_add, pk_mul, n_sub, n_eq, n_le, n_lt, n_eq0, n_lt0, n_le0, n_0lt, n_0le, n_eqm, m_eqn, n_ltm, n_and, n_or, n_xor, n_shl, n_shr, tb1, tb0, bP_1, bP_0, bP_n0, ix_n, inb_n, u_eq, u_eqm]
        (first | exact lfT r_Ci_hasTwo (by omega) rfl | exact lfF r_Ci_hasTwo (by omega) rfl)
      · skip
        refine hP.1 _ _ s_Ci_hasTwo_21 _ _ _ _ _ ?_
        simp (maxSteps := 1000000) (disch := omega) only [g_Ci_hasTwo_21, slk, List.map_cons, List.map_nil, List.sum_cons, List.sum_nil, vc_i, vc_r, vc_n, vc_l, vc_o, Nat.add_zero, kO_e, kA_e, hdO_a, eq_self, blk, stp, lg, ls0, lk, ls1, ls2, kI_i, kL_l, kR_r, kR_n, kR_o, s1I_i, s2I_i, s1L_l, s2L_l, s1R_r, s1R_n, s1R_o, s1A_a, cmpc, popn, swt, rf_s, rf_n, cat_i, cat_r, cat_n, cat_l, true_and, and_true, List.length_cons, List.length_nil, Nat.zero_add, Int.reduceToNat, Nat.reduceAdd, Nat.reduceDiv, Nat.reduceMod, Nat.reduceMul, Nat.reduceSub, Nat.reduceLeDiff, Nat.reduceLT, Nat.reduceEqDiff, ↓reduceIte, r_gr_wi, r_gl_wi, r_gk_wi, r_gn_wi, r_wi_eq, r_wi_ne, r_wi_nj, r_gi_wr, r_gl_wr, r_gk_wr, r_gn_wr, r_gr_wa, r_gl_wa, r_gk_wa, r_gn_wa, aa_e, as_e, al_e, u_lt, u_le, u_gt, u_ge, u_lt0, u_le0, u_gt0, u_ge0, Classical.not_not, not_true_eq_false, not_false_eq_true, oi_n, oi_m, n_dec, nI_add, pk_mul, n_sub, n_eq, n_le, n_lt, n_eq0, n_lt0, n_le0, n_0lt, n_0le, n_eqm, m_eqn, n_ltm, n_and, n_or, n_xor, n_shl, n_shr, tb1, tb0, bP_1, bP_0, bP_n0, ix_n, inb_n, u_eq, u_eqm]
        refine hP.1 _ _ s_Ci_hasTwo_26 _ _ _ _ _ ?_
        simp (maxSteps := 1000000) (disch := omega) only [g_Ci_hasTwo_26, slk, List.map_cons, List.map_nil, List.sum_cons, List.sum_nil, vc_i, vc_r, vc_n, vc_l, vc_o, Nat.add_zero, kO_e, kA_e, hdO_a, eq_self, blk, stp, lg, ls0, lk, ls1, ls2, kI_i, kL_l, kR_r, kR_n, kR_o, s1I_i, s2I_i, s1L_l, s2L_l, s1R_r, s1R_n, s1R_o, s1A_a, cmpc, popn, swt, rf_s, rf_n, cat_i, cat_r, cat_n, cat_l, true_and, and_true, List.length_cons, List.length_nil, Nat.zero_add, Int.reduceToNat, Nat.reduceAdd, Nat.reduceDiv, Nat.reduceMod, Nat.reduceMul, Nat.reduceSub, Nat.reduceLeDiff, Nat.reduceLT, Nat.reduceEqDiff, ↓reduceIte, r_gr_wi, r_gl_wi, r_gk_wi, r_gn_wi, r_wi_eq, r_wi_ne, r_wi_nj, r_gi_wr, r_gl_wr, r_gk_wr, r_gn_wr, r_gr_wa, r_gl_wa, r_gk_wa, r_gn_wa, aa_e, as_e, al_e, u_lt, u_le, u_gt, u_ge, u_lt0, u_le0, u_gt0, u_ge0, Classical.not_not, not_true_eq_false, not_false_eq_true, oi_n, oi_m, n_dec, nI_add, pk_mul, n_sub, n_eq, n_le, n_lt, n_eq0, n_lt0, n_le0, n_0lt, n_0le, n_eqm, m_eqn, n_ltm, n_and, n_or, n_xor, n_shl, n_shr, tb1, tb0, bP_1, bP_0, bP_n0, ix_n, inb_n, u_eq, u_eqm]
        (first | exact lfT r_Ci_hasTwo (by omega) rfl | exact lfF r_Ci_hasTwo (by omega) rfl)
theorem c_Ci_sits (L : Lay h) {b : Nat} (h6 : gi h 21 6 = nI b) (hb : b < 256) {e : Nat} (he : e < 32) : Mz (d + 1) 152 [.ref 21, .int (nI e)] h 0 0 (Rt (bP (b.testBit e = true)) h) := by
  refine mz_in (l := [some (.ref 21), some (.int (nI e))]) mk_Ci_sits n_Ci_sits rfl l_Ci_sits rfl (Nat.le_of_ble_eq_true rfl) fun P hP => ?_
  refine hP.1 _ _ s_Ci_sits_0 _ _ _ _ _ ?_
  simp (maxSteps := 1000000) (disch := omega) only [g_Ci_sits_0, slk, List.map_cons, List.map_nil, List.sum_cons, List.sum_nil, vc_i, vc_r, vc_n, vc_l, vc_o, Nat.add_zero, kO_e, kA_e, hdO_a, eq_self, blk, stp, lg, ls0, lk, ls1, ls2, kI_i, kL_l, kR_r, kR_n, kR_o, s1I_i, s2I_i, s1L_l, s2L_l, s1R_r, s1R_n, s1R_o, s1A_a, cmpc, popn, swt, rf_s, rf_n, cat_i, cat_r, cat_n, cat_l, true_and, and_true, List.length_cons, List.length_nil, Nat.zero_add, Int.reduceToNat, Nat.reduceAdd, Nat.reduceDiv, Nat.reduceMod, Nat.reduceMul, Nat.reduceSub, Nat.reduceLeDiff, Nat.reduceLT, Nat.reduceEqDiff, ↓reduceIte, r_gr_wi, r_gl_wi, r_gk_wi, r_gn_wi, r_wi_eq, r_wi_ne, r_wi_nj, r_gi_wr, r_gl_wr, r_gk_wr, r_gn_wr, r_gr_wa, r_gl_wa, r_gk_wa, r_gn_wa, aa_e, as_e, al_e, u_lt, u_le, u_gt, u_ge, u_lt0, u_le0, u_gt0, u_ge0, Classical.not_not, not_true_eq_false, not_false_eq_true, oi_n, oi_m, n_dec, nI_add, pk_mul, n_sub, n_eq, n_le, n_lt, n_eq0, n_lt0, n_le0, n_0lt, n_0le, n_eqm, m_eqn, n_ltm, n_and, n_or, n_xor, n_shl, n_shr, tb1, tb0, bP_1, bP_0, bP_n0, ix_n, inb_n, u_eq, u_eqm, k21 L, h6]
  refine ⟨fun hc1 => ?_, fun hc1 => ?_⟩
  · refine hP.1 _ _ s_Ci_sits_15 _ _ _ _ _ ?_
    simp (maxSteps := 1000000) (disch := omega) only [g_Ci_sits_15, slk, List.map_cons, List.map_nil, List.sum_cons, List.sum_nil, vc_i, vc_r, vc_n, vc_l, vc_o, Nat.add_zero, kO_e, kA_e, hdO_a, eq_self, blk, stp, lg, ls0, lk, ls1, ls2, kI_i, kL_l, kR_r, kR_n, kR_o, s1I_i, s2I_i, s1L_l, s2L_l, s1R_r, s1R_n, s1R_o, s1A_a, cmpc, popn, swt, rf_s, rf_n, cat_i, cat_r, cat_n, cat_l, true_and, and_true, List.length_cons, List.length_nil, Nat.zero_add, Int.reduceToNat, Nat.reduceAdd, Nat.reduceDiv, Nat.reduceMod, Nat.reduceMul, Nat.reduceSub, Nat.reduceLeDiff, Nat.reduceLT, Nat.reduceEqDiff, ↓reduceIte, r_gr_wi, r_gl_wi, r_gk_wi, r_gn_wi, r_wi_eq, r_wi_ne, r_wi_nj, r_gi_wr, r_gl_wr, r_gk_wr, r_gn_wr, r_gr_wa, r_gl_wa, r_gk_wa, r_gn_wa, aa_e, as_e, al_e, u_lt, u_le, u_gt, u_ge, u_lt0, u_le0, u_gt0, u_ge0, Classical.not_not, not_true_eq_false, not_false_eq_true, oi_n, oi_m, n_dec, nI_add, pk_mul, n_sub, n_eq, n_le, n_lt, n_eq0, n_lt0, n_le0, n_0lt, n_0le, n_eqm, m_eqn, n_ltm, n_and, n_or, n_xor, n_shl, n_shr, tb1, tb0, bP_1, bP_0, bP_n0, ix_n, inb_n, u_eq, u_eqm, h6]
    refine hP.1 _ _ s_Ci_sits_16 _ _ _ _ _ ?_
    simp (maxSteps := 1000000) (disch := omega) only [g_Ci_sits_16, slk, List.map_cons, List.map_nil, List.sum_cons, List.sum_nil, vc_i, vc_r, vc_n, vc_l, vc_o, Nat.add_zero, kO_e, kA_e, hdO_a, eq_self, blk, stp, lg, ls0, lk, ls1, ls2, kI_i, kL_l, kR_r, kR_n, kR_o, s1I_i, s2I_i, s1L_l, s2L_l, s1R_r, s1R_n, s1R_o, s1A_a, cmpc, popn, swt, rf_s, rf_n, cat_i, cat_r, cat_n, cat_l, true_and, and_true, List.length_cons, List.length_nil, Nat.zero_add, Int.reduceToNat, Nat.reduceAdd, Nat.reduceDiv, Nat.reduceMod, Nat.reduceMul, Nat.reduceSub, Nat.reduceLeDiff, Nat.reduceLT, Nat.reduceEqDiff, ↓reduceIte, r_gr_wi, r_gl_wi, r_gk_wi, r_gn_wi, r_wi_eq, r_wi_ne, r_wi_nj, r_gi_wr, r_gl_wr, r_gk_wr, r_gn_wr, r_gr_wa, r_gl_wa, r_gk_wa, r_gn_wa, aa_e, as_e, al_e, u_lt, u_le, u_gt, u_ge, u_lt0, u_le0, u_gt0, u_ge0, Classical.not_not, not_true_eq_false, not_false_eq_true, oi_n, oi_m, n_dec, nI_add, pk_mul, n_sub, n_eq, n_le, n_lt, n_eq0, n_lt0, n_le0, n_0lt, n_0le, n_eqm, m_eqn, n_ltm, n_and, n_or, n_xor, n_shl, n_shr, tb1, tb0, bP_1, bP_0, bP_n0, ix_n, inb_n, u_eq, u_eqm, h6]
    (first | exact lfT r_Ci_sits (by simpa using hc1) rfl | exact lfF r_Ci_sits (by simpa using hc1) rfl)
  · skip
    refine hP.1 _ _ s_Ci_sits_11 _ _ _ _ _ ?_
    simp (maxSteps := 1000000) (disch := omega) only [g_Ci_sits_11, slk, List.map_cons, List.map_nil, List.sum_cons, List.sum_nil, vc_i, vc_r, vc_n, vc_l, vc_o, Nat.add_zero, kO_e, kA_e, hdO_a, eq_self, blk, stp, lg, ls0, lk, ls1, ls2, kI_i, kL_l, kR_r, kR_n, kR_o, s1I_i, s2I_i, s1L_l, s2L_l, s1R_r, s1R_n, s1R_o, s1A_a, cmpc, popn, swt, rf_s, rf_n, cat_i, cat_r, cat_n, cat_l, true_and, and_true, List.length_cons, List.length_nil, Nat.zero_add, Int.reduceToNat, Nat.reduceAdd, Nat.reduceDiv, Nat.reduceMod, Nat.reduceMul, Nat.reduceSub, Nat.reduceLeDiff, Nat.reduceLT, Nat.reduceEqDiff, ↓reduceIte, r_gr_wi, r_gl_wi, r_gk_wi, r_gn_wi, r_wi_eq, r_wi_ne, r_wi_nj, r_gi_wr, r_gl_wr, r_gk_wr, r_gn_wr, r_gr_wa, r_gl_wa, r_gk_wa, r_gn_wa, aa_e, as_e, al_e, u_lt, u_le, u_gt, u_ge, u_lt0, u_le0, u_gt0, u_ge0, Classical.not_not, not_true_eq_false, not_false_eq_true, oi_n, oi_m, n_dec, nI_add, pk_mul, n_sub, n_eq, n_le, n_lt, n_eq0, n_lt0, n_le0, n_0lt, n_0le, n_eqm, m_eqn, n_ltm, n_and, n_or, n_xor, n_shl, n_shr, tb1, tb0, bP_1, bP_0, bP_n0, ix_n, inb_n, u_eq, u_eqm, h6]
    refine hP.1 _ _ s_Ci_sits_16 _ _ _ _ _ ?_
    simp (maxSteps := 1000000) (disch := omega) only [g_Ci_sits_16, slk, List.map_cons, List.map_nil, List.sum_cons, List.sum_nil, vc_i, vc_r, vc_n, vc_l, vc_o, Nat.add_zero, kO_e, kA_e, hdO_a, eq_self, blk, stp, lg, ls0, lk, ls1, ls2, kI_i, kL_l, kR_r, kR_n, kR_o, s1I_i, s2I_i, s1L_l, s2L_l, s1R_r, s1R_n, s1R_o, s1A_a, cmpc, popn, swt, rf_s, rf_n, cat_i, cat_r, cat_n, cat_l, true_and, and_true, List.length_cons, List.length_nil, Nat.zero_add, Int.reduceToNat, Nat.reduceAdd, Nat.reduceDiv, Nat.reduceMod, Nat.reduceMul, Nat.reduceSub, Nat.reduceLeDiff, Nat.reduceLT, Nat.reduceEqDiff, ↓reduceIte, r_gr_wi, r_gl_wi, r_gk_wi, r_gn_wi, r_wi_eq, r_wi_ne, r_wi_nj, r_gi_wr, r_gl_wr, r_gk_wr, r_gn_wr, r_gr_wa, r_gl_wa, r_gk_wa, r_gn_wa, aa_e, as_e, al_e, u_lt, u_le, u_gt, u_ge, u_lt0, u_le0, u_gt0, u_ge0, Classical.not_not, not_true_eq_false, not_false_eq_true, oi_n, oi_m, n_dec, nI_add, pk_mul, n_sub, n_eq, n_le, n_lt, n_eq0, n_lt0, n_le0, n_0lt, n_0le, n_eqm, m_eqn, n_ltm, n_and, n_or, n_xor, n_shl, n_shr, tb1, tb0, bP_1, bP_0, bP_n0, ix_n, inb_n, u_eq, u_eqm, h6]
    (first | exact lfT r_Ci_sits (by simpa using hc1) rfl | exact lfF r_Ci_sits (by simpa using hc1) rfl)
/-- the seats in the class, k elders on -/
def csL (ag : Nat → Nat) (b : Nat) : Nat → List Nat
  | 0 => []
  | k + 1 => if b.testBit k = true then insW (fun a => decide (ag k < ag a)) k (csL ag b k) else csL ag b k
theorem csL_b {ag : Nat → Nat} {b : Nat} : ∀ k, (csL ag b k).length ≤ k ∧ ∀ x ∈ csL ag b k, x < k := by
  intro k
  induction k with
  | zero => exact ⟨Nat.le_refl _, fun x hx => by cases hx⟩
  | succ k ih =>
    by_cases q : b.testBit k = true
    · rw [show csL ag b (k + 1) = insW (fun a => decide (ag k < ag a)) k (csL ag b k) from if_pos q, insW_len]
      refine ⟨by omega, fun x hx => ?_⟩
      rcases mem_insW.mp hx with q | q
      · omega
      · have := ih.2 x q
        omega
    · rw [show csL ag b (k + 1) = csL ag b k from if_neg q]
      exact ⟨by omega, fun x hx => by have := ih.2 x hx; omega⟩
theorem getD_ltL {L : List Nat} {k : Nat} (h : ∀ x ∈ L, x < k) (hk : 0 < k) (j : Nat) : L.getD j 0 < k := by
  rw [List.getD_eq_getElem?_getD]
  cases e : L[j]? with
  | none => exact hk
  | some v => exact h v (List.mem_of_getElem? e)
def PS (h : AH) (L : List Nat) (r : Option (Option Value)) (h' : AH) : Prop := r = some none ∧ Fp (fun a => a = 21 ∨ a = 33) h h' ∧ (gi h' 21 4 = gi h 21 4 ∧ gi h' 21 6 = gi h 21 6) ∧ gi h' 21 5 = nI L.length ∧ ∀ k, k < L.length → gi h' 33 k = nI (L.getD k 0)
theorem c_Ci_seatNext (L : Lay h) {ag : Nat → Nat} {M : List Nat} {e : Nat} (h5 : gi h 21 5 = nI M.length) (hM : ∀ k, k < M.length → gi h 33 k = nI (M.getD k 0)) (hl : M.length < 8) (hb : ∀ x ∈ M, x < e) (he : e < 8) (hag : ∀ x, x ≤ e → gi h 22 x = nI (ag x) ∧ ag x < 1000) : Mz (d + 1) 155 [.ref 21, .int (nI e)] h 0 0 (PS h (insW (fun a => decide (ag e < ag a)) e M)) := by
  refine mz_in (l := [some (.ref 21), some (.int (nI e)), none]) mk_Ci_seatNext n_Ci_seatNext rfl l_Ci_seatNext rfl (Nat.le_of_ble_eq_true rfl) fun P hP => ?_
  have ea := hag e (Nat.le_refl _)
  have inner : ∀ p H, p ≤ M.length → Fp (fun a => a = 21 ∨ a = 33) h H → (gi H 21 4 = gi h 21 4 ∧ gi H 21 6 = gi h 21 6 ∧ gi H 21 5 = nI M.length) → (∀ j, j < p → gi H 33 j = nI (M.getD j 0)) → (∀ j, p < j → j ≤ M.length → gi H 33 j = nI (M.getD (j - 1) 0)) → (∀ j, p ≤ j → j < M.length → ag e < ag (M.getD j 0)) → P 5 [some (.ref 21), some (.int (nI e)), some (.int (nI p))] [] H 0 0 := by
    intro p
    induction p with
    | zero =>
      intro H hp F h456 hL hR hB
      have LH := F.lay L
      have ex : P 51 [some (.ref 21), some (.int (nI e)), some (.int (nI 0))] [] H 0 0 := by
        refine hP.1 _ _ s_Ci_seatNext_51 _ _ _ _ _ ?_
        simp (maxSteps := 1000000) (disch := omega) only [g_Ci_seatNext_51, slk, List.map_cons, List.map_nil, List.sum_cons, List.sum_nil, vc_i, vc_r, vc_n, vc_l, vc_o, Nat.add_zero, kO_e, kA_e, hdO_a, eq_self, blk, stp, lg, ls0, lk, ls1, ls2, kI_i, kL_l, kR_r, kR_n, kR_o, s1I_i, s2I_i, s1L_l, s2L_l, s1R_r, s1R_n, s1R_o, s1A_a, cmpc, popn, swt, rf_s, rf_n, cat_i, cat_r, cat_n, cat_l, true_and, and_true, List.length_cons, List.length_nil, Nat.zero_add, Int.reduceToNat, Nat.reduceAdd, Nat.reduceDiv, Nat.reduceMod, Nat.reduceMul, Nat.reduceSub, Nat.reduceLeDiff, Nat.reduceLT, Nat.reduceEqDiff, ↓reduceIte, r_gr_wi, r_gl_wi, r_gk_wi, r_gn_wi, r_wi_eq, r_wi_ne, r_wi_nj, r_gi_wr, r_gl_wr, r_gk_wr, r_gn_wr, r_gr_wa, r_gl_wa, r_gk_wa, r_gn_wa, aa_e, as_e, al_e, u_lt, u_le, u_gt, u_ge, u_lt0, u_le0, u_gt0, u_ge0, Classical.not_not, not_true_eq_false, not_false_eq_true, oi_n, oi_m, n_dec, nI_add, pk_mul, n_sub, n_eq, n_le, n_lt, n_eq0, n_lt0, n_le0, n_0lt, n_0le, n_eqm, m_eqn, n_ltm, n_and, n_or, n_xor, n_shl, n_shr, tb1, tb0, bP_1, bP_0, bP_n0, ix_n, inb_n, u_eq, u_eqm, k21 LH, f21_3 LH, k33 LH, h456.2.2]
        rw [r_Ci_seatNext]
        have e1 : insW (fun a => decide (ag e < ag a)) e M = _ := insW_eq (p := 0) (by omega) (fun j _ h2 => decide_eq_true (hB j (by omega) (by omega))) (Or.inl rfl)
        refine ⟨trivial, rfl, (F.wi (Or.inr rfl) _ _).wi (Or.inl rfl) _ _, ?_, ?_, ?_⟩
        · simp (disch := omega) only [r_wi_ne, r_wi_nj]
          exact ⟨h456.1, h456.2.1⟩
        · rw [insW_len, r_wi_eq]
        · intro j hj
          rw [insW_len] at hj
          simp (disch := omega) only [r_wi_ne]
          rw [e1, ins_get (by omega) (by omega), r_gi_wi, if_pos rfl]
          by_cases q : j = 0
          · subst q
            rfl
          · rw [if_neg q, if_neg (by omega), if_neg q]
            exact hR j (by omega) (by omega)
      refine hP.1 _ _ s_Ci_seatNext_5 _ _ _ _ _ ?_
      simp (maxSteps := 1000000) (disch := omega) only [g_Ci_seatNext_5, slk, List.map_cons, List.map_nil, List.sum_cons, List.sum_nil, vc_i, vc_r, vc_n, vc_l, vc_o, Nat.add_zero, kO_e, kA_e, hdO_a, eq_self, blk, stp, lg, ls0, lk, ls1, ls2, kI_i, kL_l, kR_r, kR_n, kR_o, s1I_i, s2I_i, s1L_l, s2L_l, s1R_r, s1R_n, s1R_o, s1A_a, cmpc, popn, swt, rf_s, rf_n, cat_i, cat_r, cat_n, cat_l, true_and, and_true, List.length_cons, List.length_nil, Nat.zero_add, Int.reduceToNat, Nat.reduceAdd, Nat.reduceDiv, Nat.reduceMod, Nat.reduceMul, Nat.reduceSub, Nat.reduceLeDiff, Nat.reduceLT, Nat.reduceEqDiff, ↓reduceIte, r_gr_wi, r_gl_wi, r_gk_wi, r_gn_wi, r_wi_eq, r_wi_ne, r_wi_nj, r_gi_wr, r_gl_wr, r_gk_wr, r_gn_wr, r_gr_wa, r_gl_wa, r_gk_wa, r_gn_wa, aa_e, as_e, al_e, u_lt, u_le, u_gt, u_ge, u_lt0, u_le0, u_gt0, u_ge0, Classical.not_not, not_true_eq_false, not_false_eq_true, oi_n, oi_m, n_dec, nI_add, pk_mul, n_sub, n_eq, n_le, n_lt, n_eq0, n_lt0, n_le0, n_0lt, n_0le, n_eqm, m_eqn, n_ltm, n_and, n_or, n_xor, n_shl, n_shr, tb1, tb0, bP_1, bP_0, bP_n0, ix_n, inb_n, u_eq, u_eqm, h456.2.2]
      refine ⟨fun hc1 => ?_, fun hc1 => ?_⟩
      · exact ex
      · skip
        (first | contradiction | (exfalso; omega))
    | succ p ihp =>
      intro H hp F h456 hL hR hB
      have LH := F.lay L
      have mb : M.getD p 0 < e ∨ M.getD p 0 = 0 := by
        rw [List.getD_eq_getElem?_getD, List.getElem?_eq_getElem (by omega)]
        exact Or.inl (hb _ (List.getElem_mem _))
      have ap := hag (M.getD p 0) (by omega)
      have a22 : ∀ j, gi H 22 j = gi h 22 j := fun j => F.at (by omega) j
      have ex : ¬ ag e < ag (M.getD p 0) → P 51 [some (.ref 21), some (.int (nI e)), some (.int (nI (p + 1)))] [] H 0 0 := by
        intro a
        refine hP.1 _ _ s_Ci_seatNext_51 _ _ _ _ _ ?_
        simp (maxSteps := 1000000) (disch := omega) only [g_Ci_seatNext_51, slk, List.map_cons, List.map_nil, List.sum_cons, List.sum_nil, vc_i, vc_r, vc_n, vc_l, vc_o, Nat.add_zero, kO_e, kA_e, hdO_a, eq_self, blk, stp, lg, ls0, lk, ls1, ls2, kI_i, kL_l, kR_r, kR_n, kR_o, s1I_i, s2I_i, s1L_l, s2L_l, s1R_r, s1R_n, s1R_o, s1A_a, cmpc, popn, swt, rf_s, rf_n, cat_i, cat_r, cat_n, cat_l, true_and, and_true, List.length_cons, List.length_nil, Nat.zero_add, Int.reduceToNat, Nat.reduceAdd, Nat.reduceDiv, Nat.reduceMod, Nat.reduceMul, Nat.reduceSub, Nat.reduceLeDiff, Nat.reduceLT, Nat.reduceEqDiff, ↓reduceIte, r_gr_wi, r_gl_wi, r_gk_wi, r_gn_wi, r_wi_eq, r_wi_ne, r_wi_nj, r_gi_wr, r_gl_wr, r_gk_wr, r_gn_wr, r_gr_wa, r_gl_wa, r_gk_wa, r_gn_wa, aa_e, as_e, al_e, u_lt, u_le, u_gt, u_ge, u_lt0, u_le0, u_gt0, u_ge0, Classical.not_not, not_true_eq_false, not_false_eq_true, oi_n, oi_m, n_dec, nI_add, pk_mul, n_sub, n_eq, n_le, n_lt, n_eq0, n_lt0, n_le0, n_0lt, n_0le, n_eqm, m_eqn, n_ltm, n_and, n_or, n_xor, n_shl, n_shr, tb1, tb0, bP_1, bP_0, bP_n0, ix_n, inb_n, u_eq, u_eqm, k21 LH, f21_3 LH, k33 LH, h456.2.2, hL p (by omega), Nat.add_sub_cancel, a22, ap.1, ea.1]
        rw [r_Ci_seatNext]
        have e1 : insW (fun a => decide (ag e < ag a)) e M = _ := insW_eq (p := p + 1) (by omega) (fun j _ h2 => decide_eq_true (hB j (by omega) (by omega))) (Or.inr (decide_eq_false a))
        refine ⟨trivial, rfl, (F.wi (Or.inr rfl) _ _).wi (Or.inl rfl) _ _, ?_, ?_, ?_⟩
        · simp (disch := omega) only [r_wi_ne, r_wi_nj]
          exact ⟨h456.1, h456.2.1⟩
        · rw [insW_len, r_wi_eq]
        · intro j hj
          rw [insW_len] at hj
          simp (disch := omega) only [r_wi_ne]
          rw [e1, ins_get (by omega) (by omega), r_gi_wi, if_pos rfl]
          by_cases q : j = p + 1
          · subst q
            rw [if_pos rfl, if_neg (by omega), if_pos rfl]
          · rw [if_neg q]
            by_cases e2 : j < p + 1
            · rw [if_pos e2]
              exact hL j e2
            · rw [if_neg e2, if_neg q]
              exact hR j (by omega) (by omega)
      refine hP.1 _ _ s_Ci_seatNext_5 _ _ _ _ _ ?_
      simp (maxSteps := 1000000) (disch := omega) only [g_Ci_seatNext_5, slk, List.map_cons, List.map_nil, List.sum_cons, List.sum_nil, vc_i, vc_r, vc_n, vc_l, vc_o, Nat.add_zero, kO_e, kA_e, hdO_a, eq_self, blk, stp, lg, ls0, lk, ls1, ls2, kI_i, kL_l, kR_r, kR_n, kR_o, s1I_i, s2I_i, s1L_l, s2L_l, s1R_r, s1R_n, s1R_o, s1A_a, cmpc, popn, swt, rf_s, rf_n, cat_i, cat_r, cat_n, cat_l, true_and, and_true, List.length_cons, List.length_nil, Nat.zero_add, Int.reduceToNat, Nat.reduceAdd, Nat.reduceDiv, Nat.reduceMod, Nat.reduceMul, Nat.reduceSub, Nat.reduceLeDiff, Nat.reduceLT, Nat.reduceEqDiff, ↓reduceIte, r_gr_wi, r_gl_wi, r_gk_wi, r_gn_wi, r_wi_eq, r_wi_ne, r_wi_nj, r_gi_wr, r_gl_wr, r_gk_wr, r_gn_wr, r_gr_wa, r_gl_wa, r_gk_wa, r_gn_wa, aa_e, as_e, al_e, u_lt, u_le, u_gt, u_ge, u_lt0, u_le0, u_gt0, u_ge0, Classical.not_not, not_true_eq_false, not_false_eq_true, oi_n, oi_m, n_dec, nI_add, pk_mul, n_sub, n_eq, n_le, n_lt, n_eq0, n_lt0, n_le0, n_0lt, n_0le, n_eqm, m_eqn, n_ltm, n_and, n_or, n_xor, n_shl, n_shr, tb1, tb0, bP_1, bP_0, bP_n0, ix_n, inb_n, u_eq, u_eqm, h456.2.2, hL p (by omega), Nat.add_sub_cancel, a22, ap.1, ea.1]
      refine ⟨fun hc => by first | exact hc.elim | (exfalso; omega), fun _ => ?_⟩
      refine hP.1 _ _ s_Ci_seatNext_9 _ _ _ _ _ ?_
      simp (maxSteps := 1000000) (disch := omega) only [g_Ci_seatNext_9, slk, List.map_cons, List.map_nil, List.sum_cons, List.sum_nil, vc_i, vc_r, vc_n, vc_l, vc_o, Nat.add_zero, kO_e, kA_e, hdO_a, eq_self, blk, stp, lg, ls0, lk, ls1, ls2, kI_i, kL_l, kR_r, kR_n, kR_o, s1I_i, s2I_i, s1L_l, s2L_l, s1R_r, s1R_n, s1R_o, s1A_a, cmpc, popn, swt, rf_s, rf_n, cat_i, cat_r, cat_n, cat_l, true_and, and_true, List.length_cons, List.length_nil, Nat.zero_add, Int.reduceToNat, Nat.reduceAdd, Nat.reduceDiv, Nat.reduceMod, Nat.reduceMul, Nat.reduceSub, Nat.reduceLeDiff, Nat.reduceLT, Nat.reduceEqDiff, ↓reduceIte, r_gr_wi, r_gl_wi, r_gk_wi, r_gn_wi, r_wi_eq, r_wi_ne, r_wi_nj, r_gi_wr, r_gl_wr, r_gk_wr, r_gn_wr, r_gr_wa, r_gl_wa, r_gk_wa, r_gn_wa, aa_e, as_e, al_e, u_lt, u_le, u_gt, u_ge, u_lt0, u_le0, u_gt0, u_ge0, Classical.not_not, not_true_eq_false, not_false_eq_true, oi_n, oi_m, n_dec, nI_add, pk_mul, n_sub, n_eq, n_le, n_lt, n_eq0, n_lt0, n_le0, n_0lt, n_0le, n_eqm, m_eqn, n_ltm, n_and, n_or, n_xor, n_shl, n_shr, tb1, tb0, bP_1, bP_0, bP_n0, ix_n, inb_n, u_eq, u_eqm, k21 LH, f21_0 LH, k22 LH, f21_3 LH, k33 LH, h456.2.2, hL p (by omega), Nat.add_sub_cancel, a22, ap.1, ea.1]
      refine ⟨fun hc => ex (by omega), fun hc => ?_⟩
      refine hP.1 _ _ s_Ci_seatNext_31 _ _ _ _ _ ?_
      simp (maxSteps := 1000000) (disch := omega) only [g_Ci_seatNext_31, slk, List.map_cons, List.map_nil, List.sum_cons, List.sum_nil, vc_i, vc_r, vc_n, vc_l, vc_o, Nat.add_zero, kO_e, kA_e, hdO_a, eq_self, blk, stp, lg, ls0, lk, ls1, ls2, kI_i, kL_l, kR_r, kR_n, kR_o, s1I_i, s2I_i, s1L_l, s2L_l, s1R_r, s1R_n, s1R_o, s1A_a, cmpc, popn, swt, rf_s, rf_n, cat_i, cat_r, cat_n, cat_l, true_and, and_true, List.length_cons, List.length_nil, Nat.zero_add, Int.reduceToNat, Nat.reduceAdd, Nat.reduceDiv, Nat.reduceMod, Nat.reduceMul, Nat.reduceSub, Nat.reduceLeDiff, Nat.reduceLT, Nat.reduceEqDiff, ↓reduceIte, r_gr_wi, r_gl_wi, r_gk_wi, r_gn_wi, r_wi_eq, r_wi_ne, r_wi_nj, r_gi_wr, r_gl_wr, r_gk_wr, r_gn_wr, r_gr_wa, r_gl_wa, r_gk_wa, r_gn_wa, aa_e, as_e, al_e, u_lt, u_le, u_gt, u_ge, u_lt0, u_le0, u_gt0, u_ge0, Classical.not_not, not_true_eq_false, not_false_eq_true, oi_n, oi_m, n_dec, nI_add, pk_mul, n_sub, n_eq, n_le, n_lt, n_eq0, n_lt0, n_le0, n_0lt, n_0le, n_eqm, m_eqn, n_ltm, n_and, n_or, n_xor, n_shl, n_shr, tb1, tb0, bP_1, bP_0, bP_n0, ix_n, inb_n, u_eq, u_eqm, k21 LH, f21_3 LH, k33 LH, h456.2.2, hL p (by omega), Nat.add_sub_cancel, a22, ap.1, ea.1]
      refine ihp _ (by omega) (F.wi (Or.inr rfl) _ _) ?_ ?_ ?_ ?_
      · simp (disch := omega) only [r_wi_ne]
        exact h456
      · intro j hj
        rw [r_gi_wi, if_pos rfl, if_neg (by omega)]
        exact hL j (by omega)
      · intro j h1 h2
        rw [r_gi_wi, if_pos rfl]
        by_cases q : j = p + 1
        · subst q
          rw [if_pos rfl]
          rfl
        · rw [if_neg q]
          exact hR j (by omega) (by omega)
      · intro j h1 h2
        by_cases q : j = p
        · subst q
          omega
        · exact hB j (by omega) h2
  refine hP.1 _ _ s_Ci_seatNext_0 _ _ _ _ _ ?_
  simp (maxSteps := 1000000) (disch := omega) only [g_Ci_seatNext_0, slk, List.map_cons, List.map_nil, List.sum_cons, List.sum_nil, vc_i, vc_r, vc_n, vc_l, vc_o, Nat.add_zero, kO_e, kA_e, hdO_a, eq_self, blk, stp, lg, ls0, lk, ls1, ls2, kI_i, kL_l, kR_r, kR_n, kR_o, s1I_i, s2I_i, s1L_l, s2L_l, s1R_r, s1R_n, s1R_o, s1A_a, cmpc, popn, swt, rf_s, rf_n, cat_i, cat_r, cat_n, cat_l, true_and, and_true, List.length_cons, List.length_nil, Nat.zero_add, Int.reduceToNat, Nat.reduceAdd, Nat.reduceDiv, Nat.reduceMod, Nat.reduceMul, Nat.reduceSub, Nat.reduceLeDiff, Nat.reduceLT, Nat.reduceEqDiff, ↓reduceIte, r_gr_wi, r_gl_wi, r_gk_wi, r_gn_wi, r_wi_eq, r_wi_ne, r_wi_nj, r_gi_wr, r_gl_wr, r_gk_wr, r_gn_wr, r_gr_wa, r_gl_wa, r_gk_wa, r_gn_wa, aa_e, as_e, al_e, u_lt, u_le, u_gt, u_ge, u_lt0, u_le0, u_gt0, u_ge0, Classical.not_not, not_true_eq_false, not_false_eq_true, oi_n, oi_m, n_dec, nI_add, pk_mul, n_sub, n_eq, n_le, n_lt, n_eq0, n_lt0, n_le0, n_0lt, n_0le, n_eqm, m_eqn, n_ltm, n_and, n_or, n_xor, n_shl, n_shr, tb1, tb0, bP_1, bP_0, bP_n0, ix_n, inb_n, u_eq, u_eqm, k21 L, h5]
  exact inner M.length h (Nat.le_refl _) (Fp.refl _ _) ⟨rfl, rfl, h5⟩ hM (fun j h1 h2 => absurd h1 (by omega)) (fun j h1 h2 => absurd h1 (by omega))
/-- one sits down, or gets up -/
noncomputable def stB (b e : Nat) (is : Prop) : Nat := nif is (b ||| 1 <<< e) (adN b (1 <<< e))
def PSs (h : AH) (b : Nat) (L : List Nat) (r : Option (Option Value)) (h' : AH) : Prop := r = some none ∧ Fp (fun a => a = 21 ∨ a = 33) h h' ∧ (gi h' 21 4 = gi h 21 4 ∧ gi h' 21 6 = nI b) ∧ gi h' 21 5 = nI L.length ∧ ∀ k, k < L.length → gi h' 33 k = nI (L.getD k 0)
theorem c_Ci_setSitting (L : Lay h) {ag : Nat → Nat} {b e : Nat} {is : Prop} (h4 : gi h 21 4 = nI n) (h6 : gi h 21 6 = nI b) (hn : n ≤ 8) (hb : b < 256) (he : e < 8) (hag : ∀ x, x < n → gi h 22 x = nI (ag x) ∧ ag x < 1000) : Mz (d + 2) 154 [.ref 21, .int (nI e), .int (bP is)] h 0 0 (PSs h (stB b e is) (csL ag (stB b e is) n)) := by
  refine mz_in (l := [some (.ref 21), some (.int (nI e)), some (.int (bP is)), none]) mk_Ci_setSitting n_Ci_setSitting rfl l_Ci_setSitting rfl (Nat.le_of_ble_eq_true rfl) fun P hP => ?_
  have sb : stB b e is < 256 := by
    have h1 : 1 <<< e < 2 ^ 8 := one_lt (by omega)
    by_cases q : is
    · rw [show stB b e is = _ from nif_t q]
      exact or_lt (k := 8) hb h1
    · rw [show stB b e is = _ from nif_f q]
      exact adN_lt (n := 8) hb
  have loop : ∀ m k H, k + m = n → Fp (fun a => a = 21 ∨ a = 33) h H → (gi H 21 4 = nI n ∧ gi H 21 6 = nI (stB b e is)) → gi H 21 5 = nI (csL ag (stB b e is) k).length → (∀ j, j < (csL ag (stB b e is) k).length → gi H 33 j = nI ((csL ag (stB b e is) k).getD j 0)) → P 36 [some (.ref 21), some (.int (nI e)), some (.int (bP is)), some (.int (nI k))] [] H 0 0 := by
    intro m
    induction m using Nat.strongRecOn with
    | _ m ih =>
      intro k H hk F h46 h5 hA
      have LH := F.lay L
      have cb := csL_b (ag := ag) (b := stB b e is) k
      refine hP.1 _ _ s_Ci_setSitting_36 _ _ _ _ _ ?_
      simp (maxSteps := 1000000) (disch := omega) only [g_Ci_setSitting_36, slk, List.map_cons, List.map_nil, List.sum_cons, List.sum_nil, vc_i, vc_r, vc_n, vc_l, vc_o, Nat.add_zero, kO_e, kA_e, hdO_a, eq_self, blk, stp, lg, ls0, lk, ls1, ls2, kI_i, kL_l, kR_r, kR_n, kR_o, s1I_i, s2I_i, s1L_l, s2L_l, s1R_r, s1R_n, s1R_o, s1A_a, cmpc, popn, swt, rf_s, rf_n, cat_i, cat_r, cat_n, cat_l, true_and, and_true, List.length_cons, List.length_nil, Nat.zero_add, Int.reduceToNat, Nat.reduceAdd, Nat.reduceDiv, Nat.reduceMod, Nat.reduceMul, Nat.reduceSub, Nat.reduceLeDiff, Nat.reduceLT, Nat.reduceEqDiff, ↓reduceIte, r_gr_wi, r_gl_wi, r_gk_wi, r_gn_wi, r_wi_eq, r_wi_ne, r_wi_nj, r_gi_wr, r_gl_wr, r_gk_wr, r_gn_wr, r_gr_wa, r_gl_wa, r_gk_wa, r_gn_wa, aa_e, as_e, al_e, u_lt, u_le, u_gt, u_ge, u_lt0, u_le0, u_gt0, u_ge0, Classical.not_not, not_true_eq_false, not_false_eq_true, oi_n, oi_m, n_dec, nI_add, pk_mul, n_sub, n_eq, n_le, n_lt, n_eq0, n_lt0, n_le0, n_0lt, n_0le, n_eqm, m_eqn, n_ltm, n_and, n_or, n_xor, n_shl, n_shr, tb1, tb0, bP_1, bP_0, bP_n0, ix_n, inb_n, u_eq, u_eqm, k21 LH, h46.1]
      refine ⟨fun hc => ?_, fun hc => ?_⟩
      · have e1 : k = n := by omega
        subst e1
        refine hP.1 _ _ s_Ci_setSitting_63 _ _ _ _ _ ?_
        simp (maxSteps := 1000000) (disch := omega) only [g_Ci_setSitting_63, slk, List.map_cons, List.map_nil, List.sum_cons, List.sum_nil, vc_i, vc_r, vc_n, vc_l, vc_o, Nat.add_zero, kO_e, kA_e, hdO_a, eq_self, blk, stp, lg, ls0, lk, ls1, ls2, kI_i, kL_l, kR_r, kR_n, kR_o, s1I_i, s2I_i, s1L_l, s2L_l, s1R_r, s1R_n, s1R_o, s1A_a, cmpc, popn, swt, rf_s, rf_n, cat_i, cat_r, cat_n, cat_l, true_and, and_true, List.length_cons, List.length_nil, Nat.zero_add, Int.reduceToNat, Nat.reduceAdd, Nat.reduceDiv, Nat.reduceMod, Nat.reduceMul, Nat.reduceSub, Nat.reduceLeDiff, Nat.reduceLT, Nat.reduceEqDiff, ↓reduceIte, r_gr_wi, r_gl_wi, r_gk_wi, r_gn_wi, r_wi_eq, r_wi_ne, r_wi_nj, r_gi_wr, r_gl_wr, r_gk_wr, r_gn_wr, r_gr_wa, r_gl_wa, r_gk_wa, r_gn_wa, aa_e, as_e, al_e, u_lt, u_le, u_gt, u_ge, u_lt0, u_le0, u_gt0, u_ge0, Classical.not_not, not_true_eq_false, not_false_eq_true, oi_n, oi_m, n_dec, nI_add, pk_mul, n_sub, n_eq, n_le, n_lt, n_eq0, n_lt0, n_le0, n_0lt, n_0le, n_eqm, m_eqn, n_ltm, n_and, n_or, n_xor, n_shl, n_shr, tb1, tb0, bP_1, bP_0, bP_n0, ix_n, inb_n, u_eq, u_eqm]
        rw [r_Ci_setSitting]
        exact ⟨trivial, rfl, F, ⟨h46.1.trans h4.symm, h46.2⟩, h5, hA⟩
      · have hk2 : k < n := by omega
        refine hP.1 _ _ s_Ci_setSitting_44 _ _ _ _ _ ?_
        simp (maxSteps := 1000000) (disch := omega) only [g_Ci_setSitting_44, slk, List.map_cons, List.map_nil, List.sum_cons, List.sum_nil, vc_i, vc_r, vc_n, vc_l, vc_o, Nat.add_zero, kO_e, kA_e, hdO_a, eq_self, blk, stp, lg, ls0, lk, ls1, ls2, kI_i, kL_l, kR_r, kR_n, kR_o, s1I_i, s2I_i, s1L_l, s2L_l, s1R_r, s1R_n, s1R_o, s1A_a, cmpc, popn, swt, rf_s, rf_n, cat_i, cat_r, cat_n, cat_l, true_and, and_true, List.length_cons, List.length_nil, Nat.zero_add, Int.reduceToNat, Nat.reduceAdd, Nat.reduceDiv, Nat.reduceMod, Nat.reduceMul, Nat.reduceSub, Nat.reduceLeDiff, Nat.reduceLT, Nat.reduceEqDiff, ↓reduceIte, r_gr_wi, r_gl_wi, r_gk_wi, r_gn_wi, r_wi_eq, r_wi_ne, r_wi_nj, r_gi_wr, r_gl_wr, r_gk_wr, r_gn_wr, r_gr_wa, r_gl_wa, r_gk_wa, r_gn_wa, aa_e, as_e, al_e, u_lt, u_le, u_gt, u_ge, u_lt0, u_le0, u_gt0, u_ge0, Classical.not_not, not_true_eq_false, not_false_eq_true, oi_n, oi_m, n_dec, nI_add, pk_mul, n_sub, n_eq, n_le, n_lt, n_eq0, n_lt0, n_le0, n_0lt, n_0le, n_eqm, m_eqn, n_ltm, n_and, n_or, n_xor, n_shl, n_shr, tb1, tb0, bP_1, bP_0, bP_n0, ix_n, inb_n, u_eq, u_eqm, k21 LH]
        refine wc (c_Ci_sits LH h46.2 sb (e := k) (by omega)) ⟨by omega, by omega⟩ ?_
        simp (maxSteps := 1000000) (disch := omega) only [slk, List.map_cons, List.map_nil, List.sum_cons, List.sum_nil, vc_i, vc_r, vc_n, vc_l, vc_o, Nat.add_zero, kO_e, kA_e, hdO_a, eq_self, blk, stp, lg, ls0, lk, ls1, ls2, kI_i, kL_l, kR_r, kR_n, kR_o, s1I_i, s2I_i, s1L_l, s2L_l, s1R_r, s1R_n, s1R_o, s1A_a, cmpc, popn, swt, rf_s, rf_n, cat_i, cat_r, cat_n, cat_l, true_and, and_true, List.length_cons, List.length_nil, Nat.zero_add, Int.reduceToNat, Nat.reduceAdd, Nat.reduceDiv, Nat.reduceMod, Nat.reduceMul, Nat.reduceSub, Nat.reduceLeDiff, Nat.reduceLT, Nat.reduceEqDiff, ↓reduceIte, r_gr_wi, r_gl_wi, r_gk_wi, r_gn_wi, r_wi_eq, r_wi_ne, r_wi_nj, r_gi_wr, r_gl_wr, r_gk_wr, r_gn_wr, r_gr_wa, r_gl_wa, r_gk_wa, r_gn_wa, aa_e, as_e, al_e, u_lt, u_le, u_gt, u_ge, u_lt0, u_le0, u_gt0, u_ge0, Classical.not_not, not_true_eq_false, not_false_eq_true, oi_n, oi_m, n_dec, nI_add, pk_mul, n_sub, n_eq, n_le, n_lt, n_eq0, n_lt0, n_le0, n_0lt, n_0le, n_eqm, m_eqn, n_ltm, n_and, n_or, n_xor, n_shl, n_shr, tb1, tb0, bP_1, bP_0, bP_n0, ix_n, inb_n, u_eq, u_eqm, k21 LH]
        refine ⟨fun q => ?_, fun q => ?_⟩
        · have e1 : csL ag (stB b e is) (k + 1) = csL ag (stB b e is) k := if_neg q
          refine hP.1 _ _ s_Ci_setSitting_57 _ _ _ _ _ ?_
          simp (maxSteps := 1000000) (disch := omega) only [g_Ci_setSitting_57, slk, List.map_cons, List.map_nil, List.sum_cons, List.sum_nil, vc_i, vc_r, vc_n, vc_l, vc_o, Nat.add_zero, kO_e, kA_e, hdO_a, eq_self, blk, stp, lg, ls0, lk, ls1, ls2, kI_i, kL_l, kR_r, kR_n, kR_o, s1I_i, s2I_i, s1L_l, s2L_l, s1R_r, s1R_n, s1R_o, s1A_a, cmpc, popn, swt, rf_s, rf_n, cat_i, cat_r, cat_n, cat_l, true_and, and_true, List.length_cons, List.length_nil, Nat.zero_add, Int.reduceToNat, Nat.reduceAdd, Nat.reduceDiv, Nat.reduceMod, Nat.reduceMul, Nat.reduceSub, Nat.reduceLeDiff, Nat.reduceLT, Nat.reduceEqDiff, ↓reduceIte, r_gr_wi, r_gl_wi, r_gk_wi, r_gn_wi, r_wi_eq, r_wi_ne, r_wi_nj, r_gi_wr, r_gl_wr, r_gk_wr, r_gn_wr, r_gr_wa, r_gl_wa, r_gk_wa, r_gn_wa, aa_e, as_e, al_e, u_lt, u_le, u_gt, u_ge, u_lt0, u_le0, u_gt0, u_ge0, Classical.not_not, not_true_eq_false, not_false_eq_true, oi_n, oi_m, n_dec, nI_add, pk_mul, n_sub, n_eq, n_le, n_lt, n_eq0, n_lt0, n_le0, n_0lt, n_0le, n_eqm, m_eqn, n_ltm, n_and, n_or, n_xor, n_shl, n_shr, tb1, tb0, bP_1, bP_0, bP_n0, ix_n, inb_n, u_eq, u_eqm]
          exact ih (m - 1) (by omega) (k + 1) H (by omega) F h46 (by rw [e1]; exact h5) (by rw [e1]; exact hA)
        · have e1 : csL ag (stB b e is) (k + 1) = _ := if_pos q
          have a22 : ∀ j, gi H 22 j = gi h 22 j := fun j => F.at (by omega) j
          refine hP.1 _ _ s_Ci_setSitting_52 _ _ _ _ _ ?_
          simp (maxSteps := 1000000) (disch := omega) only [g_Ci_setSitting_52, slk, List.map_cons, List.map_nil, List.sum_cons, List.sum_nil, vc_i, vc_r, vc_n, vc_l, vc_o, Nat.add_zero, kO_e, kA_e, hdO_a, eq_self, blk, stp, lg, ls0, lk, ls1, ls2, kI_i, kL_l, kR_r, kR_n, kR_o, s1I_i, s2I_i, s1L_l, s2L_l, s1R_r, s1R_n, s1R_o, s1A_a, cmpc, popn, swt, rf_s, rf_n, cat_i, cat_r, cat_n, cat_l, true_and, and_true, List.length_cons, List.length_nil, Nat.zero_add, Int.reduceToNat, Nat.reduceAdd, Nat.reduceDiv, Nat.reduceMod, Nat.reduceMul, Nat.reduceSub, Nat.reduceLeDiff, Nat.reduceLT, Nat.reduceEqDiff, ↓reduceIte, r_gr_wi, r_gl_wi, r_gk_wi, r_gn_wi, r_wi_eq, r_wi_ne, r_wi_nj, r_gi_wr, r_gl_wr, r_gk_wr, r_gn_wr, r_gr_wa, r_gl_wa, r_gk_wa, r_gn_wa, aa_e, as_e, al_e, u_lt, u_le, u_gt, u_ge, u_lt0, u_le0, u_gt0, u_ge0, Classical.not_not, not_true_eq_false, not_false_eq_true, oi_n, oi_m, n_dec, nI_add, pk_mul, n_sub, n_eq, n_le, n_lt, n_eq0, n_lt0, n_le0, n_0lt, n_0le, n_eqm, m_eqn, n_ltm, n_and, n_or, n_xor, n_shl, n_shr, tb1, tb0, bP_1, bP_0, bP_n0, ix_n, inb_n, u_eq, u_eqm, k21 LH]
          refine ⟨_, _, _, c_Ci_seatNext (d := d) (ag := ag) (M := csL ag (stB b e is) k) (e := k) LH h5 hA (by omega) cb.2 (by omega) (fun x hx => by rw [a22]; exact hag x (by omega)), ⟨by omega, by omega⟩, ?_⟩
          rintro r H2 ⟨rfl, F2, g46, g5, gA⟩
          simp (maxSteps := 1000000) (disch := omega) only [slk, List.map_cons, List.map_nil, List.sum_cons, List.sum_nil, vc_i, vc_r, vc_n, vc_l, vc_o, Nat.add_zero, kO_e, kA_e, hdO_a, eq_self, blk, stp, lg, ls0, lk, ls1, ls2, kI_i, kL_l, kR_r, kR_n, kR_o, s1I_i, s2I_i, s1L_l, s2L_l, s1R_r, s1R_n, s1R_o, s1A_a, cmpc, popn, swt, rf_s, rf_n, cat_i, cat_r, cat_n, cat_l, true_and, and_true, List.length_cons, List.length_nil, Nat.zero_add, Int.reduceToNat, Nat.reduceAdd, Nat.reduceDiv, Nat.reduceMod, Nat.reduceMul, Nat.reduceSub, Nat.reduceLeDiff, Nat.reduceLT, Nat.reduceEqDiff, ↓reduceIte, r_gr_wi, r_gl_wi, r_gk_wi, r_gn_wi, r_wi_eq, r_wi_ne, r_wi_nj, r_gi_wr, r_gl_wr, r_gk_wr, r_gn_wr, r_gr_wa, r_gl_wa, r_gk_wa, r_gn_wa, aa_e, as_e, al_e, u_lt, u_le, u_gt, u_ge, u_lt0, u_le0, u_gt0, u_ge0, Classical.not_not, not_true_eq_false, not_false_eq_true, oi_n, oi_m, n_dec, nI_add, pk_mul, n_sub, n_eq, n_le, n_lt, n_eq0, n_lt0, n_le0, n_0lt, n_0le, n_eqm, m_eqn, n_ltm, n_and, n_or, n_xor, n_shl, n_shr, tb1, tb0, bP_1, bP_0, bP_n0, ix_n, inb_n, u_eq, u_eqm, k21 LH]
          refine hP.1 _ _ s_Ci_setSitting_57 _ _ _ _ _ ?_
          simp (maxSteps := 1000000) (disch := omega) only [g_Ci_setSitting_57, slk, List.map_cons, List.map_nil, List.sum_cons, List.sum_nil, vc_i, vc_r, vc_n, vc_l, vc_o, Nat.add_zero, kO_e, kA_e, hdO_a, eq_self, blk, stp, lg, ls0, lk, ls1, ls2, kI_i, kL_l, kR_r, kR_n, kR_o, s1I_i, s2I_i, s1L_l, s2L_l, s1R_r, s1R_n, s1R_o, s1A_a, cmpc, popn, swt, rf_s, rf_n, cat_i, cat_r, cat_n, cat_l, true_and, and_true, List.length_cons, List.length_nil, Nat.zero_add, Int.reduceToNat, Nat.reduceAdd, Nat.reduceDiv, Nat.reduceMod, Nat.reduceMul, Nat.reduceSub, Nat.reduceLeDiff, Nat.reduceLT, Nat.reduceEqDiff, ↓reduceIte, r_gr_wi, r_gl_wi, r_gk_wi, r_gn_wi, r_wi_eq, r_wi_ne, r_wi_nj, r_gi_wr, r_gl_wr, r_gk_wr, r_gn_wr, r_gr_wa, r_gl_wa, r_gk_wa, r_gn_wa, aa_e, as_e, al_e, u_lt, u_le, u_gt, u_ge, u_lt0, u_le0, u_gt0, u_ge0, Classical.not_not, not_true_eq_false, not_false_eq_true, oi_n, oi_m, n_dec, nI_add, pk_mul, n_sub, n_eq, n_le, n_lt, n_eq0, n_lt0, n_le0, n_0lt, n_0le, n_eqm, m_eqn, n_ltm, n_and, n_or, n_xor, n_shl, n_shr, tb1, tb0, bP_1, bP_0, bP_n0, ix_n, inb_n, u_eq, u_eqm]
          exact ih (m - 1) (by omega) (k + 1) H2 (by omega) (F.trans F2) ⟨g46.1.trans h46.1, g46.2.trans h46.2⟩ (by rw [e1]; exact g5) (by rw [e1]; exact gA)
  have j26 : P 26 [some (.ref 21), some (.int (nI e)), some (.int (bP is)), none] [.int (nI (stB b e is)), .ref 21] h 0 0 := by
    refine hP.1 _ _ s_Ci_setSitting_26 _ _ _ _ _ ?_
    simp (maxSteps := 1000000) (disch := omega) only [g_Ci_setSitting_26, slk, List.map_cons, List.map_nil, List.sum_cons, List.sum_nil, vc_i, vc_r, vc_n, vc_l, vc_o, Nat.add_zero, kO_e, kA_e, hdO_a, eq_self, blk, stp, lg, ls0, lk, ls1, ls2, kI_i, kL_l, kR_r, kR_n, kR_o, s1I_i, s2I_i, s1L_l, s2L_l, s1R_r, s1R_n, s1R_o, s1A_a, cmpc, popn, swt, rf_s, rf_n, cat_i, cat_r, cat_n, cat_l, true_and, and_true, List.length_cons, List.length_nil, Nat.zero_add, Int.reduceToNat, Nat.reduceAdd, Nat.reduceDiv, Nat.reduceMod, Nat.reduceMul, Nat.reduceSub, Nat.reduceLeDiff, Nat.reduceLT, Nat.reduceEqDiff, ↓reduceIte, r_gr_wi, r_gl_wi, r_gk_wi, r_gn_wi, r_wi_eq, r_wi_ne, r_wi_nj, r_gi_wr, r_gl_wr, r_gk_wr, r_gn_wr, r_gr_wa, r_gl_wa, r_gk_wa, r_gn_wa, aa_e, as_e, al_e, u_lt, u_le, u_gt, u_ge, u_lt0, u_le0, u_gt0, u_ge0, Classical.not_not, not_true_eq_false, not_false_eq_true, oi_n, oi_m, n_dec, nI_add, pk_mul, n_sub, n_eq, n_le, n_lt, n_eq0, n_lt0, n_le0, n_0lt, n_0le, n_eqm, m_eqn, n_ltm, n_and, n_or, n_xor, n_shl, n_shr, tb1, tb0, bP_1, bP_0, bP_n0, ix_n, inb_n, u_eq, u_eqm, k21 L]
    refine loop n 0 _ (Nat.zero_add _) (((Fp.refl _ h).wi (Or.inl rfl) _ _).wi (Or.inl rfl) _ _) ?_ ?_ (fun j hj => absurd hj (Nat.not_lt_zero _))
    · simp (disch := omega) only [r_wi_nj, r_wi_eq]
      exact ⟨h4, trivial⟩
    · exact r_wi_eq _ _ _ _
  refine hP.1 _ _ s_Ci_setSitting_0 _ _ _ _ _ ?_
  simp (maxSteps := 1000000) (disch := omega) only [g_Ci_setSitting_0, slk, List.map_cons, List.map_nil, List.sum_cons, List.sum_nil, vc_i, vc_r, vc_n, vc_l, vc_o, Nat.add_zero, kO_e, kA_e, hdO_a, eq_self, blk, stp, lg, ls0, lk, ls1, ls2, kI_i, kL_l, kR_r, kR_n, kR_o, s1I_i, s2I_i, s1L_l, s2L_l, s1R_r, s1R_n, s1R_o, s1A_a, cmpc, popn, swt, rf_s, rf_n, cat_i, cat_r, cat_n, cat_l, true_and, and_true, List.length_cons, List.length_nil, Nat.zero_add, Int.reduceToNat, Nat.reduceAdd, Nat.reduceDiv, Nat.reduceMod, Nat.reduceMul, Nat.reduceSub, Nat.reduceLeDiff, Nat.reduceLT, Nat.reduceEqDiff, ↓reduceIte, r_gr_wi, r_gl_wi, r_gk_wi, r_gn_wi, r_wi_eq, r_wi_ne, r_wi_nj, r_gi_wr, r_gl_wr, r_gk_wr, r_gn_wr, r_gr_wa, r_gl_wa, r_gk_wa, r_gn_wa, aa_e, as_e, al_e, u_lt, u_le, u_gt, u_ge, u_lt0, u_le0, u_gt0, u_ge0, Classical.not_not, not_true_eq_false, not_false_eq_true, oi_n, oi_m, n_dec, nI_add, pk_mul, n_sub, n_eq, n_le, n_lt, n_eq0, n_lt0, n_le0, n_0lt, n_0le, n_eqm, m_eqn, n_ltm, n_and, n_or, n_xor, n_shl, n_shr, tb1, tb0, bP_1, bP_0, bP_n0, ix_n, inb_n, u_eq, u_eqm]
  refine ⟨fun q => ?_, fun q => ?_⟩
  · rw [show stB b e is = _ from nif_f q] at j26
    refine hP.1 _ _ s_Ci_setSitting_16 _ _ _ _ _ ?_
    simp (maxSteps := 1000000) (disch := omega) only [g_Ci_setSitting_16, slk, List.map_cons, List.map_nil, List.sum_cons, List.sum_nil, vc_i, vc_r, vc_n, vc_l, vc_o, Nat.add_zero, kO_e, kA_e, hdO_a, eq_self, blk, stp, lg, ls0, lk, ls1, ls2, kI_i, kL_l, kR_r, kR_n, kR_o, s1I_i, s2I_i, s1L_l, s2L_l, s1R_r, s1R_n, s1R_o, s1A_a, cmpc, popn, swt, rf_s, rf_n, cat_i, cat_r, cat_n, cat_l, true_and, and_true, List.length_cons, List.length_nil, Nat.zero_add, Int.reduceToNat, Nat.reduceAdd, Nat.reduceDiv, Nat.reduceMod, Nat.reduceMul, Nat.reduceSub, Nat.reduceLeDiff, Nat.reduceLT, Nat.reduceEqDiff, ↓reduceIte, r_gr_wi, r_gl_wi, r_gk_wi, r_gn_wi, r_wi_eq, r_wi_ne, r_wi_nj, r_gi_wr, r_gl_wr, r_gk_wr, r_gn_wr, r_gr_wa, r_gl_wa, r_gk_wa, r_gn_wa, aa_e, as_e, al_e, u_lt, u_le, u_gt, u_ge, u_lt0, u_le0, u_gt0, u_ge0, Classical.not_not, not_true_eq_false, not_false_eq_true, oi_n, oi_m, n_dec, nI_add, pk_mul, n_sub, n_eq, n_le, n_lt, n_eq0, n_lt0, n_le0, n_0lt, n_0le, n_eqm, m_eqn, n_ltm, n_and, n_or, n_xor, n_shl, n_shr, tb1, tb0, bP_1, bP_0, bP_n0, ix_n, inb_n, u_eq, u_eqm, k21 L, h6, n_andn]
    exact j26
  · rw [show stB b e is = _ from nif_t q] at j26
    refine hP.1 _ _ s_Ci_setSitting_5 _ _ _ _ _ ?_
    simp (maxSteps := 1000000) (disch := omega) only [g_Ci_setSitting_5, slk, List.map_cons, List.map_nil, List.sum_cons, List.sum_nil, vc_i, vc_r, vc_n, vc_l, vc_o, Nat.add_zero, kO_e, kA_e, hdO_a, eq_self, blk, stp, lg, ls0, lk, ls1, ls2, kI_i, kL_l, kR_r, kR_n, kR_o, s1I_i, s2I_i, s1L_l, s2L_l, s1R_r, s1R_n, s1R_o, s1A_a, cmpc, popn, swt, rf_s, rf_n, cat_i, cat_r, cat_n, cat_l, true_and, and_true, List.length_cons, List.length_nil, Nat.zero_add, Int.reduceToNat, Nat.reduceAdd, Nat.reduceDiv, Nat.reduceMod, Nat.reduceMul, Nat.reduceSub, Nat.reduceLeDiff, Nat.reduceLT, Nat.reduceEqDiff, ↓reduceIte, r_gr_wi, r_gl_wi, r_gk_wi, r_gn_wi, r_wi_eq, r_wi_ne, r_wi_nj, r_gi_wr, r_gl_wr, r_gk_wr, r_gn_wr, r_gr_wa, r_gl_wa, r_gk_wa, r_gn_wa, aa_e, as_e, al_e, u_lt, u_le, u_gt, u_ge, u_lt0, u_le0, u_gt0, u_ge0, Classical.not_not, not_true_eq_false, not_false_eq_true, oi_n, oi_m, n_dec, nI_add, pk_mul, n_sub, n_eq, n_le, n_lt, n_eq0, n_lt0, n_le0, n_0lt, n_0le, n_eqm, m_eqn, n_ltm, n_and, n_or, n_xor, n_shl, n_shr, tb1, tb0, bP_1, bP_0, bP_n0, ix_n, inb_n, u_eq, u_eqm, k21 L, h6]
    exact j26
end
/-! the class's seats are the reference's -/
def sK (s : St) (k o : Nat) : List Nat := (List.range o).flatMap (fun i => ageL s k (20 + i))
theorem sK_succ (s : St) (k o : Nat) : sK s k (o + 1) = sK s k o ++ ageL s k (20 + o) := by
  unfold sK
  rw [List.range_succ, List.flatMap_append]
  simp
theorem mem_sK {s : St} {k o x : Nat} : x ∈ sK s k o ↔ x < k ∧ 20 ≤ s 108 x ∧ s 108 x < 20 + o ∧ s 111 x = 0 := by
  unfold sK
  simp only [List.mem_flatMap, List.mem_range, mem_ageL]
  constructor
  · rintro ⟨i, hi, a, b, c⟩
    exact ⟨a, by omega, by omega, c⟩
  · rintro ⟨a, b, c, q⟩
    exact ⟨s 108 x - 20, by omega, a, by omega, q⟩
theorem sK_ins {s : St} {k i0 : Nat} (ha : s 108 k = 20 + i0) (h1 : s 111 k = 0) : ∀ o, (o ≤ i0 → sK s (k + 1) o = sK s k o) ∧ (i0 < o → ∃ B, sK s k o = sK s k (i0 + 1) ++ B ∧ sK s (k + 1) o = sK s k (i0 + 1) ++ k :: B ∧ ∀ x ∈ B, s 108 k < s 108 x) := by
  intro o
  induction o with
  | zero => exact ⟨fun _ => rfl, fun q => absurd q (Nat.not_lt_zero _)⟩
  | succ o ih =>
    refine ⟨fun q => ?_, fun q => ?_⟩
    · rw [sK_succ, sK_succ, ih.1 (by omega), ageL_succ, if_neg (by omega), List.append_nil]
    · by_cases e : i0 = o
      · subst e
        refine ⟨[], by simp, ?_, fun x hx => by cases hx⟩
        rw [sK_succ s (k + 1), ih.1 (by omega), ageL_succ, if_pos ⟨by omega, h1⟩, sK_succ, List.append_assoc]
      · obtain ⟨B, b1, b2, b3⟩ := ih.2 (by omega)
        refine ⟨B ++ ageL s k (20 + o), ?_, ?_, fun x hx => ?_⟩
        · rw [sK_succ, b1, List.append_assoc]
        · rw [sK_succ, b2, ageL_succ, if_neg (by omega), List.append_nil, List.append_assoc]
          rfl
        · rcases List.mem_append.mp hx with z | z
          · exact b3 x z
          · have := mem_ageL.mp z
            omega
theorem csL_sK {h : AH} {s : St} (W : RH h s) {b : Nat} (hb : ∀ e, e < s 107 18 → (b.testBit e = true ↔ s 111 e = 0)) : ∀ k, k ≤ s 107 18 → csL (s 108) b k = sK s k 80 := by
  intro k
  induction k with
  | zero =>
    intro _
    unfold sK
    simp [ageL, csL]
  | succ k ih =>
    intro hk
    have hk2 : k < s 107 18 := by omega
    have ag := rs_age W hk2
    have i1 := ih (by omega)
    by_cases q : b.testBit k = true
    · have q2 := (hb k hk2).mp q
      obtain ⟨B, b1, b2, b3⟩ := (sK_ins (s := s) (k := k) (i0 := s 108 k - 20) (by omega) q2 80).2 (by omega)
      rw [show csL (s 108) b (k + 1) = _ from if_pos q, i1, b2, b1]
      have e1 := insW_eq (c := fun a => decide (s 108 k < s 108 a)) (v := k) (p := (sK s k (s 108 k - 20 + 1)).length) (L := sK s k (s 108 k - 20 + 1) ++ B) (by rw [List.length_append]; omega) (fun j h1 h2 => by
        rw [List.length_append] at h2
        rw [List.getD_eq_getElem?_getD, List.getElem?_append_right h1, List.getElem?_eq_getElem (by omega)]
        exact decide_eq_true (b3 _ (List.getElem_mem _))) (by
        by_cases z : (sK s k (s 108 k - 20 + 1)).length = 0
        · exact Or.inl z
        · refine Or.inr ?_
          rw [List.getD_eq_getElem?_getD, List.getElem?_append_left (by omega), List.getElem?_eq_getElem (by omega)]
          have := mem_sK.mp (List.getElem_mem (l := sK s k (s 108 k - 20 + 1)) (n := (sK s k (s 108 k - 20 + 1)).length - 1) (by omega))
          refine decide_eq_false ?_
          show ¬ s 108 k < s 108 ((sK s k (s 108 k - 20 + 1))[(sK s k (s 108 k - 20 + 1)).length - 1])
          omega)
      rw [e1, List.take_left, List.drop_left]
    · have q2 : ¬ s 111 k = 0 := fun z => q ((hb k hk2).mpr z)
      rw [show csL (s 108) b (k + 1) = _ from if_neg q, i1]
      unfold sK
      congr 1
      funext i
      rw [ageL_succ, if_neg (fun z => q2 z.2), List.append_nil]
theorem csL_seats {h : AH} {s : St} (W : RH h s) {b : Nat} (hb : ∀ e, e < s 107 18 → (b.testBit e = true ↔ s 111 e = 0)) : csL (s 108) b (s 107 18) = seatsL s := csL_sK W hb _ (Nat.le_refl _)
