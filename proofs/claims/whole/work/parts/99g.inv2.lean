/-! ===== the class between two calls; matters are found, talks settled ===== -/
theorem n_T_matterAt : mN 42 = 2 := rfl
theorem l_T_matterAt : mL 42 = 2 := rfl
theorem r_T_matterAt : mR 42 = some (.object "TreeTalk$Matter") := rfl
theorem n_T_unsettleFrom : mN 43 = 2 := rfl
theorem l_T_unsettleFrom : mL 43 = 2 := rfl
theorem r_T_unsettleFrom : mR 43 = none := rfl
theorem n_T_settle : mN 44 = 2 := rfl
theorem l_T_settle : mL 44 = 4 := rfl
theorem r_T_settle : mR 44 = none := rfl
def CT (h : AH) (s : St) (c : Nat) : Prop := gi h 20 13 = nI (s 107 19) ∧ gi h 20 14 = nI (s 107 20) ∧ gi h 20 15 = nI (s 107 29) ∧ gi h 20 16 = nI (s 107 30) ∧ gi h 20 17 = nI c ∧ c ≤ s 107 19
def MT (h : AH) (s : St) (bm : Nat → Nat) : Prop := ∀ m, m < s 107 19 → gr h 34 m = some (bm m) ∧ MA h (bm m) (s 112 m) ∧ MV h s m (bm m) ∧ gr h (bm m) 10 = lwR h s m
def BO (s : St) (bm : Nat → Nat) : Prop := ∀ i j, i < j → j < s 107 19 → bm i + 14 < bm j
def DJ (h : AH) (s : St) (bm : Nat → Nat) : Prop := ∀ t, isTx h s t → ∀ m, m < s 107 19 → t + 2 < bm m ∨ bm m + 14 < t
def TPC (h : AH) (s : St) : Prop := gi h 35 1 = nI (s 107 28) ∧ ∀ j, j < s 107 28 → gi h 36 j = nI (s 125 j)
def ASC (h : AH) (s : St) : Prop := gi h 69 5 = nI (s 107 84) ∧ ∀ k, k < s 107 84 → gi h 70 k = nI (s 158 k) ∧ gi h 71 k = nI (s 159 k) ∧ gi h 72 k = nI (s 160 k) ∧ gi h 73 k = nI (4 * s 161 k + s 162 k) ∧ gi h 74 k = nI (s 163 k)
def TWC (h : AH) (s : St) : Prop := ∀ T, isT T → gi h T 17 = nI 4294967295 ∧ ∃ su, gi h T 18 = nI su ∧ su < 2 ^ s 107 30
def PU1 (s : St) : Prop := PI s ∧ s 107 22 = 0 ∧ s 107 61 = 4294967295 ∧ TO s ∧ ∀ e, e < 8 → s 107 18 ≤ e → s 111 e = 0
def CI (h : AH) (s : St) (bm : Nat → Nat) (c : Nat) : Prop := Lay h ∧ CC h s ∧ CT h s c ∧ MT h s bm ∧ BO s bm ∧ TxA h s ∧ DJ h s bm ∧ TPC h s ∧ PLC h s ∧ GFC h s ∧ ASC h s ∧ TWC h s ∧ STD h s bm c ∧ PU1 s
section
variable {h : AH} {s : St} {bm : Nat → Nat} {c : Nat}
theorem ci_L (I : CI h s bm c) : Lay h := I.1
theorem ci_C (I : CI h s bm c) : CC h s := I.2.1
theorem ci_ct (I : CI h s bm c) : CT h s c := I.2.2.1
theorem ci_m (I : CI h s bm c) : MT h s bm := I.2.2.2.1
theorem ci_bo (I : CI h s bm c) : BO s bm := I.2.2.2.2.1
theorem ci_tx (I : CI h s bm c) : TxA h s := I.2.2.2.2.2.1
theorem ci_dj (I : CI h s bm c) : DJ h s bm := I.2.2.2.2.2.2.1
theorem ci_tp (I : CI h s bm c) : TPC h s := I.2.2.2.2.2.2.2.1
theorem ci_pl (I : CI h s bm c) : PLC h s := I.2.2.2.2.2.2.2.2.1
theorem ci_gf (I : CI h s bm c) : GFC h s := I.2.2.2.2.2.2.2.2.2.1
theorem ci_as (I : CI h s bm c) : ASC h s := I.2.2.2.2.2.2.2.2.2.2.1
theorem ci_tw (I : CI h s bm c) : TWC h s := I.2.2.2.2.2.2.2.2.2.2.2.1
theorem ci_st (I : CI h s bm c) : STD h s bm c := I.2.2.2.2.2.2.2.2.2.2.2.2.1
theorem ci_pu (I : CI h s bm c) : PU1 s := I.2.2.2.2.2.2.2.2.2.2.2.2.2
theorem ci_ev (I : CI h s bm c) {m : Nat} (hm : m < s 107 19) : EV h s m (bm m) := ⟨I.1, I.2.1, (ci_m I m hm).2.1, (ci_m I m hm).2.2.1, ci_tx I, (ci_m I m hm).2.2.2⟩
theorem ci_mts (I : CI h s bm c) {n : Nat} (hn : n ≤ s 107 19) : MTS h s bm n := fun j hj => ⟨(ci_m I j (by omega)).2.1, (ci_m I j (by omega)).2.2.1⟩
theorem ci_b (I : CI h s bm c) {m : Nat} (hm : m < s 107 19) : 164 < bm m ∧ bm m + 14 < gn h := (ci_m I m hm).2.1.1
end
/-! frames of what the class keeps -/
section
variable {X : Nat → Prop} {Y : Nat → Nat → Prop} {h h' : AH} {s : St} {bm : Nat → Nat} {c : Nat}
theorem Fg.ct (F : Fg X Y h h') (g : 164 < gn h) (C : CT h s c) (hx : ¬ X 20) : CT h' s c := by
  have e : gi h' 20 = gi h 20 := F.2.2.1 20 (by omega) hx
  unfold CT
  rw [e]
  exact C
theorem Fg.lw (F : Fg X Y h h') (g : 164 < gn h) {m : Nat} (r : s 116 m = 4294967295 ∨ s 116 m < s 107 29) (hy : ∀ j, j < s 107 29 → ¬ Y 40 j) : lwR h' s m = lwR h s m := by
  unfold lwR
  by_cases q : s 116 m = 4294967295
  · rw [if_pos q, if_pos q]
  · rw [if_neg q, if_neg q, F.2.2.2 40 _ (by omega) (hy _ (r.resolve_left q))]
theorem Fg.mt (F : Fg X Y h h') (g : 164 < gn h) (M : MT h s bm) (R : ∀ m, m < s 107 19 → s 116 m = 4294967295 ∨ s 116 m < s 107 29) (hx : ∀ m, m < s 107 19 → ∀ a, X a → a < bm m ∨ bm m + 14 < a) (hy : ∀ m, m < s 107 19 → ∀ a j, Y a j → a < bm m ∨ bm m + 14 < a) (hy2 : ∀ j, j < s 107 19 → ¬ Y 34 j) (hy3 : ∀ j, j < s 107 29 → ¬ Y 40 j) : MT h' s bm := by
  intro m hm
  obtain ⟨m1, m2, m3, m4⟩ := M m hm
  have b := m2.1
  refine ⟨(F.2.2.2 34 m (by omega) (hy2 m hm)).trans m1, F.ma m2 (fun a j y => by have := hy m hm a j y; omega), F.mv b.2 m3 (hx m hm), ?_⟩
  rw [F.2.2.2 (bm m) 10 (by omega) (fun y => by have := hy m hm _ _ y; omega), m4, F.lw g (R m hm) hy3]
theorem Fg.istx (F : Fg X Y h h') (g : 164 < gn h) (hy0 : ∀ j, j < s 107 29 → ¬ Y 40 j) (hy1 : ∀ j, j < s 107 30 → ¬ Y 41 j) {t : Nat} (ht : isTx h' s t) : isTx h s t := by
  rcases ht with ⟨k, hk, e⟩ | ⟨k, hk, e⟩
  · exact Or.inl ⟨k, hk, by rw [← F.2.2.2 40 k (by omega) (hy0 k hk)]; exact e⟩
  · exact Or.inr ⟨k, hk, by rw [← F.2.2.2 41 k (by omega) (hy1 k hk)]; exact e⟩
theorem Fg.dj (F : Fg X Y h h') (g : 164 < gn h) (D : DJ h s bm) (hy0 : ∀ j, j < s 107 29 → ¬ Y 40 j) (hy1 : ∀ j, j < s 107 30 → ¬ Y 41 j) : DJ h' s bm := fun t ht => D t (F.istx g hy0 hy1 ht)
theorem Fg.tpc (F : Fg X Y h h') (g : 164 < gn h) (T : TPC h s) (hx : ¬ X 35 ∧ ¬ X 36) : TPC h' s := by
  unfold TPC
  rw [F.2.2.1 35 (by omega) hx.1, F.2.2.1 36 (by omega) hx.2]
  exact T
theorem Fg.plc (F : Fg X Y h h') (g : 164 < gn h) (T : PLC h s) (hx : ∀ a, X a → a < 54 ∨ 58 < a) : PLC h' s := by
  have e : ∀ a, 54 ≤ a → a ≤ 58 → gi h' a = gi h a := fun a h1 h2 => F.2.2.1 a (by omega) (fun q => by have := hx a q; omega)
  unfold PLC
  rw [e 54 (by omega) (by omega), e 55 (by omega) (by omega), e 56 (by omega) (by omega), e 57 (by omega) (by omega), e 58 (by omega) (by omega)]
  exact T
theorem Fg.gfc (F : Fg X Y h h') (g : 164 < gn h) (T : GFC h s) (h10 : gi h' 61 10 = gi h 61 10) (hx : ∀ a, X a → a < 62 ∨ 66 < a) : GFC h' s := by
  have e : ∀ a, 62 ≤ a → a ≤ 66 → gi h' a = gi h a := fun a h1 h2 => F.2.2.1 a (by omega) (fun q => by have := hx a q; omega)
  unfold GFC
  rw [h10, e 62 (by omega) (by omega), e 63 (by omega) (by omega), e 64 (by omega) (by omega), e 65 (by omega) (by omega), e 66 (by omega) (by omega)]
  exact T
theorem Fg.asc (F : Fg X Y h h') (g : 164 < gn h) (T : ASC h s) (hx : ∀ a, X a → a < 69 ∨ 74 < a) : ASC h' s := by
  have e : ∀ a, 69 ≤ a → a ≤ 74 → gi h' a = gi h a := fun a h1 h2 => F.2.2.1 a (by omega) (fun q => by have := hx a q; omega)
  unfold ASC
  rw [e 69 (by omega) (by omega), e 70 (by omega) (by omega), e 71 (by omega) (by omega), e 72 (by omega) (by omega), e 73 (by omega) (by omega), e 74 (by omega) (by omega)]
  exact T
theorem Fg.twc (F : Fg X Y h h') (g : 164 < gn h) (T : TWC h s) (hx : ∀ a, isT a → ¬ X a) : TWC h' s := by
  intro a ha
  have tb := ta_b ha
  rw [F.2.2.1 a (by omega) (hx a ha)]
  exact T a ha
theorem Fg.st1 (F : Fg X Y h h') (g : 164 < gn h) {j b : Nat} (hj : j < 4) (S : ST1 h s j b (tOf j)) (hx : ∀ a, X a → a < tOf j ∨ tOf j + 5 < a) (hy : ¬ Y (tOf j) 3) : ST1 h' s j b (tOf j) := by
  have tb := ta_b (tOf_T hj)
  have e : ∀ a, tOf j ≤ a → a ≤ tOf j + 5 → gi h' a = gi h a := fun a h1 h2 => F.2.2.1 a (by omega) (fun q => by have := hx a q; omega)
  obtain ⟨s1, s2, ⟨⟨s3, s4, s5⟩, s6⟩⟩ := S
  refine ⟨(F.2.2.2 _ _ (by omega) hy).trans s1, ?_, ⟨?_, ?_, ?_⟩, ?_⟩
  · rw [e _ (by omega) (by omega)]; exact s2
  · rw [e (tOf j) (by omega) (by omega)]; exact s3
  · rw [e (tOf j + 3) (by omega) (by omega), e (tOf j + 4) (by omega) (by omega), e (tOf j + 5) (by omega) (by omega)]; exact s4
  · rw [e (tOf j + 2) (by omega) (by omega)]; exact s5
  · rw [e (tOf j) (by omega) (by omega)]; exact s6
theorem Fg.std (F : Fg X Y h h') (g : 164 < gn h) (c4 : c ≤ 4) (S : STD h s bm c) (hx : ∀ j, j < c → ∀ a, X a → a < tOf j ∨ tOf j + 5 < a) (hy : ∀ j, j < c → ¬ Y (tOf j) 3) : STD h' s bm c := fun j hj => F.st1 g (by omega) (S j hj) (hx j hj) (hy j hj)
/-- what only a call itself needs was changed -/
def scr (a : Nat) : Prop := (37 ≤ a ∧ a ≤ 39) ∨ (42 ≤ a ∧ a ≤ 44) ∨ (46 ≤ a ∧ a ≤ 53) ∨ a = 60 ∨ a = 61 ∨ a = 67 ∨ a = 68
theorem ci_scr {h0 : AH} (W : RH h0 s) (I : CI h s bm c) (F : Fp X h h') (hx : ∀ a, X a → scr a) (h10 : gi h' 61 10 = gi h 61 10) (h17 : gi h' 46 17 = gi h 46 17) (h18 : ∃ su, gi h' 46 18 = nI su ∧ su < 2 ^ s 107 30) : CI h' s bm c := by
  have G := F.fg
  have g := (ci_L I).2.2
  have b0 := rs_m W
  have bb := fun m hm => ci_b I (m := m) hm
  refine ⟨F.lay (ci_L I), F.cc (ci_C I) (fun a q => by have := hx a q; unfold scr at this; omega), G.ct g (ci_ct I) (fun q => by have := hx _ q; unfold scr at this; omega), G.mt g (ci_m I) (fun m hm => rs_law W hm) (fun m hm a q => by have := hx a q; have := bb m hm; unfold scr at *; omega) (fun m hm a j y => y.elim) (fun j _ y => y.elim) (fun j _ y => y.elim), ci_bo I, G.txa g (ci_tx I) (fun t ht a q => by have := hx a q; have := isTx_b (ci_tx I) ht; unfold scr at *; omega) (fun t ht j y => y.elim) (fun j _ y => y.elim) (fun j _ y => y.elim), G.dj g (ci_dj I) (fun j _ y => y.elim) (fun j _ y => y.elim), G.tpc g (ci_tp I) ⟨fun q => by have := hx _ q; unfold scr at this; omega, fun q => by have := hx _ q; unfold scr at this; omega⟩, G.plc g (ci_pl I) (fun a q => by have := hx a q; unfold scr at this; omega), G.gfc g (ci_gf I) h10 (fun a q => by have := hx a q; unfold scr at this; omega), G.asc g (ci_as I) (fun a q => by have := hx a q; unfold scr at this; omega), ?_, G.std g (by have := (ci_ct I).2.2.2.2.2; omega) (ci_st I) (fun j hj a q => by have := hx a q; have e : tOf j = 75 + 8 * j := rfl; unfold scr at this; omega) (fun j hj y => y.elim), ci_pu I⟩
  intro T hT
  by_cases e : T = 46
  · subst e
    exact ⟨h17.trans (ci_tw I 46 hT).1, h18⟩
  · have tb := ta_b hT
    rw [F.2 T (fun q => by have := hx _ q; unfold isT at hT; unfold scr at this; omega)]
    exact ci_tw I T hT
end
/-! the calls within -/
def Rf (v : Value) (H : AH) (r : Option (Option Value)) (h : AH) : Prop := r = some (some v) ∧ h = H
theorem wcf {B : Nat → Nat → Prop} {Cc : ((Option (Option Value)) → AH → Prop) → Nat → Nat → Prop} {F : Nat → Nat → Option (Option Value) → AH → Prop} {a b : Nat} {v : Value} {H : AH} (hM : Cc (Rf v H) a b) (hB : B a b) (hF : F a b (some (some v)) H) : ∃ R a b, Cc R a b ∧ B a b ∧ ∀ v h', R v h' → F a b v h' :=
  ⟨_, _, _, hM, hB, fun v h' hR => by
    obtain ⟨rfl, rfl⟩ := hR
    exact hF⟩
theorem n_min {a b : Nat} {i : Decidable (a < b)} : @ite _ (a < b) i (nI a) (nI b) = nI (min b a) := by
  split
  · rw [show min b a = a by omega]
  · rw [show min b a = b by omega]
section
variable {h : AH} {s : St} {d c : Nat} {bm : Nat → Nat}
theorem c_T_matterAt (W : RH h s) {h2 : AH} (I : CI h2 s bm c) {m : Nat} (hm : m < s 107 19) : Mz (d + 1) 42 [.ref 20, .int (nI m)] h2 0 0 (Rf (.ref (bm m)) h2) := by
  have b0 := rs_m W
  refine mz_in (l := [some (.ref 20), some (.int (nI m))]) mk_T_matterAt n_T_matterAt rfl l_T_matterAt rfl (Nat.le_of_ble_eq_true rfl) fun P hP => ?_
  refine hP.1 _ _ s_T_matterAt_0 _ _ _ _ _ ?_
  simp (maxSteps := 1000000) (disch := omega) only [g_T_matterAt_0, slk, List.map_cons, List.map_nil, List.sum_cons, List.sum_nil, vc_i, vc_r, vc_n, vc_l, vc_o, Nat.add_zero, kO_e, kA_e, hdO_a, eq_self, blk, stp, lg, ls0, lk, ls1, ls2, kI_i, kL_l, kR_r, kR_n, kR_o, s1I_i, s2I_i, s1L_l, s2L_l, s1R_r, s1R_n, s1R_o, s1A_a, cmpc, popn, swt, rf_s, rf_n, cat_i, cat_r, cat_n, cat_l, true_and, and_true, List.length_cons, List.length_nil, Nat.zero_add, Int.reduceToNat, Nat.reduceAdd, Nat.reduceDiv, Nat.reduceMod, Nat.reduceMul, Nat.reduceSub, Nat.reduceLeDiff, Nat.reduceLT, Nat.reduceEqDiff, ↓reduceIte, r_gr_wi, r_gl_wi, r_gk_wi, r_gn_wi, r_wi_eq, r_wi_ne, r_wi_nj, r_gi_wr, r_gl_wr, r_gk_wr, r_gn_wr, r_gr_wa, r_gl_wa, r_gk_wa, r_gn_wa, aa_e, as_e, al_e, u_lt, u_le, u_gt, u_ge, u_lt0, u_le0, u_gt0, u_ge0, Classical.not_not, not_true_eq_false, not_false_eq_true, oi_n, oi_m, n_dec, nI_add, pk_mul, n_sub, n_eq, n_le, n_lt, n_eq0, n_lt0, n_le0, n_0lt, n_0le, n_eqm, m_eqn, n_ltm, n_and, n_or, n_xor, n_shl, n_shr, tb1, tb0, bP_1, bP_0, bP_n0, ix_n, inb_n, u_eq, u_eqm, (ci_ct I).1, (ci_m I m hm).1]
  refine ⟨fun z => by first | exact z.elim | (exfalso; omega), fun _ => ?_⟩
  refine hP.1 _ _ s_T_matterAt_4 _ _ _ _ _ ?_
  simp (maxSteps := 1000000) (disch := omega) only [g_T_matterAt_4, slk, List.map_cons, List.map_nil, List.sum_cons, List.sum_nil, vc_i, vc_r, vc_n, vc_l, vc_o, Nat.add_zero, kO_e, kA_e, hdO_a, eq_self, blk, stp, lg, ls0, lk, ls1, ls2, kI_i, kL_l, kR_r, kR_n, kR_o, s1I_i, s2I_i, s1L_l, s2L_l, s1R_r, s1R_n, s1R_o, s1A_a, cmpc, popn, swt, rf_s, rf_n, cat_i, cat_r, cat_n, cat_l, true_and, and_true, List.length_cons, List.length_nil, Nat.zero_add, Int.reduceToNat, Nat.reduceAdd, Nat.reduceDiv, Nat.reduceMod, Nat.reduceMul, Nat.reduceSub, Nat.reduceLeDiff, Nat.reduceLT, Nat.reduceEqDiff, ↓reduceIte, r_gr_wi, r_gl_wi, r_gk_wi, r_gn_wi, r_wi_eq, r_wi_ne, r_wi_nj, r_gi_wr, r_gl_wr, r_gk_wr, r_gn_wr, r_gr_wa, r_gl_wa, r_gk_wa, r_gn_wa, aa_e, as_e, al_e, u_lt, u_le, u_gt, u_ge, u_lt0, u_le0, u_gt0, u_ge0, Classical.not_not, not_true_eq_false, not_false_eq_true, oi_n, oi_m, n_dec, nI_add, pk_mul, n_sub, n_eq, n_le, n_lt, n_eq0, n_lt0, n_le0, n_0lt, n_0le, n_eqm, m_eqn, n_ltm, n_and, n_or, n_xor, n_shl, n_shr, tb1, tb0, bP_1, bP_0, bP_n0, ix_n, inb_n, u_eq, u_eqm, k20 (ci_L I), (ci_ct I).1, (ci_m I m hm).1]
  refine ⟨fun z => by first | exact z.elim | (exfalso; omega), fun _ => ?_⟩
  refine hP.1 _ _ s_T_matterAt_12 _ _ _ _ _ ?_
  simp (maxSteps := 1000000) (disch := omega) only [g_T_matterAt_12, slk, List.map_cons, List.map_nil, List.sum_cons, List.sum_nil, vc_i, vc_r, vc_n, vc_l, vc_o, Nat.add_zero, kO_e, kA_e, hdO_a, eq_self, blk, stp, lg, ls0, lk, ls1, ls2, kI_i, kL_l, kR_r, kR_n, kR_o, s1I_i, s2I_i, s1L_l, s2L_l, s1R_r, s1R_n, s1R_o, s1A_a, cmpc, popn, swt, rf_s, rf_n, cat_i, cat_r, cat_n, cat_l, true_and, and_true, List.length_cons, List.length_nil, Nat.zero_add, Int.reduceToNat, Nat.reduceAdd, Nat.reduceDiv, Nat.reduceMod, Nat.reduceMul, Nat.reduceSub, Nat.reduceLeDiff, Nat.reduceLT, Nat.reduceEqDiff, ↓reduceIte, r_gr_wi, r_gl_wi, r_gk_wi, r_gn_wi, r_wi_eq, r_wi_ne, r_wi_nj, r_gi_wr, r_gl_wr, r_gk_wr, r_gn_wr, r_gr_wa, r_gl_wa, r_gk_wa, r_gn_wa, aa_e, as_e, al_e, u_lt, u_le, u_gt, u_ge, u_lt0, u_le0, u_gt0, u_ge0, Classical.not_not, not_true_eq_false, not_false_eq_true, oi_n, oi_m, n_dec, nI_add, pk_mul, n_sub, n_eq, n_le, n_lt, n_eq0, n_lt0, n_le0, n_0lt, n_0le, n_eqm, m_eqn, n_ltm, n_and, n_or, n_xor, n_shl, n_shr, tb1, tb0, bP_1, bP_0, bP_n0, ix_n, inb_n, u_eq, u_eqm, k20 (ci_L I), f20_1 (ci_L I), k34 (ci_L I), (ci_ct I).1, (ci_m I m hm).1]
  refine hP.1 _ _ s_T_matterAt_22 _ _ _ _ _ ?_
  simp (maxSteps := 1000000) (disch := omega) only [g_T_matterAt_22, slk, List.map_cons, List.map_nil, List.sum_cons, List.sum_nil, vc_i, vc_r, vc_n, vc_l, vc_o, Nat.add_zero, kO_e, kA_e, hdO_a, eq_self, blk, stp, lg, ls0, lk, ls1, ls2, kI_i, kL_l, kR_r, kR_n, kR_o, s1I_i, s2I_i, s1L_l, s2L_l, s1R_r, s1R_n, s1R_o, s1A_a, cmpc, popn, swt, rf_s, rf_n, cat_i, cat_r, cat_n, cat_l, true_and, and_true, List.length_cons, List.length_nil, Nat.zero_add, Int.reduceToNat, Nat.reduceAdd, Nat.reduceDiv, Nat.reduceMod, Nat.reduceMul, Nat.reduceSub, Nat.reduceLeDiff, Nat.reduceLT, Nat.reduceEqDiff, ↓reduceIte, r_gr_wi, r_gl_wi, r_gk_wi, r_gn_wi, r_wi_eq, r_wi_ne, r_wi_nj, r_gi_wr, r_gl_wr, r_gk_wr, r_gn_wr, r_gr_wa, r_gl_wa, r_gk_wa, r_gn_wa, aa_e, as_e, al_e, u_lt, u_le, u_gt, u_ge, u_lt0, u_le0, u_gt0, u_ge0, Classical.not_not, not_true_eq_false, not_false_eq_true, oi_n, oi_m, n_dec, nI_add, pk_mul, n_sub, n_eq, n_le, n_lt, n_eq0, n_lt0, n_le0, n_0lt, n_0le, n_eqm, m_eqn, n_ltm, n_and, n_or, n_xor, n_shl, n_shr, tb1, tb0, bP_1, bP_0, bP_n0, ix_n, inb_n, u_eq, u_eqm, (ci_ct I).1, (ci_m I m hm).1]
  rw [r_T_matterAt]
  exact ⟨trivial, rfl, rfl⟩
theorem c_T_matterAt0 (W : RH h s) {h2 : AH} (I : CI h2 s bm c) {m : Nat} (hm : ¬ m < s 107 19) (hm2 : m < 4294967296) : Mz (d + 1) 42 [.ref 20, .int (nI m)] h2 0 0 (Rf .null h2) := by
  have b0 := rs_m W
  refine mz_in (l := [some (.ref 20), some (.int (nI m))]) mk_T_matterAt n_T_matterAt rfl l_T_matterAt rfl (Nat.le_of_ble_eq_true rfl) fun P hP => ?_
  have j21 : P 21 [some (.ref 20), some (.int (nI m))] [] h2 0 0 := by
    refine hP.1 _ _ s_T_matterAt_21 _ _ _ _ _ ?_
    simp (maxSteps := 1000000) (disch := omega) only [g_T_matterAt_21, slk, List.map_cons, List.map_nil, List.sum_cons, List.sum_nil, vc_i, vc_r, vc_n, vc_l, vc_o, Nat.add_zero, kO_e, kA_e, hdO_a, eq_self, blk, stp, lg, ls0, lk, ls1, ls2, kI_i, kL_l, kR_r, kR_n, kR_o, s1I_i, s2I_i, s1L_l, s2L_l, s1R_r, s1R_n, s1R_o, s1A_a, cmpc, popn, swt, rf_s, rf_n, cat_i, cat_r, cat_n, cat_l, true_and, and_true, List.length_cons, List.length_nil, Nat.zero_add, Int.reduceToNat, Nat.reduceAdd, Nat.reduceDiv, Nat.reduceMod, Nat.reduceMul, Nat.reduceSub, Nat.reduceLeDiff, Nat.reduceLT, Nat.reduceEqDiff, ↓reduceIte, r_gr_wi, r_gl_wi, r_gk_wi, r_gn_wi, r_wi_eq, r_wi_ne, r_wi_nj, r_gi_wr, r_gl_wr, r_gk_wr, r_gn_wr, r_gr_wa, r_gl_wa, r_gk_wa, r_gn_wa, aa_e, as_e, al_e, u_lt, u_le, u_gt, u_ge, u_lt0, u_le0, u_gt0, u_ge0, Classical.not_not, not_true_eq_false, not_false_eq_true, oi_n, oi_m, n_dec, nI_add, pk_mul, n_sub, n_eq, n_le, n_lt, n_eq0, n_lt0, n_le0, n_0lt, n_0le, n_eqm, m_eqn, n_ltm, n_and, n_or, n_xor, n_shl, n_shr, tb1, tb0, bP_1, bP_0, bP_n0, ix_n, inb_n, u_eq, u_eqm, (ci_ct I).1]
    refine hP.1 _ _ s_T_matterAt_22 _ _ _ _ _ ?_
    simp (maxSteps := 1000000) (disch := omega) only [g_T_matterAt_22, slk, List.map_cons, List.map_nil, List.sum_cons, List.sum_nil, vc_i, vc_r, vc_n, vc_l, vc_o, Nat.add_zero, kO_e, kA_e, hdO_a, eq_self, blk, stp, lg, ls0, lk, ls1, ls2, kI_i, kL_l, kR_r, kR_n, kR_o, s1I_i, s2I_i, s1L_l, s2L_l, s1R_r, s1R_n, s1R_o, s1A_a, cmpc, popn, swt, rf_s, rf_n, cat_i, cat_r, cat_n, cat_l, true_and, and_true, List.length_cons, List.length_nil, Nat.zero_add, Int.reduceToNat, Nat.reduceAdd, Nat.reduceDiv, Nat.reduceMod, Nat.reduceMul, Nat.reduceSub, Nat.reduceLeDiff, Nat.reduceLT, Nat.reduceEqDiff, ↓reduceIte, r_gr_wi, r_gl_wi, r_gk_wi, r_gn_wi, r_wi_eq, r_wi_ne, r_wi_nj, r_gi_wr, r_gl_wr, r_gk_wr, r_gn_wr, r_gr_wa, r_gl_wa, r_gk_wa, r_gn_wa, aa_e, as_e, al_e, u_lt, u_le, u_gt, u_ge, u_lt0, u_le0, u_gt0, u_ge0, Classical.not_not, not_true_eq_false, not_false_eq_true, oi_n, oi_m, n_dec, nI_add, pk_mul, n_sub, n_eq, n_le, n_lt, n_eq0, n_lt0, n_le0, n_0lt, n_0le, n_eqm, m_eqn, n_ltm, n_and, n_or, n_xor, n_shl, n_shr, tb1, tb0, bP_1, bP_0, bP_n0, ix_n, inb_n, u_eq, u_eqm, (ci_ct I).1]
    rw [r_T_matterAt]
    exact ⟨trivial, rfl, rfl⟩
  rcases Nat.lt_or_ge m 2147483648 with q | q
  · refine hP.1 _ _ s_T_matterAt_0 _ _ _ _ _ ?_
    simp (maxSteps := 1000000) (disch := omega) only [g_T_matterAt_0, slk, List.map_cons, List.map_nil, List.sum_cons, List.sum_nil, vc_i, vc_r, vc_n, vc_l, vc_o, Nat.add_zero, kO_e, kA_e, hdO_a, eq_self, blk, stp, lg, ls0, lk, ls1, ls2, kI_i, kL_l, kR_r, kR_n, kR_o, s1I_i, s2I_i, s1L_l, s2L_l, s1R_r, s1R_n, s1R_o, s1A_a, cmpc, popn, swt, rf_s, rf_n, cat_i, cat_r, cat_n, cat_l, true_and, and_true, List.length_cons, List.length_nil, Nat.zero_add, Int.reduceToNat, Nat.reduceAdd, Nat.reduceDiv, Nat.reduceMod, Nat.reduceMul, Nat.reduceSub, Nat.reduceLeDiff, Nat.reduceLT, Nat.reduceEqDiff, ↓reduceIte, r_gr_wi, r_gl_wi, r_gk_wi, r_gn_wi, r_wi_eq, r_wi_ne, r_wi_nj, r_gi_wr, r_gl_wr, r_gk_wr, r_gn_wr, r_gr_wa, r_gl_wa, r_gk_wa, r_gn_wa, aa_e, as_e, al_e, u_lt, u_le, u_gt, u_ge, u_lt0, u_le0, u_gt0, u_ge0, Classical.not_not, not_true_eq_false, not_false_eq_true, oi_n, oi_m, n_dec, nI_add, pk_mul, n_sub, n_eq, n_le, n_lt, n_eq0, n_lt0, n_le0, n_0lt, n_0le, n_eqm, m_eqn, n_ltm, n_and, n_or, n_xor, n_shl, n_shr, tb1, tb0, bP_1, bP_0, bP_n0, ix_n, inb_n, u_eq, u_eqm, (ci_ct I).1]
    refine ⟨fun z => by first | exact z.elim | (exfalso; omega), fun _ => ?_⟩
    refine hP.1 _ _ s_T_matterAt_4 _ _ _ _ _ ?_
    simp (maxSteps := 1000000) (disch := omega) only [g_T_matterAt_4, slk, List.map_cons, List.map_nil, List.sum_cons, List.sum_nil, vc_i, vc_r, vc_n, vc_l, vc_o, Nat.add_zero, kO_e, kA_e, hdO_a, eq_self, blk, stp, lg, ls0, lk, ls1, ls2, kI_i, kL_l, kR_r, kR_n, kR_o, s1I_i, s2I_i, s1L_l, s2L_l, s1R_r, s1R_n, s1R_o, s1A_a, cmpc, popn, swt, rf_s, rf_n, cat_i, cat_r, cat_n, cat_l, true_and, and_true, List.length_cons, List.length_nil, Nat.zero_add, Int.reduceToNat, Nat.reduceAdd, Nat.reduceDiv, Nat.reduceMod, Nat.reduceMul, Nat.reduceSub, Nat.reduceLeDiff, Nat.reduceLT, Nat.reduceEqDiff, ↓reduceIte, r_gr_wi, r_gl_wi, r_gk_wi, r_gn_wi, r_wi_eq, r_wi_ne, r_wi_nj, r_gi_wr, r_gl_wr, r_gk_wr, r_gn_wr, r_gr_wa, r_gl_wa, r_gk_wa, r_gn_wa, aa_e, as_e, al_e, u_lt, u_le, u_gt, u_ge, u_lt0, u_le0, u_gt0, u_ge0, Classical.not_not, not_true_eq_false, not_false_eq_true, oi_n, oi_m, n_dec, nI_add, pk_mul, n_sub, n_eq, n_le, n_lt, n_eq0, n_lt0, n_le0, n_0lt, n_0le, n_eqm, m_eqn, n_ltm, n_and, n_or, n_xor, n_shl, n_shr, tb1, tb0, bP_1, bP_0, bP_n0, ix_n, inb_n, u_eq, u_eqm, k20 (ci_L I), (ci_ct I).1]
    refine ⟨fun _ => j21, fun z => by first | exact z.elim | (exfalso; omega)⟩
  · refine hP.1 _ _ s_T_matterAt_0 _ _ _ _ _ ?_
    simp (maxSteps := 1000000) (disch := omega) only [g_T_matterAt_0, slk, List.map_cons, List.map_nil, List.sum_cons, List.sum_nil, vc_i, vc_r, vc_n, vc_l, vc_o, Nat.add_zero, kO_e, kA_e, hdO_a, eq_self, blk, stp, lg, ls0, lk, ls1, ls2, kI_i, kL_l, kR_r, kR_n, kR_o, s1I_i, s2I_i, s1L_l, s2L_l, s1R_r, s1R_n, s1R_o, s1A_a, cmpc, popn, swt, rf_s, rf_n, cat_i, cat_r, cat_n, cat_l, true_and, and_true, List.length_cons, List.length_nil, Nat.zero_add, Int.reduceToNat, Nat.reduceAdd, Nat.reduceDiv, Nat.reduceMod, Nat.reduceMul, Nat.reduceSub, Nat.reduceLeDiff, Nat.reduceLT, Nat.reduceEqDiff, ↓reduceIte, r_gr_wi, r_gl_wi, r_gk_wi, r_gn_wi, r_wi_eq, r_wi_ne, r_wi_nj, r_gi_wr, r_gl_wr, r_gk_wr, r_gn_wr, r_gr_wa, r_gl_wa, r_gk_wa, r_gn_wa, aa_e, as_e, al_e, u_lt, u_le, u_gt, u_ge, u_lt0, u_le0, u_gt0, u_ge0, Classical.not_not, not_true_eq_false, not_false_eq_true, oi_n, oi_m, n_dec, nI_add, pk_mul, n_sub, n_eq, n_le, n_lt, n_eq0, n_lt0, n_le0, n_0lt, n_0le, n_eqm, m_eqn, n_ltm, n_and, n_or, n_xor, n_shl, n_shr, tb1, tb0, bP_1, bP_0, bP_n0, ix_n, inb_n, u_eq, u_eqm, (ci_ct I).1]
    exact ⟨fun _ => j21, fun z => by first | exact z.elim | exact absurd trivial z⟩
theorem c_T_unsettleFrom (W : RH h s) {h2 : AH} (I : CI h2 s bm c) {m : Nat} (hm : m < 2147483648) : Mz (d + 1) 43 [.ref 20, .int (nI m)] h2 0 0 (Rv (wi h2 20 17 (nI (min c m)))) := by
  have b0 := rs_m W
  have c0 := (ci_ct I).2.2.2.2.2
  refine mz_in (l := [some (.ref 20), some (.int (nI m))]) mk_T_unsettleFrom n_T_unsettleFrom rfl l_T_unsettleFrom rfl (Nat.le_of_ble_eq_true rfl) fun P hP => ?_
  refine hP.1 _ _ s_T_unsettleFrom_0 _ _ _ _ _ ?_
  simp (maxSteps := 1000000) (disch := omega) only [g_T_unsettleFrom_0, slk, List.map_cons, List.map_nil, List.sum_cons, List.sum_nil, vc_i, vc_r, vc_n, vc_l, vc_o, Nat.add_zero, kO_e, kA_e, hdO_a, eq_self, blk, stp, lg, ls0, lk, ls1, ls2, kI_i, kL_l, kR_r, kR_n, kR_o, s1I_i, s2I_i, s1L_l, s2L_l, s1R_r, s1R_n, s1R_o, s1A_a, cmpc, popn, swt, rf_s, rf_n, cat_i, cat_r, cat_n, cat_l, true_and, and_true, List.length_cons, List.length_nil, Nat.zero_add, Int.reduceToNat, Nat.reduceAdd, Nat.reduceDiv, Nat.reduceMod, Nat.reduceMul, Nat.reduceSub, Nat.reduceLeDiff, Nat.reduceLT, Nat.reduceEqDiff, ↓reduceIte, r_gr_wi, r_gl_wi, r_gk_wi, r_gn_wi, r_wi_eq, r_wi_ne, r_wi_nj, r_gi_wr, r_gl_wr, r_gk_wr, r_gn_wr, r_gr_wa, r_gl_wa, r_gk_wa, r_gn_wa, aa_e, as_e, al_e, u_lt, u_le, u_gt, u_ge, u_lt0, u_le0, u_gt0, u_ge0, Classical.not_not, not_true_eq_false, not_false_eq_true, oi_n, oi_m, n_dec, nI_add, pk_mul, n_sub, n_eq, n_le, n_lt, n_eq0, n_lt0, n_le0, n_0lt, n_0le, n_eqm, m_eqn, n_ltm, n_and, n_or, n_xor, n_shl, n_shr, tb1, tb0, bP_1, bP_0, bP_n0, ix_n, inb_n, u_eq, u_eqm, k20 (ci_L I), (ci_ct I).2.2.2.2.1]
  rw [n_min]
  exact lfV r_T_unsettleFrom rfl
/-- what settling may change -/
def XS : Nat → Prop := fun a => a = 20 ∨ (42 ≤ a ∧ a ≤ 44) ∨ (75 ≤ a ∧ a ≤ 106)
def YS : Nat → Nat → Prop := fun a j => (75 ≤ a ∧ a ≤ 106) ∧ j = 3
def PSt2 (h : AH) (s : St) (bm : Nat → Nat) (c : Nat) (r : Option (Option Value)) (h' : AH) : Prop := r = some none ∧ CI h' s bm c ∧ Fg XS YS h h' ∧ gl h' = gl h
theorem c_T_settle (W : RH h s) {h2 : AH} (I : CI h2 s bm c) {l : Nat} {v : Int32} (hl : l ≤ s 107 19) (hv : ∀ i, i ≤ 4 → ((v < nI i) = ¬ i < l)) : Mz (d + 6) 44 [.ref 20, .int v] h2 0 0 (PSt2 h2 s bm (max c l)) := by
  have b0 := rs_m W
  have c0 := (ci_ct I).2.2.2.2.2
  have pu := ci_pu I
  refine mz_in (l := [some (.ref 20), some (.int v), none, none]) mk_T_settle n_T_settle rfl l_T_settle rfl (Nat.le_of_ble_eq_true rfl) fun P hP => ?_
  have loop : ∀ n i H (x3 : Option Value), i + n = max c l → c ≤ i → CI H s bm i → Fg XS YS h2 H → gl H = gl h2 → P 5 [some (.ref 20), some (.int (v)), some (.int (nI i)), x3] [] H 0 0 := by
    intro n
    induction n using Nat.strongRecOn with
    | _ n ih =>
      intro i H x3 hn hc1 IH F hgl
      have ct := ci_ct IH
      have i4 : i ≤ s 107 19 := ct.2.2.2.2.2
      have hvi := hv i (by omega)
      have fin : i = max c l → P 68 [some (.ref 20), some (.int (v)), some (.int (nI i)), x3] [] H 0 0 := by
        intro e
        refine hP.1 _ _ s_T_settle_68 _ _ _ _ _ ?_
        simp (maxSteps := 1000000) (disch := omega) only [g_T_settle_68, slk, List.map_cons, List.map_nil, List.sum_cons, List.sum_nil, vc_i, vc_r, vc_n, vc_l, vc_o, Nat.add_zero, kO_e, kA_e, hdO_a, eq_self, blk, stp, lg, ls0, lk, ls1, ls2, kI_i, kL_l, kR_r, kR_n, kR_o, s1I_i, s2I_i, s1L_l, s2L_l, s1R_r, s1R_n, s1R_o, s1A_a, cmpc, popn, swt, rf_s, rf_n, cat_i, cat_r, cat_n, cat_l, true_and, and_true, List.length_cons, List.length_nil, Nat.zero_add, Int.reduceToNat, Nat.reduceAdd, Nat.reduceDiv, Nat.reduceMod, Nat.reduceMul, Nat.reduceSub, Nat.reduceLeDiff, Nat.reduceLT, Nat.reduceEqDiff, ↓reduceIte, r_gr_wi, r_gl_wi, r_gk_wi, r_gn_wi, r_wi_eq, r_wi_ne, r_wi_nj, r_gi_wr, r_gl_wr, r_gk_wr, r_gn_wr, r_gr_wa, r_gl_wa, r_gk_wa, r_gn_wa, aa_e, as_e, al_e, u_lt, u_le, u_gt, u_ge, u_lt0, u_le0, u_gt0, u_ge0, Classical.not_not, not_true_eq_false, not_false_eq_true, oi_n, oi_m, n_dec, nI_add, pk_mul, n_sub, n_eq, n_le, n_lt, n_eq0, n_lt0, n_le0, n_0lt, n_0le, n_eqm, m_eqn, n_ltm, n_and, n_or, n_xor, n_shl, n_shr, tb1, tb0, bP_1, bP_0, bP_n0, ix_n, inb_n, u_eq, u_eqm]
        rw [r_T_settle, ← e]
        exact ⟨trivial, rfl, IH, F, hgl⟩
      refine hP.1 _ _ s_T_settle_5 _ _ _ _ _ ?_
      simp (maxSteps := 1000000) (disch := omega) only [g_T_settle_5, slk, List.map_cons, List.map_nil, List.sum_cons, List.sum_nil, vc_i, vc_r, vc_n, vc_l, vc_o, Nat.add_zero, kO_e, kA_e, hdO_a, eq_self, blk, stp, lg, ls0, lk, ls1, ls2, kI_i, kL_l, kR_r, kR_n, kR_o, s1I_i, s2I_i, s1L_l, s2L_l, s1R_r, s1R_n, s1R_o, s1A_a, cmpc, popn, swt, rf_s, rf_n, cat_i, cat_r, cat_n, cat_l, true_and, and_true, List.length_cons, List.length_nil, Nat.zero_add, Int.reduceToNat, Nat.reduceAdd, Nat.reduceDiv, Nat.reduceMod, Nat.reduceMul, Nat.reduceSub, Nat.reduceLeDiff, Nat.reduceLT, Nat.reduceEqDiff, ↓reduceIte, r_gr_wi, r_gl_wi, r_gk_wi, r_gn_wi, r_wi_eq, r_wi_ne, r_wi_nj, r_gi_wr, r_gl_wr, r_gk_wr, r_gn_wr, r_gr_wa, r_gl_wa, r_gk_wa, r_gn_wa, aa_e, as_e, al_e, u_lt, u_le, u_gt, u_ge, u_lt0, u_le0, u_gt0, u_ge0, Classical.not_not, not_true_eq_false, not_false_eq_true, oi_n, oi_m, n_dec, nI_add, pk_mul, n_sub, n_eq, n_le, n_lt, n_eq0, n_lt0, n_le0, n_0lt, n_0le, n_eqm, m_eqn, n_ltm, n_and, n_or, n_xor, n_shl, n_shr, tb1, tb0, bP_1, bP_0, bP_n0, ix_n, inb_n, u_eq, u_eqm, hvi, ct.1]
      refine ⟨fun hc => fin (by omega), fun hc => ?_⟩
      have il : i < l := by first | exact hc | exact Classical.not_not.mp hc | omega
      refine hP.1 _ _ s_T_settle_10 _ _ _ _ _ ?_
      simp (maxSteps := 1000000) (disch := omega) only [g_T_settle_10, slk, List.map_cons, List.map_nil, List.sum_cons, List.sum_nil, vc_i, vc_r, vc_n, vc_l, vc_o, Nat.add_zero, kO_e, kA_e, hdO_a, eq_self, blk, stp, lg, ls0, lk, ls1, ls2, kI_i, kL_l, kR_r, kR_n, kR_o, s1I_i, s2I_i, s1L_l, s2L_l, s1R_r, s1R_n, s1R_o, s1A_a, cmpc, popn, swt, rf_s, rf_n, cat_i, cat_r, cat_n, cat_l, true_and, and_true, List.length_cons, List.length_nil, Nat.zero_add, Int.reduceToNat, Nat.reduceAdd, Nat.reduceDiv, Nat.reduceMod, Nat.reduceMul, Nat.reduceSub, Nat.reduceLeDiff, Nat.reduceLT, Nat.reduceEqDiff, ↓reduceIte, r_gr_wi, r_gl_wi, r_gk_wi, r_gn_wi, r_wi_eq, r_wi_ne, r_wi_nj, r_gi_wr, r_gl_wr, r_gk_wr, r_gn_wr, r_gr_wa, r_gl_wa, r_gk_wa, r_gn_wa, aa_e, as_e, al_e, u_lt, u_le, u_gt, u_ge, u_lt0, u_le0, u_gt0, u_ge0, Classical.not_not, not_true_eq_false, not_false_eq_true, oi_n, oi_m, n_dec, nI_add, pk_mul, n_sub, n_eq, n_le, n_lt, n_eq0, n_lt0, n_le0, n_0lt, n_0le, n_eqm, m_eqn, n_ltm, n_and, n_or, n_xor, n_shl, n_shr, tb1, tb0, bP_1, bP_0, bP_n0, ix_n, inb_n, u_eq, u_eqm, k20 (ci_L IH), hvi, ct.1]
      refine ⟨fun z => by first | exact z.elim | (exfalso; omega), fun _ => ?_⟩
      have im : i < s 107 19 := by omega
      have TT := tOf_T (j := i) (by omega)
      have tb := ta_b TT
      have et : tOf i = 75 + 8 * i := rfl
      have e45 := tOf_r (ci_L IH) (j := i) (by omega)
      refine hP.1 _ _ s_T_settle_18 _ _ _ _ _ ?_
      simp (maxSteps := 1000000) (disch := omega) only [g_T_settle_18, slk, List.map_cons, List.map_nil, List.sum_cons, List.sum_nil, vc_i, vc_r, vc_n, vc_l, vc_o, Nat.add_zero, kO_e, kA_e, hdO_a, eq_self, blk, stp, lg, ls0, lk, ls1, ls2, kI_i, kL_l, kR_r, kR_n, kR_o, s1I_i, s2I_i, s1L_l, s2L_l, s1R_r, s1R_n, s1R_o, s1A_a, cmpc, popn, swt, rf_s, rf_n, cat_i, cat_r, cat_n, cat_l, true_and, and_true, List.length_cons, List.length_nil, Nat.zero_add, Int.reduceToNat, Nat.reduceAdd, Nat.reduceDiv, Nat.reduceMod, Nat.reduceMul, Nat.reduceSub, Nat.reduceLeDiff, Nat.reduceLT, Nat.reduceEqDiff, ↓reduceIte, r_gr_wi, r_gl_wi, r_gk_wi, r_gn_wi, r_wi_eq, r_wi_ne, r_wi_nj, r_gi_wr, r_gl_wr, r_gk_wr, r_gn_wr, r_gr_wa, r_gl_wa, r_gk_wa, r_gn_wa, aa_e, as_e, al_e, u_lt, u_le, u_gt, u_ge, u_lt0, u_le0, u_gt0, u_ge0, Classical.not_not, not_true_eq_false, not_false_eq_true, oi_n, oi_m, n_dec, nI_add, pk_mul, n_sub, n_eq, n_le, n_lt, n_eq0, n_lt0, n_le0, n_0lt, n_0le, n_eqm, m_eqn, n_ltm, n_and, n_or, n_xor, n_shl, n_shr, tb1, tb0, bP_1, bP_0, bP_n0, ix_n, inb_n, u_eq, u_eqm, k20 (ci_L IH), ct.1, e45, (ta_k (ci_L IH) TT).1, (ta_r (ci_L IH) TT).2.2.2.1]
      refine wcf (c_T_matterAt W IH im) ⟨by omega, by omega⟩ ?_
      simp (maxSteps := 1000000) (disch := omega) only [slk, List.map_cons, List.map_nil, List.sum_cons, List.sum_nil, vc_i, vc_r, vc_n, vc_l, vc_o, Nat.add_zero, kO_e, kA_e, hdO_a, eq_self, blk, stp, lg, ls0, lk, ls1, ls2, kI_i, kL_l, kR_r, kR_n, kR_o, s1I_i, s2I_i, s1L_l, s2L_l, s1R_r, s1R_n, s1R_o, s1A_a, cmpc, popn, swt, rf_s, rf_n, cat_i, cat_r, cat_n, cat_l, true_and, and_true, List.length_cons, List.length_nil, Nat.zero_add, Int.reduceToNat, Nat.reduceAdd, Nat.reduceDiv, Nat.reduceMod, Nat.reduceMul, Nat.reduceSub, Nat.reduceLeDiff, Nat.reduceLT, Nat.reduceEqDiff, ↓reduceIte, r_gr_wi, r_gl_wi, r_gk_wi, r_gn_wi, r_wi_eq, r_wi_ne, r_wi_nj, r_gi_wr, r_gl_wr, r_gk_wr, r_gn_wr, r_gr_wa, r_gl_wa, r_gk_wa, r_gn_wa, aa_e, as_e, al_e, u_lt, u_le, u_gt, u_ge, u_lt0, u_le0, u_gt0, u_ge0, Classical.not_not, not_true_eq_false, not_false_eq_true, oi_n, oi_m, n_dec, nI_add, pk_mul, n_sub, n_eq, n_le, n_lt, n_eq0, n_lt0, n_le0, n_0lt, n_0le, n_eqm, m_eqn, n_ltm, n_and, n_or, n_xor, n_shl, n_shr, tb1, tb0, bP_1, bP_0, bP_n0, ix_n, inb_n, u_eq, u_eqm, k20 (ci_L IH), ct.1, e45, (ta_k (ci_L IH) TT).1, (ta_r (ci_L IH) TT).2.2.2.1]
      refine ⟨fun z => (by first | exact z.elim | cases z), fun _ => ?_⟩
      refine hP.1 _ _ s_T_settle_28 _ _ _ _ _ ?_
      simp (maxSteps := 1000000) (disch := omega) only [g_T_settle_28, slk, List.map_cons, List.map_nil, List.sum_cons, List.sum_nil, vc_i, vc_r, vc_n, vc_l, vc_o, Nat.add_zero, kO_e, kA_e, hdO_a, eq_self, blk, stp, lg, ls0, lk, ls1, ls2, kI_i, kL_l, kR_r, kR_n, kR_o, s1I_i, s2I_i, s1L_l, s2L_l, s1R_r, s1R_n, s1R_o, s1A_a, cmpc, popn, swt, rf_s, rf_n, cat_i, cat_r, cat_n, cat_l, true_and, and_true, List.length_cons, List.length_nil, Nat.zero_add, Int.reduceToNat, Nat.reduceAdd, Nat.reduceDiv, Nat.reduceMod, Nat.reduceMul, Nat.reduceSub, Nat.reduceLeDiff, Nat.reduceLT, Nat.reduceEqDiff, ↓reduceIte, r_gr_wi, r_gl_wi, r_gk_wi, r_gn_wi, r_wi_eq, r_wi_ne, r_wi_nj, r_gi_wr, r_gl_wr, r_gk_wr, r_gn_wr, r_gr_wa, r_gl_wa, r_gk_wa, r_gn_wa, aa_e, as_e, al_e, u_lt, u_le, u_gt, u_ge, u_lt0, u_le0, u_gt0, u_ge0, Classical.not_not, not_true_eq_false, not_false_eq_true, oi_n, oi_m, n_dec, nI_add, pk_mul, n_sub, n_eq, n_le, n_lt, n_eq0, n_lt0, n_le0, n_0lt, n_0le, n_eqm, m_eqn, n_ltm, n_and, n_or, n_xor, n_shl, n_shr, tb1, tb0, bP_1, bP_0, bP_n0, ix_n, inb_n, u_eq, u_eqm, k20 (ci_L IH), f20_9 (ci_L IH), k54 (ci_L IH), f20_7 (ci_L IH), k45 (ci_L IH), ct.1, e45, (ta_k (ci_L IH) TT).1, (ta_r (ci_L IH) TT).2.2.2.1]
      refine ⟨_, _, _, c_Pl_weighBefore W (ci_L IH) pu.2.2.1 (A := tOf i + 1) i4 (ci_pl IH) (ci_mts IH i4) (ci_st IH) (ta_k (ci_L IH) TT).2.1 (Or.inr rfl), ⟨by omega, by omega⟩, ?_⟩
      rintro r H1 ⟨rfl, F1, G1⟩
      have g := (ci_L IH).2.2
      have bi := ci_b IH im
      have L1 := F1.lay (ci_L IH)
      have E1 := F1.ev (ci_ev IH im) (fun a q => by have q2 : a = tOf i + 1 := q; omega)
      have tw := ci_tw IH (tOf i) TT
      obtain ⟨su, u1, u2⟩ := tw.2
      have e451 := tOf_r L1 (j := i) (by omega)
      simp (maxSteps := 1000000) (disch := omega) only [slk, List.map_cons, List.map_nil, List.sum_cons, List.sum_nil, vc_i, vc_r, vc_n, vc_l, vc_o, Nat.add_zero, kO_e, kA_e, hdO_a, eq_self, blk, stp, lg, ls0, lk, ls1, ls2, kI_i, kL_l, kR_r, kR_n, kR_o, s1I_i, s2I_i, s1L_l, s2L_l, s1R_r, s1R_n, s1R_o, s1A_a, cmpc, popn, swt, rf_s, rf_n, cat_i, cat_r, cat_n, cat_l, true_and, and_true, List.length_cons, List.length_nil, Nat.zero_add, Int.reduceToNat, Nat.reduceAdd, Nat.reduceDiv, Nat.reduceMod, Nat.reduceMul, Nat.reduceSub, Nat.reduceLeDiff, Nat.reduceLT, Nat.reduceEqDiff, ↓reduceIte, r_gr_wi, r_gl_wi, r_gk_wi, r_gn_wi, r_wi_eq, r_wi_ne, r_wi_nj, r_gi_wr, r_gl_wr, r_gk_wr, r_gn_wr, r_gr_wa, r_gl_wa, r_gk_wa, r_gn_wa, aa_e, as_e, al_e, u_lt, u_le, u_gt, u_ge, u_lt0, u_le0, u_gt0, u_ge0, Classical.not_not, not_true_eq_false, not_false_eq_true, oi_n, oi_m, n_dec, nI_add, pk_mul, n_sub, n_eq, n_le, n_lt, n_eq0, n_lt0, n_le0, n_0lt, n_0le, n_eqm, m_eqn, n_ltm, n_and, n_or, n_xor, n_shl, n_shr, tb1, tb0, bP_1, bP_0, bP_n0, ix_n, inb_n, u_eq, u_eqm, k20 (ci_L IH), f20_9 (ci_L IH), k54 (ci_L IH), f20_7 (ci_L IH), k45 (ci_L IH), e451, (ta_k L1 TT).1, f20_7 L1, k45 L1, k20 L1]
      refine ⟨_, _, _, c_Ta_run W pu.1 pu.2.1 E1 im TT (ed := eB s i) (rs := rB s i) (su := su) G1 ((F1.at (by show ¬ tOf i = tOf i + 1; omega) 17).trans (by rw [pu.2.2.1]; exact tw.1)) (by rw [pu.2.2.1]; decide) ((F1.at (by show ¬ tOf i = tOf i + 1; omega) 18).trans u1) u2, ⟨by omega, by omega⟩, ?_⟩
      rintro r H2 ⟨rfl, F2, h11, S2, su2, v1, v2⟩
      have FW := Fg.wr H1 (tOf i) 3 (some (bm i))
      have FA : Fg (fun a => (42 ≤ a ∧ a ≤ 44) ∨ (tOf i ≤ a ∧ a ≤ tOf i + 7)) (fun a j => a = tOf i ∧ j = 3) H H2 := by
        refine ((F1.fg.mono (fun a _ q => ?_) (fun a j _ y => y.elim)).trans (FW.mono (fun a _ q => q.elim) (fun a j _ y => y))).trans (F2.fg.mono (fun a _ q => ?_) (fun a j _ y => y.elim))
        · have q2 : a = tOf i + 1 := q
          omega
        · unfold XR at q
          omega
      have L2 := FA.lay (ci_L IH) (fun a j y => Or.inl ⟨by rw [y.1]; exact TT, y.2⟩)
      have gl2 : gl H2 = gl h2 := by
        rw [F2.gl, ← hgl]
        exact F1.gl
      have r3 : gr H2 (tOf i) 3 = some (bm i) := by rw [F2.gr, r_gr_wr, if_pos rfl, if_pos rfl]
      simp (maxSteps := 1000000) (disch := omega) only [slk, List.map_cons, List.map_nil, List.sum_cons, List.sum_nil, vc_i, vc_r, vc_n, vc_l, vc_o, Nat.add_zero, kO_e, kA_e, hdO_a, eq_self, blk, stp, lg, ls0, lk, ls1, ls2, kI_i, kL_l, kR_r, kR_n, kR_o, s1I_i, s2I_i, s1L_l, s2L_l, s1R_r, s1R_n, s1R_o, s1A_a, cmpc, popn, swt, rf_s, rf_n, cat_i, cat_r, cat_n, cat_l, true_and, and_true, List.length_cons, List.length_nil, Nat.zero_add, Int.reduceToNat, Nat.reduceAdd, Nat.reduceDiv, Nat.reduceMod, Nat.reduceMul, Nat.reduceSub, Nat.reduceLeDiff, Nat.reduceLT, Nat.reduceEqDiff, ↓reduceIte, r_gr_wi, r_gl_wi, r_gk_wi, r_gn_wi, r_wi_eq, r_wi_ne, r_wi_nj, r_gi_wr, r_gl_wr, r_gk_wr, r_gn_wr, r_gr_wa, r_gl_wa, r_gk_wa, r_gn_wa, aa_e, as_e, al_e, u_lt, u_le, u_gt, u_ge, u_lt0, u_le0, u_gt0, u_ge0, Classical.not_not, not_true_eq_false, not_false_eq_true, oi_n, oi_m, n_dec, nI_add, pk_mul, n_sub, n_eq, n_le, n_lt, n_eq0, n_lt0, n_le0, n_0lt, n_0le, n_eqm, m_eqn, n_ltm, n_and, n_or, n_xor, n_shl, n_shr, tb1, tb0, bP_1, bP_0, bP_n0, ix_n, inb_n, u_eq, u_eqm, k20 (ci_L IH), f20_9 (ci_L IH), k54 (ci_L IH), f20_7 (ci_L IH), k45 (ci_L IH), ct.1]
      refine hP.1 _ _ s_T_settle_55 _ _ _ _ _ ?_
      simp (maxSteps := 1000000) (disch := omega) only [g_T_settle_55, slk, List.map_cons, List.map_nil, List.sum_cons, List.sum_nil, vc_i, vc_r, vc_n, vc_l, vc_o, Nat.add_zero, kO_e, kA_e, hdO_a, eq_self, blk, stp, lg, ls0, lk, ls1, ls2, kI_i, kL_l, kR_r, kR_n, kR_o, s1I_i, s2I_i, s1L_l, s2L_l, s1R_r, s1R_n, s1R_o, s1A_a, cmpc, popn, swt, rf_s, rf_n, cat_i, cat_r, cat_n, cat_l, true_and, and_true, List.length_cons, List.length_nil, Nat.zero_add, Int.reduceToNat, Nat.reduceAdd, Nat.reduceDiv, Nat.reduceMod, Nat.reduceMul, Nat.reduceSub, Nat.reduceLeDiff, Nat.reduceLT, Nat.reduceEqDiff, ↓reduceIte, r_gr_wi, r_gl_wi, r_gk_wi, r_gn_wi, r_wi_eq, r_wi_ne, r_wi_nj, r_gi_wr, r_gl_wr, r_gk_wr, r_gn_wr, r_gr_wa, r_gl_wa, r_gk_wa, r_gn_wa, aa_e, as_e, al_e, u_lt, u_le, u_gt, u_ge, u_lt0, u_le0, u_gt0, u_ge0, Classical.not_not, not_true_eq_false, not_false_eq_true, oi_n, oi_m, n_dec, nI_add, pk_mul, n_sub, n_eq, n_le, n_lt, n_eq0, n_lt0, n_le0, n_0lt, n_0le, n_eqm, m_eqn, n_ltm, n_and, n_or, n_xor, n_shl, n_shr, tb1, tb0, bP_1, bP_0, bP_n0, ix_n, inb_n, u_eq, u_eqm, k20 L2, ct.1]
      refine ih (n - 1) (by omega) (i + 1) _ _ (by omega) (by omega) ?_ ?_ gl2
      · obtain ⟨H3, e3⟩ : ∃ H3, H3 = wi H2 20 17 (nI (i + 1)) := ⟨_, rfl⟩
        rw [← e3]
        have F3 : Fp (fun a => a = 20) H2 H3 := by rw [e3]; exact (Fp.refl (fun a => a = 20) H2).wi rfl _ _
        have FB : Fg (fun a => a = 20 ∨ (42 ≤ a ∧ a ≤ 44) ∨ (tOf i ≤ a ∧ a ≤ tOf i + 7)) (fun a j => a = tOf i ∧ j = 3) H H3 := (FA.mono (fun a _ q => Or.inr q) (fun a j _ y => y)).trans (F3.fg.mono (fun a _ q => Or.inl q) (fun a j _ y => y.elim))
        have n20 : ∀ a, a ≠ 20 → gi H3 a = gi H2 a := fun a q => F3.2 a q
        refine ⟨F3.lay L2, FB.cc g (ci_C IH) (fun a q => by omega) (fun j y => by omega) (fun j _ y => by omega) (fun e he => rs_md W he), ?_, FB.mt g (ci_m IH) (fun m hm => rs_law W hm) (fun m hm a q => by have := ci_b IH hm; omega) (fun m hm a j y => by have := ci_b IH hm; omega) (fun j _ y => by omega) (fun j _ y => by omega), ci_bo IH, FB.txa g (ci_tx IH) (fun t ht a q => by have := isTx_b (ci_tx IH) ht; omega) (fun t ht j y => by have := isTx_b (ci_tx IH) ht; omega) (fun j _ y => by omega) (fun j _ y => by omega), FB.dj g (ci_dj IH) (fun j _ y => by omega) (fun j _ y => by omega), FB.tpc g (ci_tp IH) ⟨fun q => by omega, fun q => by omega⟩, FB.plc g (ci_pl IH) (fun a q => by omega), FB.gfc g (ci_gf IH) (by rw [FB.2.2.1 61 (by omega) (fun q => by omega)]) (fun a q => by omega), FB.asc g (ci_as IH) (fun a q => by omega), ?_, ?_, pu⟩
        · obtain ⟨t1, t2, t3, t4, t5, t6⟩ := ct
          have e20 : ∀ k, k ≠ 17 → gi H3 20 k = gi H 20 k := fun k q => by
            rw [e3, r_wi_nj _ _ _ q, FA.2.2.1 20 (by omega) (fun z => by omega)]
          refine ⟨(e20 13 (by omega)).trans t1, (e20 14 (by omega)).trans t2, (e20 15 (by omega)).trans t3, (e20 16 (by omega)).trans t4, ?_, by omega⟩
          rw [e3, r_wi_eq]
        · intro T hT
          by_cases e : T = tOf i
          · subst e
            rw [n20 _ (by omega)]
            refine ⟨?_, su2, v1, v2.1⟩
            rw [h11.2]
            show gi H1 (tOf i) 17 = _
            exact (F1.at (by show ¬ tOf i = tOf i + 1; omega) 17).trans tw.1
          · have tT := ta_b hT
            rw [FB.2.2.1 T (by omega) (fun q => by unfold isT at hT; omega)]
            exact ci_tw IH T hT
        · intro j hj
          by_cases e : j = i
          · subst e
            refine ⟨?_, ?_, ?_⟩
            · rw [F3.gr]
              exact r3
            · rw [n20 _ (by omega)]
              exact h11.1
            · have e1 := n20 (tOf j) (by omega)
              have e2 := n20 (tOf j + 2) (by omega)
              have e3 := n20 (tOf j + 3) (by omega)
              have e4 := n20 (tOf j + 4) (by omega)
              have e5 := n20 (tOf j + 5) (by omega)
              unfold TZ TS
              rw [e1, e2, e3, e4, e5]
              exact S2
          · have ej : tOf j = 75 + 8 * j := rfl
            exact FB.st1 g (by omega) (ci_st IH j (by omega)) (fun a q => by omega) (fun y => by omega)
      · refine F.trans ?_
        have F3 : Fp (fun a => a = 20) H2 (wi H2 20 17 (nI (i + 1))) := (Fp.refl (fun a => a = 20) H2).wi rfl _ _
        refine (FA.mono (fun a _ q => ?_) (fun a j _ y => ?_)).trans (F3.fg.mono (fun a _ q => Or.inl q) (fun a j _ y => y.elim))
        · unfold XS
          omega
        · unfold YS
          omega
  refine hP.1 _ _ s_T_settle_0 _ _ _ _ _ ?_
  simp (maxSteps := 1000000) (disch := omega) only [g_T_settle_0, slk, List.map_cons, List.map_nil, List.sum_cons, List.sum_nil, vc_i, vc_r, vc_n, vc_l, vc_o, Nat.add_zero, kO_e, kA_e, hdO_a, eq_self, blk, stp, lg, ls0, lk, ls1, ls2, kI_i, kL_l, kR_r, kR_n, kR_o, s1I_i, s2I_i, s1L_l, s2L_l, s1R_r, s1R_n, s1R_o, s1A_a, cmpc, popn, swt, rf_s, rf_n, cat_i, cat_r, cat_n, cat_l, true_and, and_true, List.length_cons, List.length_nil, Nat.zero_add, Int.reduceToNat, Nat.reduceAdd, Nat.reduceDiv, Nat.reduceMod, Nat.reduceMul, Nat.reduceSub, Nat.reduceLeDiff, Nat.reduceLT, Nat.reduceEqDiff, ↓reduceIte, r_gr_wi, r_gl_wi, r_gk_wi, r_gn_wi, r_wi_eq, r_wi_ne, r_wi_nj, r_gi_wr, r_gl_wr, r_gk_wr, r_gn_wr, r_gr_wa, r_gl_wa, r_gk_wa, r_gn_wa, aa_e, as_e, al_e, u_lt, u_le, u_gt, u_ge, u_lt0, u_le0, u_gt0, u_ge0, Classical.not_not, not_true_eq_false, not_false_eq_true, oi_n, oi_m, n_dec, nI_add, pk_mul, n_sub, n_eq, n_le, n_lt, n_eq0, n_lt0, n_le0, n_0lt, n_0le, n_eqm, m_eqn, n_ltm, n_and, n_or, n_xor, n_shl, n_shr, tb1, tb0, bP_1, bP_0, bP_n0, ix_n, inb_n, u_eq, u_eqm, k20 (ci_L I), (ci_ct I).2.2.2.2.1]
  exact loop (max c l - c) c h2 none (by omega) (Nat.le_refl _) I (Fg.refl _ _ _) rfl
end
