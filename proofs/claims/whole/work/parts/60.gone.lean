/-! ===== the reference goes through a talk ===== -/
section
variable (s : St) (ed rs : Nat → Nat) (m : Nat) (ls : List Lk)
noncomputable def wdG (j : Nat) : Nat := (dE s ed rs m ls j).2.1
noncomputable def wdF (j k : Nat) : Nat := sfB (dE s ed rs m ls j).1 (k / 4) (k % 4)
noncomputable def wdN (j k : Nat) : Nat := snB (dE s ed rs m ls j).1 (k / 4) (k % 4)
def wsB (j b : Nat) : Prop := waP (wdG s ed rs m ls) (wdF s ed rs m ls) (wdN s ed rs m ls) b j
/-- how it ends as day j is over, if it does -/
noncomputable def endA (j : Nat) : Option Nat := ifO ((dE s ed rs m ls j).2.2.1 = 0) (some (nif (slP s m (dE s ed rs m ls j).2.1 j) 3 0)) (ifO (j = ldN s m) (some 1) (ifO (∃ b, 1 ≤ b ∧ b < j ∧ wsB s ed rs m ls j b) (some 2) none))
/-- the day, how it ends -/
noncomputable def tlF : Nat → Nat → Nat × Nat
  | 0, j => (j, 0)
  | n + 1, j => match endA s ed rs m ls j with
    | some c => (j, c)
    | none => tlF n (j + 1)
noncomputable def tlS : Nat × Nat := tlF s ed rs m ls 30 1
end
theorem dyS_ok {h : AH} {s : St} (W : RH h s) {ed rs : Nat → Nat} {m day t c0 : Nat} {x : Ds} (hm : m < s 107 19) (hd : day ≤ 30) (ht : t + 8 ≤ 240) (D : DO s m c0 t x) : ∀ k, k ≤ sn s → DO s m c0 (t + k) (dyS s ed rs m day x k) := by
  intro k
  have h1 := sn_le W
  induction k with
  | zero => exact fun _ => D
  | succ k ih =>
    intro hk
    have h2 := sd_lt W (j := k) (by omega)
    exact stD_ok (t := t + k) W hm hd h2 (by omega) (ih (by omega))
theorem dE_ok {h : AH} {s : St} (W : RH h s) {ed rs : Nat → Nat} {m : Nat} {ls : List Lk} (hm : m < s 107 19) : ∀ j, j ≤ 30 → DO s m ls.length (8 * j) (dE s ed rs m ls j) := by
  intro j
  have h1 := sn_le W
  induction j with
  | zero =>
    intro _
    have h2 := isPr_lt W hm (rs_gr W hm)
    exact ⟨⟨Nat.zero_le _, fun x hx => (by cases hx)⟩, Nat.le_refl _, h2, Nat.le_refl _⟩
  | succ j ih =>
    intro hj
    have := dyS_ok (ed := ed) (rs := rs) W hm (day := j + 1) (by omega) (by omega) (ih (by omega)) (sn s) (Nat.le_refl _)
    obtain ⟨a, b, c, e⟩ := this
    exact ⟨a, by show (dyS s ed rs m (j + 1) (dE s ed rs m ls j) (sn s)).1.length ≤ _; omega, c, by show (dyS s ed rs m (j + 1) (dE s ed rs m ls j) (sn s)).2.2.2.length ≤ _; omega⟩
theorem TK_k {h : AH} {ws : List Wd} {g : Nat} (T : TK h ws g) {k : Nat} (hk : k < 20) : gi h 135 k = nI (sfB ws (k / 4) (k % 4)) ∧ gi h 136 k = nI (snB ws (k / 4) (k % 4)) := by
  have := T.2.2.1 (k / 4) (k % 4) (by omega) (by omega)
  rw [show 4 * (k / 4) + k % 4 = k by omega] at this
  exact this
theorem DK_o {h h' : AH} {dg : Nat → Nat} {df dn : Nat → Nat → Nat} {j : Nat} (D : DK h dg df dn j) (h1 : gi h' 138 j = gi h 138 j) (h2 : ∀ k, k < 20 → gi h' 139 (20 * j + k) = gi h 139 (20 * j + k) ∧ gi h' 140 (20 * j + k) = gi h 140 (20 * j + k)) : DK h' dg df dn j :=
  ⟨⟨h1.trans D.1.1, D.1.2⟩, fun k hk => ⟨(h2 k hk).1.trans (D.2 k hk).1, (h2 k hk).2.trans (D.2 k hk).2.1, (D.2 k hk).2.2⟩⟩
theorem Ft.dk {os as : List Nat} {h h' : AH} (F : Ft os as h h') {dg : Nat → Nat} {df dn : Nat → Nat → Nat} {j : Nat} (D : DK h dg df dn j) (h1 : ∀ k, xs os as 138 k = false) (h2 : ∀ k, xs os as 139 k = false) (h3 : ∀ k, xs os as 140 k = false) : DK h' dg df dn j :=
  DK_o D (F.2.1 _ _ (h1 _)) (fun k _ => ⟨F.2.1 _ _ (h2 _), F.2.1 _ _ (h3 _)⟩)
section
variable {h : AH} {s : St} {d : Nat}
/-- behind a talk -/
def PY (s : St) (ed rs : Nat → Nat) (m : Nat) (ls : List Lk) (h : AH) (r : Option (Option Value)) (h' : AH) : Prop :=
  r = some none ∧ Ft [31, 32, 33, 34, 35, 36, 37, 40, 53, 54, 55, 56, 60] [128, 129, 130, 131, 132, 133, 134, 135, 136, 137, 138, 139, 140, 143] h h' ∧ (gi h' 107 54 = nI (tlS s ed rs m ls).2 ∧ gi h' 107 55 = nI (tlS s ed rs m ls).1) ∧ TK h' (dE s ed rs m ls (tlS s ed rs m ls).1).1 (dE s ed rs m ls (tlS s ed rs m ls).1).2.1 ∧ LKs h' (dE s ed rs m ls (tlS s ed rs m ls).1).2.2.2
/-- the seats of a day -/
theorem gt_seats (W : RH h s) (K : SK h) (TT : TO s) (S : SE h s) {ed rs : Nat → Nat} {m : Nat} {ls : List Lk} (EE : EO h ed rs m) (hm : m < s 107 19) (h61 : s 107 61 < 4294967296) (hls : s 107 61 < 8 → ls.length = 0)
    {P : Nat → LL → List Value → AH → Nat → Nat → Prop} (hP : Clo (Mz (d + 35)) 119 0 0 (PY s ed rs m ls h) P) {j : Nat} (hj : j + 1 ≤ 30) (lst : Nat) (dg : Nat → Nat) (df dn : Nat → Nat → Nat)
    (J : ∀ H, Ft [31, 32, 33, 34, 35, 36, 37, 40, 53, 54, 55, 56, 60] [128, 129, 130, 131, 132, 133, 134, 135, 136, 137, 138, 139, 140, 143] h H → TK H (dE s ed rs m ls (j + 1)).1 (dE s ed rs m ls (j + 1)).2.1 → LKs H (dE s ed rs m ls (j + 1)).2.2.2 → gi H 107 54 = -1 → gi H 107 55 = nI (j + 1) → (∀ b, 1 ≤ b → b < j + 1 → DK H dg df dn b) → P 141 [some (.ref 107), some (.int (nI m)), some (.int (nI lst)), some (.int (nI (j + 1))), some (.int (nI ((dE s ed rs m ls (j + 1)).2.2.1))), some (.int (nI (sn s)))] [] H 0 0) :
    ∀ n k H, k + n = sn s → Ft [31, 32, 33, 34, 35, 36, 37, 40, 53, 54, 55, 56, 60] [128, 129, 130, 131, 132, 133, 134, 135, 136, 137, 138, 139, 140, 143] h H → TK H (dyS s ed rs m (j + 1) (dE s ed rs m ls j) k).1 (dyS s ed rs m (j + 1) (dE s ed rs m ls j) k).2.1 → LKs H (dyS s ed rs m (j + 1) (dE s ed rs m ls j) k).2.2.2 → gi H 107 54 = -1 → gi H 107 55 = nI (j + 1) → (∀ b, 1 ≤ b → b < j + 1 → DK H dg df dn b) → P 96 [some (.ref 107), some (.int (nI m)), some (.int (nI lst)), some (.int (nI (j + 1))), some (.int (nI ((dyS s ed rs m (j + 1) (dE s ed rs m ls j) k).2.2.1))), some (.int (nI k))] [] H 0 0 := by
  have h1 := rs_m W
  have h2 := rs_e W
  have h3 := sn_le W
  intro n
  induction n using Nat.strongRecOn with
  | _ n ih =>
    intro k H hk F T L1 e54 e55 DD
    have WH := F.rw W rfl
    have KH := F.sk K rfl
    have SH := F.se S rfl (fun _ => rfl)
    have EH := F.eo EE (fun _ => rfl) (fun _ => rfl)
    refine hP.1 _ _ s_R_goThroughTalk_96 _ _ _ _ _ ?_
    simp (maxSteps := 1000000) (disch := omega) only [g_R_goThroughTalk_96, slk, List.map_cons, List.map_nil, List.sum_cons, List.sum_nil, vc_i, vc_r, vc_n, vc_l, vc_o, Nat.add_zero, kO_e, kA_e, hdO_a, eq_self, blk, stp, lg, ls0, lk, ls1, ls2, kI_i, kL_l, kR_r, kR_n, kR_o, s1I_i, s2I_i, s1L_l, s2L_l, s1R_r, s1R_n, s1R_o, s1A_a, cmpc, popn, swt, rf_s, rf_n, cat_i, cat_r, cat_n, cat_l, true_and, and_true, List.length_cons, List.length_nil, Nat.zero_add, Int.reduceToNat, Nat.reduceAdd, Nat.reduceDiv, Nat.reduceMod, Nat.reduceMul, Nat.reduceSub, Nat.reduceLeDiff, Nat.reduceLT, Nat.reduceEqDiff, ↓reduceIte, r_gr_wi, r_gl_wi, r_gk_wi, r_gn_wi, r_wi_eq, r_wi_ne, r_wi_nj, r_gi_wr, r_gl_wr, r_gk_wr, r_gn_wr, r_gr_wa, r_gl_wa, r_gk_wa, r_gn_wa, u_lt, u_le, u_gt, u_ge, u_lt0, u_le0, u_gt0, u_ge0, Classical.not_not, not_true_eq_false, not_false_eq_true, oi_n, oi_m, n_dec, nI_add, pk_mul, n_sub, n_eq, n_le, n_lt, n_eq0, n_lt0, n_le0, n_0lt, n_0le, n_eqm, m_eqn, n_ltm, n_and, n_or, n_xor, n_shl, n_shr, tb1, tb0, bP_1, bP_0, bP_n0, ix_n, inb_n, u_eq, u_eqm, k107 WH.1, SH.1]
    refine ⟨fun hc => ?_, fun hc => ?_⟩
    · have ek : k = sn s := by omega
      subst ek
      exact J H F T L1 e54 e55 DD
    · have hk2 : k < sn s := by omega
      have h5 := seats_lt (sd_mem hk2)
      have DD2 := dyS_ok (ed := ed) (rs := rs) W hm (day := j + 1) (by omega) (by omega) (dE_ok (ed := ed) (rs := rs) (ls := ls) W hm j (by omega)) k (by omega)
      obtain ⟨d1, d2, d3, d4⟩ := DD2
      generalize ex : dyS s ed rs m (j + 1) (dE s ed rs m ls j) k = x at T L1 d1 d2 d3 d4 ⊢
      have enx : dyS s ed rs m (j + 1) (dE s ed rs m ls j) (k + 1) = stD s m (j + 1) (sd s k) x (tuS s ed rs x.1 x.2.1 (sd s k) m (j + 1) k x.2.2.1) (lkS s ed rs x.1 x.2.1 (sd s k) m (j + 1) k x.2.2.1) := by
        show stD _ _ _ _ (dyS s ed rs m (j + 1) (dE s ed rs m ls j) k) _ _ = _
        rw [ex]
      refine hP.1 _ _ s_R_goThroughTalk_105 _ _ _ _ _ ?_
      simp (maxSteps := 1000000) (disch := omega) only [g_R_goThroughTalk_105, slk, List.map_cons, List.map_nil, List.sum_cons, List.sum_nil, vc_i, vc_r, vc_n, vc_l, vc_o, Nat.add_zero, kO_e, kA_e, hdO_a, eq_self, blk, stp, lg, ls0, lk, ls1, ls2, kI_i, kL_l, kR_r, kR_n, kR_o, s1I_i, s2I_i, s1L_l, s2L_l, s1R_r, s1R_n, s1R_o, s1A_a, cmpc, popn, swt, rf_s, rf_n, cat_i, cat_r, cat_n, cat_l, true_and, and_true, List.length_cons, List.length_nil, Nat.zero_add, Int.reduceToNat, Nat.reduceAdd, Nat.reduceDiv, Nat.reduceMod, Nat.reduceMul, Nat.reduceSub, Nat.reduceLeDiff, Nat.reduceLT, Nat.reduceEqDiff, ↓reduceIte, r_gr_wi, r_gl_wi, r_gk_wi, r_gn_wi, r_wi_eq, r_wi_ne, r_wi_nj, r_gi_wr, r_gl_wr, r_gk_wr, r_gn_wr, r_gr_wa, r_gl_wa, r_gk_wa, r_gn_wa, u_lt, u_le, u_gt, u_ge, u_lt0, u_le0, u_gt0, u_ge0, Classical.not_not, not_true_eq_false, not_false_eq_true, oi_n, oi_m, n_dec, nI_add, pk_mul, n_sub, n_eq, n_le, n_lt, n_eq0, n_lt0, n_le0, n_0lt, n_0le, n_eqm, m_eqn, n_ltm, n_and, n_or, n_xor, n_shl, n_shr, tb1, tb0, bP_1, bP_0, bP_n0, ix_n, inb_n, u_eq, u_eqm, k107 WH.1, f107_3 WH.1, k110 WH.1, SH.1, SH.2 k hk2]
      refine ⟨_, _, _, c_R_turns WH KH TT SH T EH L1 d1 (by omega) h5 hm d3 h61 (fun q => by have := hls (by omega); omega), ⟨by omega, by omega⟩, ?_⟩
      rintro r H2 ⟨rfl, F2, L2, Tn, Ts⟩
      have F3 : Ft [31, 32, 33, 34, 35, 36, 37, 40, 53, 54, 55, 56, 60] [128, 129, 130, 131, 132, 133, 134, 135, 136, 137, 138, 139, 140, 143] h H2 := F.trans (F2.mono rfl)
      have f54 : gi H2 107 54 = -1 := (F2.2.1 _ _ rfl).trans e54
      have f55 : gi H2 107 55 = nI (j + 1) := (F2.2.1 _ _ rfl).trans e55
      have DD3 : ∀ b, 1 ≤ b → b < j + 1 → DK H2 dg df dn b := fun b b1 b2 => F2.dk (DD b b1 b2) (fun _ => rfl) (fun _ => rfl) (fun _ => rfl)
      have nx := ih (n - 1) (by omega) (k + 1) H2 (by omega) F3
      rw [enx] at nx
      simp (maxSteps := 1000000) (disch := omega) only [slk, List.map_cons, List.map_nil, List.sum_cons, List.sum_nil, vc_i, vc_r, vc_n, vc_l, vc_o, Nat.add_zero, kO_e, kA_e, hdO_a, eq_self, blk, stp, lg, ls0, lk, ls1, ls2, kI_i, kL_l, kR_r, kR_n, kR_o, s1I_i, s2I_i, s1L_l, s2L_l, s1R_r, s1R_n, s1R_o, s1A_a, cmpc, popn, swt, rf_s, rf_n, cat_i, cat_r, cat_n, cat_l, true_and, and_true, List.length_cons, List.length_nil, Nat.zero_add, Int.reduceToNat, Nat.reduceAdd, Nat.reduceDiv, Nat.reduceMod, Nat.reduceMul, Nat.reduceSub, Nat.reduceLeDiff, Nat.reduceLT, Nat.reduceEqDiff, ↓reduceIte, r_gr_wi, r_gl_wi, r_gk_wi, r_gn_wi, r_wi_eq, r_wi_ne, r_wi_nj, r_gi_wr, r_gl_wr, r_gk_wr, r_gn_wr, r_gr_wa, r_gl_wa, r_gk_wa, r_gn_wa, u_lt, u_le, u_gt, u_ge, u_lt0, u_le0, u_gt0, u_ge0, Classical.not_not, not_true_eq_false, not_false_eq_true, oi_n, oi_m, n_dec, nI_add, pk_mul, n_sub, n_eq, n_le, n_lt, n_eq0, n_lt0, n_le0, n_0lt, n_0le, n_eqm, m_eqn, n_ltm, n_and, n_or, n_xor, n_shl, n_shr, tb1, tb0, bP_1, bP_0, bP_n0, ix_n, inb_n, u_eq, u_eqm, k107 WH.1, f107_3 WH.1, k110 WH.1, SH.1, SH.2 k hk2]
      cases er : tuS s ed rs x.1 x.2.1 (sd s k) m (j + 1) k x.2.2.1 with
      | none =>
        rw [er] at nx
        refine ⟨fun _ => ?_, fun q => absurd rfl q⟩
        refine hP.1 _ _ s_R_goThroughTalk_131 _ _ _ _ _ ?_
        simp (maxSteps := 1000000) (disch := omega) only [g_R_goThroughTalk_131, slk, List.map_cons, List.map_nil, List.sum_cons, List.sum_nil, vc_i, vc_r, vc_n, vc_l, vc_o, Nat.add_zero, kO_e, kA_e, hdO_a, eq_self, blk, stp, lg, ls0, lk, ls1, ls2, kI_i, kL_l, kR_r, kR_n, kR_o, s1I_i, s2I_i, s1L_l, s2L_l, s1R_r, s1R_n, s1R_o, s1A_a, cmpc, popn, swt, rf_s, rf_n, cat_i, cat_r, cat_n, cat_l, true_and, and_true, List.length_cons, List.length_nil, Nat.zero_add, Int.reduceToNat, Nat.reduceAdd, Nat.reduceDiv, Nat.reduceMod, Nat.reduceMul, Nat.reduceSub, Nat.reduceLeDiff, Nat.reduceLT, Nat.reduceEqDiff, ↓reduceIte, r_gr_wi, r_gl_wi, r_gk_wi, r_gn_wi, r_wi_eq, r_wi_ne, r_wi_nj, r_gi_wr, r_gl_wr, r_gk_wr, r_gn_wr, r_gr_wa, r_gl_wa, r_gk_wa, r_gn_wa, u_lt, u_le, u_gt, u_ge, u_lt0, u_le0, u_gt0, u_ge0, Classical.not_not, not_true_eq_false, not_false_eq_true, oi_n, oi_m, n_dec, nI_add, pk_mul, n_sub, n_eq, n_le, n_lt, n_eq0, n_lt0, n_le0, n_0lt, n_0le, n_eqm, m_eqn, n_ltm, n_and, n_or, n_xor, n_shl, n_shr, tb1, tb0, bP_1, bP_0, bP_n0, ix_n, inb_n, u_eq, u_eqm, SH.1, SH.2 k hk2]
        refine hP.1 _ _ s_R_goThroughTalk_132 _ _ _ _ _ ?_
        simp (maxSteps := 1000000) (disch := omega) only [g_R_goThroughTalk_132, slk, List.map_cons, List.map_nil, List.sum_cons, List.sum_nil, vc_i, vc_r, vc_n, vc_l, vc_o, Nat.add_zero, kO_e, kA_e, hdO_a, eq_self, blk, stp, lg, ls0, lk, ls1, ls2, kI_i, kL_l, kR_r, kR_n, kR_o, s1I_i, s2I_i, s1L_l, s2L_l, s1R_r, s1R_n, s1R_o, s1A_a, cmpc, popn, swt, rf_s, rf_n, cat_i, cat_r, cat_n, cat_l, true_and, and_true, List.length_cons, List.length_nil, Nat.zero_add, Int.reduceToNat, Nat.reduceAdd, Nat.reduceDiv, Nat.reduceMod, Nat.reduceMul, Nat.reduceSub, Nat.reduceLeDiff, Nat.reduceLT, Nat.reduceEqDiff, ↓reduceIte, r_gr_wi, r_gl_wi, r_gk_wi, r_gn_wi, r_wi_eq, r_wi_ne, r_wi_nj, r_gi_wr, r_gl_wr, r_gk_wr, r_gn_wr, r_gr_wa, r_gl_wa, r_gk_wa, r_gn_wa, u_lt, u_le, u_gt, u_ge, u_lt0, u_le0, u_gt0, u_ge0, Classical.not_not, not_true_eq_false, not_false_eq_true, oi_n, oi_m, n_dec, nI_add, pk_mul, n_sub, n_eq, n_le, n_lt, n_eq0, n_lt0, n_le0, n_0lt, n_0le, n_eqm, m_eqn, n_ltm, n_and, n_or, n_xor, n_shl, n_shr, tb1, tb0, bP_1, bP_0, bP_n0, ix_n, inb_n, u_eq, u_eqm, SH.1, SH.2 k hk2]
        rw [Nat.add_zero]
        exact nx (Tn er) L2 f54 f55 DD3
      | some q =>
        obtain ⟨p, i⟩ := q
        rw [er] at nx
        refine ⟨fun q => (by cases q), fun _ => ?_⟩
        refine hP.1 _ _ s_R_goThroughTalk_127 _ _ _ _ _ ?_
        simp (maxSteps := 1000000) (disch := omega) only [g_R_goThroughTalk_127, slk, List.map_cons, List.map_nil, List.sum_cons, List.sum_nil, vc_i, vc_r, vc_n, vc_l, vc_o, Nat.add_zero, kO_e, kA_e, hdO_a, eq_self, blk, stp, lg, ls0, lk, ls1, ls2, kI_i, kL_l, kR_r, kR_n, kR_o, s1I_i, s2I_i, s1L_l, s2L_l, s1R_r, s1R_n, s1R_o, s1A_a, cmpc, popn, swt, rf_s, rf_n, cat_i, cat_r, cat_n, cat_l, true_and, and_true, List.length_cons, List.length_nil, Nat.zero_add, Int.reduceToNat, Nat.reduceAdd, Nat.reduceDiv, Nat.reduceMod, Nat.reduceMul, Nat.reduceSub, Nat.reduceLeDiff, Nat.reduceLT, Nat.reduceEqDiff, ↓reduceIte, r_gr_wi, r_gl_wi, r_gk_wi, r_gn_wi, r_wi_eq, r_wi_ne, r_wi_nj, r_gi_wr, r_gl_wr, r_gk_wr, r_gn_wr, r_gr_wa, r_gl_wa, r_gk_wa, r_gn_wa, u_lt, u_le, u_gt, u_ge, u_lt0, u_le0, u_gt0, u_ge0, Classical.not_not, not_true_eq_false, not_false_eq_true, oi_n, oi_m, n_dec, nI_add, pk_mul, n_sub, n_eq, n_le, n_lt, n_eq0, n_lt0, n_le0, n_0lt, n_0le, n_eqm, m_eqn, n_ltm, n_and, n_or, n_xor, n_shl, n_shr, tb1, tb0, bP_1, bP_0, bP_n0, ix_n, inb_n, u_eq, u_eqm, SH.1, SH.2 k hk2]
        refine hP.1 _ _ s_R_goThroughTalk_132 _ _ _ _ _ ?_
        simp (maxSteps := 1000000) (disch := omega) only [g_R_goThroughTalk_132, slk, List.map_cons, List.map_nil, List.sum_cons, List.sum_nil, vc_i, vc_r, vc_n, vc_l, vc_o, Nat.add_zero, kO_e, kA_e, hdO_a, eq_self, blk, stp, lg, ls0, lk, ls1, ls2, kI_i, kL_l, kR_r, kR_n, kR_o, s1I_i, s2I_i, s1L_l, s2L_l, s1R_r, s1R_n, s1R_o, s1A_a, cmpc, popn, swt, rf_s, rf_n, cat_i, cat_r, cat_n, cat_l, true_and, and_true, List.length_cons, List.length_nil, Nat.zero_add, Int.reduceToNat, Nat.reduceAdd, Nat.reduceDiv, Nat.reduceMod, Nat.reduceMul, Nat.reduceSub, Nat.reduceLeDiff, Nat.reduceLT, Nat.reduceEqDiff, ↓reduceIte, r_gr_wi, r_gl_wi, r_gk_wi, r_gn_wi, r_wi_eq, r_wi_ne, r_wi_nj, r_gi_wr, r_gl_wr, r_gk_wr, r_gn_wr, r_gr_wa, r_gl_wa, r_gk_wa, r_gn_wa, u_lt, u_le, u_gt, u_ge, u_lt0, u_le0, u_gt0, u_ge0, Classical.not_not, not_true_eq_false, not_false_eq_true, oi_n, oi_m, n_dec, nI_add, pk_mul, n_sub, n_eq, n_le, n_lt, n_eq0, n_lt0, n_le0, n_0lt, n_0le, n_eqm, m_eqn, n_ltm, n_and, n_or, n_xor, n_shl, n_shr, tb1, tb0, bP_1, bP_0, bP_n0, ix_n, inb_n, u_eq, u_eqm, SH.1, SH.2 k hk2]
        exact nx (Ts p i er) L2 f54 f55 DD3
end
