/-! ===== the class: one whose turn it is ===== -/
theorem XU_sub {T : Nat} : ∀ a, (fun a => a = 43) a → XU T a := fun a q => by
  have e : a = 43 := q
  unfold XU
  omega
theorem XU_44 {T : Nat} : ∀ a, (fun a => a = 44) a → XU T a := fun a q => by
  have e : a = 44 := q
  unfold XU
  omega
theorem XU_44T {T : Nat} : ∀ a, (fun a => a = 44 ∨ a = T) a → XU T a := fun a q => by
  have e : a = 44 ∨ a = T := q
  unfold XU
  omega
theorem XU_sc {T : Nat} : ∀ a, XSc a → XU T a := fun a q => by
  unfold XSc at q
  unfold XU
  omega
/-- what a turn, or a day, comes to -/
def PTu (h : AH) (s : St) (T su : Nat) (L : List Lk) (x : Ds) (day : Nat) (h' : AH) : Prop := Fp (XU T) h h' ∧ (gi h' T 11 = gi h T 11 ∧ gi h' T 17 = gi h T 17) ∧ TZ h' T x day ∧ ∃ su2, gi h' T 18 = nI su2 ∧ suR s su su2 L
def PTw (h : AH) (s : St) (T su : Nat) (L : List Lk) (x : Ds) (day : Nat) (r : Option (Option Value)) (h' : AH) : Prop := r = some none ∧ PTu h s T su L x day h'
def TG (h : AH) (s : St) (ed rs : Nat → Nat) (m T : Nat) : Prop := ∀ e, e < 8 → gi h (T + 1) e = trI s ed rs e m (s 107 67)
theorem Fp.tg {X : Nat → Prop} {h h' : AH} (F : Fp X h h') {s : St} {ed rs : Nat → Nat} {m T : Nat} (G : TG h s ed rs m T) (hx : ¬ X (T + 1)) : TG h' s ed rs m T := fun e he => (F.at hx _).trans (G e he)
theorem xu_1 {T : Nat} (hT : isT T) : ¬ XU T (T + 1) := by
  have := ta_b hT
  unfold XU
  omega
section
variable {h : AH} {s : St} {d m b : Nat}
theorem c_Ta_takeTurn (W : RH h s) (I : PI s) {h2 : AH} (E : EV h2 s m b) (hm : m < s 107 19) {T : Nat} (hT : isT T) (h3 : gr h2 T 3 = some b) {ed rs : Nat → Nat} {x : Ds} {day e ahead su : Nat} (S : TZ h2 T x day) (hK : WK s m x.1) (hws : x.1.length < 240) (he : e < s 107 18) (hg : isPr s m x.2.1) (hd : day ≤ 30) (ht : x.2.2.1 < 8) (G : TG h2 s ed rs m T) (h17 : gi h2 T 17 = nI (s 107 61)) (h61 : s 107 61 < 4294967296) (h18 : gi h2 T 18 = nI su) (hsu : su < 2 ^ s 107 30) : Mz (d + 4) 220 [.ref T, .int (nI e), .int (nI ahead)] h2 0 0 (PTw h2 s T su (lkS s ed rs x.1 x.2.1 e m day ahead x.2.2.1) (stD s m day e x (tuS s ed rs x.1 x.2.1 e m day ahead x.2.2.1) (lkS s ed rs x.1 x.2.1 e m day ahead x.2.2.1)) day) := by
  have tb := ta_b hT
  have b1 := rs_e W
  have b4 := rs_p W hm
  have b5 := sh_1024 b4.2.1
  have g10 := hg.1
  have L0 := E.1
  have hN := S.2
  obtain ⟨lq, elk⟩ : ∃ lq, lq = lkS s ed rs x.1 x.2.1 e m day ahead x.2.2.1 := ⟨_, rfl⟩
  obtain ⟨res, eres⟩ : ∃ res, res = tuS s ed rs x.1 x.2.1 e m day ahead x.2.2.1 := ⟨_, rfl⟩
  have no : ¬ msP s m x.1 e day ahead x.2.2.1 → res = none ∧ lq = [] := fun q => ⟨eres.trans (ifO_f q), elk.trans (ifO_f (fun z => q z.1))⟩
  have ye : msP s m x.1 e day ahead x.2.2.1 → res = tuF s x.1 x.2.1 (trI s ed rs e m (s 107 67)) e m day ahead x.2.2.1 (s 112 m) 0 ∧ lq = [] ++ ifO (e = s 107 61) (lkF s x.1 x.2.1 (trI s ed rs e m (s 107 67)) e m day ahead x.2.2.1 (s 112 m) 0) [] := fun q => ⟨eres.trans (ifO_t q), elk.trans (by
    rw [List.nil_append]
    by_cases z : e = s 107 61
    · rw [ifO_t z]
      exact ifO_t ⟨q, z⟩
    · rw [ifO_f z]
      exact ifO_f (fun y => z y.2))⟩
  rw [← elk, ← eres]
  clear elk eres
  have hg2 : gi h2 (T + 1) e = trI s ed rs e m (s 107 67) := G e (by omega)
  generalize trI s ed rs e m (s 107 67) = tr at ye hg2
  obtain ⟨ws, g, today, lks⟩ := x
  dsimp only at S hK hws hg ht g10 no ye hN ⊢
  have S1 : TS h2 T ws g today day := S.1
  have hN : gi h2 T 16 = nI (nwB ws) := hN
  refine mz_in (l := [some (.ref T), some (.int (nI e)), some (.int (nI ahead)), none, none]) mk_Ta_takeTurn n_Ta_takeTurn rfl l_Ta_takeTurn rfl (Nat.le_of_ble_eq_true rfl) fun P hP => ?_
  -- the end of a turn without a no
  have quiet : ∀ H su1, Fp (XU T) h2 H → (∀ j, j ≠ 18 → gi H T j = gi h2 T j) → (∀ a, T + 2 ≤ a → a ≤ T + 5 → gi H a = gi h2 a) → gi H T 18 = nI su1 → suR s su su1 lq → res = none → PTw h2 s T su lq (stD s m day e (ws, g, today, lks) res lq) day (some none) H := by
    intro H su1 F hj hA h18 hu er
    subst er
    refine ⟨rfl, F, ⟨hj 11 (by omega), hj 17 (by omega)⟩, ⟨⟨⟨?_, ?_, ?_, ?_⟩, ?_, ?_⟩, ?_⟩, su1, h18, hu⟩
    · exact (hj 12 (by omega)).trans S1.1.1
    · exact (hj 13 (by omega)).trans S1.1.2.1
    · exact (hj 14 (by omega)).trans S1.1.2.2.1
    · exact (hj 15 (by omega)).trans S1.1.2.2.2
    · intro o ho
      rw [hA _ (by omega) (by omega), hA _ (by omega) (by omega), hA _ (by omega) (by omega)]
      exact S1.2.1 o ho
    · intro k hk
      rw [hA _ (by omega) (by omega)]
      exact S1.2.2 k hk
    · exact (hj 16 (by omega)).trans hN
  have loop : msP s m ws e day ahead today → ∀ n k H su1 (L1 : List Lk) (x4 : Option Value), k + n = s 112 m → Fp (XU T) h2 H → (∀ j, j ≠ 18 → gi H T j = gi h2 T j) → (∀ a, T + 2 ≤ a → a ≤ T + 5 → gi H a = gi h2 a) → gi H T 18 = nI su1 → suR s su su1 L1 → res = tuF s ws g tr e m day ahead today n k → lq = L1 ++ ifO (e = s 107 61) (lkF s ws g tr e m day ahead today n k) [] → P 12 [some (.ref T), some (.int (nI e)), some (.int (nI ahead)), some (.int (nI k)), x4] [] H 0 0 := by
    intro hmay n
    induction n using Nat.strongRecOn with
    | _ n ih =>
      intro k H su1 L1 x4 hk F hj hA h18 hu er el
      have L := F.lay L0
      have EH := F.ev E (xu_b hT)
      have MH := EH.2.2.1
      have VH := EH.2.2.2.1
      have h3H : gr H T 3 = some b := by rw [F.gr]; exact h3
      refine hP.1 _ _ s_Ta_takeTurn_12 _ _ _ _ _ ?_
      simp (maxSteps := 1000000) (disch := omega) only [g_Ta_takeTurn_12, slk, List.map_cons, List.map_nil, List.sum_cons, List.sum_nil, vc_i, vc_r, vc_n, vc_l, vc_o, Nat.add_zero, kO_e, kA_e, hdO_a, eq_self, blk, stp, lg, ls0, lk, ls1, ls2, kI_i, kL_l, kR_r, kR_n, kR_o, s1I_i, s2I_i, s1L_l, s2L_l, s1R_r, s1R_n, s1R_o, s1A_a, cmpc, popn, swt, rf_s, rf_n, cat_i, cat_r, cat_n, cat_l, true_and, and_true, List.length_cons, List.length_nil, Nat.zero_add, Int.reduceToNat, Nat.reduceAdd, Nat.reduceDiv, Nat.reduceMod, Nat.reduceMul, Nat.reduceSub, Nat.reduceLeDiff, Nat.reduceLT, Nat.reduceEqDiff, ↓reduceIte, r_gr_wi, r_gl_wi, r_gk_wi, r_gn_wi, r_wi_eq, r_wi_ne, r_wi_nj, r_gi_wr, r_gl_wr, r_gk_wr, r_gn_wr, r_gr_wa, r_gl_wa, r_gk_wa, r_gn_wa, aa_e, as_e, al_e, u_lt, u_le, u_gt, u_ge, u_lt0, u_le0, u_gt0, u_ge0, Classical.not_not, not_true_eq_false, not_false_eq_true, oi_n, oi_m, n_dec, nI_add, pk_mul, n_sub, n_eq, n_le, n_lt, n_eq0, n_lt0, n_le0, n_0lt, n_0le, n_eqm, m_eqn, n_ltm, n_and, n_or, n_xor, n_shl, n_shr, tb1, tb0, bP_1, bP_0, bP_n0, ix_n, inb_n, u_eq, u_eqm, (ta_k L hT).1, (ta_k L hT).2.1, (ta_k L hT).2.2.1, (ta_k L hT).2.2.2.1, (ta_k L hT).2.2.2.2.1, (ta_k L hT).2.2.2.2.2.1, (ta_k L hT).2.2.2.2.2.2.1, (ta_k L hT).2.2.2.2.2.2.2, (ta_r L hT).1, (ta_r L hT).2.1, (ta_r L hT).2.2.1, (ta_r L hT).2.2.2.1, (ta_r L hT).2.2.2.2.1, (ta_r L hT).2.2.2.2.2.1, (ta_r L hT).2.2.2.2.2.2.1, (ta_r L hT).2.2.2.2.2.2.2.1, (ta_r L hT).2.2.2.2.2.2.2.2.1, (ta_r L hT).2.2.2.2.2.2.2.2.2, k21 L, k42 L, k33 L, k32 L, f21_0 L, f21_1 L, f21_2 L, f21_3 L, ta_20 hT, ta_2k hT, h3H, ma_k MH, VH.1.1]
      refine ⟨fun hc => ?_, fun hc => ?_⟩
      · have e1 : n = 0 := by omega
        subst e1
        refine hP.1 _ _ s_Ta_takeTurn_96 _ _ _ _ _ ?_
        simp (maxSteps := 1000000) (disch := omega) only [g_Ta_takeTurn_96, slk, List.map_cons, List.map_nil, List.sum_cons, List.sum_nil, vc_i, vc_r, vc_n, vc_l, vc_o, Nat.add_zero, kO_e, kA_e, hdO_a, eq_self, blk, stp, lg, ls0, lk, ls1, ls2, kI_i, kL_l, kR_r, kR_n, kR_o, s1I_i, s2I_i, s1L_l, s2L_l, s1R_r, s1R_n, s1R_o, s1A_a, cmpc, popn, swt, rf_s, rf_n, cat_i, cat_r, cat_n, cat_l, true_and, and_true, List.length_cons, List.length_nil, Nat.zero_add, Int.reduceToNat, Nat.reduceAdd, Nat.reduceDiv, Nat.reduceMod, Nat.reduceMul, Nat.reduceSub, Nat.reduceLeDiff, Nat.reduceLT, Nat.reduceEqDiff, ↓reduceIte, r_gr_wi, r_gl_wi, r_gk_wi, r_gn_wi, r_wi_eq, r_wi_ne, r_wi_nj, r_gi_wr, r_gl_wr, r_gk_wr, r_gn_wr, r_gr_wa, r_gl_wa, r_gk_wa, r_gn_wa, aa_e, as_e, al_e, u_lt, u_le, u_gt, u_ge, u_lt0, u_le0, u_gt0, u_ge0, Classical.not_not, not_true_eq_false, not_false_eq_true, oi_n, oi_m, n_dec, nI_add, pk_mul, n_sub, n_eq, n_le, n_lt, n_eq0, n_lt0, n_le0, n_0lt, n_0le, n_eqm, m_eqn, n_ltm, n_and, n_or, n_xor, n_shl, n_shr, tb1, tb0, bP_1, bP_0, bP_n0, ix_n, inb_n, u_eq, u_eqm, (ta_k L hT).1, (ta_k L hT).2.1, (ta_k L hT).2.2.1, (ta_k L hT).2.2.2.1, (ta_k L hT).2.2.2.2.1, (ta_k L hT).2.2.2.2.2.1, (ta_k L hT).2.2.2.2.2.2.1, (ta_k L hT).2.2.2.2.2.2.2, (ta_r L hT).1, (ta_r L hT).2.1, (ta_r L hT).2.2.1, (ta_r L hT).2.2.2.1, (ta_r L hT).2.2.2.2.1, (ta_r L hT).2.2.2.2.2.1, (ta_r L hT).2.2.2.2.2.2.1, (ta_r L hT).2.2.2.2.2.2.2.1, (ta_r L hT).2.2.2.2.2.2.2.2.1, (ta_r L hT).2.2.2.2.2.2.2.2.2, k21 L, k42 L, k33 L, k32 L, f21_0 L, f21_1 L, f21_2 L, f21_3 L, ta_20 hT, ta_2k hT, h3H, ma_k MH, VH.1.1]
        rw [r_Ta_takeTurn]
        refine ⟨trivial, quiet H su1 F hj hA h18 ?_ er⟩
        have e0 : ifO (e = s 107 61) (lkF s ws g tr e m day ahead today 0 k) [] = [] := by
          by_cases z : e = s 107 61
          · rw [ifO_t z]; rfl
          · rw [ifO_f z]
        rw [el, e0, List.append_nil]
        exact hu
      · have hk2 : k < s 112 m := by omega
        obtain ⟨n2, rfl⟩ : ∃ n2, n = n2 + 1 := ⟨n - 1, by omega⟩
        have w4 := wyN_lt (s 112 m) g k
        have SH : TS H T ws g today day := by
          refine ⟨⟨(hj 12 (by omega)).trans S1.1.1, (hj 13 (by omega)).trans S1.1.2.1, (hj 14 (by omega)).trans S1.1.2.2.1, (hj 15 (by omega)).trans S1.1.2.2.2⟩, fun o ho => ?_, fun k hk => ?_⟩
          · rw [hA _ (by omega) (by omega), hA _ (by omega) (by omega), hA _ (by omega) (by omega)]
            exact S1.2.1 o ho
          · rw [hA _ (by omega) (by omega)]
            exact S1.2.2 k hk
        have e3 : gr H 32 = gr h2 32 := by rw [F.gr]
        refine hP.1 _ _ s_Ta_takeTurn_23 _ _ _ _ _ ?_
        simp (maxSteps := 1000000) (disch := omega) only [g_Ta_takeTurn_23, slk, List.map_cons, List.map_nil, List.sum_cons, List.sum_nil, vc_i, vc_r, vc_n, vc_l, vc_o, Nat.add_zero, kO_e, kA_e, hdO_a, eq_self, blk, stp, lg, ls0, lk, ls1, ls2, kI_i, kL_l, kR_r, kR_n, kR_o, s1I_i, s2I_i, s1L_l, s2L_l, s1R_r, s1R_n, s1R_o, s1A_a, cmpc, popn, swt, rf_s, rf_n, cat_i, cat_r, cat_n, cat_l, true_and, and_true, List.length_cons, List.length_nil, Nat.zero_add, Int.reduceToNat, Nat.reduceAdd, Nat.reduceDiv, Nat.reduceMod, Nat.reduceMul, Nat.reduceSub, Nat.reduceLeDiff, Nat.reduceLT, Nat.reduceEqDiff, ↓reduceIte, r_gr_wi, r_gl_wi, r_gk_wi, r_gn_wi, r_wi_eq, r_wi_ne, r_wi_nj, r_gi_wr, r_gl_wr, r_gk_wr, r_gn_wr, r_gr_wa, r_gl_wa, r_gk_wa, r_gn_wa, aa_e, as_e, al_e, u_lt, u_le, u_gt, u_ge, u_lt0, u_le0, u_gt0, u_ge0, Classical.not_not, not_true_eq_false, not_false_eq_true, oi_n, oi_m, n_dec, nI_add, pk_mul, n_sub, n_eq, n_le, n_lt, n_eq0, n_lt0, n_le0, n_0lt, n_0le, n_eqm, m_eqn, n_ltm, n_and, n_or, n_xor, n_shl, n_shr, tb1, tb0, bP_1, bP_0, bP_n0, ix_n, inb_n, u_eq, u_eqm, k21 L0, f21_2 L0, k32 L0, k42 L0, (ta_k L hT).1, (ta_k L hT).2.1, (ta_k L hT).2.2.1, (ta_k L hT).2.2.2.1, (ta_k L hT).2.2.2.2.1, (ta_k L hT).2.2.2.2.2.1, (ta_k L hT).2.2.2.2.2.2.1, (ta_k L hT).2.2.2.2.2.2.2, (ta_r L hT).1, (ta_r L hT).2.1, (ta_r L hT).2.2.1, (ta_r L hT).2.2.2.1, (ta_r L hT).2.2.2.2.1, (ta_r L hT).2.2.2.2.2.1, (ta_r L hT).2.2.2.2.2.2.1, (ta_r L hT).2.2.2.2.2.2.2.1, (ta_r L hT).2.2.2.2.2.2.2.2.1, (ta_r L hT).2.2.2.2.2.2.2.2.2, k21 L, k42 L, k33 L, k32 L, f21_0 L, f21_1 L, f21_2 L, f21_3 L, ta_20 hT, ta_2k hT, h3H, ma_k MH]
        refine ⟨_, _, _, c_Ta_tellLook (tr := tr) (ahead := ahead) W I EH hm hT h3H SH hK he hk2 (by omega) ((F.at (xu_1 hT) e).trans hg2), ⟨by omega, by omega⟩, ?_⟩
        rintro r H1 ⟨rfl, F1, T1⟩
        have L := F1.lay L
        have E1 := F1.ev43 EH
        simp (maxSteps := 1000000) (disch := omega) only [slk, List.map_cons, List.map_nil, List.sum_cons, List.sum_nil, vc_i, vc_r, vc_n, vc_l, vc_o, Nat.add_zero, kO_e, kA_e, hdO_a, eq_self, blk, stp, lg, ls0, lk, ls1, ls2, kI_i, kL_l, kR_r, kR_n, kR_o, s1I_i, s2I_i, s1L_l, s2L_l, s1R_r, s1R_n, s1R_o, s1A_a, cmpc, popn, swt, rf_s, rf_n, cat_i, cat_r, cat_n, cat_l, true_and, and_true, List.length_cons, List.length_nil, Nat.zero_add, Int.reduceToNat, Nat.reduceAdd, Nat.reduceDiv, Nat.reduceMod, Nat.reduceMul, Nat.reduceSub, Nat.reduceLeDiff, Nat.reduceLT, Nat.reduceEqDiff, ↓reduceIte, r_gr_wi, r_gl_wi, r_gk_wi, r_gn_wi, r_wi_eq, r_wi_ne, r_wi_nj, r_gi_wr, r_gl_wr, r_gk_wr, r_gn_wr, r_gr_wa, r_gl_wa, r_gk_wa, r_gn_wa, aa_e, as_e, al_e, u_lt, u_le, u_gt, u_ge, u_lt0, u_le0, u_gt0, u_ge0, Classical.not_not, not_true_eq_false, not_false_eq_true, oi_n, oi_m, n_dec, nI_add, pk_mul, n_sub, n_eq, n_le, n_lt, n_eq0, n_lt0, n_le0, n_0lt, n_0le, n_eqm, m_eqn, n_ltm, n_and, n_or, n_xor, n_shl, n_shr, tb1, tb0, bP_1, bP_0, bP_n0, ix_n, inb_n, u_eq, u_eqm, k21 L0, f21_2 L0, k32 L0, k42 L0, (ta_k L hT).1, (ta_k L hT).2.1, (ta_k L hT).2.2.1, (ta_k L hT).2.2.2.1, (ta_k L hT).2.2.2.2.1, (ta_k L hT).2.2.2.2.2.1, (ta_k L hT).2.2.2.2.2.2.1, (ta_k L hT).2.2.2.2.2.2.2, (ta_r L hT).1, (ta_r L hT).2.1, (ta_r L hT).2.2.1, (ta_r L hT).2.2.2.1, (ta_r L hT).2.2.2.2.1, (ta_r L hT).2.2.2.2.2.1, (ta_r L hT).2.2.2.2.2.2.1, (ta_r L hT).2.2.2.2.2.2.2.1, (ta_r L hT).2.2.2.2.2.2.2.2.1, (ta_r L hT).2.2.2.2.2.2.2.2.2, k21 L, k42 L, k33 L, k32 L, f21_0 L, f21_1 L, f21_2 L, f21_3 L, ta_20 hT, ta_2k hT]
        refine ⟨_, _, _, c_Sc_mind (ps := lkP s ws g tr e m day ahead today k) W E1 T1 (fun _ _ _ => rfl) he (lb := 110) (by omega), ⟨by omega, by omega⟩, ?_⟩
        rintro r H2 ⟨rfl, F2⟩
        have L := F2.lay L
        have FF : Fp (XU T) h2 H2 := F.trans ((F1.mono XU_sub).trans (F2.mono XU_44))
        have E2 := FF.ev E (xu_b hT)
        have h32 : gr H2 T 3 = some b := by rw [FF.gr]; exact h3
        have n43 : ∀ a, a ≠ 43 → a ≠ 44 → gi H2 a = gi H a := fun a q1 q2 => (F2.2 a q2).trans (F1.2 a q1)
        have j2 : ∀ j, j ≠ 18 → gi H2 T j = gi h2 T j := fun j q => by rw [n43 T (by omega) (by omega)]; exact hj j q
        have A2 : ∀ a, T + 2 ≤ a → a ≤ T + 5 → gi H2 a = gi h2 a := fun a q1 q2 => (n43 a (by omega) (by omega)).trans (hA a q1 q2)
        have s2 : gi H2 T 18 = nI su1 := by rw [n43 T (by omega) (by omega)]; exact h18
        have T2 : LTC H2 (ltF (lkP s ws g tr e m day ahead today k)) := F2.ltc T1 (by show ¬ 43 = 44; omega)
        simp (maxSteps := 1000000) (disch := omega) only [slk, List.map_cons, List.map_nil, List.sum_cons, List.sum_nil, vc_i, vc_r, vc_n, vc_l, vc_o, Nat.add_zero, kO_e, kA_e, hdO_a, eq_self, blk, stp, lg, ls0, lk, ls1, ls2, kI_i, kL_l, kR_r, kR_n, kR_o, s1I_i, s2I_i, s1L_l, s2L_l, s1R_r, s1R_n, s1R_o, s1A_a, cmpc, popn, swt, rf_s, rf_n, cat_i, cat_r, cat_n, cat_l, true_and, and_true, List.length_cons, List.length_nil, Nat.zero_add, Int.reduceToNat, Nat.reduceAdd, Nat.reduceDiv, Nat.reduceMod, Nat.reduceMul, Nat.reduceSub, Nat.reduceLeDiff, Nat.reduceLT, Nat.reduceEqDiff, ↓reduceIte, r_gr_wi, r_gl_wi, r_gk_wi, r_gn_wi, r_wi_eq, r_wi_ne, r_wi_nj, r_gi_wr, r_gl_wr, r_gk_wr, r_gn_wr, r_gr_wa, r_gl_wa, r_gk_wa, r_gn_wa, aa_e, as_e, al_e, u_lt, u_le, u_gt, u_ge, u_lt0, u_le0, u_gt0, u_ge0, Classical.not_not, not_true_eq_false, not_false_eq_true, oi_n, oi_m, n_dec, nI_add, pk_mul, n_sub, n_eq, n_le, n_lt, n_eq0, n_lt0, n_le0, n_0lt, n_0le, n_eqm, m_eqn, n_ltm, n_and, n_or, n_xor, n_shl, n_shr, tb1, tb0, bP_1, bP_0, bP_n0, ix_n, inb_n, u_eq, u_eqm, k21 L0, f21_2 L0, k32 L0, k42 L0, (ta_k L hT).1, (ta_k L hT).2.1, (ta_k L hT).2.2.1, (ta_k L hT).2.2.2.1, (ta_k L hT).2.2.2.2.1, (ta_k L hT).2.2.2.2.2.1, (ta_k L hT).2.2.2.2.2.2.1, (ta_k L hT).2.2.2.2.2.2.2, (ta_r L hT).1, (ta_r L hT).2.1, (ta_r L hT).2.2.1, (ta_r L hT).2.2.2.1, (ta_r L hT).2.2.2.2.1, (ta_r L hT).2.2.2.2.2.1, (ta_r L hT).2.2.2.2.2.2.1, (ta_r L hT).2.2.2.2.2.2.2.1, (ta_r L hT).2.2.2.2.2.2.2.2.1, (ta_r L hT).2.2.2.2.2.2.2.2.2, k21 L, k42 L, k33 L, k32 L, f21_0 L, f21_1 L, f21_2 L, f21_3 L, ta_20 hT, ta_2k hT, (j2 17 (by omega)).trans h17]
        refine wc (c_Ta_isNo W E2 hm hT h32 ((j2 13 (by omega)).trans S1.1.2.1) he hk2 hg _) ⟨by omega, by omega⟩ ?_
        simp (maxSteps := 1000000) (disch := omega) only [slk, List.map_cons, List.map_nil, List.sum_cons, List.sum_nil, vc_i, vc_r, vc_n, vc_l, vc_o, Nat.add_zero, kO_e, kA_e, hdO_a, eq_self, blk, stp, lg, ls0, lk, ls1, ls2, kI_i, kL_l, kR_r, kR_n, kR_o, s1I_i, s2I_i, s1L_l, s2L_l, s1R_r, s1R_n, s1R_o, s1A_a, cmpc, popn, swt, rf_s, rf_n, cat_i, cat_r, cat_n, cat_l, true_and, and_true, List.length_cons, List.length_nil, Nat.zero_add, Int.reduceToNat, Nat.reduceAdd, Nat.reduceDiv, Nat.reduceMod, Nat.reduceMul, Nat.reduceSub, Nat.reduceLeDiff, Nat.reduceLT, Nat.reduceEqDiff, ↓reduceIte, r_gr_wi, r_gl_wi, r_gk_wi, r_gn_wi, r_wi_eq, r_wi_ne, r_wi_nj, r_gi_wr, r_gl_wr, r_gk_wr, r_gn_wr, r_gr_wa, r_gl_wa, r_gk_wa, r_gn_wa, aa_e, as_e, al_e, u_lt, u_le, u_gt, u_ge, u_lt0, u_le0, u_gt0, u_ge0, Classical.not_not, not_true_eq_false, not_false_eq_true, oi_n, oi_m, n_dec, nI_add, pk_mul, n_sub, n_eq, n_le, n_lt, n_eq0, n_lt0, n_le0, n_0lt, n_0le, n_eqm, m_eqn, n_ltm, n_and, n_or, n_xor, n_shl, n_shr, tb1, tb0, bP_1, bP_0, bP_n0, ix_n, inb_n, u_eq, u_eqm, k21 L0, f21_2 L0, k32 L0, k42 L0, (ta_k L hT).1, (ta_k L hT).2.1, (ta_k L hT).2.2.1, (ta_k L hT).2.2.2.1, (ta_k L hT).2.2.2.2.1, (ta_k L hT).2.2.2.2.2.1, (ta_k L hT).2.2.2.2.2.2.1, (ta_k L hT).2.2.2.2.2.2.2, (ta_r L hT).1, (ta_r L hT).2.1, (ta_r L hT).2.2.1, (ta_r L hT).2.2.2.1, (ta_r L hT).2.2.2.2.1, (ta_r L hT).2.2.2.2.2.1, (ta_r L hT).2.2.2.2.2.2.1, (ta_r L hT).2.2.2.2.2.2.2.1, (ta_r L hT).2.2.2.2.2.2.2.2.1, (ta_r L hT).2.2.2.2.2.2.2.2.2, k21 L, k42 L, k33 L, k32 L, f21_0 L, f21_1 L, f21_2 L, f21_3 L, ta_20 hT, ta_2k hT, (j2 17 (by omega)).trans h17]
        have eno : wnP (mindW s e 110 (lkP s ws g tr e m day ahead today k)) (plP s e m k g) = noP s ws g tr e m day ahead today k := rfl
        rw [eno]
        have etu : tuF s ws g tr e m day ahead today (n2 + 1) k = @ite _ (noP s ws g tr e m day ahead today k) (Classical.propDecidable _) (some (k, insS s e m k (wyN (s 112 m) g k) (lkP s ws g tr e m day ahead today k))) (tuF s ws g tr e m day ahead today n2 (k + 1)) := rfl
        have elf : lkF s ws g tr e m day ahead today (n2 + 1) k = lkC s ws g tr e m day ahead today k :: @ite _ (noP s ws g tr e m day ahead today k) (Classical.propDecidable _) [] (lkF s ws g tr e m day ahead today n2 (k + 1)) := rfl
        -- behind the sifting
        have j72 : ∀ H su2 L2, Fp (XU T) h2 H → (∀ j, j ≠ 18 → gi H T j = gi h2 T j) → (∀ a, T + 2 ≤ a → a ≤ T + 5 → gi H a = gi h2 a) → gi H T 18 = nI su2 → suR s su su2 L2 → LTC H (ltF (lkP s ws g tr e m day ahead today k)) → (noP s ws g tr e m day ahead today k → lq = L2) → (¬ noP s ws g tr e m day ahead today k → lq = L2 ++ ifO (e = s 107 61) (lkF s ws g tr e m day ahead today n2 (k + 1)) []) → P 72 [some (.ref T), some (.int (nI e)), some (.int (nI ahead)), some (.int (nI k)), some (.int (bP (noP s ws g tr e m day ahead today k)))] [] H 0 0 := by
          intro H su2 L2 F hj hA h18 hu TL l1 l2
          have L := F.lay L0
          have EH := F.ev E (xu_b hT)
          have h3H : gr H T 3 = some b := by rw [F.gr]; exact h3
          refine hP.1 _ _ s_Ta_takeTurn_72 _ _ _ _ _ ?_
          simp (maxSteps := 1000000) (disch := omega) only [g_Ta_takeTurn_72, slk, List.map_cons, List.map_nil, List.sum_cons, List.sum_nil, vc_i, vc_r, vc_n, vc_l, vc_o, Nat.add_zero, kO_e, kA_e, hdO_a, eq_self, blk, stp, lg, ls0, lk, ls1, ls2, kI_i, kL_l, kR_r, kR_n, kR_o, s1I_i, s2I_i, s1L_l, s2L_l, s1R_r, s1R_n, s1R_o, s1A_a, cmpc, popn, swt, rf_s, rf_n, cat_i, cat_r, cat_n, cat_l, true_and, and_true, List.length_cons, List.length_nil, Nat.zero_add, Int.reduceToNat, Nat.reduceAdd, Nat.reduceDiv, Nat.reduceMod, Nat.reduceMul, Nat.reduceSub, Nat.reduceLeDiff, Nat.reduceLT, Nat.reduceEqDiff, ↓reduceIte, r_gr_wi, r_gl_wi, r_gk_wi, r_gn_wi, r_wi_eq, r_wi_ne, r_wi_nj, r_gi_wr, r_gl_wr, r_gk_wr, r_gn_wr, r_gr_wa, r_gl_wa, r_gk_wa, r_gn_wa, aa_e, as_e, al_e, u_lt, u_le, u_gt, u_ge, u_lt0, u_le0, u_gt0, u_ge0, Classical.not_not, not_true_eq_false, not_false_eq_true, oi_n, oi_m, n_dec, nI_add, pk_mul, n_sub, n_eq, n_le, n_lt, n_eq0, n_lt0, n_le0, n_0lt, n_0le, n_eqm, m_eqn, n_ltm, n_and, n_or, n_xor, n_shl, n_shr, tb1, tb0, bP_1, bP_0, bP_n0, ix_n, inb_n, u_eq, u_eqm, (ta_k L hT).1, (ta_k L hT).2.1, (ta_k L hT).2.2.1, (ta_k L hT).2.2.2.1, (ta_k L hT).2.2.2.2.1, (ta_k L hT).2.2.2.2.2.1, (ta_k L hT).2.2.2.2.2.2.1, (ta_k L hT).2.2.2.2.2.2.2, (ta_r L hT).1, (ta_r L hT).2.1, (ta_r L hT).2.2.1, (ta_r L hT).2.2.2.1, (ta_r L hT).2.2.2.2.1, (ta_r L hT).2.2.2.2.2.1, (ta_r L hT).2.2.2.2.2.2.1, (ta_r L hT).2.2.2.2.2.2.2.1, (ta_r L hT).2.2.2.2.2.2.2.2.1, (ta_r L hT).2.2.2.2.2.2.2.2.2, k21 L, k42 L, k33 L, k32 L, f21_0 L, f21_1 L, f21_2 L, f21_3 L, ta_20 hT, ta_2k hT, (j2 17 (by omega)).trans h17]
          refine ⟨fun q => ?_, fun q => ?_⟩
          · refine hP.1 _ _ s_Ta_takeTurn_90 _ _ _ _ _ ?_
            simp (maxSteps := 1000000) (disch := omega) only [g_Ta_takeTurn_90, slk, List.map_cons, List.map_nil, List.sum_cons, List.sum_nil, vc_i, vc_r, vc_n, vc_l, vc_o, Nat.add_zero, kO_e, kA_e, hdO_a, eq_self, blk, stp, lg, ls0, lk, ls1, ls2, kI_i, kL_l, kR_r, kR_n, kR_o, s1I_i, s2I_i, s1L_l, s2L_l, s1R_r, s1R_n, s1R_o, s1A_a, cmpc, popn, swt, rf_s, rf_n, cat_i, cat_r, cat_n, cat_l, true_and, and_true, List.length_cons, List.length_nil, Nat.zero_add, Int.reduceToNat, Nat.reduceAdd, Nat.reduceDiv, Nat.reduceMod, Nat.reduceMul, Nat.reduceSub, Nat.reduceLeDiff, Nat.reduceLT, Nat.reduceEqDiff, ↓reduceIte, r_gr_wi, r_gl_wi, r_gk_wi, r_gn_wi, r_wi_eq, r_wi_ne, r_wi_nj, r_gi_wr, r_gl_wr, r_gk_wr, r_gn_wr, r_gr_wa, r_gl_wa, r_gk_wa, r_gn_wa, aa_e, as_e, al_e, u_lt, u_le, u_gt, u_ge, u_lt0, u_le0, u_gt0, u_ge0, Classical.not_not, not_true_eq_false, not_false_eq_true, oi_n, oi_m, n_dec, nI_add, pk_mul, n_sub, n_eq, n_le, n_lt, n_eq0, n_lt0, n_le0, n_0lt, n_0le, n_eqm, m_eqn, n_ltm, n_and, n_or, n_xor, n_shl, n_shr, tb1, tb0, bP_1, bP_0, bP_n0, ix_n, inb_n, u_eq, u_eqm, (ta_k L hT).1, (ta_k L hT).2.1, (ta_k L hT).2.2.1, (ta_k L hT).2.2.2.1, (ta_k L hT).2.2.2.2.1, (ta_k L hT).2.2.2.2.2.1, (ta_k L hT).2.2.2.2.2.2.1, (ta_k L hT).2.2.2.2.2.2.2, (ta_r L hT).1, (ta_r L hT).2.1, (ta_r L hT).2.2.1, (ta_r L hT).2.2.2.1, (ta_r L hT).2.2.2.2.1, (ta_r L hT).2.2.2.2.2.1, (ta_r L hT).2.2.2.2.2.2.1, (ta_r L hT).2.2.2.2.2.2.2.1, (ta_r L hT).2.2.2.2.2.2.2.2.1, (ta_r L hT).2.2.2.2.2.2.2.2.2, k21 L, k42 L, k33 L, k32 L, f21_0 L, f21_1 L, f21_2 L, f21_3 L, ta_20 hT, ta_2k hT, (j2 17 (by omega)).trans h17]
            exact ih n2 (by omega) (k + 1) H su2 L2 _ (by omega) F hj hA h18 hu (by rw [er, etu, if_neg q]) (l2 q)
          · have q1 : noP s ws g tr e m day ahead today k := (by first | exact q | exact Classical.not_not.mp q)
            have er1 : res = some (k, insS s e m k (wyN (s 112 m) g k) (lkP s ws g tr e m day ahead today k)) := by rw [er, etu, if_pos q1]
            have io := insS_ok (e := e) (p := k) (w := wyN (s 112 m) g k) W hm (lkP s ws g tr e m day ahead today k)
            refine hP.1 _ _ s_Ta_takeTurn_77 _ _ _ _ _ ?_
            simp (maxSteps := 1000000) (disch := omega) only [g_Ta_takeTurn_77, slk, List.map_cons, List.map_nil, List.sum_cons, List.sum_nil, vc_i, vc_r, vc_n, vc_l, vc_o, Nat.add_zero, kO_e, kA_e, hdO_a, eq_self, blk, stp, lg, ls0, lk, ls1, ls2, kI_i, kL_l, kR_r, kR_n, kR_o, s1I_i, s2I_i, s1L_l, s2L_l, s1R_r, s1R_n, s1R_o, s1A_a, cmpc, popn, swt, rf_s, rf_n, cat_i, cat_r, cat_n, cat_l, true_and, and_true, List.length_cons, List.length_nil, Nat.zero_add, Int.reduceToNat, Nat.reduceAdd, Nat.reduceDiv, Nat.reduceMod, Nat.reduceMul, Nat.reduceSub, Nat.reduceLeDiff, Nat.reduceLT, Nat.reduceEqDiff, ↓reduceIte, r_gr_wi, r_gl_wi, r_gk_wi, r_gn_wi, r_wi_eq, r_wi_ne, r_wi_nj, r_gi_wr, r_gl_wr, r_gk_wr, r_gn_wr, r_gr_wa, r_gl_wa, r_gk_wa, r_gn_wa, aa_e, as_e, al_e, u_lt, u_le, u_gt, u_ge, u_lt0, u_le0, u_gt0, u_ge0, Classical.not_not, not_true_eq_false, not_false_eq_true, oi_n, oi_m, n_dec, nI_add, pk_mul, n_sub, n_eq, n_le, n_lt, n_eq0, n_lt0, n_le0, n_0lt, n_0le, n_eqm, m_eqn, n_ltm, n_and, n_or, n_xor, n_shl, n_shr, tb1, tb0, bP_1, bP_0, bP_n0, ix_n, inb_n, u_eq, u_eqm, (ta_k L hT).1, (ta_k L hT).2.1, (ta_k L hT).2.2.1, (ta_k L hT).2.2.2.1, (ta_k L hT).2.2.2.2.1, (ta_k L hT).2.2.2.2.2.1, (ta_k L hT).2.2.2.2.2.2.1, (ta_k L hT).2.2.2.2.2.2.2, (ta_r L hT).1, (ta_r L hT).2.1, (ta_r L hT).2.2.1, (ta_r L hT).2.2.2.1, (ta_r L hT).2.2.2.2.1, (ta_r L hT).2.2.2.2.2.1, (ta_r L hT).2.2.2.2.2.2.1, (ta_r L hT).2.2.2.2.2.2.2.1, (ta_r L hT).2.2.2.2.2.2.2.2.1, (ta_r L hT).2.2.2.2.2.2.2.2.2, k21 L, k42 L, k33 L, k32 L, f21_0 L, f21_1 L, f21_2 L, f21_3 L, ta_20 hT, ta_2k hT]
            refine ⟨_, _, _, c_Ta_wayInstead W EH hm hT h3H ((hj 13 (by omega)).trans S1.1.2.1) TL he hk2 (by omega), ⟨by omega, by omega⟩, ?_⟩
            rintro r H3 ⟨rfl, F3⟩
            have FF : Fp (XU T) h2 H3 := F.trans (F3.mono XU_sc)
            have L := FF.lay L0
            have E3 := FF.ev E (xu_b hT)
            have h33 : gr H3 T 3 = some b := by rw [FF.gr]; exact h3
            have n3 : ∀ a, 44 < a → gi H3 a = gi H a := fun a q => F3.2 a (fun z => by unfold XSc at z; omega)
            have j3 : ∀ j, j ≠ 18 → gi H3 T j = gi h2 T j := fun j q => by rw [n3 T (by omega)]; exact hj j q
            have SH : TS H3 T ws g today day := by
              refine ⟨⟨(j3 12 (by omega)).trans S1.1.1, (j3 13 (by omega)).trans S1.1.2.1, (j3 14 (by omega)).trans S1.1.2.2.1, (j3 15 (by omega)).trans S1.1.2.2.2⟩, fun o ho => ?_, fun k hk => ?_⟩
              · rw [n3 _ (by omega), n3 _ (by omega), n3 _ (by omega), hA _ (by omega) (by omega), hA _ (by omega) (by omega), hA _ (by omega) (by omega)]
                exact S1.2.1 o ho
              · rw [n3 _ (by omega), hA _ (by omega) (by omega)]
                exact S1.2.2 k hk
            simp (maxSteps := 1000000) (disch := omega) only [slk, List.map_cons, List.map_nil, List.sum_cons, List.sum_nil, vc_i, vc_r, vc_n, vc_l, vc_o, Nat.add_zero, kO_e, kA_e, hdO_a, eq_self, blk, stp, lg, ls0, lk, ls1, ls2, kI_i, kL_l, kR_r, kR_n, kR_o, s1I_i, s2I_i, s1L_l, s2L_l, s1R_r, s1R_n, s1R_o, s1A_a, cmpc, popn, swt, rf_s, rf_n, cat_i, cat_r, cat_n, cat_l, true_and, and_true, List.length_cons, List.length_nil, Nat.zero_add, Int.reduceToNat, Nat.reduceAdd, Nat.reduceDiv, Nat.reduceMod, Nat.reduceMul, Nat.reduceSub, Nat.reduceLeDiff, Nat.reduceLT, Nat.reduceEqDiff, ↓reduceIte, r_gr_wi, r_gl_wi, r_gk_wi, r_gn_wi, r_wi_eq, r_wi_ne, r_wi_nj, r_gi_wr, r_gl_wr, r_gk_wr, r_gn_wr, r_gr_wa, r_gl_wa, r_gk_wa, r_gn_wa, aa_e, as_e, al_e, u_lt, u_le, u_gt, u_ge, u_lt0, u_le0, u_gt0, u_ge0, Classical.not_not, not_true_eq_false, not_false_eq_true, oi_n, oi_m, n_dec, nI_add, pk_mul, n_sub, n_eq, n_le, n_lt, n_eq0, n_lt0, n_le0, n_0lt, n_0le, n_eqm, m_eqn, n_ltm, n_and, n_or, n_xor, n_shl, n_shr, tb1, tb0, bP_1, bP_0, bP_n0, ix_n, inb_n, u_eq, u_eqm, (ta_k L hT).1, (ta_k L hT).2.1, (ta_k L hT).2.2.1, (ta_k L hT).2.2.2.1, (ta_k L hT).2.2.2.2.1, (ta_k L hT).2.2.2.2.2.1, (ta_k L hT).2.2.2.2.2.2.1, (ta_k L hT).2.2.2.2.2.2.2, (ta_r L hT).1, (ta_r L hT).2.1, (ta_r L hT).2.2.1, (ta_r L hT).2.2.2.1, (ta_r L hT).2.2.2.2.1, (ta_r L hT).2.2.2.2.2.1, (ta_r L hT).2.2.2.2.2.2.1, (ta_r L hT).2.2.2.2.2.2.2.1, (ta_r L hT).2.2.2.2.2.2.2.2.1, (ta_r L hT).2.2.2.2.2.2.2.2.2, k21 L, k42 L, k33 L, k32 L, f21_0 L, f21_1 L, f21_2 L, f21_3 L, ta_20 hT, ta_2k hT]
            refine ⟨_, _, _, c_Ta_speak W E3 hm hT h33 SH ((j3 16 (by omega)).trans hN) hK hws he hk2 io.1 (by omega) hd ht, ⟨by omega, by omega⟩, ?_⟩
            rintro r H4 ⟨rfl, F4, x4, S4, N4⟩
            simp (maxSteps := 1000000) (disch := omega) only [slk, List.map_cons, List.map_nil, List.sum_cons, List.sum_nil, vc_i, vc_r, vc_n, vc_l, vc_o, Nat.add_zero, kO_e, kA_e, hdO_a, eq_self, blk, stp, lg, ls0, lk, ls1, ls2, kI_i, kL_l, kR_r, kR_n, kR_o, s1I_i, s2I_i, s1L_l, s2L_l, s1R_r, s1R_n, s1R_o, s1A_a, cmpc, popn, swt, rf_s, rf_n, cat_i, cat_r, cat_n, cat_l, true_and, and_true, List.length_cons, List.length_nil, Nat.zero_add, Int.reduceToNat, Nat.reduceAdd, Nat.reduceDiv, Nat.reduceMod, Nat.reduceMul, Nat.reduceSub, Nat.reduceLeDiff, Nat.reduceLT, Nat.reduceEqDiff, ↓reduceIte, r_gr_wi, r_gl_wi, r_gk_wi, r_gn_wi, r_wi_eq, r_wi_ne, r_wi_nj, r_gi_wr, r_gl_wr, r_gk_wr, r_gn_wr, r_gr_wa, r_gl_wa, r_gk_wa, r_gn_wa, aa_e, as_e, al_e, u_lt, u_le, u_gt, u_ge, u_lt0, u_le0, u_gt0, u_ge0, Classical.not_not, not_true_eq_false, not_false_eq_true, oi_n, oi_m, n_dec, nI_add, pk_mul, n_sub, n_eq, n_le, n_lt, n_eq0, n_lt0, n_le0, n_0lt, n_0le, n_eqm, m_eqn, n_ltm, n_and, n_or, n_xor, n_shl, n_shr, tb1, tb0, bP_1, bP_0, bP_n0, ix_n, inb_n, u_eq, u_eqm, (ta_k L hT).1, (ta_k L hT).2.1, (ta_k L hT).2.2.1, (ta_k L hT).2.2.2.1, (ta_k L hT).2.2.2.2.1, (ta_k L hT).2.2.2.2.2.1, (ta_k L hT).2.2.2.2.2.2.1, (ta_k L hT).2.2.2.2.2.2.2, (ta_r L hT).1, (ta_r L hT).2.1, (ta_r L hT).2.2.1, (ta_r L hT).2.2.2.1, (ta_r L hT).2.2.2.2.1, (ta_r L hT).2.2.2.2.2.1, (ta_r L hT).2.2.2.2.2.2.1, (ta_r L hT).2.2.2.2.2.2.2.1, (ta_r L hT).2.2.2.2.2.2.2.2.1, (ta_r L hT).2.2.2.2.2.2.2.2.2, k21 L, k42 L, k33 L, k32 L, f21_0 L, f21_1 L, f21_2 L, f21_3 L, ta_20 hT, ta_2k hT]
            rw [r_Ta_takeTurn, er1, l1 q1]
            refine ⟨trivial, rfl, FF.trans F4, ⟨x4.1.trans (j3 11 (by omega)), x4.2.1.trans (j3 17 (by omega))⟩, ⟨S4, N4⟩, su2, ?_, hu⟩
            rw [x4.2.2, n3 T (by omega)]
            exact h18
        refine ⟨fun q => ?_, fun q => ?_⟩
        · refine j72 H2 su1 L1 FF j2 A2 s2 hu T2 (fun _ => by rw [el, ifO_f q, List.append_nil]) (fun _ => by rw [el, ifO_f q, ifO_f q])
        · have q1 : e = s 107 61 := by
            first | exact q | exact Classical.byContradiction q
          refine hP.1 _ _ s_Ta_takeTurn_64 _ _ _ _ _ ?_
          simp (maxSteps := 1000000) (disch := omega) only [g_Ta_takeTurn_64, slk, List.map_cons, List.map_nil, List.sum_cons, List.sum_nil, vc_i, vc_r, vc_n, vc_l, vc_o, Nat.add_zero, kO_e, kA_e, hdO_a, eq_self, blk, stp, lg, ls0, lk, ls1, ls2, kI_i, kL_l, kR_r, kR_n, kR_o, s1I_i, s2I_i, s1L_l, s2L_l, s1R_r, s1R_n, s1R_o, s1A_a, cmpc, popn, swt, rf_s, rf_n, cat_i, cat_r, cat_n, cat_l, true_and, and_true, List.length_cons, List.length_nil, Nat.zero_add, Int.reduceToNat, Nat.reduceAdd, Nat.reduceDiv, Nat.reduceMod, Nat.reduceMul, Nat.reduceSub, Nat.reduceLeDiff, Nat.reduceLT, Nat.reduceEqDiff, ↓reduceIte, r_gr_wi, r_gl_wi, r_gk_wi, r_gn_wi, r_wi_eq, r_wi_ne, r_wi_nj, r_gi_wr, r_gl_wr, r_gk_wr, r_gn_wr, r_gr_wa, r_gl_wa, r_gk_wa, r_gn_wa, aa_e, as_e, al_e, u_lt, u_le, u_gt, u_ge, u_lt0, u_le0, u_gt0, u_ge0, Classical.not_not, not_true_eq_false, not_false_eq_true, oi_n, oi_m, n_dec, nI_add, pk_mul, n_sub, n_eq, n_le, n_lt, n_eq0, n_lt0, n_le0, n_0lt, n_0le, n_eqm, m_eqn, n_ltm, n_and, n_or, n_xor, n_shl, n_shr, tb1, tb0, bP_1, bP_0, bP_n0, ix_n, inb_n, u_eq, u_eqm, (ta_k L hT).1, (ta_k L hT).2.1, (ta_k L hT).2.2.1, (ta_k L hT).2.2.2.1, (ta_k L hT).2.2.2.2.1, (ta_k L hT).2.2.2.2.2.1, (ta_k L hT).2.2.2.2.2.2.1, (ta_k L hT).2.2.2.2.2.2.2, (ta_r L hT).1, (ta_r L hT).2.1, (ta_r L hT).2.2.1, (ta_r L hT).2.2.2.1, (ta_r L hT).2.2.2.2.1, (ta_r L hT).2.2.2.2.2.1, (ta_r L hT).2.2.2.2.2.2.1, (ta_r L hT).2.2.2.2.2.2.2.1, (ta_r L hT).2.2.2.2.2.2.2.2.1, (ta_r L hT).2.2.2.2.2.2.2.2.2, k21 L, k42 L, k33 L, k32 L, f21_0 L, f21_1 L, f21_2 L, f21_3 L, ta_20 hT, ta_2k hT, (j2 17 (by omega)).trans h17]
          refine ⟨_, _, _, c_Ta_sift (y := lkC s ws g tr e m day ahead today k) (no := noP s ws g tr e m day ahead today k) W E2 hm hT h32 ((j2 13 (by omega)).trans S1.1.2.1) T2 he hk2 hg s2 hu.1 ?_ ?_, ⟨by omega, by omega⟩, ?_⟩
          · show 1 < nif (plP s e m k g) 2 0 + nif (noP s ws g tr e m day ahead today k) 1 0 ↔ _
            by_cases z1 : plP s e m k g <;> by_cases z2 : noP s ws g tr e m day ahead today k
            · rw [nif_t z1, nif_t z2]
              exact ⟨fun _ => z1, fun _ => by decide⟩
            · rw [nif_t z1, nif_f z2]
              exact ⟨fun _ => z1, fun _ => by decide⟩
            · rw [nif_f z1, nif_t z2]
              exact ⟨fun y => absurd y (by decide), fun y => absurd y z1⟩
            · rw [nif_f z1, nif_f z2]
              exact ⟨fun y => absurd y (by decide), fun y => absurd y z1⟩
          · show (nif (plP s e m k g) 2 0 + nif (noP s ws g tr e m day ahead today k) 1 0) % 2 = 1 ↔ _
            by_cases z1 : plP s e m k g <;> by_cases z2 : noP s ws g tr e m day ahead today k
            · rw [nif_t z1, nif_t z2]
              exact ⟨fun _ => z2, fun _ => by decide⟩
            · rw [nif_t z1, nif_f z2]
              exact ⟨fun y => absurd y (by decide), fun y => absurd y z2⟩
            · rw [nif_f z1, nif_t z2]
              exact ⟨fun _ => z2, fun _ => by decide⟩
            · rw [nif_f z1, nif_f z2]
              exact ⟨fun y => absurd y (by decide), fun y => absurd y z2⟩
          · rintro r H3 ⟨rfl, F3, j3, su2, s3, u3⟩
            have FF3 : Fp (XU T) h2 H3 := FF.trans (F3.mono XU_44T)
            have n3 : ∀ a, a ≠ 44 → a ≠ T → gi H3 a = gi H2 a := fun a q1 q2 => F3.2 a (fun z => z.elim q1 q2)
            simp (maxSteps := 1000000) (disch := omega) only [slk, List.map_cons, List.map_nil, List.sum_cons, List.sum_nil, vc_i, vc_r, vc_n, vc_l, vc_o, Nat.add_zero, kO_e, kA_e, hdO_a, eq_self, blk, stp, lg, ls0, lk, ls1, ls2, kI_i, kL_l, kR_r, kR_n, kR_o, s1I_i, s2I_i, s1L_l, s2L_l, s1R_r, s1R_n, s1R_o, s1A_a, cmpc, popn, swt, rf_s, rf_n, cat_i, cat_r, cat_n, cat_l, true_and, and_true, List.length_cons, List.length_nil, Nat.zero_add, Int.reduceToNat, Nat.reduceAdd, Nat.reduceDiv, Nat.reduceMod, Nat.reduceMul, Nat.reduceSub, Nat.reduceLeDiff, Nat.reduceLT, Nat.reduceEqDiff, ↓reduceIte, r_gr_wi, r_gl_wi, r_gk_wi, r_gn_wi, r_wi_eq, r_wi_ne, r_wi_nj, r_gi_wr, r_gl_wr, r_gk_wr, r_gn_wr, r_gr_wa, r_gl_wa, r_gk_wa, r_gn_wa, aa_e, as_e, al_e, u_lt, u_le, u_gt, u_ge, u_lt0, u_le0, u_gt0, u_ge0, Classical.not_not, not_true_eq_false, not_false_eq_true, oi_n, oi_m, n_dec, nI_add, pk_mul, n_sub, n_eq, n_le, n_lt, n_eq0, n_lt0, n_le0, n_0lt, n_0le, n_eqm, m_eqn, n_ltm, n_and, n_or, n_xor, n_shl, n_shr, tb1, tb0, bP_1, bP_0, bP_n0, ix_n, inb_n, u_eq, u_eqm, (ta_k L hT).1, (ta_k L hT).2.1, (ta_k L hT).2.2.1, (ta_k L hT).2.2.2.1, (ta_k L hT).2.2.2.2.1, (ta_k L hT).2.2.2.2.2.1, (ta_k L hT).2.2.2.2.2.2.1, (ta_k L hT).2.2.2.2.2.2.2, (ta_r L hT).1, (ta_r L hT).2.1, (ta_r L hT).2.2.1, (ta_r L hT).2.2.2.1, (ta_r L hT).2.2.2.2.1, (ta_r L hT).2.2.2.2.2.1, (ta_r L hT).2.2.2.2.2.2.1, (ta_r L hT).2.2.2.2.2.2.2.1, (ta_r L hT).2.2.2.2.2.2.2.2.1, (ta_r L hT).2.2.2.2.2.2.2.2.2, k21 L, k42 L, k33 L, k32 L, f21_0 L, f21_1 L, f21_2 L, f21_3 L, ta_20 hT, ta_2k hT, (j2 17 (by omega)).trans h17]
            refine j72 H3 su2 (L1 ++ [lkC s ws g tr e m day ahead today k]) FF3 (fun j q => (j3 j q).trans (j2 j q)) (fun a z1 z2 => (n3 a (by omega) (by omega)).trans (A2 a z1 z2)) s3 (suR_app hu u3) (F3.ltc T2 (by show ¬ (43 = 44 ∨ 43 = T); omega)) (fun z => ?_) (fun z => ?_)
            · rw [el, ifO_t q1, elf, if_pos z]
            · rw [el, ifO_t q1, elf, if_neg z, ifO_t q1, List.append_assoc]
              rfl
  have L := L0
  refine hP.1 _ _ s_Ta_takeTurn_0 _ _ _ _ _ ?_
  simp (maxSteps := 1000000) (disch := omega) only [g_Ta_takeTurn_0, slk, List.map_cons, List.map_nil, List.sum_cons, List.sum_nil, vc_i, vc_r, vc_n, vc_l, vc_o, Nat.add_zero, kO_e, kA_e, hdO_a, eq_self, blk, stp, lg, ls0, lk, ls1, ls2, kI_i, kL_l, kR_r, kR_n, kR_o, s1I_i, s2I_i, s1L_l, s2L_l, s1R_r, s1R_n, s1R_o, s1A_a, cmpc, popn, swt, rf_s, rf_n, cat_i, cat_r, cat_n, cat_l, true_and, and_true, List.length_cons, List.length_nil, Nat.zero_add, Int.reduceToNat, Nat.reduceAdd, Nat.reduceDiv, Nat.reduceMod, Nat.reduceMul, Nat.reduceSub, Nat.reduceLeDiff, Nat.reduceLT, Nat.reduceEqDiff, ↓reduceIte, r_gr_wi, r_gl_wi, r_gk_wi, r_gn_wi, r_wi_eq, r_wi_ne, r_wi_nj, r_gi_wr, r_gl_wr, r_gk_wr, r_gn_wr, r_gr_wa, r_gl_wa, r_gk_wa, r_gn_wa, aa_e, as_e, al_e, u_lt, u_le, u_gt, u_ge, u_lt0, u_le0, u_gt0, u_ge0, Classical.not_not, not_true_eq_false, not_false_eq_true, oi_n, oi_m, n_dec, nI_add, pk_mul, n_sub, n_eq, n_le, n_lt, n_eq0, n_lt0, n_le0, n_0lt, n_0le, n_eqm, m_eqn, n_ltm, n_and, n_or, n_xor, n_shl, n_shr, tb1, tb0, bP_1, bP_0, bP_n0, ix_n, inb_n, u_eq, u_eqm, (ta_k L hT).1, (ta_k L hT).2.1, (ta_k L hT).2.2.1, (ta_k L hT).2.2.2.1, (ta_k L hT).2.2.2.2.1, (ta_k L hT).2.2.2.2.2.1, (ta_k L hT).2.2.2.2.2.2.1, (ta_k L hT).2.2.2.2.2.2.2, (ta_r L hT).1, (ta_r L hT).2.1, (ta_r L hT).2.2.1, (ta_r L hT).2.2.2.1, (ta_r L hT).2.2.2.2.1, (ta_r L hT).2.2.2.2.2.1, (ta_r L hT).2.2.2.2.2.2.1, (ta_r L hT).2.2.2.2.2.2.2.1, (ta_r L hT).2.2.2.2.2.2.2.2.1, (ta_r L hT).2.2.2.2.2.2.2.2.2, k21 L, k42 L, k33 L, k32 L, f21_0 L, f21_1 L, f21_2 L, f21_3 L, ta_20 hT, ta_2k hT]
  refine ⟨_, _, _, c_Ta_maySpeak W E hm hT h3 S1 (by omega) (by omega), ⟨by omega, by omega⟩, ?_⟩
  rintro r H ⟨rfl, F⟩
  have FF : Fp (XU T) h2 H := F.mono XU_sc
  have L := F.lay L0
  have n3 : ∀ a, 44 < a → gi H a = gi h2 a := fun a q => F.2 a (fun z => by unfold XSc at z; omega)
  have jT : ∀ j, j ≠ 18 → gi H T j = gi h2 T j := fun j _ => by rw [n3 T (by omega)]
  have jA : ∀ a, T + 2 ≤ a → a ≤ T + 5 → gi H a = gi h2 a := fun a q1 q2 => n3 a (by omega)
  have j18 : gi H T 18 = nI su := by rw [n3 T (by omega)]; exact h18
  simp (maxSteps := 1000000) (disch := omega) only [slk, List.map_cons, List.map_nil, List.sum_cons, List.sum_nil, vc_i, vc_r, vc_n, vc_l, vc_o, Nat.add_zero, kO_e, kA_e, hdO_a, eq_self, blk, stp, lg, ls0, lk, ls1, ls2, kI_i, kL_l, kR_r, kR_n, kR_o, s1I_i, s2I_i, s1L_l, s2L_l, s1R_r, s1R_n, s1R_o, s1A_a, cmpc, popn, swt, rf_s, rf_n, cat_i, cat_r, cat_n, cat_l, true_and, and_true, List.length_cons, List.length_nil, Nat.zero_add, Int.reduceToNat, Nat.reduceAdd, Nat.reduceDiv, Nat.reduceMod, Nat.reduceMul, Nat.reduceSub, Nat.reduceLeDiff, Nat.reduceLT, Nat.reduceEqDiff, ↓reduceIte, r_gr_wi, r_gl_wi, r_gk_wi, r_gn_wi, r_wi_eq, r_wi_ne, r_wi_nj, r_gi_wr, r_gl_wr, r_gk_wr, r_gn_wr, r_gr_wa, r_gl_wa, r_gk_wa, r_gn_wa, aa_e, as_e, al_e, u_lt, u_le, u_gt, u_ge, u_lt0, u_le0, u_gt0, u_ge0, Classical.not_not, not_true_eq_false, not_false_eq_true, oi_n, oi_m, n_dec, nI_add, pk_mul, n_sub, n_eq, n_le, n_lt, n_eq0, n_lt0, n_le0, n_0lt, n_0le, n_eqm, m_eqn, n_ltm, n_and, n_or, n_xor, n_shl, n_shr, tb1, tb0, bP_1, bP_0, bP_n0, ix_n, inb_n, u_eq, u_eqm, (ta_k L hT).1, (ta_k L hT).2.1, (ta_k L hT).2.2.1, (ta_k L hT).2.2.2.1, (ta_k L hT).2.2.2.2.1, (ta_k L hT).2.2.2.2.2.1, (ta_k L hT).2.2.2.2.2.2.1, (ta_k L hT).2.2.2.2.2.2.2, (ta_r L hT).1, (ta_r L hT).2.1, (ta_r L hT).2.2.1, (ta_r L hT).2.2.2.1, (ta_r L hT).2.2.2.2.1, (ta_r L hT).2.2.2.2.2.1, (ta_r L hT).2.2.2.2.2.2.1, (ta_r L hT).2.2.2.2.2.2.2.1, (ta_r L hT).2.2.2.2.2.2.2.2.1, (ta_r L hT).2.2.2.2.2.2.2.2.2, k21 L, k42 L, k33 L, k32 L, f21_0 L, f21_1 L, f21_2 L, f21_3 L, ta_20 hT, ta_2k hT]
  refine ⟨fun q => ?_, fun q => ?_⟩
  · refine hP.1 _ _ s_Ta_takeTurn_10 _ _ _ _ _ ?_
    simp (maxSteps := 1000000) (disch := omega) only [g_Ta_takeTurn_10, slk, List.map_cons, List.map_nil, List.sum_cons, List.sum_nil, vc_i, vc_r, vc_n, vc_l, vc_o, Nat.add_zero, kO_e, kA_e, hdO_a, eq_self, blk, stp, lg, ls0, lk, ls1, ls2, kI_i, kL_l, kR_r, kR_n, kR_o, s1I_i, s2I_i, s1L_l, s2L_l, s1R_r, s1R_n, s1R_o, s1A_a, cmpc, popn, swt, rf_s, rf_n, cat_i, cat_r, cat_n, cat_l, true_and, and_true, List.length_cons, List.length_nil, Nat.zero_add, Int.reduceToNat, Nat.reduceAdd, Nat.reduceDiv, Nat.reduceMod, Nat.reduceMul, Nat.reduceSub, Nat.reduceLeDiff, Nat.reduceLT, Nat.reduceEqDiff, ↓reduceIte, r_gr_wi, r_gl_wi, r_gk_wi, r_gn_wi, r_wi_eq, r_wi_ne, r_wi_nj, r_gi_wr, r_gl_wr, r_gk_wr, r_gn_wr, r_gr_wa, r_gl_wa, r_gk_wa, r_gn_wa, aa_e, as_e, al_e, u_lt, u_le, u_gt, u_ge, u_lt0, u_le0, u_gt0, u_ge0, Classical.not_not, not_true_eq_false, not_false_eq_true, oi_n, oi_m, n_dec, nI_add, pk_mul, n_sub, n_eq, n_le, n_lt, n_eq0, n_lt0, n_le0, n_0lt, n_0le, n_eqm, m_eqn, n_ltm, n_and, n_or, n_xor, n_shl, n_shr, tb1, tb0, bP_1, bP_0, bP_n0, ix_n, inb_n, u_eq, u_eqm, (ta_k L hT).1, (ta_k L hT).2.1, (ta_k L hT).2.2.1, (ta_k L hT).2.2.2.1, (ta_k L hT).2.2.2.2.1, (ta_k L hT).2.2.2.2.2.1, (ta_k L hT).2.2.2.2.2.2.1, (ta_k L hT).2.2.2.2.2.2.2, (ta_r L hT).1, (ta_r L hT).2.1, (ta_r L hT).2.2.1, (ta_r L hT).2.2.2.1, (ta_r L hT).2.2.2.2.1, (ta_r L hT).2.2.2.2.2.1, (ta_r L hT).2.2.2.2.2.2.1, (ta_r L hT).2.2.2.2.2.2.2.1, (ta_r L hT).2.2.2.2.2.2.2.2.1, (ta_r L hT).2.2.2.2.2.2.2.2.2, k21 L, k42 L, k33 L, k32 L, f21_0 L, f21_1 L, f21_2 L, f21_3 L, ta_20 hT, ta_2k hT]
    exact loop q (s 112 m) 0 H su [] none (Nat.zero_add _) FF jT jA j18 (suR_nil hsu) (ye q).1 (ye q).2
  · refine hP.1 _ _ s_Ta_takeTurn_9 _ _ _ _ _ ?_
    simp (maxSteps := 1000000) (disch := omega) only [g_Ta_takeTurn_9, slk, List.map_cons, List.map_nil, List.sum_cons, List.sum_nil, vc_i, vc_r, vc_n, vc_l, vc_o, Nat.add_zero, kO_e, kA_e, hdO_a, eq_self, blk, stp, lg, ls0, lk, ls1, ls2, kI_i, kL_l, kR_r, kR_n, kR_o, s1I_i, s2I_i, s1L_l, s2L_l, s1R_r, s1R_n, s1R_o, s1A_a, cmpc, popn, swt, rf_s, rf_n, cat_i, cat_r, cat_n, cat_l, true_and, and_true, List.length_cons, List.length_nil, Nat.zero_add, Int.reduceToNat, Nat.reduceAdd, Nat.reduceDiv, Nat.reduceMod, Nat.reduceMul, Nat.reduceSub, Nat.reduceLeDiff, Nat.reduceLT, Nat.reduceEqDiff, ↓reduceIte, r_gr_wi, r_gl_wi, r_gk_wi, r_gn_wi, r_wi_eq, r_wi_ne, r_wi_nj, r_gi_wr, r_gl_wr, r_gk_wr, r_gn_wr, r_gr_wa, r_gl_wa, r_gk_wa, r_gn_wa, aa_e, as_e, al_e, u_lt, u_le, u_gt, u_ge, u_lt0, u_le0, u_gt0, u_ge0, Classical.not_not, not_true_eq_false, not_false_eq_true, oi_n, oi_m, n_dec, nI_add, pk_mul, n_sub, n_eq, n_le, n_lt, n_eq0, n_lt0, n_le0, n_0lt, n_0le, n_eqm, m_eqn, n_ltm, n_and, n_or, n_xor, n_shl, n_shr, tb1, tb0, bP_1, bP_0, bP_n0, ix_n, inb_n, u_eq, u_eqm, (ta_k L hT).1, (ta_k L hT).2.1, (ta_k L hT).2.2.1, (ta_k L hT).2.2.2.1, (ta_k L hT).2.2.2.2.1, (ta_k L hT).2.2.2.2.2.1, (ta_k L hT).2.2.2.2.2.2.1, (ta_k L hT).2.2.2.2.2.2.2, (ta_r L hT).1, (ta_r L hT).2.1, (ta_r L hT).2.2.1, (ta_r L hT).2.2.2.1, (ta_r L hT).2.2.2.2.1, (ta_r L hT).2.2.2.2.2.1, (ta_r L hT).2.2.2.2.2.2.1, (ta_r L hT).2.2.2.2.2.2.2.1, (ta_r L hT).2.2.2.2.2.2.2.2.1, (ta_r L hT).2.2.2.2.2.2.2.2.2, k21 L, k42 L, k33 L, k32 L, f21_0 L, f21_1 L, f21_2 L, f21_3 L, ta_20 hT, ta_2k hT]
    rw [r_Ta_takeTurn]
    obtain ⟨y1, y2⟩ := no q
    exact ⟨trivial, quiet H su FF jT jA j18 (by rw [y2]; exact suR_nil hsu) y1⟩
end
