/-! ===== the class: a new matter is kept ===== -/
section
variable {h : AH} {s : St} {d c : Nat} {bm : Nat → Nat}
theorem mt_12 {p w m : Nat} (h : m ≠ s 107 19) : matterS s p w 112 m = s 112 m := if_neg h
theorem mt_13 {p w m : Nat} (h : m ≠ s 107 19) : matterS s p w 113 m = s 113 m := if_neg h
theorem mt_16 {p w m : Nat} (h : m ≠ s 107 19) : matterS s p w 116 m = s 116 m := if_neg h
theorem mt_17 {p w m : Nat} (h : m ≠ s 107 19) : matterS s p w 117 m = s 117 m := if_neg h
theorem mt_12n {p w : Nat} : matterS s p w 112 (s 107 19) = p := if_pos rfl
theorem mt_13n {p w : Nat} : matterS s p w 113 (s 107 19) = w := if_pos rfl
theorem mt_16n {p w : Nat} : matterS s p w 116 (s 107 19) = 4294967295 := if_pos rfl
theorem mt_17n {p w : Nat} : matterS s p w 117 (s 107 19) = 0 := if_pos rfl
theorem ag_matter (W : RH h s) {p w i : Nat} (hi : i < s 107 19) : Ag s (matterS s p w) i := by
  have n : i ≠ s 107 19 := by omega
  have cl : ∀ e2 x so one, clsP (matterS s p w) e2 i x so one ↔ clsP s e2 i x so one := by
    intro e2 x so one
    unfold clsP clP
    rw [mt_12 n]
    exact Iff.rfl
  have ab : ∀ x, abP (matterS s p w) i x ↔ abP s i x := by
    intro x
    have br : ∀ e2, brP (matterS s p w) e2 i x (evN s i) ↔ brP s e2 i x (evN s i) := fun e2 => by
      unfold brP
      rw [mt_12 n]
      exact and_congr Iff.rfl (not_congr (cl e2 x _ none))
    unfold abP
    rw [show evN (matterS s p w) i = evN s i by unfold evN; rw [mt_12 n]]
    exact ⟨fun z q hq => (br _).mp (z q hq), fun z q hq => (br _).mpr (z q hq)⟩
  refine ⟨⟨rfl, fun _ => rfl⟩, ⟨mt_12 n, mt_13 n, mt_17 n⟩, fun lb ps => ?_, fun _ _ _ _ => rfl, fun _ _ => rfl, fun _ _ _ _ _ _ => rfl, fun e2 p2 x _ _ => ?_, ab, fun ed rs e => trI_c _ (fun k hk => ⟨rfl, rfl, fun _ => ?_⟩)⟩
  · unfold lawW
    rw [mt_16 n]
    rfl
  · unfold plP
    rw [mt_12 n, propext (cl e2 x (evN (matterS s p w) i) (some p2)), show evN (matterS s p w) i = evN s i by unfold evN; rw [mt_12 n]]
    exact Iff.rfl
  · have r := rs_prm W hk
    have e : matterS s p w 112 (s 146 k) = s 112 (s 146 k) := mt_12 (by omega)
    show (ed (s 146 k) = 0 ∧ wyN (matterS s p w 112 (s 146 k)) _ _ = _) ↔ _
    rw [e]
    exact Iff.rfl
theorem CL_new (W : RH h s) {p w : Nat} : CL (matterS s p w) (s 107 19) = [] := by
  have e : CL (matterS s p w) (s 107 19) = CL s (s 107 19) := rfl
  rw [e]
  unfold CL
  rw [List.map_eq_nil_iff, List.filter_eq_nil_iff]
  intro k hk z
  have r := rs_cl W (List.mem_range.mp hk)
  have z2 : s 120 k = s 107 19 := by simpa using z
  omega
theorem ci_matter (W : RH h s) {h2 H : AH} (I : CI h2 s bm c) {p w b : Nat} (hC : matterC s p w) (hb : b = gn h2) (FB : Fg (fun a => a = 20) (fun a j => a = 34 ∧ j = s 107 19) h2 H) (e20 : ∀ k, k ≠ 13 → gi H 20 k = gi h2 20 k) (e13 : gi H 20 13 = nI (s 107 19 + 1)) (e34 : gr H 34 (s 107 19) = some b) (M : MA H b p) (c1 : gi H b 0 = nI p ∧ gi H b 1 = nI w ∧ gi H b 8 = nI 0 ∧ gi H b 9 = nI 0 ∧ gr H b 10 = none) (c2 : ∀ x, x < 1 <<< (2 * p) → gi H (b + 14) x = nI (slN p w x)) (c3 : ∀ e, e < 8 → gi H (b + 1) e = nI 0 ∧ gi H (b + 2) e = nI 0) (c4 : ∀ e q, e < 8 → q < 5 → gi H (b + 4 + e) q = nI 1) : CI H (matterS s p w) (fun j => if j = s 107 19 then b else bm j) c := by
  have b0 := rs_m W
  have g := (ci_L I).2.2
  have n4 := hC.1
  obtain ⟨t1, t2, t3, t4, t5, t6⟩ := ci_ct I
  have pu := ci_pu I
  have cn0 : ∀ v e, v ≠ 1 → cnN (matterS s p w) (s 107 19) v e = 0 := by
    intro v e hv
    refine Nat.eq_of_testBit_eq fun i => ?_
    rw [Nat.zero_testBit]
    cases q : (cnN (matterS s p w) (s 107 19) v e).testBit i with
    | false => rfl
    | true =>
      obtain ⟨q1, q2, q3⟩ := (cn_bit _ _ _ _ _).mp q
      have z := pu.1.1 e (s 107 19) (i / 4) (i % 4) q2 (by omega) (by omega) (by omega) (fun y => by omega)
      rw [show 4 * (i / 4) + i % 4 = i by omega] at z
      have q3' : s 114 (20 * (4 * e + s 107 19) + i) = v := q3
      omega
  have cr1 : ∀ e q, q < 5 → crN (matterS s p w) (s 107 19) e q = 1 := by
    intro e q hq
    unfold crN
    by_cases y : e < s 107 18
    · rw [nif_t (show e < matterS s p w 107 18 from y)]
      exact pu.1.2.1 e (s 107 19) q y (by omega) hq (fun z => by omega)
    · exact nif_f y
  refine ⟨FB.lay (ci_L I) (fun a j y => by first | exact y.elim | (unfold isT; omega)), Fg.cc (s := s) FB g (ci_C I) (fun a q => by omega) (fun j y => (by first | exact y.elim | omega)) (fun j _ y => (by first | exact y.elim | omega)) (fun e he => rs_md W he), ⟨e13, (e20 14 (by omega)).trans t2, (e20 15 (by omega)).trans t3, (e20 16 (by omega)).trans t4, (e20 17 (by omega)).trans t5, by show c ≤ s 107 19 + 1; omega⟩, ?_, ?_, Fg.txa (s := s) FB g (ci_tx I) (fun t ht a q => by have := isTx_b (ci_tx I) ht; omega) (fun t ht j y => by first | exact y.elim | (have := isTx_b (ci_tx I) ht; omega)) (fun j _ y => (by first | exact y.elim | omega)) (fun j _ y => (by first | exact y.elim | omega)), ?_, Fg.tpc (s := s) FB g (ci_tp I) ⟨fun q => by omega, fun q => by omega⟩, Fg.plc (s := s) FB g (ci_pl I) (fun a q => by omega), Fg.gfc (s := s) FB g (ci_gf I) (by rw [FB.2.2.1 61 (by omega) (fun q => by omega)]) (fun a q => by omega), Fg.asc (s := s) FB g (ci_as I) (fun a q => by omega), Fg.twc (s := s) FB g (ci_tw I) (fun a ha q => by have := ta_b ha; unfold isT at ha; omega), ?_, ⟨⟨fun e m p2 w2 z1 z2 z3 z4 z5 => ?_, fun e m p2 z1 z2 z3 z5 => ?_, pu.1.2.2⟩, pu.2⟩⟩
  · intro m hm
    have hm' : m < s 107 19 + 1 := hm
    by_cases z : m = s 107 19
    · subst z
      simp only [if_true]
      refine ⟨e34, by rw [mt_12n]; exact M, ⟨⟨?_, ?_, ?_, ?_⟩, fun x hx => ?_, fun e he => ?_, fun e q he hq => ?_, fun i hi => ?_⟩, ?_⟩
      · rw [mt_12n]; exact c1.1
      · rw [mt_13n]; exact c1.2.1
      · rw [CL_new W]; exact c1.2.2.1
      · rw [mt_17n]; exact c1.2.2.2.1
      · rw [mt_12n] at hx ⊢
        rw [mt_13n]
        exact c2 x hx
      · rw [cn0 0 e (by omega), cn0 2 e (by omega)]
        exact c3 e he
      · rw [cr1 e q hq]
        exact c4 e q he hq
      · rw [CL_new W] at hi
        exact absurd hi (Nat.not_lt_zero _)
      · unfold lwR
        rw [mt_16n, if_pos rfl]
        exact c1.2.2.2.2
    · have hm2 : m < s 107 19 := by omega
      obtain ⟨m1, mA, mV, mR⟩ := ci_m I m hm2
      have bb := ci_b I hm2
      simp only [if_neg z]
      refine ⟨(FB.2.2.2 34 m (by omega) (fun y => z y.2)).trans m1, by rw [mt_12 z]; exact FB.ma mA (fun a j y => by omega), ?_, ?_⟩
      · have V := FB.mv bb.2 mV (fun a q => by omega)
        obtain ⟨⟨v1, v2, v3, v4⟩, v5, v6, v7, v8⟩ := V
        unfold MV
        rw [mt_12 z, mt_13 z, mt_17 z]
        exact ⟨⟨v1, v2, v3, v4⟩, v5, v6, v7, v8⟩
      · rw [FB.2.2.2 (bm m) 10 (by omega) (fun y => by omega), mR]
        unfold lwR
        rw [mt_16 z]
        by_cases q : s 116 m = 4294967295
        · rw [if_pos q, if_pos q]
        · rw [if_neg q, if_neg q, FB.2.2.2 40 _ (by omega) (fun y => by omega)]
  · intro i j hij hj
    have hj' : j < s 107 19 + 1 := hj
    dsimp only
    rw [if_neg (by omega)]
    by_cases z : j = s 107 19
    · rw [if_pos z, hb]
      exact (ci_b I (by omega)).2
    · rw [if_neg z]
      exact ci_bo I i j hij (by omega)
  · intro t ht m hm
    have ht2 : isTx h2 s t := FB.istx g (fun j _ y => by omega) (fun j _ y => by omega) ht
    have hm' : m < s 107 19 + 1 := hm
    have tb := isTx_b (ci_tx I) ht2
    dsimp only
    by_cases z : m = s 107 19
    · rw [if_pos z]
      omega
    · rw [if_neg z]
      exact ci_dj I t ht2 m (by omega)
  · refine std_ag W FB g t6 (ci_st I) rfl (fun i hi => ag_matter W (by omega)) (fun j hj => if_neg (by omega)) (fun j hj a q => by have e : tOf j = 75 + 8 * j := rfl; omega) (fun j hj y => by have e : tOf j = 75 + 8 * j := rfl; omega)
  · refine pu.1.1 e m p2 w2 z1 z2 z3 z4 (fun y => z5 ⟨?_, ?_, ?_⟩)
    · show m < s 107 19 + 1
      omega
    · rw [mt_12 (by omega)]
      exact y.2.1
    · rw [mt_13 (by omega)]
      exact y.2.2
  · refine pu.1.2.1 e m p2 z1 z2 z3 (fun y => z5 ⟨?_, ?_⟩)
    · show m < s 107 19 + 1
      omega
    · rw [mt_12 (by omega)]
      exact y.2
theorem c_T_matter (W : RH h s) {h2 : AH} (I : CI h2 s bm c) {p w : Nat} (hp : p < 4294967296) (hw : w < 4294967296) : Mz (d + 4) 5 [.ref 20, .int (nI p), .int (nI w)] h2 15 1179 (PC2 (iff1 (matterC s p w) (nI (s 107 19))) (ifS (matterC s p w) (matterS s p w) s) h2) := by
  have b0 := rs_m W
  have L := ci_L I
  have g := L.2.2
  refine mz_in (l := [some (.ref 20), some (.int (nI p)), some (.int (nI w))]) mk_T_matter n_T_matter rfl l_T_matter rfl (Nat.le_of_ble_eq_true rfl) fun P hP => ?_
  have no : ¬ matterC s p w → P 28 [some (.ref 20), some (.int (nI p)), some (.int (nI w))] [] h2 0 0 := by
    intro q
    refine hP.1 _ _ s_T_matter_28 _ _ _ _ _ ?_
    simp (maxSteps := 1000000) (disch := omega) only [g_T_matter_28, slk, List.map_cons, List.map_nil, List.sum_cons, List.sum_nil, vc_i, vc_r, vc_n, vc_l, vc_o, Nat.add_zero, kO_e, kA_e, hdO_a, eq_self, blk, stp, lg, ls0, lk, ls1, ls2, kI_i, kL_l, kR_r, kR_n, kR_o, s1I_i, s2I_i, s1L_l, s2L_l, s1R_r, s1R_n, s1R_o, s1A_a, cmpc, popn, swt, rf_s, rf_n, cat_i, cat_r, cat_n, cat_l, true_and, and_true, List.length_cons, List.length_nil, Nat.zero_add, Int.reduceToNat, Nat.reduceAdd, Nat.reduceDiv, Nat.reduceMod, Nat.reduceMul, Nat.reduceSub, Nat.reduceLeDiff, Nat.reduceLT, Nat.reduceEqDiff, ↓reduceIte, r_gr_wi, r_gl_wi, r_gk_wi, r_gn_wi, r_wi_eq, r_wi_ne, r_wi_nj, r_gi_wr, r_gl_wr, r_gk_wr, r_gn_wr, r_gr_wa, r_gl_wa, r_gk_wa, r_gn_wa, aa_e, as_e, al_e, u_lt, u_le, u_gt, u_ge, u_lt0, u_le0, u_gt0, u_ge0, Classical.not_not, not_true_eq_false, not_false_eq_true, oi_n, oi_m, n_dec, nI_add, pk_mul, n_sub, n_eq, n_le, n_lt, n_eq0, n_lt0, n_le0, n_0lt, n_0le, n_eqm, m_eqn, n_ltm, n_and, n_or, n_xor, n_shl, n_shr, tb1, tb0, bP_1, bP_0, bP_n0, ix_n, inb_n, u_eq, u_eqm]
    exact lzK r_T_matter q (FrC.refl _) I
  have go : matterC s p w → P 30 [some (.ref 20), some (.int (nI p)), some (.int (nI w))] [] h2 0 0 := by
    intro hC
    have n4 := hC.1
    obtain ⟨b, hb⟩ : ∃ b, gn h2 = b := ⟨_, rfl⟩
    have R := r_al_k h2 (.inl 4) hb
    obtain ⟨h3, e3⟩ : ∃ h3, h3 = al h2 (.inl 4) := ⟨_, rfl⟩
    rw [← e3] at R
    refine hP.1 _ _ s_T_matter_30 _ _ _ _ _ ?_
    simp (maxSteps := 1000000) (disch := omega) only [g_T_matter_30, slk, List.map_cons, List.map_nil, List.sum_cons, List.sum_nil, vc_i, vc_r, vc_n, vc_l, vc_o, Nat.add_zero, kO_e, kA_e, hdO_a, eq_self, blk, stp, lg, ls0, lk, ls1, ls2, kI_i, kL_l, kR_r, kR_n, kR_o, s1I_i, s2I_i, s1L_l, s2L_l, s1R_r, s1R_n, s1R_o, s1A_a, cmpc, popn, swt, rf_s, rf_n, cat_i, cat_r, cat_n, cat_l, true_and, and_true, List.length_cons, List.length_nil, Nat.zero_add, Int.reduceToNat, Nat.reduceAdd, Nat.reduceDiv, Nat.reduceMod, Nat.reduceMul, Nat.reduceSub, Nat.reduceLeDiff, Nat.reduceLT, Nat.reduceEqDiff, ↓reduceIte, r_gr_wi, r_gl_wi, r_gk_wi, r_gn_wi, r_wi_eq, r_wi_ne, r_wi_nj, r_gi_wr, r_gl_wr, r_gk_wr, r_gn_wr, r_gr_wa, r_gl_wa, r_gk_wa, r_gn_wa, aa_e, as_e, al_e, u_lt, u_le, u_gt, u_ge, u_lt0, u_le0, u_gt0, u_ge0, Classical.not_not, not_true_eq_false, not_false_eq_true, oi_n, oi_m, n_dec, nI_add, pk_mul, n_sub, n_eq, n_le, n_lt, n_eq0, n_lt0, n_le0, n_0lt, n_0le, n_eqm, m_eqn, n_ltm, n_and, n_or, n_xor, n_shl, n_shr, tb1, tb0, bP_1, bP_0, bP_n0, ix_n, inb_n, u_eq, u_eqm, k20 L, f20_1 L, k34 L, hb, nfc, (ci_ct I).1, ← e3, R.2.1]
    refine ⟨_, _, _, c_Ma_init (b := b) (by omega) R.1 R.2.1 R.2.2.1 R.2.2.2.1 ⟨by have := hC.2.1; omega, by have := hC.2.1; omega⟩ (by have := hC.2.2; omega), ⟨by omega, by omega⟩, ?_⟩
    rintro r H ⟨rfl, F, fl, gH, M, c1, c2, c3, c4⟩
    have F3 : Fg (fun _ => False) noY h2 h3 := ⟨fun a q => (R.2.2.2.2 a (by omega)).1, by rw [R.1]; omega, fun a q _ => (R.2.2.2.2 a (by omega)).2.1, fun a j q _ => by rw [(R.2.2.2.2 a (by omega)).2.2.1]⟩
    have FA : Fg (fun _ => False) noY h2 H := by
      refine ⟨fun a q => (F.1 a (by rw [R.1]; omega)).trans (F3.1 a q), Nat.le_trans F3.2.1 F.2.1, fun a q _ => (F.2.2.1 a (by rw [R.1]; omega) (fun z => by have z2 : a = b := z; omega)).trans (F3.2.2.1 a q id), fun a j q _ => (F.2.2.2 a j (by rw [R.1]; omega) (fun z => by have z2 : a = b := z; omega)).trans (F3.2.2.2 a j q id)⟩
    have glA : ∀ a, a < gn h2 → gl H a = gl h2 a := fun a q => (fl a (by rw [R.1]; omega)).trans (R.2.2.2.2 a (by omega)).2.2.2
    have LH := FA.lay L (fun a j y => y.elim)
    have ct := FA.ct g (ci_ct I) (fun q => q.elim)
    have ok : ∀ t, some b = some t → 20 ≤ t ∧ kO (gk H t) (ecl 4) := by
      intro t et
      cases et
      exact ⟨by omega, M.2.1.1⟩
    have b20 : 20 ≤ b := by omega
    have as4 : ∀ K : Prop, ((4 ≤ 4 ∧ 4 < 7 ∧ inb (nI (s 107 19)) 4 ∧ 20 ≤ 34 ∧ ∀ t, some b = some t → 20 ≤ t ∧ kO (gk H t) (ecl 4)) ∧ K) = K := fun K => propext ⟨fun z => z.2, fun z => ⟨⟨by decide, by decide, of_eq_true (inb_n (by omega) (by omega)), by decide, ok⟩, z⟩⟩
    simp (maxSteps := 1000000) (disch := omega) only [slk, List.map_cons, List.map_nil, List.sum_cons, List.sum_nil, vc_i, vc_r, vc_n, vc_l, vc_o, Nat.add_zero, kO_e, kA_e, hdO_a, eq_self, blk, stp, lg, ls0, lk, ls1, ls2, kI_i, kL_l, kR_r, kR_n, kR_o, s1I_i, s2I_i, s1L_l, s2L_l, s1R_r, s1R_n, s1R_o, s1A_a, cmpc, popn, swt, rf_s, rf_n, cat_i, cat_r, cat_n, cat_l, true_and, and_true, List.length_cons, List.length_nil, Nat.zero_add, Int.reduceToNat, Nat.reduceAdd, Nat.reduceDiv, Nat.reduceMod, Nat.reduceMul, Nat.reduceSub, Nat.reduceLeDiff, Nat.reduceLT, Nat.reduceEqDiff, ↓reduceIte, r_gr_wi, r_gl_wi, r_gk_wi, r_gn_wi, r_wi_eq, r_wi_ne, r_wi_nj, r_gi_wr, r_gl_wr, r_gk_wr, r_gn_wr, r_gr_wa, r_gl_wa, r_gk_wa, r_gn_wa, aa_e, as_e, al_e, u_lt, u_le, u_gt, u_ge, u_lt0, u_le0, u_gt0, u_ge0, Classical.not_not, not_true_eq_false, not_false_eq_true, oi_n, oi_m, n_dec, nI_add, pk_mul, n_sub, n_eq, n_le, n_lt, n_eq0, n_lt0, n_le0, n_0lt, n_0le, n_eqm, m_eqn, n_ltm, n_and, n_or, n_xor, n_shl, n_shr, tb1, tb0, bP_1, bP_0, bP_n0, ix_n, inb_n, u_eq, u_eqm, k20 L, f20_1 L, k34 L, k34 LH, k20 LH, ct.1, as4, Nat.add_sub_cancel]
    refine ⟨⟨4, 4, rfl, by decide, by decide, of_eq_true (inb_n (show s 107 19 < 4 by omega) (by omega)), ok⟩, ?_⟩
    obtain ⟨H2, e2⟩ : ∃ H2, H2 = wi (wr H 34 (s 107 19) (some b)) 20 13 (nI (s 107 19 + 1)) := ⟨_, rfl⟩
    rw [← e2]
    have F5 : Fg (fun a => a = 20) (fun a j => a = 34 ∧ j = s 107 19) H H2 := by
      rw [e2]
      exact ((Fg.wr H 34 (s 107 19) (some b)).mono (fun a _ q => q.elim) (fun a j _ y => y)).trans (((Fp.refl (fun a => a = 20) (wr H 34 (s 107 19) (some b))).wi rfl _ _).fg.mono (fun a _ q => q) (fun a j _ y => y.elim))
    have F6 := (FA.mono (X2 := fun a => a = 20) (Y2 := fun a j => a = 34 ∧ j = s 107 19) (fun a _ q => q.elim) (fun a j _ y => y.elim)).trans F5
    have gi2 : ∀ a, a ≠ 20 → gi H2 a = gi H a := fun a q => by
      rw [e2]
      funext j
      rw [r_wi_ne _ _ _ _ q]
      rfl
    have J := ci_matter (H := H2) W I hC hb.symm F6 (fun k hk => by rw [e2, r_wi_nj _ _ _ hk]; exact congrFun (FA.2.2.1 20 (by omega) id) k) (by rw [e2, r_wi_eq]) (by rw [e2]; exact r_wr_eq _ _ _ _) (F5.ma M (fun a j y => by omega)) ⟨by rw [gi2 b (by omega)]; exact c1.1, by rw [gi2 b (by omega)]; exact c1.2.1, by rw [gi2 b (by omega)]; exact c1.2.2.1, by rw [gi2 b (by omega)]; exact c1.2.2.2.1, by rw [F5.2.2.2 b 10 (by omega) (fun y => by omega)]; exact c1.2.2.2.2⟩ (fun x hx => by rw [gi2 _ (by omega)]; exact c2 x hx) (fun e he => by rw [gi2 (b + 1) (by omega), gi2 (b + 2) (by omega)]; exact c3 e he) (fun e q he hq => by rw [gi2 _ (by omega)]; exact c4 e q he hq)
    exact lzJ r_T_matter hC rfl (frc_fg F6 g (fun a q => by rw [e2]; exact glA a q) (fun a q => by unfold clR; omega) (fun a j y => by unfold clR; omega)) J
  rcases Nat.lt_or_ge p 2147483648 with p1 | p1
  · rcases Nat.lt_or_ge w 2147483648 with w1 | w1
    · refine hP.1 _ _ s_T_matter_0 _ _ _ _ _ ?_
      simp (maxSteps := 1000000) (disch := omega) only [g_T_matter_0, slk, List.map_cons, List.map_nil, List.sum_cons, List.sum_nil, vc_i, vc_r, vc_n, vc_l, vc_o, Nat.add_zero, kO_e, kA_e, hdO_a, eq_self, blk, stp, lg, ls0, lk, ls1, ls2, kI_i, kL_l, kR_r, kR_n, kR_o, s1I_i, s2I_i, s1L_l, s2L_l, s1R_r, s1R_n, s1R_o, s1A_a, cmpc, popn, swt, rf_s, rf_n, cat_i, cat_r, cat_n, cat_l, true_and, and_true, List.length_cons, List.length_nil, Nat.zero_add, Int.reduceToNat, Nat.reduceAdd, Nat.reduceDiv, Nat.reduceMod, Nat.reduceMul, Nat.reduceSub, Nat.reduceLeDiff, Nat.reduceLT, Nat.reduceEqDiff, ↓reduceIte, r_gr_wi, r_gl_wi, r_gk_wi, r_gn_wi, r_wi_eq, r_wi_ne, r_wi_nj, r_gi_wr, r_gl_wr, r_gk_wr, r_gn_wr, r_gr_wa, r_gl_wa, r_gk_wa, r_gn_wa, aa_e, as_e, al_e, u_lt, u_le, u_gt, u_ge, u_lt0, u_le0, u_gt0, u_ge0, Classical.not_not, not_true_eq_false, not_false_eq_true, oi_n, oi_m, n_dec, nI_add, pk_mul, n_sub, n_eq, n_le, n_lt, n_eq0, n_lt0, n_le0, n_0lt, n_0le, n_eqm, m_eqn, n_ltm, n_and, n_or, n_xor, n_shl, n_shr, tb1, tb0, bP_1, bP_0, bP_n0, ix_n, inb_n, u_eq, u_eqm]
      refine ⟨fun z => no (fun y => by have := y.2.1; omega), fun z => ?_⟩
      refine hP.1 _ _ s_T_matter_5 _ _ _ _ _ ?_
      simp (maxSteps := 1000000) (disch := omega) only [g_T_matter_5, slk, List.map_cons, List.map_nil, List.sum_cons, List.sum_nil, vc_i, vc_r, vc_n, vc_l, vc_o, Nat.add_zero, kO_e, kA_e, hdO_a, eq_self, blk, stp, lg, ls0, lk, ls1, ls2, kI_i, kL_l, kR_r, kR_n, kR_o, s1I_i, s2I_i, s1L_l, s2L_l, s1R_r, s1R_n, s1R_o, s1A_a, cmpc, popn, swt, rf_s, rf_n, cat_i, cat_r, cat_n, cat_l, true_and, and_true, List.length_cons, List.length_nil, Nat.zero_add, Int.reduceToNat, Nat.reduceAdd, Nat.reduceDiv, Nat.reduceMod, Nat.reduceMul, Nat.reduceSub, Nat.reduceLeDiff, Nat.reduceLT, Nat.reduceEqDiff, ↓reduceIte, r_gr_wi, r_gl_wi, r_gk_wi, r_gn_wi, r_wi_eq, r_wi_ne, r_wi_nj, r_gi_wr, r_gl_wr, r_gk_wr, r_gn_wr, r_gr_wa, r_gl_wa, r_gk_wa, r_gn_wa, aa_e, as_e, al_e, u_lt, u_le, u_gt, u_ge, u_lt0, u_le0, u_gt0, u_ge0, Classical.not_not, not_true_eq_false, not_false_eq_true, oi_n, oi_m, n_dec, nI_add, pk_mul, n_sub, n_eq, n_le, n_lt, n_eq0, n_lt0, n_le0, n_0lt, n_0le, n_eqm, m_eqn, n_ltm, n_and, n_or, n_xor, n_shl, n_shr, tb1, tb0, bP_1, bP_0, bP_n0, ix_n, inb_n, u_eq, u_eqm]
      refine ⟨fun z2 => no (fun y => by have := y.2.1; omega), fun z2 => ?_⟩
      refine hP.1 _ _ s_T_matter_10 _ _ _ _ _ ?_
      simp (maxSteps := 1000000) (disch := omega) only [g_T_matter_10, slk, List.map_cons, List.map_nil, List.sum_cons, List.sum_nil, vc_i, vc_r, vc_n, vc_l, vc_o, Nat.add_zero, kO_e, kA_e, hdO_a, eq_self, blk, stp, lg, ls0, lk, ls1, ls2, kI_i, kL_l, kR_r, kR_n, kR_o, s1I_i, s2I_i, s1L_l, s2L_l, s1R_r, s1R_n, s1R_o, s1A_a, cmpc, popn, swt, rf_s, rf_n, cat_i, cat_r, cat_n, cat_l, true_and, and_true, List.length_cons, List.length_nil, Nat.zero_add, Int.reduceToNat, Nat.reduceAdd, Nat.reduceDiv, Nat.reduceMod, Nat.reduceMul, Nat.reduceSub, Nat.reduceLeDiff, Nat.reduceLT, Nat.reduceEqDiff, ↓reduceIte, r_gr_wi, r_gl_wi, r_gk_wi, r_gn_wi, r_wi_eq, r_wi_ne, r_wi_nj, r_gi_wr, r_gl_wr, r_gk_wr, r_gn_wr, r_gr_wa, r_gl_wa, r_gk_wa, r_gn_wa, aa_e, as_e, al_e, u_lt, u_le, u_gt, u_ge, u_lt0, u_le0, u_gt0, u_ge0, Classical.not_not, not_true_eq_false, not_false_eq_true, oi_n, oi_m, n_dec, nI_add, pk_mul, n_sub, n_eq, n_le, n_lt, n_eq0, n_lt0, n_le0, n_0lt, n_0le, n_eqm, m_eqn, n_ltm, n_and, n_or, n_xor, n_shl, n_shr, tb1, tb0, bP_1, bP_0, bP_n0, ix_n, inb_n, u_eq, u_eqm]
      refine ⟨fun z3 => no (fun y => by have := y.2.2; omega), fun z3 => ?_⟩
      refine hP.1 _ _ s_T_matter_15 _ _ _ _ _ ?_
      simp (maxSteps := 1000000) (disch := omega) only [g_T_matter_15, slk, List.map_cons, List.map_nil, List.sum_cons, List.sum_nil, vc_i, vc_r, vc_n, vc_l, vc_o, Nat.add_zero, kO_e, kA_e, hdO_a, eq_self, blk, stp, lg, ls0, lk, ls1, ls2, kI_i, kL_l, kR_r, kR_n, kR_o, s1I_i, s2I_i, s1L_l, s2L_l, s1R_r, s1R_n, s1R_o, s1A_a, cmpc, popn, swt, rf_s, rf_n, cat_i, cat_r, cat_n, cat_l, true_and, and_true, List.length_cons, List.length_nil, Nat.zero_add, Int.reduceToNat, Nat.reduceAdd, Nat.reduceDiv, Nat.reduceMod, Nat.reduceMul, Nat.reduceSub, Nat.reduceLeDiff, Nat.reduceLT, Nat.reduceEqDiff, ↓reduceIte, r_gr_wi, r_gl_wi, r_gk_wi, r_gn_wi, r_wi_eq, r_wi_ne, r_wi_nj, r_gi_wr, r_gl_wr, r_gk_wr, r_gn_wr, r_gr_wa, r_gl_wa, r_gk_wa, r_gn_wa, aa_e, as_e, al_e, u_lt, u_le, u_gt, u_ge, u_lt0, u_le0, u_gt0, u_ge0, Classical.not_not, not_true_eq_false, not_false_eq_true, oi_n, oi_m, n_dec, nI_add, pk_mul, n_sub, n_eq, n_le, n_lt, n_eq0, n_lt0, n_le0, n_0lt, n_0le, n_eqm, m_eqn, n_ltm, n_and, n_or, n_xor, n_shl, n_shr, tb1, tb0, bP_1, bP_0, bP_n0, ix_n, inb_n, u_eq, u_eqm]
      refine ⟨fun z4 => no (fun y => by have := y.2.2; omega), fun z4 => ?_⟩
      refine hP.1 _ _ s_T_matter_20 _ _ _ _ _ ?_
      simp (maxSteps := 1000000) (disch := omega) only [g_T_matter_20, slk, List.map_cons, List.map_nil, List.sum_cons, List.sum_nil, vc_i, vc_r, vc_n, vc_l, vc_o, Nat.add_zero, kO_e, kA_e, hdO_a, eq_self, blk, stp, lg, ls0, lk, ls1, ls2, kI_i, kL_l, kR_r, kR_n, kR_o, s1I_i, s2I_i, s1L_l, s2L_l, s1R_r, s1R_n, s1R_o, s1A_a, cmpc, popn, swt, rf_s, rf_n, cat_i, cat_r, cat_n, cat_l, true_and, and_true, List.length_cons, List.length_nil, Nat.zero_add, Int.reduceToNat, Nat.reduceAdd, Nat.reduceDiv, Nat.reduceMod, Nat.reduceMul, Nat.reduceSub, Nat.reduceLeDiff, Nat.reduceLT, Nat.reduceEqDiff, ↓reduceIte, r_gr_wi, r_gl_wi, r_gk_wi, r_gn_wi, r_wi_eq, r_wi_ne, r_wi_nj, r_gi_wr, r_gl_wr, r_gk_wr, r_gn_wr, r_gr_wa, r_gl_wa, r_gk_wa, r_gn_wa, aa_e, as_e, al_e, u_lt, u_le, u_gt, u_ge, u_lt0, u_le0, u_gt0, u_ge0, Classical.not_not, not_true_eq_false, not_false_eq_true, oi_n, oi_m, n_dec, nI_add, pk_mul, n_sub, n_eq, n_le, n_lt, n_eq0, n_lt0, n_le0, n_0lt, n_0le, n_eqm, m_eqn, n_ltm, n_and, n_or, n_xor, n_shl, n_shr, tb1, tb0, bP_1, bP_0, bP_n0, ix_n, inb_n, u_eq, u_eqm, k20 L, (ci_ct I).1]
      exact ⟨fun z5 => go ⟨by omega, ⟨by omega, by omega⟩, ⟨by omega, by omega⟩⟩, fun z5 => no (fun y => y.1 (by omega))⟩
    · refine hP.1 _ _ s_T_matter_0 _ _ _ _ _ ?_
      simp (maxSteps := 1000000) (disch := omega) only [g_T_matter_0, slk, List.map_cons, List.map_nil, List.sum_cons, List.sum_nil, vc_i, vc_r, vc_n, vc_l, vc_o, Nat.add_zero, kO_e, kA_e, hdO_a, eq_self, blk, stp, lg, ls0, lk, ls1, ls2, kI_i, kL_l, kR_r, kR_n, kR_o, s1I_i, s2I_i, s1L_l, s2L_l, s1R_r, s1R_n, s1R_o, s1A_a, cmpc, popn, swt, rf_s, rf_n, cat_i, cat_r, cat_n, cat_l, true_and, and_true, List.length_cons, List.length_nil, Nat.zero_add, Int.reduceToNat, Nat.reduceAdd, Nat.reduceDiv, Nat.reduceMod, Nat.reduceMul, Nat.reduceSub, Nat.reduceLeDiff, Nat.reduceLT, Nat.reduceEqDiff, ↓reduceIte, r_gr_wi, r_gl_wi, r_gk_wi, r_gn_wi, r_wi_eq, r_wi_ne, r_wi_nj, r_gi_wr, r_gl_wr, r_gk_wr, r_gn_wr, r_gr_wa, r_gl_wa, r_gk_wa, r_gn_wa, aa_e, as_e, al_e, u_lt, u_le, u_gt, u_ge, u_lt0, u_le0, u_gt0, u_ge0, Classical.not_not, not_true_eq_false, not_false_eq_true, oi_n, oi_m, n_dec, nI_add, pk_mul, n_sub, n_eq, n_le, n_lt, n_eq0, n_lt0, n_le0, n_0lt, n_0le, n_eqm, m_eqn, n_ltm, n_and, n_or, n_xor, n_shl, n_shr, tb1, tb0, bP_1, bP_0, bP_n0, ix_n, inb_n, u_eq, u_eqm]
      refine ⟨fun z => no (fun y => by have := y.2.1; omega), fun z => ?_⟩
      refine hP.1 _ _ s_T_matter_5 _ _ _ _ _ ?_
      simp (maxSteps := 1000000) (disch := omega) only [g_T_matter_5, slk, List.map_cons, List.map_nil, List.sum_cons, List.sum_nil, vc_i, vc_r, vc_n, vc_l, vc_o, Nat.add_zero, kO_e, kA_e, hdO_a, eq_self, blk, stp, lg, ls0, lk, ls1, ls2, kI_i, kL_l, kR_r, kR_n, kR_o, s1I_i, s2I_i, s1L_l, s2L_l, s1R_r, s1R_n, s1R_o, s1A_a, cmpc, popn, swt, rf_s, rf_n, cat_i, cat_r, cat_n, cat_l, true_and, and_true, List.length_cons, List.length_nil, Nat.zero_add, Int.reduceToNat, Nat.reduceAdd, Nat.reduceDiv, Nat.reduceMod, Nat.reduceMul, Nat.reduceSub, Nat.reduceLeDiff, Nat.reduceLT, Nat.reduceEqDiff, ↓reduceIte, r_gr_wi, r_gl_wi, r_gk_wi, r_gn_wi, r_wi_eq, r_wi_ne, r_wi_nj, r_gi_wr, r_gl_wr, r_gk_wr, r_gn_wr, r_gr_wa, r_gl_wa, r_gk_wa, r_gn_wa, aa_e, as_e, al_e, u_lt, u_le, u_gt, u_ge, u_lt0, u_le0, u_gt0, u_ge0, Classical.not_not, not_true_eq_false, not_false_eq_true, oi_n, oi_m, n_dec, nI_add, pk_mul, n_sub, n_eq, n_le, n_lt, n_eq0, n_lt0, n_le0, n_0lt, n_0le, n_eqm, m_eqn, n_ltm, n_and, n_or, n_xor, n_shl, n_shr, tb1, tb0, bP_1, bP_0, bP_n0, ix_n, inb_n, u_eq, u_eqm]
      refine ⟨fun z2 => no (fun y => by have := y.2.1; omega), fun z2 => ?_⟩
      refine hP.1 _ _ s_T_matter_10 _ _ _ _ _ ?_
      simp (maxSteps := 1000000) (disch := omega) only [g_T_matter_10, slk, List.map_cons, List.map_nil, List.sum_cons, List.sum_nil, vc_i, vc_r, vc_n, vc_l, vc_o, Nat.add_zero, kO_e, kA_e, hdO_a, eq_self, blk, stp, lg, ls0, lk, ls1, ls2, kI_i, kL_l, kR_r, kR_n, kR_o, s1I_i, s2I_i, s1L_l, s2L_l, s1R_r, s1R_n, s1R_o, s1A_a, cmpc, popn, swt, rf_s, rf_n, cat_i, cat_r, cat_n, cat_l, true_and, and_true, List.length_cons, List.length_nil, Nat.zero_add, Int.reduceToNat, Nat.reduceAdd, Nat.reduceDiv, Nat.reduceMod, Nat.reduceMul, Nat.reduceSub, Nat.reduceLeDiff, Nat.reduceLT, Nat.reduceEqDiff, ↓reduceIte, r_gr_wi, r_gl_wi, r_gk_wi, r_gn_wi, r_wi_eq, r_wi_ne, r_wi_nj, r_gi_wr, r_gl_wr, r_gk_wr, r_gn_wr, r_gr_wa, r_gl_wa, r_gk_wa, r_gn_wa, aa_e, as_e, al_e, u_lt, u_le, u_gt, u_ge, u_lt0, u_le0, u_gt0, u_ge0, Classical.not_not, not_true_eq_false, not_false_eq_true, oi_n, oi_m, n_dec, nI_add, pk_mul, n_sub, n_eq, n_le, n_lt, n_eq0, n_lt0, n_le0, n_0lt, n_0le, n_eqm, m_eqn, n_ltm, n_and, n_or, n_xor, n_shl, n_shr, tb1, tb0, bP_1, bP_0, bP_n0, ix_n, inb_n, u_eq, u_eqm]
      exact ⟨fun _ => no (fun y => by have := y.2.2; omega), fun z => (by first | exact z.elim | cases z | exact absurd rfl z | exact absurd trivial z | exact absurd id z | (exfalso; omega))⟩
  · refine hP.1 _ _ s_T_matter_0 _ _ _ _ _ ?_
    simp (maxSteps := 1000000) (disch := omega) only [g_T_matter_0, slk, List.map_cons, List.map_nil, List.sum_cons, List.sum_nil, vc_i, vc_r, vc_n, vc_l, vc_o, Nat.add_zero, kO_e, kA_e, hdO_a, eq_self, blk, stp, lg, ls0, lk, ls1, ls2, kI_i, kL_l, kR_r, kR_n, kR_o, s1I_i, s2I_i, s1L_l, s2L_l, s1R_r, s1R_n, s1R_o, s1A_a, cmpc, popn, swt, rf_s, rf_n, cat_i, cat_r, cat_n, cat_l, true_and, and_true, List.length_cons, List.length_nil, Nat.zero_add, Int.reduceToNat, Nat.reduceAdd, Nat.reduceDiv, Nat.reduceMod, Nat.reduceMul, Nat.reduceSub, Nat.reduceLeDiff, Nat.reduceLT, Nat.reduceEqDiff, ↓reduceIte, r_gr_wi, r_gl_wi, r_gk_wi, r_gn_wi, r_wi_eq, r_wi_ne, r_wi_nj, r_gi_wr, r_gl_wr, r_gk_wr, r_gn_wr, r_gr_wa, r_gl_wa, r_gk_wa, r_gn_wa, aa_e, as_e, al_e, u_lt, u_le, u_gt, u_ge, u_lt0, u_le0, u_gt0, u_ge0, Classical.not_not, not_true_eq_false, not_false_eq_true, oi_n, oi_m, n_dec, nI_add, pk_mul, n_sub, n_eq, n_le, n_lt, n_eq0, n_lt0, n_le0, n_0lt, n_0le, n_eqm, m_eqn, n_ltm, n_and, n_or, n_xor, n_shl, n_shr, tb1, tb0, bP_1, bP_0, bP_n0, ix_n, inb_n, u_eq, u_eqm]
    exact ⟨fun _ => no (fun y => by have := y.2.1; omega), fun z => (by first | exact z.elim | cases z | exact absurd rfl z | exact absurd trivial z | exact absurd id z | (exfalso; omega))⟩
end
