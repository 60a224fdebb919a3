/-! ===== what a method changes: fields os of the reference's object, arrays as ===== -/
theorem ah_gi {h h' : AH} (e1 : gi h = gi h') (e2 : h.2 = h'.2) : h = h' := by
  obtain ⟨a, b⟩ := h
  obtain ⟨a', b'⟩ := h'
  cases e1
  cases e2
  rfl
def xs (os as : List Nat) (a j : Nat) : Bool := if a = 107 then os.contains j else as.contains a
def Fx (os as : List Nat) (h h' : AH) : Prop := h'.2 = h.2 ∧ ∀ a j, xs os as a j = false → gi h' a j = gi h a j
def okx (os as : List Nat) : Bool := os.all (fun j => !persO.contains j) && as.all (fun a => !persA.contains a)
theorem okx_p {os as : List Nat} (h : okx os as = true) (a j : Nat) (hp : pers a j = true) : xs os as a j = false := by
  unfold okx at h
  simp only [Bool.and_eq_true, List.all_eq_true, Bool.not_eq_true'] at h
  unfold xs
  unfold pers at hp
  split
  · rename_i e
    rw [if_pos e] at hp
    cases q : os.contains j with
    | false => rfl
    | true =>
      have := h.1 j (List.contains_iff_mem.mp q)
      rw [hp] at this
      cases this
  · rename_i e
    rw [if_neg e] at hp
    cases q : as.contains a with
    | false => rfl
    | true =>
      have := h.2 a (List.contains_iff_mem.mp q)
      rw [hp] at this
      cases this
theorem Fx.gk {os as : List Nat} {h h' : AH} (F : Fx os as h h') : gk h' = gk h := congrArg (fun q => q.2.2.1) F.1
theorem Fx.gr {os as : List Nat} {h h' : AH} (F : Fx os as h h') : gr h' = gr h := congrArg (fun q => q.1) F.1
theorem Fx.gn {os as : List Nat} {h h' : AH} (F : Fx os as h h') : gn h' = gn h := congrArg (fun q => q.2.2.2) F.1
theorem Fx.gl {os as : List Nat} {h h' : AH} (F : Fx os as h h') : gl h' = gl h := congrArg (fun q => q.2.1) F.1
theorem Fx.lay {os as : List Nat} {h h' : AH} (F : Fx os as h h') (L : Lay h) : Lay h' := by
  refine ⟨fun q hq => ?_, fun q hq => ?_, ?_⟩
  · rw [F.gk]
    exact L.1 q hq
  · rw [F.gr]
    exact L.2.1 q hq
  · rw [F.gn]
    exact L.2.2
theorem Fx.rw {os as : List Nat} {h h' : AH} (F : Fx os as h h') {s : St} (W : RH h s) (hx : okx os as = true) : RH h' s :=
  ⟨F.lay W.1, fun a j hp => (F.2 a j (okx_p hx a j hp)).trans (W.2.1 a j hp), W.2.2⟩
theorem Fx.refl (os as : List Nat) (h : AH) : Fx os as h h := ⟨rfl, fun _ _ _ => rfl⟩
theorem xs_sub {os as os' as' : List Nat} (h : (os.all (fun j => os'.contains j) && as.all (fun a => as'.contains a)) = true) {a j : Nat} (q : xs os' as' a j = false) : xs os as a j = false := by
  simp only [Bool.and_eq_true, List.all_eq_true] at h
  unfold xs at q ⊢
  split
  · rename_i e
    rw [if_pos e] at q
    cases z : os.contains j with
    | false => rfl
    | true =>
      rw [h.1 j (List.contains_iff_mem.mp z)] at q
      cases q
  · rename_i e
    rw [if_neg e] at q
    cases z : as.contains a with
    | false => rfl
    | true =>
      rw [h.2 a (List.contains_iff_mem.mp z)] at q
      cases q
theorem Fx.mono {os as : List Nat} {h h' : AH} (F : Fx os as h h') {os' as' : List Nat} (hx : (os.all (fun j => os'.contains j) && as.all (fun a => as'.contains a)) = true) : Fx os' as' h h' :=
  ⟨F.1, fun a j q => F.2 a j (xs_sub hx q)⟩
theorem Fx.trans {os as : List Nat} {h h' h2 : AH} (F : Fx os as h h') (F2 : Fx os as h' h2) : Fx os as h h2 :=
  ⟨F2.1.trans F.1, fun a j q => (F2.2 a j q).trans (F.2 a j q)⟩
theorem Fx.wi {os as : List Nat} {h h' : AH} (F : Fx os as h h') {a k : Nat} (v : Int32) (hx : xs os as a k = true) : Fx os as h (wi h' a k v) := by
  refine ⟨F.1, fun b j q => ?_⟩
  rw [r_gi_wi]
  split
  · rename_i e
    subst e
    split
    · rename_i e
      subst e
      rw [hx] at q
      cases q
    · exact F.2 _ _ q
  · exact F.2 _ _ q
theorem Fx.wa {os as : List Nat} {h h' : AH} (F : Fx os as h h') {a : Nat} (f : Nat → Int32) (hx : ∀ k, xs os as a k = true) : Fx os as h (wa h' a f) := by
  refine ⟨F.1, fun b j q => ?_⟩
  rw [r_gi_wa]
  split
  · rename_i e
    subst e
    rw [hx] at q
    cases q
  · exact F.2 _ _ q
theorem wa_wi (h : AH) (a k : Nat) (f : Nat → Int32) (v : Int32) : wi (wa h a f) a k v = wa h a (up f k v) := by
  have e1 : gi (wa h a f) = up (gi h) a f := rfl
  have e2 : up (up (gi h) a f) a (up (up (gi h) a f a) k v) = up (gi h) a (up f k v) := by
    funext b j
    unfold up
    by_cases e : b = a
    · simp [e]
    · simp [e]
  exact congrArg (fun g => ((g, h.2) : AH)) e2
theorem wa_at (h : AH) (a : Nat) {f : Nat → Int32} (e : ∀ j, f j = gi h a j) : wa h a f = h := by
  have e2 : up (gi h) a f = gi h := by
    funext b j
    unfold up
    by_cases q : b = a
    · subst q
      simp [e]
    · simp [q]
  exact congrArg (fun g => ((g, h.2) : AH)) e2
theorem rw_wa {h : AH} {s : St} (W : RH h s) {a : Nat} {f : Nat → Int32} (hp : ∀ k, pers a k = false) : RH (wa h a f) s := by
  refine ⟨W.1, fun b j hb => ?_, W.2.2⟩
  rw [r_gi_wa]
  split
  · rename_i e
    subst e
    rw [hp] at hb
    cases hb
  · exact W.2.1 _ _ hb
/-- a lasting cell that gets its own value again -/
theorem rw_sm {h : AH} {s : St} (W : RH h s) {a k : Nat} {v : Int32} (hv : gi h a k = v) : RH (wi h a k v) s := by
  refine ⟨W.1, fun b j hb => ?_, W.2.2⟩
  rw [r_gi_wi]
  split
  · rename_i e
    subst e
    split
    · rename_i e
      subst e
      rw [← hv]
      exact W.2.1 _ _ hb
    · exact W.2.1 _ _ hb
  · exact W.2.1 _ _ hb
/-! ===== who sits where ===== -/
def ageL (s : St) (n o : Nat) : List Nat := (List.range n).filter (fun e => s 108 e == o && s 111 e == 0)
def seU (s : St) (o : Nat) : List Nat := (List.range o).flatMap (fun i => ageL s (s 107 18) (20 + i))
def seatsL (s : St) : List Nat := seU s 80
theorem seU_succ (s : St) (o : Nat) : seU s (o + 1) = seU s o ++ ageL s (s 107 18) (20 + o) := by
  unfold seU
  rw [List.range_succ, List.flatMap_append]
  simp
theorem ageL_succ (s : St) (n o : Nat) : ageL s (n + 1) o = ageL s n o ++ (if s 108 n = o ∧ s 111 n = 0 then [n] else []) := by
  unfold ageL
  rw [List.range_succ, List.filter_append]
  congr 1
  by_cases h : s 108 n = o ∧ s 111 n = 0
  · rw [if_pos h]
    simp [h.1, h.2]
  · rw [if_neg h]
    simp only [List.filter_cons, List.filter_nil]
    rw [if_neg]
    simp only [Bool.and_eq_true, beq_iff_eq]
    exact h
theorem mem_ageL {s : St} {n o e : Nat} : e ∈ ageL s n o ↔ e < n ∧ s 108 e = o ∧ s 111 e = 0 := by
  unfold ageL
  simp [List.mem_filter]
theorem mem_seU {s : St} {o e : Nat} : e ∈ seU s o ↔ e < s 107 18 ∧ 20 ≤ s 108 e ∧ s 108 e < 20 + o ∧ s 111 e = 0 := by
  unfold seU
  simp only [List.mem_flatMap, List.mem_range, mem_ageL]
  constructor
  · rintro ⟨i, hi, a, b, c⟩
    exact ⟨a, by omega, by omega, c⟩
  · rintro ⟨a, b, c, q⟩
    exact ⟨s 108 e - 20, by omega, a, by omega, q⟩
theorem nd_len : ∀ (n : Nat) (l : List Nat), l.Nodup → (∀ x ∈ l, x < n) → l.length ≤ n := by
  intro n
  induction n with
  | zero =>
    intro l _ h
    cases l with
    | nil => exact Nat.le_refl _
    | cons a l => exact absurd (h a List.mem_cons_self) (Nat.not_lt_zero _)
  | succ n ih =>
    intro l hn h
    have h1 := ih (l.erase n) (hn.erase n) (fun x hx => by
      have h2 := (hn.mem_erase_iff).mp hx
      have := h x h2.2
      have := h2.1
      omega)
    have := List.length_erase (a := n) (l := l)
    split at this <;> omega
theorem ageL_nd (s : St) (n o : Nat) : (ageL s n o).Nodup := List.nodup_range.filter _
theorem sl_nd0 {s : St} {o : Nat} (h : (seU s o).Nodup) (e : Nat) : (seU s o ++ ageL s e (20 + o)).Nodup := by
  rw [List.nodup_append]
  refine ⟨h, ageL_nd _ _ _, ?_⟩
  intro x hx y hy e
  subst e
  have h1 := mem_seU.mp hx
  have h2 := mem_ageL.mp hy
  omega
theorem seU_nd (s : St) : ∀ o, (seU s o).Nodup := by
  intro o
  induction o with
  | zero => simp [seU]
  | succ o ih =>
    rw [seU_succ]
    exact sl_nd0 ih _
theorem sl_nd (s : St) (o e : Nat) : (seU s o ++ ageL s e (20 + o)).Nodup := sl_nd0 (seU_nd s o) e
theorem seats_lt {s : St} {e : Nat} (h : e ∈ seatsL s) : e < s 107 18 := (mem_seU.mp h).1
theorem seats_len {h : AH} {s : St} (W : RH h s) : (seatsL s).length ≤ s 107 18 := nd_len _ _ (seU_nd s 80) (fun _ hx => seats_lt hx)
theorem mem_seats {h : AH} {s : St} (W : RH h s) {e : Nat} : e ∈ seatsL s ↔ e < s 107 18 ∧ s 111 e = 0 := by
  constructor
  · intro q
    have := mem_seU.mp q
    exact ⟨this.1, this.2.2.2⟩
  · intro q
    have := rs_age W q.1
    exact mem_seU.mpr ⟨q.1, by omega, by omega, q.2⟩
/-- the seats so far: as a list -/
def hL (h : AH) (L : List Nat) : AH := wi (wa h 110 (fun j => if j < L.length then nI (L.getD j 0) else gi h 110 j)) 107 21 (nI L.length)
theorem hL_21 (h : AH) (L : List Nat) : gi (hL h L) 107 21 = nI L.length := rfl
theorem hL_110 (h : AH) (L : List Nat) (j : Nat) : gi (hL h L) 110 j = if j < L.length then nI (L.getD j 0) else gi h 110 j := by
  unfold hL
  rw [r_gi_wi, if_neg (by decide), r_gi_wa, if_pos rfl]
theorem hL_o (h : AH) (L : List Nat) {a j : Nat} (q : xs [21] [110] a j = false) : gi (hL h L) a j = gi h a j := by
  have F : Fx [21] [110] h (hL h L) := (((Fx.refl [21] [110] h).wa _ (fun _ => rfl)).wi _ rfl)
  exact F.2 a j q
theorem hL_fx (h : AH) (L : List Nat) : Fx [21] [110] h (hL h L) := (((Fx.refl [21] [110] h).wa _ (fun _ => rfl)).wi _ rfl)
theorem hL_gk (h : AH) (L : List Nat) : gk (hL h L) = gk h := rfl
theorem hL_gr (h : AH) (L : List Nat) : gr (hL h L) = gr h := rfl
theorem hL_0 (h : AH) : wi h 107 21 (nI 0) = hL h [] := by
  unfold hL
  rw [wa_at]
  · rfl
  · intro j
    rfl
theorem hL_app (h : AH) (L : List Nat) (e : Nat) : wi (wi (hL h L) 110 L.length (nI e)) 107 21 (nI (L.length + 1)) = hL h (L ++ [e]) := by
  refine ah_gi ?_ rfl
  funext a j
  unfold hL
  simp only [r_gi_wi, r_gi_wa, List.length_append, List.length_cons, List.length_nil, List.getD_eq_getElem?_getD]
  by_cases ha : a = 107
  · subst ha
    by_cases hj : j = 21
    · simp [hj]
    · simp [hj]
  · by_cases hb : a = 110
    · subst hb
      by_cases hj : j = L.length
      · subst hj
        simp
      · by_cases hj2 : j < L.length
        · simp [hj, hj2, List.getElem?_append_left hj2, Nat.lt_succ_of_lt hj2]
        · have : ¬ j < L.length + 1 := by omega
          simp [hj, hj2, this]
    · simp [ha, hb]
theorem n_R_sit : mN 57 = 1 := rfl
theorem l_R_sit : mL 57 = 3 := rfl
theorem r_R_sit : mR 57 = none := rfl
theorem n_R_place : mN 58 = 2 := rfl
theorem l_R_place : mL 58 = 2 := rfl
theorem r_R_place : mR 58 = some .int := rfl
theorem n_R_allBear : mN 115 = 3 := rfl
theorem l_R_allBear : mL 115 = 4 := rfl
theorem r_R_allBear : mR 115 = some .boolean := rfl
theorem n_R_isOpen : mN 128 = 4 := rfl
theorem l_R_isOpen : mL 128 = 7 := rfl
theorem r_R_isOpen : mR 128 = some .boolean := rfl
theorem n_R_isBetter : mN 129 = 2 := rfl
theorem l_R_isBetter : mL 129 = 3 := rfl
theorem r_R_isBetter : mR 129 = some .boolean := rfl
theorem n_R_all : mN 125 = 3 := rfl
theorem l_R_all : mL 125 = 5 := rfl
theorem r_R_all : mR 125 = some .int := rfl
theorem n_R_barred : mN 130 = 2 := rfl
theorem l_R_barred : mL 130 = 5 := rfl
theorem r_R_barred : mR 130 = some .int := rfl
theorem n_R_open : mN 131 = 2 := rfl
theorem l_R_open : mL 131 = 4 := rfl
theorem r_R_open : mR 131 = some .int := rfl
theorem n_R_layLosses : mN 126 = 3 := rfl
theorem l_R_layLosses : mL 126 = 6 := rfl
theorem r_R_layLosses : mR 126 = none := rfl
theorem n_R_fair : mN 127 = 2 := rfl
theorem l_R_fair : mL 127 = 6 := rfl
theorem r_R_fair : mR 127 = some .int := rfl
section
variable {d : Nat} {h : AH} {s : St}
theorem c_R_sit (W : RH h s) : Mz (d + 1) 57 [.ref 107] h 0 0 (Rv (hL h (seatsL s))) := by
  have h1 := rs_e W
  have W1 : ∀ L, RH (hL h L) s := fun L => (hL_fx h L).rw W rfl
  refine mz_in (l := [some (.ref 107), none, none]) mk_R_sit n_R_sit rfl l_R_sit rfl (Nat.le_of_ble_eq_true rfl) fun P hP => ?_
  have outer : ∀ n o, o + n = 80 → P 8 [some (.ref 107), some (.int (nI (20 + o))), none] [] (hL h (seU s o)) 0 0 := by
    intro n
    induction n using Nat.strongRecOn with
    | _ n ih =>
      intro o ho
      have inner : ∀ z e, o < 80 → e + z = s 107 18 → P 16 [some (.ref 107), some (.int (nI (20 + o))), some (.int (nI e))] [] (hL h (seU s o ++ ageL s e (20 + o))) 0 0 := by
        intro z
        induction z using Nat.strongRecOn with
        | _ z ih2 =>
          intro e ho2 he
          have WL := W1 (seU s o ++ ageL s e (20 + o))
          have nx0 : e < s 107 18 → ¬ (s 108 e = 20 + o ∧ s 111 e = 0) → P 66 [some (.ref 107), some (.int (nI (20 + o))), some (.int (nI e))] [] (hL h (seU s o ++ ageL s e (20 + o))) 0 0 := by
            intro a b
            refine hP.1 _ _ s_R_sit_66 _ _ _ _ _ ?_
            simp (disch := omega) only [g_R_sit_66, slk, List.map_cons, List.map_nil, List.sum_cons, List.sum_nil, vc_i, vc_r, vc_n, vc_l, vc_o, Nat.add_zero, kO_e, kA_e, hdO_a, eq_self, blk, stp, lg, ls0, lk, ls1, ls2, kI_i, kL_l, kR_r, kR_n, kR_o, s1I_i, s2I_i, s1L_l, s2L_l, s1R_r, s1R_n, s1R_o, s1A_a, cmpc, popn, swt, rf_s, rf_n, cat_i, cat_r, cat_n, cat_l, true_and, and_true, List.length_cons, List.length_nil, Nat.zero_add, Int.reduceToNat, Nat.reduceAdd, Nat.reduceDiv, Nat.reduceMod, Nat.reduceMul, Nat.reduceSub, Nat.reduceLeDiff, Nat.reduceLT, Nat.reduceEqDiff, reduceIte, r_gr_wi, r_gl_wi, r_gk_wi, r_gn_wi, r_gi_wi, r_gi_wr, r_gl_wr, r_gk_wr, r_gn_wr, r_gr_wa, r_gl_wa, r_gk_wa, r_gn_wa, u_lt, u_le, u_gt, u_ge, u_lt0, u_le0, u_gt0, u_ge0, Classical.not_not, not_true_eq_false, not_false_eq_true, oi_n, oi_m, n_dec, nI_add, pk_mul, n_sub, n_eq, n_le, n_lt, n_eq0, n_lt0, n_le0, n_0lt, n_0le, n_eqm, m_eqn, n_ltm, n_and, n_or, n_xor, n_shl, n_shr, tb1, tb0, bP_1, bP_0, bP_n0, ix_n, inb_n, u_eq, u_eqm, hL_21]
            have e1 : ageL s (e + 1) (20 + o) = ageL s e (20 + o) := by rw [ageL_succ, if_neg b, List.append_nil]
            have := ih2 (z - 1) (by omega) (e + 1) ho2 (by omega)
            rw [e1] at this
            exact this
          have nx1 : e < s 107 18 → (s 108 e = 20 + o ∧ s 111 e = 0) → P 46 [some (.ref 107), some (.int (nI (20 + o))), some (.int (nI e))] [] (hL h (seU s o ++ ageL s e (20 + o))) 0 0 := by
            intro a b
            have e1 : ageL s (e + 1) (20 + o) = ageL s e (20 + o) ++ [e] := by rw [ageL_succ, if_pos b]
            have e2 : seU s o ++ ageL s (e + 1) (20 + o) = (seU s o ++ ageL s e (20 + o)) ++ [e] := by rw [e1, List.append_assoc]
            have hnd2 := sl_nd s o (e + 1)
            have hlen := nd_len (s 107 18) _ hnd2 (fun x hx => by
              rcases List.mem_append.mp hx with q | q
              · exact (mem_seU.mp q).1
              · have := (mem_ageL.mp q).1
                omega)
            rw [e2, List.length_append] at hlen
            simp only [List.length_cons, List.length_nil] at hlen
            refine hP.1 _ _ s_R_sit_46 _ _ _ _ _ ?_
            simp (disch := omega) only [g_R_sit_46, slk, List.map_cons, List.map_nil, List.sum_cons, List.sum_nil, vc_i, vc_r, vc_n, vc_l, vc_o, Nat.add_zero, kO_e, kA_e, hdO_a, eq_self, blk, stp, lg, ls0, lk, ls1, ls2, kI_i, kL_l, kR_r, kR_n, kR_o, s1I_i, s2I_i, s1L_l, s2L_l, s1R_r, s1R_n, s1R_o, s1A_a, cmpc, popn, swt, rf_s, rf_n, cat_i, cat_r, cat_n, cat_l, true_and, and_true, List.length_cons, List.length_nil, Nat.zero_add, Int.reduceToNat, Nat.reduceAdd, Nat.reduceDiv, Nat.reduceMod, Nat.reduceMul, Nat.reduceSub, Nat.reduceLeDiff, Nat.reduceLT, Nat.reduceEqDiff, reduceIte, r_gr_wi, r_gl_wi, r_gk_wi, r_gn_wi, r_gi_wi, r_gi_wr, r_gl_wr, r_gk_wr, r_gn_wr, r_gr_wa, r_gl_wa, r_gk_wa, r_gn_wa, u_lt, u_le, u_gt, u_ge, u_lt0, u_le0, u_gt0, u_ge0, Classical.not_not, not_true_eq_false, not_false_eq_true, oi_n, oi_m, n_dec, nI_add, pk_mul, n_sub, n_eq, n_le, n_lt, n_eq0, n_lt0, n_le0, n_0lt, n_0le, n_eqm, m_eqn, n_ltm, n_and, n_or, n_xor, n_shl, n_shr, tb1, tb0, bP_1, bP_0, bP_n0, ix_n, inb_n, u_eq, u_eqm, k107 WL.1, f107_3 WL.1, k110 WL.1, hL_21]
            refine hP.1 _ _ s_R_sit_66 _ _ _ _ _ ?_
            simp (disch := omega) only [g_R_sit_66, slk, List.map_cons, List.map_nil, List.sum_cons, List.sum_nil, vc_i, vc_r, vc_n, vc_l, vc_o, Nat.add_zero, kO_e, kA_e, hdO_a, eq_self, blk, stp, lg, ls0, lk, ls1, ls2, kI_i, kL_l, kR_r, kR_n, kR_o, s1I_i, s2I_i, s1L_l, s2L_l, s1R_r, s1R_n, s1R_o, s1A_a, cmpc, popn, swt, rf_s, rf_n, cat_i, cat_r, cat_n, cat_l, true_and, and_true, List.length_cons, List.length_nil, Nat.zero_add, Int.reduceToNat, Nat.reduceAdd, Nat.reduceDiv, Nat.reduceMod, Nat.reduceMul, Nat.reduceSub, Nat.reduceLeDiff, Nat.reduceLT, Nat.reduceEqDiff, reduceIte, r_gr_wi, r_gl_wi, r_gk_wi, r_gn_wi, r_gi_wi, r_gi_wr, r_gl_wr, r_gk_wr, r_gn_wr, r_gr_wa, r_gl_wa, r_gk_wa, r_gn_wa, u_lt, u_le, u_gt, u_ge, u_lt0, u_le0, u_gt0, u_ge0, Classical.not_not, not_true_eq_false, not_false_eq_true, oi_n, oi_m, n_dec, nI_add, pk_mul, n_sub, n_eq, n_le, n_lt, n_eq0, n_lt0, n_le0, n_0lt, n_0le, n_eqm, m_eqn, n_ltm, n_and, n_or, n_xor, n_shl, n_shr, tb1, tb0, bP_1, bP_0, bP_n0, ix_n, inb_n, u_eq, u_eqm, hL_21]
            rw [hL_app, ← e2]
            exact ih2 (z - 1) (by omega) (e + 1) ho2 (by omega)
          have ex : s 107 18 ≤ e → P 72 [some (.ref 107), some (.int (nI (20 + o))), some (.int (nI e))] [] (hL h (seU s o ++ ageL s e (20 + o))) 0 0 := by
            intro a
            have e3 : e = s 107 18 := by omega
            rw [e3, ← seU_succ]
            refine hP.1 _ _ s_R_sit_72 _ _ _ _ _ ?_
            simp (disch := omega) only [g_R_sit_72, slk, List.map_cons, List.map_nil, List.sum_cons, List.sum_nil, vc_i, vc_r, vc_n, vc_l, vc_o, Nat.add_zero, kO_e, kA_e, hdO_a, eq_self, blk, stp, lg, ls0, lk, ls1, ls2, kI_i, kL_l, kR_r, kR_n, kR_o, s1I_i, s2I_i, s1L_l, s2L_l, s1R_r, s1R_n, s1R_o, s1A_a, cmpc, popn, swt, rf_s, rf_n, cat_i, cat_r, cat_n, cat_l, true_and, and_true, List.length_cons, List.length_nil, Nat.zero_add, Int.reduceToNat, Nat.reduceAdd, Nat.reduceDiv, Nat.reduceMod, Nat.reduceMul, Nat.reduceSub, Nat.reduceLeDiff, Nat.reduceLT, Nat.reduceEqDiff, reduceIte, r_gr_wi, r_gl_wi, r_gk_wi, r_gn_wi, r_gi_wi, r_gi_wr, r_gl_wr, r_gk_wr, r_gn_wr, r_gr_wa, r_gl_wa, r_gk_wa, r_gn_wa, u_lt, u_le, u_gt, u_ge, u_lt0, u_le0, u_gt0, u_ge0, Classical.not_not, not_true_eq_false, not_false_eq_true, oi_n, oi_m, n_dec, nI_add, pk_mul, n_sub, n_eq, n_le, n_lt, n_eq0, n_lt0, n_le0, n_0lt, n_0le, n_eqm, m_eqn, n_ltm, n_and, n_or, n_xor, n_shl, n_shr, tb1, tb0, bP_1, bP_0, bP_n0, ix_n, inb_n, u_eq, u_eqm, hL_21]
            refine hP.2.1 _ _ _ _ _ _ _ (lsk _ (lsk _ (lsf _ lsn))) ?_
            have := ih (n - 1) (by omega) (o + 1) (by omega)
            exact this
          have hlf := rs_lf W e
          refine hP.1 _ _ s_R_sit_16 _ _ _ _ _ ?_
          simp (disch := omega) only [g_R_sit_16, slk, List.map_cons, List.map_nil, List.sum_cons, List.sum_nil, vc_i, vc_r, vc_n, vc_l, vc_o, Nat.add_zero, kO_e, kA_e, hdO_a, eq_self, blk, stp, lg, ls0, lk, ls1, ls2, kI_i, kL_l, kR_r, kR_n, kR_o, s1I_i, s2I_i, s1L_l, s2L_l, s1R_r, s1R_n, s1R_o, s1A_a, cmpc, popn, swt, rf_s, rf_n, cat_i, cat_r, cat_n, cat_l, true_and, and_true, List.length_cons, List.length_nil, Nat.zero_add, Int.reduceToNat, Nat.reduceAdd, Nat.reduceDiv, Nat.reduceMod, Nat.reduceMul, Nat.reduceSub, Nat.reduceLeDiff, Nat.reduceLT, Nat.reduceEqDiff, reduceIte, r_gr_wi, r_gl_wi, r_gk_wi, r_gn_wi, r_gi_wi, r_gi_wr, r_gl_wr, r_gk_wr, r_gn_wr, r_gr_wa, r_gl_wa, r_gk_wa, r_gn_wa, u_lt, u_le, u_gt, u_ge, u_lt0, u_le0, u_gt0, u_ge0, Classical.not_not, not_true_eq_false, not_false_eq_true, oi_n, oi_m, n_dec, nI_add, pk_mul, n_sub, n_eq, n_le, n_lt, n_eq0, n_lt0, n_le0, n_0lt, n_0le, n_eqm, m_eqn, n_ltm, n_and, n_or, n_xor, n_shl, n_shr, tb1, tb0, bP_1, bP_0, bP_n0, ix_n, inb_n, u_eq, u_eqm, k107 WL.1, q107_18 WL, hL_21]
          refine ⟨fun hc => ex hc, fun hc => ?_⟩
          have ha := rs_age W (e := e) (by omega)
          refine hP.1 _ _ s_R_sit_24 _ _ _ _ _ ?_
          simp (disch := omega) only [g_R_sit_24, slk, List.map_cons, List.map_nil, List.sum_cons, List.sum_nil, vc_i, vc_r, vc_n, vc_l, vc_o, Nat.add_zero, kO_e, kA_e, hdO_a, eq_self, blk, stp, lg, ls0, lk, ls1, ls2, kI_i, kL_l, kR_r, kR_n, kR_o, s1I_i, s2I_i, s1L_l, s2L_l, s1R_r, s1R_n, s1R_o, s1A_a, cmpc, popn, swt, rf_s, rf_n, cat_i, cat_r, cat_n, cat_l, true_and, and_true, List.length_cons, List.length_nil, Nat.zero_add, Int.reduceToNat, Nat.reduceAdd, Nat.reduceDiv, Nat.reduceMod, Nat.reduceMul, Nat.reduceSub, Nat.reduceLeDiff, Nat.reduceLT, Nat.reduceEqDiff, reduceIte, r_gr_wi, r_gl_wi, r_gk_wi, r_gn_wi, r_gi_wi, r_gi_wr, r_gl_wr, r_gk_wr, r_gn_wr, r_gr_wa, r_gl_wa, r_gk_wa, r_gn_wa, u_lt, u_le, u_gt, u_ge, u_lt0, u_le0, u_gt0, u_ge0, Classical.not_not, not_true_eq_false, not_false_eq_true, oi_n, oi_m, n_dec, nI_add, pk_mul, n_sub, n_eq, n_le, n_lt, n_eq0, n_lt0, n_le0, n_0lt, n_0le, n_eqm, m_eqn, n_ltm, n_and, n_or, n_xor, n_shl, n_shr, tb1, tb0, bP_1, bP_0, bP_n0, ix_n, inb_n, u_eq, u_eqm, k107 WL.1, f107_1 WL.1, k108 WL.1, q108 WL, hL_21]
          refine ⟨fun hc1 => ?_, fun hc1 => ?_⟩
          · (first | exact nx0 (by omega) (by omega) | exact nx0 (by omega) (fun q => hc1 q.1))
          · skip
            refine hP.1 _ _ s_R_sit_34 _ _ _ _ _ ?_
            simp (disch := omega) only [g_R_sit_34, slk, List.map_cons, List.map_nil, List.sum_cons, List.sum_nil, vc_i, vc_r, vc_n, vc_l, vc_o, Nat.add_zero, kO_e, kA_e, hdO_a, eq_self, blk, stp, lg, ls0, lk, ls1, ls2, kI_i, kL_l, kR_r, kR_n, kR_o, s1I_i, s2I_i, s1L_l, s2L_l, s1R_r, s1R_n, s1R_o, s1A_a, cmpc, popn, swt, rf_s, rf_n, cat_i, cat_r, cat_n, cat_l, true_and, and_true, List.length_cons, List.length_nil, Nat.zero_add, Int.reduceToNat, Nat.reduceAdd, Nat.reduceDiv, Nat.reduceMod, Nat.reduceMul, Nat.reduceSub, Nat.reduceLeDiff, Nat.reduceLT, Nat.reduceEqDiff, reduceIte, r_gr_wi, r_gl_wi, r_gk_wi, r_gn_wi, r_gi_wi, r_gi_wr, r_gl_wr, r_gk_wr, r_gn_wr, r_gr_wa, r_gl_wa, r_gk_wa, r_gn_wa, u_lt, u_le, u_gt, u_ge, u_lt0, u_le0, u_gt0, u_ge0, Classical.not_not, not_true_eq_false, not_false_eq_true, oi_n, oi_m, n_dec, nI_add, pk_mul, n_sub, n_eq, n_le, n_lt, n_eq0, n_lt0, n_le0, n_0lt, n_0le, n_eqm, m_eqn, n_ltm, n_and, n_or, n_xor, n_shl, n_shr, tb1, tb0, bP_1, bP_0, bP_n0, ix_n, inb_n, u_eq, u_eqm, k107 WL.1, f107_4 WL.1, k111 WL.1, q111 WL, hL_21]
            refine ⟨fun hc2 => ?_, fun hc2 => ?_⟩
            · exact nx1 (by omega) (by omega)
            · skip
              refine hP.1 _ _ s_R_sit_43 _ _ _ _ _ ?_
              simp (disch := omega) only [g_R_sit_43, slk, List.map_cons, List.map_nil, List.sum_cons, List.sum_nil, vc_i, vc_r, vc_n, vc_l, vc_o, Nat.add_zero, kO_e, kA_e, hdO_a, eq_self, blk, stp, lg, ls0, lk, ls1, ls2, kI_i, kL_l, kR_r, kR_n, kR_o, s1I_i, s2I_i, s1L_l, s2L_l, s1R_r, s1R_n, s1R_o, s1A_a, cmpc, popn, swt, rf_s, rf_n, cat_i, cat_r, cat_n, cat_l, true_and, and_true, List.length_cons, List.length_nil, Nat.zero_add, Int.reduceToNat, Nat.reduceAdd, Nat.reduceDiv, Nat.reduceMod, Nat.reduceMul, Nat.reduceSub, Nat.reduceLeDiff, Nat.reduceLT, Nat.reduceEqDiff, reduceIte, r_gr_wi, r_gl_wi, r_gk_wi, r_gn_wi, r_gi_wi, r_gi_wr, r_gl_wr, r_gk_wr, r_gn_wr, r_gr_wa, r_gl_wa, r_gk_wa, r_gn_wa, u_lt, u_le, u_gt, u_ge, u_lt0, u_le0, u_gt0, u_ge0, Classical.not_not, not_true_eq_false, not_false_eq_true, oi_n, oi_m, n_dec, nI_add, pk_mul, n_sub, n_eq, n_le, n_lt, n_eq0, n_lt0, n_le0, n_0lt, n_0le, n_eqm, m_eqn, n_ltm, n_and, n_or, n_xor, n_shl, n_shr, tb1, tb0, bP_1, bP_0, bP_n0, ix_n, inb_n, u_eq, u_eqm, hL_21]
              (first | exact nx0 (by omega) (by omega) | exact nx0 (by omega) (fun q => hc1 q.1))
      have WL := W1 (seU s o)
      refine hP.1 _ _ s_R_sit_8 _ _ _ _ _ ?_
      simp (disch := omega) only [g_R_sit_8, slk, List.map_cons, List.map_nil, List.sum_cons, List.sum_nil, vc_i, vc_r, vc_n, vc_l, vc_o, Nat.add_zero, kO_e, kA_e, hdO_a, eq_self, blk, stp, lg, ls0, lk, ls1, ls2, kI_i, kL_l, kR_r, kR_n, kR_o, s1I_i, s2I_i, s1L_l, s2L_l, s1R_r, s1R_n, s1R_o, s1A_a, cmpc, popn, swt, rf_s, rf_n, cat_i, cat_r, cat_n, cat_l, true_and, and_true, List.length_cons, List.length_nil, Nat.zero_add, Int.reduceToNat, Nat.reduceAdd, Nat.reduceDiv, Nat.reduceMod, Nat.reduceMul, Nat.reduceSub, Nat.reduceLeDiff, Nat.reduceLT, Nat.reduceEqDiff, reduceIte, r_gr_wi, r_gl_wi, r_gk_wi, r_gn_wi, r_gi_wi, r_gi_wr, r_gl_wr, r_gk_wr, r_gn_wr, r_gr_wa, r_gl_wa, r_gk_wa, r_gn_wa, u_lt, u_le, u_gt, u_ge, u_lt0, u_le0, u_gt0, u_ge0, Classical.not_not, not_true_eq_false, not_false_eq_true, oi_n, oi_m, n_dec, nI_add, pk_mul, n_sub, n_eq, n_le, n_lt, n_eq0, n_lt0, n_le0, n_0lt, n_0le, n_eqm, m_eqn, n_ltm, n_and, n_or, n_xor, n_shl, n_shr, tb1, tb0, bP_1, bP_0, bP_n0, ix_n, inb_n, u_eq, u_eqm, hL_21]
      refine ⟨fun hc => ?_, fun hc => ?_⟩
      · have e80 : o = 80 := by omega
        subst e80
        refine hP.1 _ _ s_R_sit_78 _ _ _ _ _ ?_
        simp (disch := omega) only [g_R_sit_78, slk, List.map_cons, List.map_nil, List.sum_cons, List.sum_nil, vc_i, vc_r, vc_n, vc_l, vc_o, Nat.add_zero, kO_e, kA_e, hdO_a, eq_self, blk, stp, lg, ls0, lk, ls1, ls2, kI_i, kL_l, kR_r, kR_n, kR_o, s1I_i, s2I_i, s1L_l, s2L_l, s1R_r, s1R_n, s1R_o, s1A_a, cmpc, popn, swt, rf_s, rf_n, cat_i, cat_r, cat_n, cat_l, true_and, and_true, List.length_cons, List.length_nil, Nat.zero_add, Int.reduceToNat, Nat.reduceAdd, Nat.reduceDiv, Nat.reduceMod, Nat.reduceMul, Nat.reduceSub, Nat.reduceLeDiff, Nat.reduceLT, Nat.reduceEqDiff, reduceIte, r_gr_wi, r_gl_wi, r_gk_wi, r_gn_wi, r_gi_wi, r_gi_wr, r_gl_wr, r_gk_wr, r_gn_wr, r_gr_wa, r_gl_wa, r_gk_wa, r_gn_wa, u_lt, u_le, u_gt, u_ge, u_lt0, u_le0, u_gt0, u_ge0, Classical.not_not, not_true_eq_false, not_false_eq_true, oi_n, oi_m, n_dec, nI_add, pk_mul, n_sub, n_eq, n_le, n_lt, n_eq0, n_lt0, n_le0, n_0lt, n_0le, n_eqm, m_eqn, n_ltm, n_and, n_or, n_xor, n_shl, n_shr, tb1, tb0, bP_1, bP_0, bP_n0, ix_n, inb_n, u_eq, u_eqm, hL_21]
        exact lfV r_R_sit rfl
      · refine hP.1 _ _ s_R_sit_14 _ _ _ _ _ ?_
        simp (disch := omega) only [g_R_sit_14, slk, List.map_cons, List.map_nil, List.sum_cons, List.sum_nil, vc_i, vc_r, vc_n, vc_l, vc_o, Nat.add_zero, kO_e, kA_e, hdO_a, eq_self, blk, stp, lg, ls0, lk, ls1, ls2, kI_i, kL_l, kR_r, kR_n, kR_o, s1I_i, s2I_i, s1L_l, s2L_l, s1R_r, s1R_n, s1R_o, s1A_a, cmpc, popn, swt, rf_s, rf_n, cat_i, cat_r, cat_n, cat_l, true_and, and_true, List.length_cons, List.length_nil, Nat.zero_add, Int.reduceToNat, Nat.reduceAdd, Nat.reduceDiv, Nat.reduceMod, Nat.reduceMul, Nat.reduceSub, Nat.reduceLeDiff, Nat.reduceLT, Nat.reduceEqDiff, reduceIte, r_gr_wi, r_gl_wi, r_gk_wi, r_gn_wi, r_gi_wi, r_gi_wr, r_gl_wr, r_gk_wr, r_gn_wr, r_gr_wa, r_gl_wa, r_gk_wa, r_gn_wa, u_lt, u_le, u_gt, u_ge, u_lt0, u_le0, u_gt0, u_ge0, Classical.not_not, not_true_eq_false, not_false_eq_true, oi_n, oi_m, n_dec, nI_add, pk_mul, n_sub, n_eq, n_le, n_lt, n_eq0, n_lt0, n_le0, n_0lt, n_0le, n_eqm, m_eqn, n_ltm, n_and, n_or, n_xor, n_shl, n_shr, tb1, tb0, bP_1, bP_0, bP_n0, ix_n, inb_n, u_eq, u_eqm, hL_21]
        have e4 : seU s o = seU s o ++ ageL s 0 (20 + o) := by simp [ageL]
        rw [e4]
        exact inner _ 0 (by omega) (Nat.zero_add _)
  refine hP.1 _ _ s_R_sit_0 _ _ _ _ _ ?_
  simp (disch := omega) only [g_R_sit_0, slk, List.map_cons, List.map_nil, List.sum_cons, List.sum_nil, vc_i, vc_r, vc_n, vc_l, vc_o, Nat.add_zero, kO_e, kA_e, hdO_a, eq_self, blk, stp, lg, ls0, lk, ls1, ls2, kI_i, kL_l, kR_r, kR_n, kR_o, s1I_i, s2I_i, s1L_l, s2L_l, s1R_r, s1R_n, s1R_o, s1A_a, cmpc, popn, swt, rf_s, rf_n, cat_i, cat_r, cat_n, cat_l, true_and, and_true, List.length_cons, List.length_nil, Nat.zero_add, Int.reduceToNat, Nat.reduceAdd, Nat.reduceDiv, Nat.reduceMod, Nat.reduceMul, Nat.reduceSub, Nat.reduceLeDiff, Nat.reduceLT, Nat.reduceEqDiff, reduceIte, r_gr_wi, r_gl_wi, r_gk_wi, r_gn_wi, r_gi_wi, r_gi_wr, r_gl_wr, r_gk_wr, r_gn_wr, r_gr_wa, r_gl_wa, r_gk_wa, r_gn_wa, u_lt, u_le, u_gt, u_ge, u_lt0, u_le0, u_gt0, u_ge0, Classical.not_not, not_true_eq_false, not_false_eq_true, oi_n, oi_m, n_dec, nI_add, pk_mul, n_sub, n_eq, n_le, n_lt, n_eq0, n_lt0, n_le0, n_0lt, n_0le, n_eqm, m_eqn, n_ltm, n_and, n_or, n_xor, n_shl, n_shr, tb1, tb0, bP_1, bP_0, bP_n0, ix_n, inb_n, u_eq, u_eqm, k107 W.1, hL_21]
  rw [hL_0]
  exact outer 80 0 rfl
end
