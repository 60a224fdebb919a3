/-! ===== every token, every segment, every method ===== -/
section SND7
variable {p : Program} {l : Launch} {e : Env} {R : Room} {s : State} {m : MethodId} {args : Array Value} {below : List Frame} {meth : Method} {c : Code} {FQ : State → Prop} {G : GG} {k mc ms d : Nat}
variable {C : Nat → List Value → AH → Nat → Nat → (Option (Option Value) → AH → Prop) → Prop} {Q : Option (Option Value) → AH → Prop} {pc n : Nat} {ls : LL} {st : List Value} {h : AH} {c1 z1 : Nat} {K : LL → List Value → AH → Nat → Nat → Prop}
set_option maxRecDepth 20000 in
theorem stp_ok (F : Fra p l e R s m args meth c G k mc ms (d + 1)) (hB : mH k ≠ [] → FrB l meth c k) (hC : CSn G l d C) (hK : ∀ ls st h c1 z1, K ls st h c1 z1 → MP p l e R s m args below meth c FQ G k mc ms (pc + n) ls st h c1 z1) : ∀ (i : Instr), insB (mB k) (mT k) (ini k) pc i n = true → catB (mH k) pc i = true → (isEnd i = true → MP p l e R s m args below meth c FQ G k mc ms pc ls st h c1 z1) → stp C mc ms (MP p l e R s m args below meth c FQ G k mc ms) Q i ls st h c1 z1 K → MP p l e R s m args below meth c FQ G k mc ms pc ls st h c1 z1 := by
  intro i hi hcb hE hs
  cases i with
  | iadd => exact tk_iadd F hi hK hs
  | isub => exact tk_isub F hi hK hs
  | imul => exact tk_imul F hi hK hs
  | iand => exact tk_iand F hi hK hs
  | ior => exact tk_ior F hi hK hs
  | ixor => exact tk_ixor F hi hK hs
  | ishl => exact tk_ishl F hi hK hs
  | ishr => exact tk_ishr F hi hK hs
  | iushr => exact tk_iushr F hi hK hs
  | idiv => exact tk_idiv F hi hK hs
  | irem => exact tk_irem F hi hK hs
  | ineg => exact tk_ineg F hi hK hs
  | ladd => exact tk_ladd F hi hK hs
  | lsub => exact tk_lsub F hi hK hs
  | lmul => exact tk_lmul F hi hK hs
  | land => exact tk_land F hi hK hs
  | lor => exact tk_lor F hi hK hs
  | ldiv => exact tk_ldiv F hi hK hs
  | lcmp => exact tk_lcmp F hi hK hs
  | lshl => exact tk_lshl F hi hK hs
  | i2l => exact tk_i2l F hi hK hs
  | l2i => exact tk_l2i F hi hK hs
  | i2b => exact tk_i2b F hi hK hs
  | i2c => exact tk_i2c F hi hK hs
  | aconst_null => exact tk_aconst_null F hi hK hs
  | dup => exact tk_dup F hi hK hs
  | dup2 => exact tk_dup2 F hi hK hs
  | pop => exact tk_pop F hi hK hs
  | iconst a0 => exact tk_iconst F hi hK hs
  | goto_w a0 => exact tk_goto_w F hi hK hs
  | iload a0 => exact tk_iload F hi hK hs
  | lload a0 => exact tk_lload F hi hK hs
  | aload a0 => exact tk_aload F hi hK hs
  | istore a0 => exact tk_istore F hi hK hs
  | lstore a0 => exact tk_lstore F hi hK hs
  | astore a0 => exact tk_astore F hi hK hs
  | iinc a0 a1 => exact tk_iinc F hi hK hs
  | goto a0 => exact tk_goto F hi hK hs
  | if_icmp a0 a1 => exact tk_if_icmp F hi hK hs
  | ifCond a0 a1 => exact tk_ifCond F hi hK hs
  | ifnull a0 => exact tk_ifnull F hi hK hs
  | ifnonnull a0 => exact tk_ifnonnull F hi hK hs
  | tableswitch a0 a1 a2 a3 => exact tk_tableswitch F hi hK hs
  | getfield a0 => exact tk_getfield F hi hK hs
  | getstatic a0 => exact tk_getstatic F hi hK hs
  | putfield a0 => exact tk_putfield F hi hK hs
  | putstatic a0 => exact tk_putstatic F hi hK hs
  | fstore a0 => exact tk_fstore F hi hK hs
  | iaload => exact tk_iaload F hi hK hs
  | caload => exact tk_caload F hi hK hs
  | baload => exact tk_baload F hi hK hs
  | laload => exact tk_laload F hi hK hs
  | aaload => exact tk_aaload F hi hK hs
  | iastore => exact tk_iastore F hi hK hs
  | castore => exact tk_castore F hi hK hs
  | bastore => exact tk_bastore F hi hK hs
  | lastore => exact tk_lastore F hi hK hs
  | aastore => exact tk_aastore F hi hK hs
  | arraylength => exact tk_arraylength F hi hK hs
  | new a0 => exact tk_new F hi hK hs
  | newarray a0 => exact tk_newarray F hi hK hs
  | anewarray a0 => exact tk_anewarray F hi hK hs
  | multianewarray a0 a1 => exact tk_multianewarray F hi hK hs
  | bipush a0 => exact tk_bipush F hi hK hs
  | jsr_w a0 => exact tk_jsr_w F hi hK hs
  | ldc a0 => exact tk_ldc F hi hK hs
  | dload a0 => exact tk_dload F hi hK hs
  | fload a0 => exact tk_fload F hi hK hs
  | nop => exact tk_nop F hi hK hs
  | fadd => exact tk_fadd F hi hK hs
  | fsub => exact tk_fsub F hi hK hs
  | dadd => exact tk_dadd F hi hK hs
  | dsub => exact tk_dsub F hi hK hs
  | monitorenter => exact tk_monitorenter F hi hK hs
  | invokeinterface a0 a1 => exact tk_invokeinterface F hC hi hK hs
  | invokevirtual a0 => exact tk_invokevirtual F hC hi hK hs
  | invokedynamic a0 => exact tk_invokedynamic F (hB (fun q => by rw [q] at hcb; exact absurd hcb Bool.false_ne_true)) hcb hC hi hK hs
  | ireturn => exact hE rfl
  | lreturn => exact hE rfl
  | areturn => exact hE rfl
  | return_ => exact hE rfl
  | athrow => exact hE rfl
  | _ => exact absurd hs id
theorem blk_ok (F : Fra p l e R s m args meth c G k mc ms (d + 1)) (hB : mH k ≠ [] → FrB l meth c k) (hC : CSn G l d C)
    (hE : ∀ (i : Instr) (n pc : Nat) (ls : LL) (st : List Value) (h : AH) (c1 z1 : Nat) (K : LL → List Value → AH → Nat → Nat → Prop), isEnd i = true → insB (mB k) (mT k) (ini k) pc i n = true → stp C mc ms (MP p l e R s m args below meth c FQ G k mc ms) Q i ls st h c1 z1 K → MP p l e R s m args below meth c FQ G k mc ms pc ls st h c1 z1) :
    ∀ (is : List (Instr × Nat)) (pc : Nat) (ls : LL) (st : List Value) (h : AH) (c1 z1 : Nat), sgB (mB k) (mT k) (ini k) (mH k) pc is = true → blk C mc ms (MP p l e R s m args below meth c FQ G k mc ms) Q is pc ls st h c1 z1 → MP p l e R s m args below meth c FQ G k mc ms pc ls st h c1 z1 := by
  intro is
  induction is with
  | nil => intro pc ls st h c1 z1 _ hb; exact hb
  | cons q is ih =>
    obtain ⟨i, n⟩ := q
    intro pc ls st h c1 z1 hseg hb
    simp only [sgB, Bool.and_eq_true] at hseg
    obtain ⟨⟨hi, hcb⟩, hrest⟩ := hseg
    exact stp_ok F hB hC (K := fun ls st h c9 z9 => blk C mc ms (MP p l e R s m args below meth c FQ G k mc ms) Q is (pc + n) ls st h c9 z9) (fun ls st h c1 z1 hk => ih _ _ _ _ _ _ hrest hk) i hi hcb (fun he => hE i n pc ls st h c1 z1 _ he hi hb) hb
theorem clo_ok (F : Fra p l e R s m args meth c G k mc ms (d + 1)) (hB : mH k ≠ [] → FrB l meth c k) (hC : CSn G l d C)
    (hE : ∀ (i : Instr) (n pc : Nat) (ls : LL) (st : List Value) (h : AH) (c1 z1 : Nat) (K : LL → List Value → AH → Nat → Nat → Prop), isEnd i = true → insB (mB k) (mT k) (ini k) pc i n = true → stp C mc ms (MP p l e R s m args below meth c FQ G k mc ms) (fun v h => rtok (mR k) v ∧ Q v h) i ls st h c1 z1 K → MP p l e R s m args below meth c FQ G k mc ms pc ls st h c1 z1) :
    Clo C k mc ms Q (MP p l e R s m args below meth c FQ G k mc ms) :=
  ⟨fun pc is hseg ls st h c1 z1 hb => blk_ok F hB hC hE is pc ls st h c1 z1 hseg hb,
   fun pc l0 l1 st h c1 z1 hsub hP hc hz H locs mls hRW hRO hS hl => hP hc hz H locs mls hRW hRO hS ⟨hl.1, hl.2.1, by rw [hsub.1]; exact hl.2.2.1, fun i v q => hl.2.2.2 i v (hsub.2 i v q)⟩,
   fun pc l0 st h c1 z1 c2 z2 h1 h2 h3 h4 hP hc hz H locs mls hRW hRO hS hl => W.widen h1 h2 (hP h3 h4 H locs mls hRW hRO hS hl)⟩
end SND7
/-! the contract of a method -/
def Mz : Nat → Nat → List Value → AH → Nat → Nat → (Option (Option Value) → AH → Prop) → Prop
  | 0, _, _, _, _, _, _ => False
  | d + 1, k, as, h, mc, ms, R => (as.length = mN k ∧ k < 256 ∧ mtB k = true ∧ (lg_sl as).length ≤ mL k) ∧ ∀ P, Clo (Mz d) k mc ms R P → P 0 (enl (mL k) as) [] h 0 0
theorem mz_in {d k : Nat} {as : List Value} {h : AH} {mc ms n l' : Nat} {R : Option (Option Value) → AH → Prop} {l : LL} (hk : k < 256 ∧ mtB k = true) (hn : mN k = l') (ha : as.length = l') (hL : mL k = n) (hl : enl n as = l) (hs : (lg_sl as).length ≤ n) (H : ∀ P, Clo (Mz d) k mc ms R P → P 0 l [] h 0 0) : Mz (d + 1) k as h mc ms R := by
  refine ⟨⟨ha.trans hn.symm, hk.1, hk.2, by rw [hL]; exact hs⟩, fun P hP => ?_⟩
  rw [hL, hl]
  exact H P hP
theorem enl_nil : ∀ n, (enl n []).length ≤ n ∧ ∀ i, lg (enl n []) i = none := by
  intro n
  induction n with
  | zero => exact ⟨Nat.le_refl _, fun i => rfl⟩
  | succ n ih =>
    have e : enl (n + 1) [] = none :: enl n [] := by
      cases n <;> rfl
    rw [e]
    refine ⟨by simp; exact ih.1, fun i => ?_⟩
    cases i with
    | zero => rfl
    | succ i => exact ih.2 i
theorem enl_args (G : GG) : ∀ (as : List Value) (n k : Nat), (lg_sl as).length ≤ n → (enl n as).length ≤ n ∧ ∀ i v, lg (enl n as) i = some v → (k + i, tv G v) ∈ lv_args k (as.map (tv G)) := by
  intro as
  induction as with
  | nil =>
    intro n k _
    refine ⟨(enl_nil n).1, fun i v h => ?_⟩
    rw [(enl_nil n).2 i] at h
    cases h
  | cons a as ih =>
    intro n k hn
    have hsl : (lg_sl (a :: as)).length = (if a.category = 2 then 2 else 1) + (lg_sl as).length := by
      unfold lg_sl
      rw [List.flatMap_cons, List.length_append]
      split <;> rfl
    rw [hsl] at hn
    have hc9 : (tv G a).category = a.category := tv_cat G a
    match n with
    | 0 => split at hn <;> omega
    | 1 =>
      have h1 : ¬ a.category = 2 := by
        intro q
        rw [if_pos q] at hn
        omega
      rw [if_neg h1] at hn
      have e : enl 1 (a :: as) = [some a] := rfl
      rw [e]
      refine ⟨Nat.le_refl _, fun i v h => ?_⟩
      cases i with
      | zero =>
        cases h
        exact List.mem_cons_self
      | succ i => cases h
    | n + 2 =>
      by_cases h2 : a.category = 2
      · rw [if_pos h2] at hn
        have e : enl (n + 2) (a :: as) = some a :: none :: enl n as := by
          show (if a.category = 2 then _ else _) = _
          rw [if_pos h2]
        have e2 : lv_args k ((a :: as).map (tv G)) = (k, tv G a) :: lv_args (k + 2) (as.map (tv G)) := by
          show (k, tv G a) :: lv_args (if (tv G a).category = 2 then k + 2 else k + 1) (as.map (tv G)) = _
          rw [hc9, if_pos h2]
        obtain ⟨i1, i2⟩ := ih n (k + 2) (by omega)
        rw [e, e2]
        refine ⟨by simp; exact i1, fun i v h => ?_⟩
        match i, h with
        | 0, h =>
          cases h
          exact List.mem_cons_self
        | i + 2, h =>
          have := i2 i v h
          rw [show k + (i + 2) = k + 2 + i by omega]
          exact List.mem_cons_of_mem _ this
      · rw [if_neg h2] at hn
        have e : enl (n + 2) (a :: as) = some a :: enl (n + 1) as := by
          show (if a.category = 2 then _ else _) = _
          rw [if_neg h2]
        have e2 : lv_args k ((a :: as).map (tv G)) = (k, tv G a) :: lv_args (k + 1) (as.map (tv G)) := by
          show (k, tv G a) :: lv_args (if (tv G a).category = 2 then k + 2 else k + 1) (as.map (tv G)) = _
          rw [hc9, if_neg h2]
        obtain ⟨i1, i2⟩ := ih (n + 1) (k + 1) (by omega)
        rw [e, e2]
        refine ⟨by simp; exact i1, fun i v h => ?_⟩
        match i, h with
        | 0, h =>
          cases h
          exact List.mem_cons_self
        | i + 1, h =>
          have := i2 i v h
          rw [show k + (i + 1) = k + 1 + i by omega]
          exact List.mem_cons_of_mem _ this
theorem sl_tv (G : GG) : ∀ (as : List Value), (lg_sl (as.map (tv G))).length = (lg_sl as).length := by
  intro as
  induction as with
  | nil => rfl
  | cons a as ih =>
    unfold lg_sl at ih ⊢
    rw [List.map_cons, List.flatMap_cons, List.flatMap_cons, List.length_append, List.length_append, ih, tv_cat]
    split <;> rfl
theorem ent_ok (G : GG) (m : MethodId) {as : List Value} {n : Nat} (h : (lg_sl as).length ≤ n) : ∃ mls, entryFrame m (as.map (tv G)).toArray n = F0 m 0 mls [] ∧ lrel G n mls (enl n as) := by
  have h2 : (lg_sl (as.map (tv G))).length ≤ n := by rw [sl_tv]; exact h
  have he := lv_entry (as.map (tv G)) h2
  obtain ⟨i1, i2⟩ := enl_args G as n 0 h
  refine ⟨_, lg_entry_eq m _ n, he.1, he.2.1, i1, fun i v hv => ?_⟩
  have := he.2.2 _ (i2 i v hv)
  rw [Nat.zero_add] at this
  exact this
theorem mt_sound {G : GG} (hA : ADF G) {l : Launch} (hst : l.stackTraces = false) : ∀ d, CSn G l d (Mz d) := by
  intro d
  induction d with
  | zero => intro k as h a b R hM; exact hM.elim
  | succ d ih =>
    intro k as h a b R hM
    obtain ⟨⟨hlen, hk, hmt, hsl⟩, hM⟩ := hM
    refine ⟨hlen, hmt, ?_⟩
    obtain ⟨w1, w2, w3, w4, w5, w6⟩ := mtB_inv hmt
    have body : ∀ (p : Program) (e : Env) (s : State) (m : MethodId) (args : Array Value) (below : List Frame) (meth : Method) (c : Code) (s₁ : State), BodyLoose p l (mY k) (headSpec (WS k) (rmD (d + 1) a b)) (mB k) (mL k) (mR k) e s m args below meth c s₁ → c.maxLocals = mL k → c.exceptionTable.toList = tableOf (mH k) → PcA G h as args s →
        W p l e (headSpec (WS k) (rmD (d + 1) a b)).room s m args below meth c s.heap [] 0 0 (vx_MQ below (QcA G R) (XcA G R) args s a b (gZ G)) (entryFrame m args (mL k)) := by
      intro p e s m args below meth c s₁ B hml htab hP
      obtain ⟨ha, hSU, hRO, hRW, hROH, hBs⟩ := hP
      have hts : ∀ w ∈ gw, w.before args s = true := fun w hw => atoms_spec (ws := WS k) B.pre w (List.mem_cons_of_mem _ hw)
      have hnm := B.named
      have F : Fra p l e (headSpec (WS k) (rmD (d + 1) a b)).room s m args meth c G k a b (d + 1) := by
        refine ⟨B.exec, B.bytes, hml, fun ht => ?_, hts, hSU, hRO, hA, hBs, Nat.le_refl _, Nat.le_refl _, Nat.le_refl _, Nat.le_refl _, fun hi => ?_⟩
        · rw [own_ok k hk ht]
          exact findClass_of_methodNamed hnm
        · have hn : (mY k).name = "<init>" := by
            have hg : mG k = 2 := eq_of_beq hi
            rcases w6 with ⟨q, -⟩ | ⟨q, -⟩ | ⟨-, -, -, q, -⟩
            · omega
            · omega
            · exact q
          rw [(name_of_methodNamed hnm B.method).1, hn]
      have hB : FrB l meth c k := ⟨B.returns, B.notSynchronized, htab, hst, hk⟩
      have hclo := clo_ok (below := below) (FQ := vx_MQ below (QcA G R) (XcA G R) args s a b (gZ G)) (Q := R) F (fun _ => hB) ih (fun i n pc ls st h c1 z1 K he hi hs => tk_end he F hB hi hs)
      have hgo := hM _ hclo
      subst ha
      obtain ⟨mls, hent, hlr⟩ := ent_ok G m hsl
      rw [hent]
      exact hgo (Nat.zero_le _) (Nat.zero_le _) s.heap [] mls hRW hROH ⟨Nat.le_refl _, fun q _ _ => rfl, fun q hq => by cases hq⟩ hlr
    by_cases hh : mH k = []
    · refine vx_ofW (ws' := gw) (cc := mB k) (maxL := mL k) (ret := mR k) w3 (by unfold WS; rw [cW_nil hh]) fun p e s m args below meth c s₁ B hml ht hP => body p e s m args below meth c s₁ B hml ?_ hP
      rw [hh]
      cases hE : c.exceptionTable.toList with
      | nil => rfl
      | cons x xs => exact (ht x (by rw [hE]; exact List.mem_cons_self)).elim
    · refine vx_ofWH (ws' := gw) (cc := mB k) (maxL := mL k) (ret := mR k) (hh := mH k) w3 (by unfold WS; rw [cW_cons hh]) fun p e s m args below meth c s₁ B hml hP => body p e s m args below meth c s₁ B hml ?_ hP
      have hw : (Cond.codeWith (mY k) (mB k) (mL k) (mR k) (mH k)).before args s = true := by
        rw [← cW_cons hh]
        exact atoms_spec (ws := WS k) B.pre _ List.mem_cons_self
      exact vx_table (x := mY k) B hw
