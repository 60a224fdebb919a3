/-! ===== the start: from the law's entry into the flat machine ===== -/
def nfl : List Cond := flatC (Jvm.Cond.and given_1 narrow_1)
def sIx : List Nat := [20, 33, 35, 37, 39, 86, 95, 123, 128]
def sTm (i : Nat) : Term := .string "TreeTalk$Reader" (sIx.getD i 0)
theorem st_ex : ∀ i, i < 9 → Cond.exactly (sTm i) "java/lang/String" ∈ nfl := by decide +kernel
theorem st_co : ∀ i, i < 9 → Cond.eq (.field (sTm i) "java/lang/String" "coder" "B") (.int 0) ∈ nfl := by decide +kernel
theorem st_ar : ∀ i, i < 9 → Cond.arrayOf (.field (sTm i) "java/lang/String" "value" "[B") .byte ∈ nfl := by decide +kernel
theorem st_le : ∀ i, i < 9 → Cond.eq (.length (.field (sTm i) "java/lang/String" "value" "[B")) (.int (Int32.ofNat (sln.getD i 0))) ∈ nfl := by decide +kernel
theorem st_el : ∀ i, i < 9 → ∀ j, j < sln.getD i 0 → Cond.eq (.elem (.field (sTm i) "java/lang/String" "value" "[B") (.int (Int32.ofNat j))) (.int ((sby.getD i []).getD j 0)) ∈ nfl := by decide +kernel
theorem st_ne : ∀ i, i < 9 → ∀ j, j < 9 → i ≠ j → (Cond.not (Cond.eq (sTm i) (sTm j)) ∈ nfl ∨ Cond.not (Cond.eq (sTm j) (sTm i)) ∈ nfl) := by decide +kernel
theorem st_sl : ∀ i, i < 9 → sln.getD i 0 < 2 ^ 31 := by decide +kernel
theorem st_w : ∀ q ∈ strL, Cond.stringRef q.1 q.2.1 q.2.2.2 ∈ lw_tbl := by decide +kernel
theorem st_t : ∀ q ∈ strL, q.2.2.1 / 2 < 9 ∧ q.2.2.1 % 2 = 0 ∧ (Term.string q.1 q.2.1 = sTm (q.2.2.1 / 2) ∨ Cond.eq (sTm (q.2.2.1 / 2)) (.string q.1 q.2.1) ∈ nfl) := by decide +kernel
theorem st_nest : ∀ w ∈ nestW ++ nseW, w ∈ lw_tbl ∧ w.onTables = true := by decide +kernel
theorem st_ao : ∀ t, t < 7 → 4 ≤ t → Cond.arrayOver (.object (elm t)) ∈ lw_tbl ∧ ty8 t = .object (elm t) := by decide +kernel
theorem st_aoi : Cond.arrayOver (.array .int) ∈ lw_tbl := by decide +kernel
theorem st_z : Cond.laysStatic "java/lang/String" "COMPACT_STRINGS" "Z" ∈ lw_tbl ∧ Cond.initialized "java/lang/String" ∈ lw_tbl ∧ Cond.eq (.static "java/lang/String" "COMPACT_STRINGS" "Z") (.int 1) ∈ nfl ∧
    Cond.laysStatic sioN "SIOOBE_FORMATTER" "Ljava/util/function/BiFunction;" ∈ lw_tbl ∧ Cond.initialized sioN ∈ lw_tbl ∧ Cond.isRef (.static sioN "SIOOBE_FORMATTER" "Ljava/util/function/BiFunction;") ∈ nfl ∧
    Cond.laysStatic Bundle.tN "UNASSIGNED_STACK" Bundle.steD ∈ lw_tbl ∧ Cond.initialized Bundle.tN ∈ lw_tbl ∧ Cond.isRef (.static Bundle.tN "UNASSIGNED_STACK" Bundle.steD) ∈ nfl ∧
    Cond.laysStatic Bundle.tN "SUPPRESSED_SENTINEL" Bundle.listD ∈ lw_tbl ∧ Cond.isRef (.static Bundle.tN "SUPPRESSED_SENTINEL" Bundle.listD) ∈ nfl := by decide +kernel
theorem vw_len : vwCl.length = 13 := by decide +kernel
theorem ac_of {args : Array Value} {s : State} {ty : FieldType} (h : (Cond.arrayClass ty).before args s = true) (hno : ∀ C, ty ≠ .object C) : ∃ cA, ArrOfT s cA ty ∧ va_RA s cA ty := by
  obtain ⟨c, k, comp, h1, h2, h3⟩ := Cond.arrayClass_spec h
  refine ⟨c, fun n z => ⟨fun k h => (by cases h), k, h2, comp, h3⟩, ?_⟩
  cases ty <;> first | exact h1 | exact absurd rfl (hno _)
theorem ao_of {args : Array Value} {s : State} {C : String} (h : (Cond.arrayOver (.object C)).before args s = true) : ∃ cA, ArrOfT s cA (.object C) ∧ va_RA s cA (.object C) := by
  obtain ⟨comp, c, k, h1, h2, h3, h4, h5⟩ := Cond.arrayOver_spec h
  exact ⟨c, fun n z => ⟨fun k h => (by cases h), k, h3, comp, h4⟩, k, comp, h3, h4, h1, h5⟩
theorem aoi_of {args : Array Value} {s : State} (h : (Cond.arrayOver (.array .int)).before args s = true) : ∃ cA, ArrOfT s cA (.array .int) ∧ va_RA s cA (.array .int) := by
  obtain ⟨comp, c, k, h1, h2, h3, h4, h5⟩ := arrayOverA_spec h
  exact ⟨c, fun n z => ⟨fun k h => (by cases h), k, h3, comp, h4⟩, h5⟩
/-- the heap that the law finds -/
def h00 (L : Nat) (xs : Nat → Int32) : AH :=
  (fun a j => if a = 19 then xs j else if a < 18 ∧ a % 2 = 1 then (sby.getD (a / 2) []).getD j 0 else 0,
   fun a j => if a < 18 ∧ a % 2 = 0 ∧ j = 0 then some (a + 1) else none,
   fun _ _ => 0,
   fun a => if a < 18 then (if a % 2 = 0 then some (.inl 13) else some (.inr (2, sln.getD (a / 2) 0))) else if a = 19 then some (.inr (0, L)) else none,
   20)
theorem h00_ro (L : Nat) (xs : Nat → Int32) : ROH L xs (h00 L xs) := by
  refine ⟨fun i hi => ?_, rfl, rfl, fun j hj => rfl⟩
  have e1 : (2 * i + 1) / 2 = i := by omega
  refine ⟨?_, ?_, ?_, ?_, fun j hj => ?_⟩
  · show (if 2 * i < 18 then _ else _) = _
    rw [if_pos (by omega), if_pos (by omega)]
  · show (if 2 * i + 1 < 18 then _ else _) = _
    rw [if_pos (by omega), if_neg (by omega), e1]
  · show (if 2 * i < 18 ∧ (2 * i) % 2 = 0 ∧ 0 = 0 then _ else _) = _
    rw [if_pos ⟨by omega, by omega, rfl⟩]
  · show (if 2 * i = 19 then _ else if 2 * i < 18 ∧ (2 * i) % 2 = 1 then _ else _) = _
    rw [if_neg (by omega), if_neg (by omega)]
  · show (if 2 * i + 1 = 19 then _ else if 2 * i + 1 < 18 ∧ (2 * i + 1) % 2 = 1 then _ else _) = _
    rw [if_neg (by omega), if_pos ⟨by omega, by omega⟩, e1]
theorem h00_rw {G : GG} {L : Nat} {xs : Nat → Int32} {H : Heap} (h : H.size = gB G) : RW G (h00 L xs) H := by
  refine ⟨Nat.le_refl _, by rw [h]; rfl, fun i kd hi hk => ?_⟩
  exfalso
  have e : gk (h00 L xs) i = none := by
    show (if i < 18 then _ else if i = 19 then _ else _) = _
    rw [if_neg (by omega), if_neg (by omega)]
  rw [e] at hk
  cases hk
theorem start_G {s : State} {b L : Nat} {xs : Nat → Int32} (hts : ∀ w ∈ lw_tbl, w.before #[Value.ref b] s = true) (hX : va_X b L xs s s.heap) (hbl : b < s.heap.size) (hgv : (Jvm.Cond.and given_1 narrow_1).before #[Value.ref b] s = true) :
    ∃ G : GG, ADF G ∧ gB G = s.heap.size ∧ gL G = L ∧ gX G = xs ∧ gA G 19 = b ∧ SU G s ∧ RO G s s.heap := by
  have hg : ∀ w ∈ gw, w.before #[Value.ref b] s = true := fun w hw => hts w (List.mem_filter.mp hw).1
  have hs : ∀ w ∈ nfl, w.before #[Value.ref b] s = true := flat_of_before _ hgv
  have hA : ∀ a : Nat, a < s.heap.size → ¬ (fun q : Nat => s.heap.size ≤ q) a := fun a ha => Nat.not_le.mpr ha
  have hcl : ∀ c : Nat, ∃ q : ClassId × (Nat → Nat), c < 13 → u_Kn s (cnm c) (ftb c) (nfc c) q.1 q.2 := by
    intro c
    by_cases hc : c < 13
    · obtain ⟨cC, iS, h⟩ := u_known (C := cnm c) (T := ftb c) (N := nfc c) (n := nfc c) (ws := gw) hg (lay_in c hc) (hg _ (ins_ok c hc).1)
      exact ⟨(cC, iS), fun _ => h⟩
    · exact ⟨(0, fun _ => 0), fun h => absurd h hc⟩
  obtain ⟨fD, hfD⟩ := Classical.axiomOfChoice hcl
  have hty : ∀ t : Nat, ∃ cA : ClassId, t < 8 → ArrOfT s cA (ty8 t) ∧ va_RA s cA (ty8 t) := by
    intro t
    by_cases h8 : t < 8
    · match t, h8 with
      | 0, _ =>
        obtain ⟨cA, q⟩ := ac_of (hg _ ac_int) (fun C h => by cases h)
        exact ⟨cA, fun _ => q⟩
      | 1, _ =>
        obtain ⟨cA, q⟩ := ac_of (hg _ ac_boolean) (fun C h => by cases h)
        exact ⟨cA, fun _ => q⟩
      | 2, _ =>
        obtain ⟨cA, q⟩ := ac_of (hg _ ac_byte) (fun C h => by cases h)
        exact ⟨cA, fun _ => q⟩
      | 3, _ =>
        obtain ⟨cA, q⟩ := ac_of (hg _ ac_long) (fun C h => by cases h)
        exact ⟨cA, fun _ => q⟩
      | 4, _ =>
        obtain ⟨cA, q⟩ := ao_of (hts _ (st_ao 4 (by decide) (by decide)).1)
        exact ⟨cA, fun _ => q⟩
      | 5, _ =>
        obtain ⟨cA, q⟩ := ao_of (hts _ (st_ao 5 (by decide) (by decide)).1)
        exact ⟨cA, fun _ => q⟩
      | 6, _ =>
        obtain ⟨cA, q⟩ := ao_of (hts _ (st_ao 6 (by decide) (by decide)).1)
        exact ⟨cA, fun _ => q⟩
      | 7, _ =>
        obtain ⟨cA, q⟩ := aoi_of (hts _ st_aoi)
        exact ⟨cA, fun _ => q⟩
      | t + 8, q => omega
    · exact ⟨0, fun h => absurd h h8⟩
  obtain ⟨fY, hfY⟩ := Classical.axiomOfChoice hty
  obtain ⟨adK, adV, hvS, hvE⟩ := vk_Sof (N := 9) (tm := sTm) (len := sln) (byt := sby) (A := fun q : Nat => s.heap.size ≤ q) st_sl (fun i hi => hs _ (st_ex i hi)) (fun i hi => hs _ (st_co i hi)) (fun i hi => hs _ (st_ar i hi)) (fun i hi => hs _ (st_le i hi)) (fun i hi j hj => hs _ (st_el i hi j hj)) (fun i j hi hj hij => (st_ne i hi j hj hij).elim (fun q => Or.inl (hs _ q)) (fun q => Or.inr (hs _ q))) hA
  obtain ⟨z1, z2, z3, z4, z5, z6, z7, z8, z9, z10, z11⟩ := st_z
  have hCS := va_Zof (A := fun q : Nat => s.heap.size ≤ q) (hts _ z1) (hts _ z2) (va_eqt (hs _ z3)) hA
  have hSI := va_Zqof (A := fun q : Nat => s.heap.size ≤ q) (hts _ z4) (hts _ z5) (hs _ z6) hA
  have hUS := vx_Zqof (A := fun q : Nat => s.heap.size ≤ q) (hts _ z7) (hts _ z8) (hs _ z9) hA
  have hSS := vx_Zqof (A := fun q : Nat => s.heap.size ≤ q) (hts _ z10) (hts _ z8) (hs _ z11) hA
  obtain ⟨fo, hfo⟩ : ∃ fo : Nat, va_Z sioN "SIOOBE_FORMATTER" "Ljava/util/function/BiFunction;" .null (fun q : Nat => s.heap.size ≤ q) s s.heap ∨ va_Z sioN "SIOOBE_FORMATTER" "Ljava/util/function/BiFunction;" (.ref fo) (fun q : Nat => s.heap.size ≤ q) s s.heap := by
    rcases hSI with h | ⟨t, h⟩
    · exact ⟨0, Or.inl h⟩
    · exact ⟨t, Or.inr h⟩
  obtain ⟨gAf, hgAf⟩ : ∃ f : Nat → Nat, f = fun i => if i < 18 then (if i % 2 = 0 then adK (i / 2) else adV (i / 2)) else if i = 18 then fo else if i = 19 then b else s.heap.size + (i - 20) := ⟨_, rfl⟩
  have g18 : gAf 18 = fo := by rw [hgAf]; rfl
  have g19 : gAf 19 = b := by rw [hgAf]; rfl
  have g20 : ∀ i, 20 ≤ i → gAf i = s.heap.size + (i - 20) := by
    intro i hi
    rw [hgAf]
    show (if i < 18 then _ else if i = 18 then _ else if i = 19 then _ else _) = _
    rw [if_neg (by omega), if_neg (by omega), if_neg (by omega)]
  have gK : ∀ i, i < 9 → gAf (2 * i) = adK i := by
    intro i hi
    rw [hgAf]
    show (if 2 * i < 18 then (if 2 * i % 2 = 0 then _ else _) else _) = _
    rw [if_pos (by omega), if_pos (by omega)]
    congr 1
    omega
  have gV : ∀ i, i < 9 → gAf (2 * i + 1) = adV i := by
    intro i hi
    rw [hgAf]
    show (if 2 * i + 1 < 18 then (if (2 * i + 1) % 2 = 0 then _ else _) else _) = _
    rw [if_pos (by omega), if_neg (by omega)]
    congr 1
    omega
  refine ⟨(gAf, (fun c => (fD c).1, fun c => (fD c).2), fY, s.heap.size, L, xs), g20, rfl, rfl, rfl, g19, ?_, ?_⟩
  · refine ⟨⟨fun c q hq => ?_, fun t q hq => ?_⟩, fun q hq => ?_, fun w hw => ?_, fun t h4 h6 => ?_, ?_⟩
    · by_cases hc : c < 13
      · rw [vw_at c hc] at hq
        cases hq
        exact hfD c hc
      · rw [List.getElem?_eq_none (by rw [vw_len]; omega)] at hq
        cases hq
    · by_cases h8 : t < 8
      · rw [tys8_at _ h8] at hq
        cases hq
        exact hfY t h8
      · have : (tys8 (gAf, (fun c => (fD c).1, fun c => (fD c).2), fY, s.heap.size, L, xs)).length = 8 := by simp [tys8]
        rw [List.getElem?_eq_none (by rw [this]; omega)] at hq
        cases hq
    · obtain ⟨t1, t2, t3⟩ := st_t q hq
      have e1 : gAf q.2.2.1 = adK (q.2.2.1 / 2) := by
        have := gK (q.2.2.1 / 2) t1
        rw [show 2 * (q.2.2.1 / 2) = q.2.2.1 by omega] at this
        exact this
      refine vk_R.of (hts _ (st_w q hq)) ?_
      show _ = some (Value.ref (gAf q.2.2.1))
      rw [e1]
      rcases t3 with t3 | t3
      · rw [t3]
        exact hvE _ t1
      · exact va_eqR (hs _ t3) (hvE _ t1)
    · obtain ⟨w1, w2⟩ := st_nest w hw
      exact va_Nw.of w2 (hts _ w1)
    · exact va_AO.of (hts _ (st_ao t (by omega) h4).1)
    · exact hts _ st_aoi
  · refine ⟨⟨fun i hi => ?_, fun i j hi hj e => ?_⟩, hCS, ?_, hUS, hSS, ?_, ?_, ?_⟩
    · show va_O _ (gAf (2 * i)) _ _ _ ∧ va_OF _ _ _ _ (gAf (2 * i)) _ _ _ ∧ va_OF _ _ _ (.ref (gAf (2 * i + 1))) (gAf (2 * i)) _ _ _ ∧ va_T _ (gAf (2 * i + 1)) _ _ _ _ _
      rw [gK i hi, gV i hi]
      exact hvS.1 i hi
    · have e2 : gAf (2 * i) = gAf (2 * j) := e
      rw [gK i hi, gK j hj] at e2
      exact hvS.2 i j hi hj e2
    · show va_Z _ _ _ _ _ _ _ ∨ va_Z _ _ _ (.ref (gAf 18)) _ _ _
      rw [g18]
      exact hfo
    · show va_X (gAf 19) _ _ _ _
      rw [g19]
      exact hX
    · show gAf 19 < _
      rw [g19]
      exact hbl
    · show ¬ (s.heap.size ≤ gAf 19)
      rw [g19]
      exact Nat.not_le.mpr hbl
/-- what is left of the law: its body over the flat machine -/
def LawOK : Prop := ∃ d, d ≤ 1300 ∧ ∀ (L : Nat) (xs : Nat → Int32), L ≤ 4096 → ∀ P, Clo (Mz d) 240 601024 7293034 (fun v _ => v = some (some (.int 1))) P → P 0 (enl 7 [.ref 19]) [] (h00 L xs) 0 0
theorem law_facts : mL 240 = 7 ∧ mT 240 = 12 ∧ mH 240 = [] ∧ mG 240 = 0 ∧ mR 240 = some .boolean := by decide +kernel
theorem law_code : mB 240 = code := by rfl
theorem start_of (hLaw : LawOK) {p : Program} {e : Env} {s : State} {m : MethodId} {below : List Frame} {meth : Method} {c : Code} (l : Launch) (hst : l.stackTraces = false) {b L : Nat} {xs : Nat → Int32} (hL : L ≤ 4096) (C0 : lw_At p s m meth c b L xs) : W p l e room_1 s m #[Value.ref b] below meth c s.heap [] 0 0 (lw_Z below #[Value.ref b] s) (entryFrame m ([Value.ref b] : List Value).toArray 7) := by
  obtain ⟨hx, hb, hr, hml, hown, hts, hX, hbl, hlocks, hgv⟩ := C0
  obtain ⟨G, hA, hB, eL, eX, e19, hSU, hRO⟩ := start_G hts hX hbl hgv
  obtain ⟨f1, f2, f3, f4, f5⟩ := law_facts
  obtain ⟨d, hd, hrun⟩ := hLaw
  have hg : ∀ w ∈ gw, w.before #[Value.ref b] s = true := fun w hw => hts w (List.mem_filter.mp hw).1
  have F : Fra p l e room_1 s m #[Value.ref b] meth c G 240 601024 7293034 (d + 1) := by
    refine ⟨hx, by rw [law_code]; exact hb, by rw [f1]; exact hml, fun _ => ?_, hg, hSU, hRO, hA, by rw [hB]; exact Nat.le_refl _, Nat.le_refl _, Nat.le_refl _, ?_, ?_, fun hi => ?_⟩
    · rw [f2]
      exact hown
    · show d + 1 + 6 ≤ 2048
      omega
    · show 60 * (d + 1) + 200 ≤ 84000
      omega
    · have hg2 : mG 240 = 2 := eq_of_beq hi
      omega
  have hE : ∀ (i : Instr) (n pc : Nat) (ls : LL) (st : List Value) (h : AH) (c1 z1 : Nat) (K : LL → List Value → AH → Nat → Nat → Prop), isEnd i = true → insB (mB 240) (mT 240) (ini 240) pc i n = true → stp (Mz d) 601024 7293034 (MP p l e room_1 s m #[Value.ref b] below meth c (lw_Z below #[Value.ref b] s) G 240 601024 7293034) (fun v h => rtok (mR 240) v ∧ v = some (some (.int 1))) i ls st h c1 z1 K → MP p l e room_1 s m #[Value.ref b] below meth c (lw_Z below #[Value.ref b] s) G 240 601024 7293034 pc ls st h c1 z1 := by
    intro i n pc ls st h c1 z1 K he hi hs
    cases i <;> first | exact absurd he Bool.false_ne_true | skip
    case athrow =>
      have := (hs.2 (gn h) (Nat.le_refl _)).2
      cases this
    case ireturn =>
      intro hc hz H locs mls hRW hROH hS hl
      obtain ⟨raw, hd9, hn, hq⟩ := inv_ld hi rfl (by intro v q; cases q) (by intro q; cases q)
      obtain ⟨rfl, rfl⟩ := rq_ireturn hq hn
      match st, hs with
      | [.int x], hs =>
        have hx1 : x = 1 := by
          have := hs.2
          cases this
          rfl
        subst hx1
        rw [law_code] at hd9
        exact W.widen hc hz (va_forget (fun q hq => by rw [← hB]; exact hS.2.2 q hq) (lw_ret hx hb hr hlocks hd9))
    case lreturn =>
      match st, hs with
      | [.long x], hs => cases hs.2
    case areturn =>
      match st, hs with
      | [.ref x], hs => cases hs.2
      | [.null], hs => cases hs.2
    case return_ =>
      match st, hs with
      | [], hs => cases hs.2
  have hclo := clo_ok (below := below) (FQ := lw_Z below #[Value.ref b] s) (Q := fun v _ => v = some (some (.int 1))) F (fun h => absurd f3 h) (mt_sound hA hst d) hE
  have go := hrun L xs hL _ hclo
  obtain ⟨mls, hent, hlr⟩ := ent_ok G m (as := [.ref 19]) (n := 7) (Nat.le_of_ble_eq_true rfl)
  have hent2 : entryFrame m ([Value.ref b] : List Value).toArray 7 = F0 m 0 mls [] := by
    rw [← hent]
    show _ = entryFrame m #[Value.ref (gA G 19)] 7
    rw [e19]
  rw [hent2]
  have hro := h00_ro L xs
  exact go (Nat.zero_le _) (Nat.zero_le _) s.heap [] mls (h00_rw hB.symm) (by rw [eL, eX]; exact hro) ⟨Nat.le_refl _, fun q _ _ => rfl, fun q hq => by cases hq⟩ (by rw [f1]; exact hlr)
