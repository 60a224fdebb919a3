/-! ===== what a talk hangs on (pure) ===== -/
def Ag (s s' : St) (m : Nat) : Prop :=
  (sn s' = sn s ∧ ∀ j, sd s' j = sd s j) ∧ (s' 112 m = s 112 m ∧ s' 113 m = s 113 m ∧ s' 117 m = s 117 m) ∧
  (∀ lb ps, lawW s' m lb ps = lawW s m lb ps) ∧ (∀ e lb ps, e < s 107 18 → mindW s' e lb ps = mindW s e lb ps) ∧ (∀ e bits, hfN s' e bits = hfN s e bits) ∧
  (∀ e p w, e < s 107 18 → p < 5 → w < 4 → s' 114 (((4 * e + m) * 5 + p) * 4 + w) = s 114 (((4 * e + m) * 5 + p) * 4 + w)) ∧ (∀ e p x, e < s 107 18 → p < 5 → (plP s' e m p x ↔ plP s e m p x)) ∧ (∀ x, abP s' m x ↔ abP s m x) ∧ ∀ ed rs e, trI s' ed rs e m (s' 107 67) = trI s ed rs e m (s 107 67)
section
variable {s s' : St} {m : Nat}
theorem ag_lkP (A : Ag s s' m) {ws : List Wd} {g : Nat} {tr : Int32} {e day ahead today p : Nat} (he : e < s 107 18) (hp : p < 5) : lkP s' ws g tr e m day ahead today p = lkP s ws g tr e m day ahead today p := by
  obtain ⟨a1, a2, a3, a4, a5, a6, a7, a8, a9⟩ := A
  unfold lkP lkL
  rw [a2.1, a5, a5, a6 e p _ he hp (wyN_lt _ _ _)]
theorem ag_noP (A : Ag s s' m) {ws : List Wd} {g : Nat} {tr : Int32} {e day ahead today p : Nat} (he : e < s 107 18) (hp : p < 5) : noP s' ws g tr e m day ahead today p = noP s ws g tr e m day ahead today p := by
  have l := ag_lkP A (ws := ws) (g := g) (tr := tr) (day := day) (ahead := ahead) (today := today) he hp
  obtain ⟨a1, a2, a3, a4, a5, a6, a7, a8, a9⟩ := A
  unfold noP
  rw [l, a4 e _ _ he, propext (a7 e p g he hp)]
theorem ag_bst (A : Ag s s' m) {e p w : Nat} (he : e < s 107 18) (hp : p < 5) : ∀ k, k ≤ 4 → bstS s' e m p w k = bstS s e m p w k := by
  obtain ⟨a1, a2, a3, a4, a5, a6, a7, a8, a9⟩ := A
  intro k
  induction k with
  | zero => exact fun _ => rfl
  | succ k ih =>
    intro hk
    have i := ih (by omega)
    by_cases c : ¬ k = w ∧ ∀ q, bstS s e m p w k = some q → s 114 (((4 * e + m) * 5 + p) * 4 + q) < s 114 (((4 * e + m) * 5 + p) * 4 + k)
    · have r : bstS s e m p w (k + 1) = some k := mnG_t c
      rw [r]
      refine mnG_t ⟨c.1, fun q hq => ?_⟩
      have hq2 : bstS s' e m p w k = some q := hq
      rw [i] at hq2
      have lq := (mnG_lt hq2).1
      show s' 114 _ < s' 114 _
      rw [a6 e p q he hp (by omega), a6 e p k he hp (by omega)]
      exact c.2 q hq2
    · have r : bstS s e m p w (k + 1) = bstS s e m p w k := mnG_f c
      rw [r, ← i]
      refine mnG_f fun z => c ⟨z.1, fun q hq => ?_⟩
      have lq := (mnG_lt hq).1
      have := z.2 q (by rw [← i] at hq; exact hq)
      have t : s' 114 (((4 * e + m) * 5 + p) * 4 + q) < s' 114 (((4 * e + m) * 5 + p) * 4 + k) := this
      rw [a6 e p q he hp (by omega), a6 e p k he hp (by omega)] at t
      exact t
theorem ag_ins (A : Ag s s' m) (r4 : s 113 m ≤ 4) {e p w : Nat} {ps : List (Nat × Int32)} (he : e < s 107 18) (hp : p < 5) : insS s' e m p w ps = insS s e m p w ps := by
  have b := ag_bst A (w := w) he hp
  obtain ⟨a1, a2, a3, a4, a5, a6, a7, a8, a9⟩ := A
  unfold insS
  rw [a4 e _ _ he, a2.2.1, b _ r4]
theorem ag_tuF (A : Ag s s' m) (r4 : s 113 m ≤ 4) {ws : List Wd} {g : Nat} {tr : Int32} {e day ahead today : Nat} (he : e < s 107 18) : ∀ n p, p + n ≤ 5 → tuF s' ws g tr e m day ahead today n p = tuF s ws g tr e m day ahead today n p := by
  intro n
  induction n with
  | zero => exact fun _ _ => rfl
  | succ n ih =>
    intro p hp
    have np := ag_noP A (ws := ws) (g := g) (tr := tr) (day := day) (ahead := ahead) (today := today) (p := p) he (by omega)
    have lp := ag_lkP A (ws := ws) (g := g) (tr := tr) (day := day) (ahead := ahead) (today := today) (p := p) he (by omega)
    show @ite _ (noP s' ws g tr e m day ahead today p) (Classical.propDecidable _) (some (p, insS s' e m p (wyN (s' 112 m) g p) (lkP s' ws g tr e m day ahead today p))) (tuF s' ws g tr e m day ahead today n (p + 1)) = @ite _ (noP s ws g tr e m day ahead today p) (Classical.propDecidable _) (some (p, insS s e m p (wyN (s 112 m) g p) (lkP s ws g tr e m day ahead today p))) (tuF s ws g tr e m day ahead today n (p + 1))
    rw [ih (p + 1) (by omega), lp, ag_ins A r4 he (by omega), A.2.1.1]
    by_cases q : noP s ws g tr e m day ahead today p
    · rw [if_pos q, if_pos (by rw [np]; exact q)]
    · rw [if_neg q, if_neg (by rw [np]; exact q)]
theorem ag_lkF (A : Ag s s' m) {ws : List Wd} {g : Nat} {tr : Int32} {e day ahead today : Nat} (he : e < s 107 18) : ∀ n p, p + n ≤ 5 → lkF s' ws g tr e m day ahead today n p = lkF s ws g tr e m day ahead today n p := by
  intro n
  induction n with
  | zero => exact fun _ _ => rfl
  | succ n ih =>
    intro p hp
    have np := ag_noP A (ws := ws) (g := g) (tr := tr) (day := day) (ahead := ahead) (today := today) (p := p) he (by omega)
    have lp := ag_lkP A (ws := ws) (g := g) (tr := tr) (day := day) (ahead := ahead) (today := today) (p := p) he (by omega)
    have cp : lkC s' ws g tr e m day ahead today p = lkC s ws g tr e m day ahead today p := by
      unfold lkC
      rw [lp, np, propext (A.2.2.2.2.2.2.1 e p g he (by omega))]
    show lkC s' ws g tr e m day ahead today p :: @ite _ (noP s' ws g tr e m day ahead today p) (Classical.propDecidable _) [] (lkF s' ws g tr e m day ahead today n (p + 1)) = lkC s ws g tr e m day ahead today p :: @ite _ (noP s ws g tr e m day ahead today p) (Classical.propDecidable _) [] (lkF s ws g tr e m day ahead today n (p + 1))
    rw [ih (p + 1) (by omega), cp]
    by_cases q : noP s ws g tr e m day ahead today p
    · rw [if_pos q, if_pos (by rw [np]; exact q)]
    · rw [if_neg q, if_neg (by rw [np]; exact q)]
theorem ag_ms (A : Ag s s' m) {ws : List Wd} {e day ahead today : Nat} : msP s' m ws e day ahead today = msP s m ws e day ahead today := by
  unfold msP msW msL
  rw [A.1.1, A.2.2.1]
theorem ag_tuS (A : Ag s s' m) (r5 : s 112 m ≤ 5) (r4 : s 113 m ≤ 4) {ed rs : Nat → Nat} {ws : List Wd} {g e day ahead today : Nat} (he : e < s 107 18) : tuS s' ed rs ws g e m day ahead today = tuS s ed rs ws g e m day ahead today := by
  unfold tuS
  rw [ag_ms A, A.2.2.2.2.2.2.2.2, A.2.1.1, ag_tuF A r4 he _ _ (by omega)]
theorem ag_lkS (A : Ag s s' m) (h61 : s' 107 61 = s 107 61) (r5 : s 112 m ≤ 5) {ed rs : Nat → Nat} {ws : List Wd} {g e day ahead today : Nat} (he : e < s 107 18) : lkS s' ed rs ws g e m day ahead today = lkS s ed rs ws g e m day ahead today := by
  unfold lkS
  rw [ag_ms A, A.2.2.2.2.2.2.2.2, A.2.1.1, ag_lkF A he _ _ (by omega), h61]
theorem ag_dyS (A : Ag s s' m) (h61 : s' 107 61 = s 107 61) (r5 : s 112 m ≤ 5) (r4 : s 113 m ≤ 4) {ed rs : Nat → Nat} {day : Nat} {x : Ds} : ∀ k, k ≤ sn s → dyS s' ed rs m day x k = dyS s ed rs m day x k := by
  intro k
  induction k with
  | zero => exact fun _ => rfl
  | succ k ih =>
    intro hk
    have sl := seats_lt (sd_mem (s := s) (j := k) (by omega))
    show stD s' m day (sd s' k) (dyS s' ed rs m day x k) (tuS s' ed rs (dyS s' ed rs m day x k).1 (dyS s' ed rs m day x k).2.1 (sd s' k) m day k (dyS s' ed rs m day x k).2.2.1) (lkS s' ed rs (dyS s' ed rs m day x k).1 (dyS s' ed rs m day x k).2.1 (sd s' k) m day k (dyS s' ed rs m day x k).2.2.1) = stD s m day (sd s k) (dyS s ed rs m day x k) (tuS s ed rs (dyS s ed rs m day x k).1 (dyS s ed rs m day x k).2.1 (sd s k) m day k (dyS s ed rs m day x k).2.2.1) (lkS s ed rs (dyS s ed rs m day x k).1 (dyS s ed rs m day x k).2.1 (sd s k) m day k (dyS s ed rs m day x k).2.2.1)
    rw [ih (by omega), A.1.2, ag_tuS A r5 r4 sl, ag_lkS A h61 r5 sl]
    unfold stD
    rw [A.2.1.1]
theorem ag_dE (A : Ag s s' m) (h61 : s' 107 61 = s 107 61) (r5 : s 112 m ≤ 5) (r4 : s 113 m ≤ 4) {ed rs : Nat → Nat} {ls : List Lk} : ∀ j, dE s' ed rs m ls j = dE s ed rs m ls j := by
  intro j
  induction j with
  | zero =>
    show ([], s' 117 m, 0, ls) = ([], s 117 m, 0, ls)
    rw [A.2.1.2.2]
  | succ j ih =>
    show dyS s' ed rs m (j + 1) (dE s' ed rs m ls j) (sn s') = dyS s ed rs m (j + 1) (dE s ed rs m ls j) (sn s)
    rw [ih, A.1.1, ag_dyS A h61 r5 r4 _ (Nat.le_refl _)]
theorem ag_endA (A : Ag s s' m) (h61 : s' 107 61 = s 107 61) (r5 : s 112 m ≤ 5) (r4 : s 113 m ≤ 4) {ed rs : Nat → Nat} {ls : List Lk} (j : Nat) : endA s' ed rs m ls j = endA s ed rs m ls j := by
  have d := ag_dE A h61 r5 r4 (ed := ed) (rs := rs) (ls := ls)
  have sl : slP s' m (dE s ed rs m ls j).2.1 j = slP s m (dE s ed rs m ls j).2.1 j := by
    unfold slP slW
    rw [A.1.1, A.2.2.1, propext (A.2.2.2.2.2.2.2.1 _)]
  have ld : ldN s' m = ldN s m := by
    unfold ldN ldW
    rw [A.1.1, A.2.2.1]
  have ws : ∀ b, wsB s' ed rs m ls j b = wsB s ed rs m ls j b := by
    intro b
    unfold wsB waP wdG wdF wdN
    rw [d j, d b]
  unfold endA
  rw [d j, sl, ld]
  simp only [ws]
theorem ag_tlS (A : Ag s s' m) (h61 : s' 107 61 = s 107 61) (r5 : s 112 m ≤ 5) (r4 : s 113 m ≤ 4) {ed rs : Nat → Nat} {ls : List Lk} : tlS s' ed rs m ls = tlS s ed rs m ls := by
  have e := ag_endA A h61 r5 r4 (ed := ed) (rs := rs) (ls := ls)
  have f : ∀ n j, tlF s' ed rs m ls n j = tlF s ed rs m ls n j := by
    intro n
    induction n with
    | zero => exact fun _ => rfl
    | succ n ih =>
      intro j
      show (match endA s' ed rs m ls j with | some c => (j, c) | none => tlF s' ed rs m ls n (j + 1)) = (match endA s ed rs m ls j with | some c => (j, c) | none => tlF s ed rs m ls n (j + 1))
      rw [e, ih]
  exact f 30 1
theorem trI_un (s : St) (ed rs : Nat → Nat) (e m : Nat) : ∀ n, trI (unW s) ed rs e m n = trI s ed rs e m n := by
  intro n
  induction n with
  | zero => rfl
  | succ n ih =>
    show @ite _ (s 145 n = e ∧ s 146 n < m) (Classical.propDecidable _) (trI (unW s) ed rs e m n + @ite _ (kpP s ed rs n) (Classical.propDecidable _) (nI 1) (-1)) (trI (unW s) ed rs e m n) = @ite _ (s 145 n = e ∧ s 146 n < m) (Classical.propDecidable _) (trI s ed rs e m n + @ite _ (kpP s ed rs n) (Classical.propDecidable _) (nI 1) (-1)) (trI s ed rs e m n)
    rw [ih]
theorem ag_un (A : Ag s s' m) : Ag (unW s) (unW s') m := by
  obtain ⟨a1, a2, a3, a4, a5, a6, a7, a8, a9⟩ := A
  refine ⟨a1, a2, a3, a4, a5, a6, a7, a8, fun ed rs e => ?_⟩
  rw [trI_un, trI_un]
  exact a9 ed rs e
theorem ag_er (h61 : s' 107 61 = s 107 61) : ∀ k, (∀ i, i < k → Ag s s' i ∧ s 112 i ≤ 5 ∧ s 113 i ≤ 4) → erS s' k = erS s k := by
  intro k
  induction k with
  | zero => exact fun _ => rfl
  | succ k ih =>
    intro h
    have i := ih (fun j hj => h j (by omega))
    obtain ⟨A, r5, r4⟩ := h k (by omega)
    show ((fun j => if j = k then (tlS s' (erS s' k).1 (erS s' k).2 k []).2 else (erS s' k).1 j, fun j => if j = k then (dE s' (erS s' k).1 (erS s' k).2 k [] (tlS s' (erS s' k).1 (erS s' k).2 k []).1).2.1 else (erS s' k).2 j) : (Nat → Nat) × (Nat → Nat)) = (fun j => if j = k then (tlS s (erS s k).1 (erS s k).2 k []).2 else (erS s k).1 j, fun j => if j = k then (dE s (erS s k).1 (erS s k).2 k [] (tlS s (erS s k).1 (erS s k).2 k []).1).2.1 else (erS s k).2 j)
    rw [i, ag_tlS A h61 r5 r4]
    simp only [ag_dE A h61 r5 r4]
/-- talks that agree -/
def AgB (s s' : St) (k : Nat) : Prop := ∀ i, i < k → Ag s s' i ∧ s 112 i ≤ 5 ∧ s 113 i ≤ 4
theorem ag_eB {k : Nat} (h : AgB s s' k) : eB s' k = eB s k ∧ rB s' k = rB s k := by
  have e := ag_er (s := unW s) (s' := unW s') rfl k (fun i hi => ⟨ag_un (h i hi).1, (h i hi).2⟩)
  unfold eB rB
  rw [e]
  exact ⟨rfl, rfl⟩
theorem ag_tk {j : Nat} (h61 : s' 107 61 = s 107 61) (h : AgB s s' (j + 1)) : tkE s' j = tkE s j ∧ tkD s' j = tkD s j := by
  obtain ⟨A, r5, r4⟩ := h j (by omega)
  obtain ⟨e1, e2⟩ := ag_eB (s := s) (s' := s') (k := j) (fun i hi => h i (by omega))
  have t : tkE s' j = tkE s j := by
    unfold tkE
    rw [e1, e2]
    exact ag_tlS A h61 r5 r4
  refine ⟨t, ?_⟩
  unfold tkD
  rw [t, e1, e2]
  exact ag_dE A h61 r5 r4 _
end
