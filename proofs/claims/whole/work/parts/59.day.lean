/-! ===== a day of a talk (pure), and the reference's -/
theorem LKs_ex (h : AH) : ∃ ls, LKs h ls := by
  have e4 : strN 4 = [104, 101, 111, 116, 107, 97, 113, 119, 103, 102] := by decide +kernel
  refine ⟨(List.range (tn (gi h 107 60))).map (fun k => ([(104, gi h 143 (11 * k)), (101, gi h 143 (11 * k + 1)), (111, gi h 143 (11 * k + 2)), (116, gi h 143 (11 * k + 3)), (107, gi h 143 (11 * k + 4)), (97, gi h 143 (11 * k + 5)), (113, gi h 143 (11 * k + 6)), (119, gi h 143 (11 * k + 7)), (103, gi h 143 (11 * k + 8)), (102, gi h 143 (11 * k + 9))], tn (gi h 143 (11 * k + 10)))), ?_, fun k hk => ?_⟩
  · rw [List.length_map, List.length_range, nI_tn]
  · rw [List.length_map, List.length_range] at hk
    have e : ((List.range (tn (gi h 107 60))).map (fun k => (([(104, gi h 143 (11 * k)), (101, gi h 143 (11 * k + 1)), (111, gi h 143 (11 * k + 2)), (116, gi h 143 (11 * k + 3)), (107, gi h 143 (11 * k + 4)), (97, gi h 143 (11 * k + 5)), (113, gi h 143 (11 * k + 6)), (119, gi h 143 (11 * k + 7)), (103, gi h 143 (11 * k + 8)), (102, gi h 143 (11 * k + 9))], tn (gi h 143 (11 * k + 10))) : Lk))).getD k l0 = ([(104, gi h 143 (11 * k)), (101, gi h 143 (11 * k + 1)), (111, gi h 143 (11 * k + 2)), (116, gi h 143 (11 * k + 3)), (107, gi h 143 (11 * k + 4)), (97, gi h 143 (11 * k + 5)), (113, gi h 143 (11 * k + 6)), (119, gi h 143 (11 * k + 7)), (103, gi h 143 (11 * k + 8)), (102, gi h 143 (11 * k + 9))], tn (gi h 143 (11 * k + 10))) := by
      rw [List.getD_eq_getElem?_getD, List.getElem?_map, List.getElem?_range hk]
      rfl
    rw [e, e4]
    refine ⟨fun i hi => ?_, by rw [nI_tn]⟩
    match i, hi with
    | 0, _ => rfl
    | 1, _ => rfl
    | 2, _ => rfl
    | 3, _ => rfl
    | 4, _ => rfl
    | 5, _ => rfl
    | 6, _ => rfl
    | 7, _ => rfl
    | 8, _ => rfl
    | 9, _ => rfl
    | i + 10, q => exact absurd q (by omega)
/-- words, ground, how many spoke today, looks -/
abbrev Ds : Type := List Wd × Nat × Nat × List Lk
/-- behind one's turn -/
def stD (s : St) (m day e : Nat) (x : Ds) (res : Option (Nat × Nat)) (lk : List Lk) : Ds := match res with
  | none => (x.1, x.2.1, x.2.2.1, x.2.2.2 ++ lk)
  | some (p, i) => (x.1 ++ [(e, day, p, wyN (s 112 m) x.2.1 p, i, x.2.1)], wwN (s 112 m) x.2.1 p i, x.2.2.1 + 1, x.2.2.2 ++ lk)
/-- a day, k seats on -/
noncomputable def dyS (s : St) (ed rs : Nat → Nat) (m day : Nat) (x : Ds) : Nat → Ds
  | 0 => (x.1, x.2.1, 0, x.2.2.2)
  | k + 1 => stD s m day (sd s k) (dyS s ed rs m day x k) (tuS s ed rs (dyS s ed rs m day x k).1 (dyS s ed rs m day x k).2.1 (sd s k) m day k (dyS s ed rs m day x k).2.2.1) (lkS s ed rs (dyS s ed rs m day x k).1 (dyS s ed rs m day x k).2.1 (sd s k) m day k (dyS s ed rs m day x k).2.2.1)
/-- as day j is over -/
noncomputable def dE (s : St) (ed rs : Nat → Nat) (m : Nat) (ls : List Lk) : Nat → Ds
  | 0 => ([], s 117 m, 0, ls)
  | j + 1 => dyS s ed rs m (j + 1) (dE s ed rs m ls j) (sn s)
theorem tuF_ok {h : AH} {s : St} (W : RH h s) {ws : List Wd} {g : Nat} {tr : Int32} {e m day ahead today : Nat} (hm : m < s 107 19) : ∀ n p q i, tuF s ws g tr e m day ahead today n p = some (q, i) → p ≤ q ∧ q < p + n ∧ i < s 113 m := by
  intro n
  induction n with
  | zero => intro p q i e; cases e
  | succ n ih =>
    intro p q i e1
    by_cases c : noP s ws g tr e m day ahead today p
    · have e2 : tuF s ws g tr e m day ahead today (n + 1) p = some (p, insS s e m p (wyN (s 112 m) g p) (lkP s ws g tr e m day ahead today p)) := if_pos c
      rw [e2] at e1
      cases e1
      exact ⟨Nat.le_refl _, by omega, (insS_ok W hm _).1⟩
    · have e2 : tuF s ws g tr e m day ahead today (n + 1) p = tuF s ws g tr e m day ahead today n (p + 1) := if_neg c
      rw [e2] at e1
      have := ih (p + 1) q i e1
      omega
theorem lkF_len {s : St} {ws : List Wd} {g : Nat} {tr : Int32} {e m day ahead today : Nat} : ∀ n p, (lkF s ws g tr e m day ahead today n p).length ≤ n := by
  intro n
  induction n with
  | zero => exact fun p => Nat.le_refl _
  | succ n ih =>
    intro p
    show (lkC s ws g tr e m day ahead today p :: @ite _ _ (Classical.propDecidable _) [] _).length ≤ _
    rw [List.length_cons]
    by_cases c : noP s ws g tr e m day ahead today p
    · rw [if_pos c]
      simp
    · rw [if_neg c]
      have := ih (p + 1)
      omega
theorem lkS_len {h : AH} {s : St} (W : RH h s) {ed rs : Nat → Nat} {ws : List Wd} {g e m day ahead today : Nat} (hm : m < s 107 19) : (lkS s ed rs ws g e m day ahead today).length ≤ 5 ∧ (¬ e = s 107 61 → lkS s ed rs ws g e m day ahead today = []) := by
  have h1 := rs_p W hm
  refine ⟨?_, fun q => ifO_f (fun z => q z.2)⟩
  by_cases c : msP s m ws e day ahead today ∧ e = s 107 61
  · rw [show lkS s ed rs ws g e m day ahead today = _ from ifO_t c]
    have := lkF_len (s := s) (ws := ws) (g := g) (tr := trI s ed rs e m (s 107 67)) (e := e) (m := m) (day := day) (ahead := ahead) (today := today) (s 112 m) 0
    omega
  · rw [show lkS s ed rs ws g e m day ahead today = _ from ifO_f c]
    simp
theorem wwN_lt {n x p v : Nat} (hn : n ≤ 5) (hp : p < n) (hx : x < 1024) (hv : v < 4) : wwN n x p v < 1024 := by
  have h1 : adN x (3 <<< (2 * (n - 1 - p))) < 2 ^ 10 := adN_lt (show x < 2 ^ 10 from hx)
  have h2 : v <<< (2 * (n - 1 - p)) < 2 ^ 10 := by
    rw [Nat.shiftLeft_eq]
    have h3 : 2 ^ (2 * (n - 1 - p)) ≤ 2 ^ 8 := Nat.pow_le_pow_right (by omega) (by omega)
    have h4 : v * 2 ^ (2 * (n - 1 - p)) ≤ 3 * 2 ^ 8 := Nat.mul_le_mul (by omega) h3
    omega
  exact or_lt h1 h2
/-- a day's state as it can be: t turns were had -/
def DO (s : St) (m c t : Nat) (x : Ds) : Prop := WK s m x.1 ∧ x.1.length ≤ t ∧ x.2.1 < 1024 ∧ x.2.2.2.length ≤ c + 5 * t
theorem stD_ok {h : AH} {s : St} (W : RH h s) {ed rs : Nat → Nat} {m day e ahead t c0 : Nat} {x : Ds} (hm : m < s 107 19) (hd : day ≤ 30) (he : e < 8) (ht : t < 240) (D : DO s m c0 t x) : DO s m c0 (t + 1) (stD s m day e x (tuS s ed rs x.1 x.2.1 e m day ahead x.2.2.1) (lkS s ed rs x.1 x.2.1 e m day ahead x.2.2.1)) := by
  obtain ⟨d1, d2, d3, d4⟩ := D
  have l5 := (lkS_len (ed := ed) (rs := rs) (ws := x.1) (g := x.2.1) (e := e) (day := day) (ahead := ahead) (today := x.2.2.1) W hm).1
  have h1 := rs_p W hm
  cases er : tuS s ed rs x.1 x.2.1 e m day ahead x.2.2.1 with
  | none =>
    refine ⟨d1, ?_, d3, ?_⟩
    · show x.1.length ≤ t + 1
      omega
    · show (x.2.2.2 ++ _).length ≤ _
      rw [List.length_append]
      omega
  | some q =>
    obtain ⟨p, i⟩ := q
    have er2 : tuF s x.1 x.2.1 (trI s ed rs e m (s 107 67)) e m day ahead x.2.2.1 (s 112 m) 0 = some (p, i) := by
      by_cases c : msP s m x.1 e day ahead x.2.2.1
      · rw [← er]
        exact (ifO_t c).symm
      · have : tuS s ed rs x.1 x.2.1 e m day ahead x.2.2.1 = none := ifO_f c
        rw [er] at this
        cases this
    obtain ⟨q1, q2, q3⟩ := tuF_ok W hm _ _ _ _ er2
    have w4 := wyN_lt (s 112 m) x.2.1 p
    refine ⟨⟨?_, fun y hy => ?_⟩, ?_, ?_, ?_⟩
    · show (x.1 ++ [_]).length ≤ 240
      rw [List.length_append]
      simp only [List.length_cons, List.length_nil]
      omega
    · rcases List.mem_append.mp hy with z | z
      · exact d1.2 y z
      · rw [List.mem_singleton] at z
        subst z
        exact ⟨he, hd, by show p < _; omega, w4, q3, d3⟩
    · show (x.1 ++ [_]).length ≤ t + 1
      rw [List.length_append]
      simp only [List.length_cons, List.length_nil]
      omega
    · exact wwN_lt h1.2.1 (by omega) d3 (by omega)
    · show (x.2.2.2 ++ _).length ≤ _
      rw [List.length_append]
      omega
