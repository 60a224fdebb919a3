/-! ===== the codes that texts have (pure) ===== -/
/-- a step that the stack bears; truths where truths are joined -/
def ok1 (tk : Nat) (st : List Int32) : Prop :=
  tk % 256 = 48 ∨ tk % 256 = 97 ∨ (tk % 256 = 33 ∧ ∃ a r, st = a :: r) ∨ ((tk % 256 ≠ 48 ∧ tk % 256 ≠ 97 ∧ tk % 256 ≠ 33) ∧ ∃ y x r, st = y :: x :: r ∧ ((tk % 256 = 38 ∨ tk % 256 = 124) → (x = 0 ∨ x = 1) ∧ (y = 0 ∨ y = 1)))
def okC (l : Nat → Int32) : List Nat → List Int32 → Prop
  | [], _ => True
  | tk :: cd, st => ok1 tk st ∧ okC l cd (xc1 l tk st)
theorem okC_app (l : Nat → Int32) : ∀ (a b : List Nat) (st : List Int32), okC l (a ++ b) st ↔ okC l a st ∧ okC l b (xc l a st) := by
  intro a
  induction a with
  | nil => exact fun b st => ⟨fun h => ⟨trivial, h⟩, fun h => h.2⟩
  | cons t a ih =>
    intro b st
    show (ok1 t st ∧ okC l (a ++ b) (xc1 l t st)) ↔ (ok1 t st ∧ okC l a (xc1 l t st)) ∧ okC l b (xc l a (xc1 l t st))
    rw [ih, and_assoc]
/-- signs that a code may hold -/
def sgT (c : Nat) : Prop := c = 33 ∨ c = 43 ∨ c = 45 ∨ c = 42 ∨ c = 47 ∨ c = 61 ∨ c = 60 ∨ c = 62 ∨ c = 38 ∨ c = 124
/-- a token: a number, a letter told of, a sign -/
def tkG (al : List Nat) (tk : Nat) : Prop := (tk % 256 = 48 ∧ tk / 256 ≤ 9999) ∨ (tk % 256 = 97 ∧ al.contains (97 + tk / 256) = true ∧ tk / 256 < 26) ∨ sgT tk
/-- a code that leaves a number, a truth -/
def CG (al : List Nat) (t : Bool) (cd : List Nat) : Prop := (∀ tk ∈ cd, tkG al tk) ∧ 1 ≤ cd.length ∧ ∀ l, ∃ v, Vl l cd v ∧ (∀ st, okC l cd st) ∧ (t = true → v = 0 ∨ v = 1)
theorem CG_weak {al : List Nat} {cd : List Nat} (h : CG al true cd) : CG al false cd := ⟨h.1, h.2.1, fun l => by
  obtain ⟨v, a, b, _⟩ := h.2.2 l
  exact ⟨v, a, b, fun q => by cases q⟩⟩
theorem CG_num {al : List Nat} {v : Nat} (hv : v ≤ 9999) : CG al false [48 + 256 * v] := by
  refine ⟨fun tk ht => ?_, Nat.le_refl _, fun l => ⟨nI v, Vl_num l, fun st => ⟨Or.inl (by omega), trivial⟩, fun q => by cases q⟩⟩
  rw [List.mem_singleton] at ht
  subst ht
  exact Or.inl ⟨by omega, by omega⟩
theorem CG_let {al : List Nat} {c : Nat} (h1 : 97 ≤ c) (h2 : c < 123) (h : al.contains c = true) : CG al false [97 + 256 * (c - 97)] := by
  refine ⟨fun tk ht => ?_, Nat.le_refl _, fun l => ⟨l c, Vl_let l h1, fun st => ⟨Or.inr (Or.inl (by omega)), trivial⟩, fun q => by cases q⟩⟩
  rw [List.mem_singleton] at ht
  subst ht
  refine Or.inr (Or.inl ⟨by omega, ?_, by omega⟩)
  rw [show 97 + (97 + 256 * (c - 97)) / 256 = c by omega]
  exact h
theorem CG_not {al : List Nat} {cd : List Nat} (h : CG al true cd) : CG al true (cd ++ [33]) := by
  refine ⟨fun tk ht => ?_, by simp, fun l => ?_⟩
  · rcases List.mem_append.mp ht with q | q
    · exact h.1 tk q
    · rw [List.mem_singleton] at q
      subst q
      exact Or.inr (Or.inr (Or.inl rfl))
  · obtain ⟨v, a, b, c⟩ := h.2.2 l
    refine ⟨1 - v, Vl_not a, fun st => (okC_app l _ _ _).mpr ⟨b st, ?_⟩, fun _ => ?_⟩
    · rw [a st]
      exact ⟨Or.inr (Or.inr (Or.inl ⟨by decide, v, st, rfl⟩)), trivial⟩
    · rcases c rfl with e | e
      · rw [e]
        exact Or.inr (by decide)
      · rw [e]
        exact Or.inl (by decide)
theorem CG_join {al : List Nat} {t u : Bool} {a b : List Nat} {sg : Nat} (ha : CG al t a) (hb : CG al t b) (hs : sgT sg) (h33 : sg ≠ 33) (ht : (sg = 38 ∨ sg = 124) → t = true) (hu : u = true → ∀ x y : Int32, (t = true → (x = 0 ∨ x = 1) ∧ (y = 0 ∨ y = 1)) → bnF sg x y = 0 ∨ bnF sg x y = 1) : CG al u (a ++ b ++ [sg]) := by
  have s256 : sg < 256 ∧ sg ≠ 48 ∧ sg ≠ 97 := by
    unfold sgT at hs
    omega
  refine ⟨fun tk hk => ?_, by simp only [List.length_append, List.length_singleton]; omega, fun l => ?_⟩
  · rcases List.mem_append.mp hk with q | q
    · rcases List.mem_append.mp q with q | q
      · exact ha.1 tk q
      · exact hb.1 tk q
    · rw [List.mem_singleton] at q
      subst q
      exact Or.inr (Or.inr hs)
  · obtain ⟨v, a1, b1, c1⟩ := ha.2.2 l
    obtain ⟨w, a2, b2, c2⟩ := hb.2.2 l
    refine ⟨bnF sg v w, Vl_bin a1 a2 s256.1 ⟨s256.2.1, s256.2.2, h33⟩, fun st => (okC_app l _ _ _).mpr ⟨(okC_app l _ _ _).mpr ⟨b1 st, b2 _⟩, ?_⟩, fun q => hu q v w fun q2 => ⟨c1 q2, c2 q2⟩⟩
    rw [xc_app, a1 st, a2]
    refine ⟨Or.inr (Or.inr (Or.inr ⟨?_, w, v, st, rfl, fun q => ?_⟩)), trivial⟩
    · rw [Nat.mod_eq_of_lt s256.1]
      exact ⟨s256.2.1, s256.2.2, h33⟩
    · rw [Nat.mod_eq_of_lt s256.1] at q
      exact ⟨c1 (ht q), c2 (ht q)⟩
/-- what reads codes of a kind; a code has no more tokens than bytes were read -/
def PGc (al : List Nat) (t : Bool) (f : Ps) : Prop := ∀ p q cd, f p = (q, some cd) → CG al t cd ∧ p + cd.length ≤ q
theorem lpS_pg {B : Nat → Nat} {n x y : Nat} {al : List Nat} {t : Bool} {one : Ps} (h1 : PGc al t one) (hj : ∀ a b c, (c = x ∨ c = y) → CG al t a → CG al t b → CG al t (a ++ b ++ [c])) : ∀ f p cd p0 q c2, CG al t cd → p0 + cd.length ≤ p → lpS B n x y one f p cd = (q, some c2) → CG al t c2 ∧ p0 + c2.length ≤ q := by
  intro f
  induction f with
  | zero =>
    intro p cd p0 q c2 h2 h3 e
    cases e
    exact ⟨h2, h3⟩
  | succ f ih =>
    intro p cd p0 q c2 h2 h3 e
    have s1 := sk_ge B n p
    unfold lpS at e
    simp only at e
    split at e
    · rename_i c
      cases e1 : one (sk B n p + 1) with
      | mk p2 o =>
        rw [e1] at e
        cases o with
        | none => cases e
        | some c3 =>
          have g := h1 _ _ _ e1
          exact ih p2 _ p0 q c2 (hj _ _ _ c h2 g.1) (by simp only [List.length_append, List.length_singleton]; omega) e
    · cases e
      exact ⟨h2, by omega⟩
theorem chS_pg {B : Nat → Nat} {n x y : Nat} {al : List Nat} {t : Bool} {one : Ps} (h1 : PGc al t one) (hj : ∀ a b c, (c = x ∨ c = y) → CG al t a → CG al t b → CG al t (a ++ b ++ [c])) : PGc al t (chS B n x y one) := by
  intro p q cd e
  unfold chS at e
  cases e1 : one p with
  | mk p2 o =>
    rw [e1] at e
    cases o with
    | none => cases e
    | some c3 =>
      have g := h1 _ _ _ e1
      exact lpS_pg h1 hj (n + 1) p2 c3 p q cd g.1 g.2 e
theorem nmF_pg (B : Nat → Nat) (n : Nat) : ∀ f p v, f ≤ 4 → v < 10 ^ (4 - f) → (nmF B n f p v).2 ≤ 9999 ∧ p ≤ (nmF B n f p v).1 := by
  intro f
  induction f with
  | zero =>
    intro p v h1 h2
    refine ⟨?_, Nat.le_refl _⟩
    show v ≤ 9999
    omega
  | succ f ih =>
    intro p v h1 h2
    unfold nmF
    split
    · rename_i c
      have hc := dig_lt c
      have h3 : 10 * v + (ch B n p - 48) < 10 ^ (4 - f) := by
        rw [show 4 - f = (4 - (f + 1)) + 1 by omega, Nat.pow_succ]
        omega
      have := ih (p + 1) _ (by omega) h3
      exact ⟨this.1, by omega⟩
    · refine ⟨?_, Nat.le_refl _⟩
      have : 10 ^ (4 - (f + 1)) ≤ 10 ^ 4 := Nat.pow_le_pow_right (by omega) (by omega)
      show v ≤ 9999
      omega
theorem brS_pg {B : Nat → Nat} {n z q0 : Nat} {al : List Nat} {t : Bool} {inner : Option Ps} (h1 : ∀ f, inner = some f → PGc al t f) {q : Nat} {cd : List Nat} (e : brS B n z inner q0 = (q, some cd)) : CG al t cd ∧ q0 + cd.length ≤ q := by
  unfold brS at e
  cases inner with
  | none => cases e
  | some f =>
    simp only at e
    cases e1 : f (q0 + 1) with
    | mk p2 o =>
      rw [e1] at e
      cases o with
      | none => cases e
      | some c2 =>
        have g := h1 f rfl _ _ _ e1
        have s1 := sk_ge B n p2
        simp only at e
        split at e
        · cases e
          exact ⟨g.1, by omega⟩
        · cases e
theorem als_b (mind : Bool) : ∀ c, (als mind).contains c = true → 97 ≤ c ∧ c < 123 := by
  intro c h
  have h2 := List.contains_iff_mem.mp h
  clear h
  cases mind <;> (revert c; decide)
theorem atomS_pg {B : Nat → Nat} {n : Nat} {mind : Bool} {inner : Option Ps} (h1 : ∀ f, inner = some f → PGc (als mind) false f) : PGc (als mind) false (atomS B n (als mind) inner) := by
  intro p q cd e
  have s1 := sk_ge B n p
  unfold atomS at e
  simp only at e
  split at e
  · rename_i c
    cases e
    have := als_b mind _ c
    exact ⟨CG_let this.1 this.2 c, by simp only [List.length_singleton]; omega⟩
  · split at e
    · have := brS_pg h1 e
      exact ⟨this.1, by omega⟩
    · split at e
      · rename_i c
        unfold nmS at e
        simp only at e
        have g := nmF_pg B n 4 (sk B n p) 0 (Nat.le_refl _) (by decide)
        have g3 : sk B n p + 1 ≤ (nmF B n 4 (sk B n p) 0).1 := by
          have e4 : nmF B n 4 (sk B n p) 0 = nmF B n 3 (sk B n p + 1) (10 * 0 + (ch B n (sk B n p) - 48)) := if_pos c
          rw [e4]
          have hc := dig_lt c
          exact (nmF_pg B n 3 (sk B n p + 1) _ (by omega) (by omega)).2
        split at e
        · cases e
        · cases e
          exact ⟨CG_num g.1, by simp only [List.length_singleton]; omega⟩
      · cases e
theorem ar_join {al : List Nat} {x y : Nat} (hx : x = 42 ∧ y = 47 ∨ x = 43 ∧ y = 45) : ∀ a b c, (c = x ∨ c = y) → CG al false a → CG al false b → CG al false (a ++ b ++ [c]) :=
  fun _ _ c hc ha hb => CG_join ha hb (by unfold sgT; omega) (by omega) (fun q => by omega) (fun q => by cases q)
theorem sumG_pg {B : Nat → Nat} {n : Nat} {al : List Nat} {at1 : Ps} (h1 : PGc al false at1) : PGc al false (sumG B n at1) := chS_pg (chS_pg h1 (ar_join (Or.inl ⟨rfl, rfl⟩))) (ar_join (Or.inr ⟨rfl, rfl⟩))
theorem sumS_pg {B : Nat → Nat} {n : Nat} {mind : Bool} : ∀ r, PGc (als mind) false (sumS B n (als mind) r) := by
  intro r
  induction r with
  | zero => exact sumG_pg (atomS_pg (fun f e => by cases e))
  | succ r ih => exact sumG_pg (atomS_pg (fun f e => by cases e; exact ih))
theorem bnF_cmp {sg : Nat} (h : sg = 61 ∨ sg = 60 ∨ sg = 62) (x y : Int32) : bnF sg x y = 0 ∨ bnF sg x y = 1 := by
  rcases h with rfl | rfl | rfl
  · show (if x = y then (1 : Int32) else 0) = 0 ∨ _ = (1 : Int32)
    by_cases q : x = y
    · exact Or.inr (if_pos q)
    · exact Or.inl (if_neg q)
  · show (if x < y then (1 : Int32) else 0) = 0 ∨ _ = (1 : Int32)
    by_cases q : x < y
    · exact Or.inr (if_pos q)
    · exact Or.inl (if_neg q)
  · show (if y < x then (1 : Int32) else 0) = 0 ∨ _ = (1 : Int32)
    by_cases q : y < x
    · exact Or.inr (if_pos q)
    · exact Or.inl (if_neg q)
theorem bnF_log {sg : Nat} (h : sg = 38 ∨ sg = 124) {x y : Int32} (hx : x = 0 ∨ x = 1) (hy : y = 0 ∨ y = 1) : bnF sg x y = 0 ∨ bnF sg x y = 1 := by
  rcases h with rfl | rfl <;> rcases hx with rfl | rfl <;> rcases hy with rfl | rfl <;> first | exact Or.inl (by decide) | exact Or.inr (by decide)
theorem relS_pg {B : Nat → Nat} {n p : Nat} {al : List Nat} {sm : Ps} {cd : List Nat} (g : PGc al false sm) {p0 q : Nat} {c2 : List Nat} (hc : CG al false cd) (hp : p0 + cd.length ≤ p) (e : relS B n sm p cd = (q, some c2)) : CG al true c2 ∧ p0 + c2.length ≤ q := by
  have s1 := sk_ge B n p
  unfold relS at e
  simp only at e
  split at e
  · rename_i c
    have c3 := of_decide_eq_true c
    cases e1 : sm (sk B n p + 1) with
    | mk p2 o =>
      rw [e1] at e
      cases o with
      | none => cases e
      | some c4 =>
        have g2 := g _ _ _ e1
        cases e
        refine ⟨CG_join hc g2.1 (by unfold sgT; omega) (by omega) (fun q => by omega) (fun _ x y _ => bnF_cmp c3 x y), ?_⟩
        simp only [List.length_append, List.length_singleton]
        omega
  · cases e
theorem rlS_pg {B : Nat → Nat} {n : Nat} {al : List Nat} {sm : Ps} (g : PGc al false sm) : PGc al true (rlS B n sm) := by
  intro p q cd e
  unfold rlS at e
  cases e1 : sm p with
  | mk p2 o =>
    rw [e1] at e
    cases o with
    | none => cases e
    | some c2 =>
      have g2 := g _ _ _ e1
      exact relS_pg g g2.1 g2.2 e
theorem untS_pg {B : Nat → Nat} {n : Nat} {al : List Nat} {sm : Ps} {iu ic : Option Ps} (g : PGc al false sm) (gu : ∀ f, iu = some f → PGc al true f) (gc : ∀ f, ic = some f → PGc al true f) : PGc al true (untS B n sm iu ic) := by
  intro p q cd e
  have s1 := sk_ge B n p
  unfold untS at e
  simp only at e
  split at e
  · cases iu with
    | none => cases e
    | some f =>
      simp only at e
      cases e1 : f (sk B n p + 1) with
      | mk p2 o =>
        rw [e1] at e
        cases o with
        | none => cases e
        | some c2 =>
          have g2 := gu f rfl _ _ _ e1
          cases e
          refine ⟨CG_not g2.1, ?_⟩
          simp only [List.length_append, List.length_singleton]
          omega
  · split at e
    · have := brS_pg gc e
      exact ⟨this.1, by omega⟩
    · have := rlS_pg g _ _ _ e
      exact ⟨this.1, by omega⟩
theorem lg_join {al : List Nat} {x : Nat} (hx : x = 38 ∨ x = 124) : ∀ a b c, (c = x ∨ c = x) → CG al true a → CG al true b → CG al true (a ++ b ++ [c]) :=
  fun _ _ c hc ha hb => CG_join ha hb (by unfold sgT; omega) (by omega) (fun _ => rfl) (fun _ x y q => bnF_log (by omega) (q rfl).1 (q rfl).2)
theorem cndG_pg {B : Nat → Nat} {n : Nat} {al : List Nat} {u : Ps} (g : PGc al true u) : PGc al true (cndG B n u) := chS_pg (chS_pg g (lg_join (Or.inl rfl))) (lg_join (Or.inr rfl))
theorem uniS_pg {B : Nat → Nat} {n : Nat} {mind : Bool} : ∀ r, PGc (als mind) true (uniS B n (als mind) r) := by
  intro r
  induction r with
  | zero => exact untS_pg (sumS_pg 0) (fun f e => by cases e) (fun f e => by cases e)
  | succ r ih => exact untS_pg (sumS_pg (r + 1)) (fun f e => by cases e; exact ih) (fun f e => by cases e; exact cndG_pg ih)
theorem cd1_pg {B : Nat → Nat} {n p : Nat} {al : List Nat} {sm u : Ps} {cd : List Nat} (g : PGc al false sm) (gu : PGc al true u) {p0 q : Nat} {c2 : List Nat} (hc : CG al false cd) (hp : p0 + cd.length ≤ p) (e : cd1 B n sm u p cd = (q, some c2)) : CG al true c2 ∧ p0 + c2.length ≤ q := by
  unfold cd1 at e
  cases e1 : tr1 B n sm u p cd with
  | mk p2 o =>
    rw [e1] at e
    cases o with
    | none => cases e
    | some c3 =>
      unfold tr1 at e1
      cases e2 : relS B n sm p cd with
      | mk p3 o3 =>
        rw [e2] at e1
        cases o3 with
        | none => cases e1
        | some c4 =>
          have g1 := relS_pg g hc hp e2
          have g2 := lpS_pg gu (lg_join (Or.inl rfl)) _ _ _ p0 _ _ g1.1 g1.2 e1
          exact lpS_pg (chS_pg gu (lg_join (Or.inl rfl))) (lg_join (Or.inr rfl)) _ _ _ p0 _ _ g2.1 g2.2 e
/-- a clause's codes -/
def clC (c : Cl) : List Nat := (match c.2.1 with | none => [] | some cc => cc) ++ c.2.2
def CGl (mind : Bool) (c : Cl) : Prop := (lbs mind).contains c.1 = true ∧ (∀ cc, c.2.1 = some cc → CG (als mind) true cc) ∧ CG (als mind) false c.2.2
theorem clsQ_pg {B : Nat → Nat} {n : Nat} {mind : Bool} {lb p : Nat} {cc : List Nat} {p0 q : Nat} {c : Cl} (hl : (lbs mind).contains lb = true) (hc : CG (als mind) true cc) (hp : p0 + 2 + cc.length ≤ p) (e : clsQ B n (als mind) lb p cc = (q, some c)) : CGl mind c ∧ p0 + 2 + (clC c).length ≤ q := by
  have s1 := sk_ge B n p
  unfold clsQ at e
  simp only at e
  split at e
  · cases e1 : sumS B n (als mind) 6 (sk B n p + 1) with
    | mk p2 o =>
      rw [e1] at e
      cases o with
      | none => cases e
      | some c2 =>
        have g := sumS_pg 6 _ _ _ e1
        cases e
        refine ⟨⟨hl, fun c3 e3 => by cases e3; exact hc, g.1⟩, ?_⟩
        show p0 + 2 + (cc ++ c2).length ≤ _
        rw [List.length_append]
        omega
  · cases e
theorem clsS_pg {B : Nat → Nat} {n : Nat} {mind : Bool} {p q : Nat} {c : Cl} (e : clsS B n (lbs mind) (als mind) p = (q, some c)) : CGl mind c ∧ p + 2 + (clC c).length ≤ q := by
  have s1 := sk_ge B n p
  have s2 := sk_ge B n (sk B n p + 1)
  have s3 := sk_ge B n (sk B n (sk B n p + 1) + 1)
  unfold clsS at e
  simp only at e
  split at e
  · rename_i hl
    split at e
    · split at e
      · cases e1 : cndG B n (uniS B n (als mind) 6) (sk B n (sk B n (sk B n p + 1) + 1)) with
        | mk p2 o =>
          rw [e1] at e
          cases o with
          | none => cases e
          | some cc =>
            have g := cndG_pg (uniS_pg 6) _ _ _ e1
            exact clsQ_pg hl g.1 (by omega) e
      · cases e1 : sumS B n (als mind) 6 (sk B n (sk B n (sk B n p + 1) + 1)) with
        | mk p2 o =>
          rw [e1] at e
          cases o with
          | none => cases e
          | some cd =>
            have g := sumS_pg 6 _ _ _ e1
            simp only at e
            split at e
            · cases e2 : cd1 B n (sumS B n (als mind) 6) (uniS B n (als mind) 6) p2 cd with
              | mk p3 o3 =>
                rw [e2] at e
                cases o3 with
                | none => cases e
                | some cc =>
                  have g2 := cd1_pg (sumS_pg 6) (uniS_pg 6) (p0 := p + 2) g.1 (by omega) e2
                  exact clsQ_pg hl g2.1 g2.2 e
            · have s4 := sk_ge B n p2
              cases e
              refine ⟨⟨hl, fun c3 e3 => (by cases e3), g.1⟩, ?_⟩
              show p + 2 + ([] ++ cd).length ≤ _
              rw [List.nil_append]
              omega
    · cases e
  · cases e
/-- how many tokens clauses have -/
def clT : List Cl → Nat
  | [] => 0
  | c :: cs => (clC c).length + clT cs
theorem clT_app : ∀ (a : List Cl) (c : Cl), clT (a ++ [c]) = clT a + (clC c).length := by
  intro a
  induction a with
  | nil => intro c; show _ + 0 = 0 + _; omega
  | cons x a ih =>
    intro c
    show _ + clT (a ++ [c]) = _ + _ + _
    rw [ih]
    omega
theorem clC_1 {mind : Bool} {c : Cl} (h : CGl mind c) : 1 ≤ (clC c).length := by
  unfold clC
  rw [List.length_append]
  have := h.2.2.2.1
  omega
theorem clL_pg {B : Nat → Nat} {n : Nat} {mind : Bool} : ∀ f p cs q c2, (∀ c ∈ cs, CGl mind c) → clT cs + 3 * cs.length ≤ p + 1 → clT cs ≤ p → clL B n (lbs mind) (als mind) f p cs = (q, some c2) → (∀ c ∈ c2, CGl mind c) ∧ clT c2 + 3 * c2.length ≤ q + 1 ∧ clT c2 ≤ q := by
  intro f
  induction f with
  | zero =>
    intro p cs q c2 h1 h2 h3 e
    cases e
    exact ⟨h1, h2, h3⟩
  | succ f ih =>
    intro p cs q c2 h1 h2 h3 e
    have s1 := sk_ge B n p
    unfold clL at e
    simp only at e
    split at e
    · cases e1 : clsS B n (lbs mind) (als mind) (sk B n p + 1) with
      | mk p2 o =>
        rw [e1] at e
        cases o with
        | none => cases e
        | some c =>
          have g := clsS_pg e1
          refine ih p2 (cs ++ [c]) q c2 (fun x hx => ?_) ?_ ?_ e
          · rcases List.mem_append.mp hx with y | y
            · exact h1 x y
            · rw [List.mem_singleton] at y
              rw [y]
              exact g.1
          · rw [clT_app, List.length_append, List.length_singleton]
            omega
          · rw [clT_app]
            omega
    · split at e
      · cases e
      · cases e
        exact ⟨h1, by omega, by omega⟩
theorem txS_pg {B : Nat → Nat} {n : Nat} {mind : Bool} {q : Nat} {cs : List Cl} (e : txS B n (lbs mind) (als mind) = (q, some cs)) : (∀ c ∈ cs, CGl mind c) ∧ clT cs + 3 * cs.length ≤ q + 1 ∧ clT cs ≤ q := by
  unfold txS at e
  cases e1 : clsS B n (lbs mind) (als mind) 0 with
  | mk p2 o =>
    rw [e1] at e
    cases o with
    | none => cases e
    | some c =>
      have g := clsS_pg e1
      refine clL_pg (n + 1) p2 [c] q cs (fun x hx => ?_) ?_ ?_ e
      · rw [List.mem_singleton] at hx
        rw [hx]
        exact g.1
      · show (clC c).length + 0 + 3 * 1 ≤ _
        omega
      · show (clC c).length + 0 ≤ _
        omega
/-! letters that a text may not have don't matter -/
theorem xc_al {al : List Nat} {l l' : Nat → Int32} (h : ∀ c, al.contains c = true → l c = l' c) : ∀ (cd : List Nat) (st : List Int32), (∀ tk ∈ cd, tkG al tk) → xc l cd st = xc l' cd st := by
  intro cd
  induction cd with
  | nil => exact fun _ _ => rfl
  | cons t cd ih =>
    intro st hk
    have e : xc1 l t st = xc1 l' t st := by
      unfold xc1
      by_cases q : t % 256 = 97
      · rcases hk t List.mem_cons_self with a | a | a
        · omega
        · rw [h _ a.2.1]
        · unfold sgT at a
          omega
      · rw [if_neg q, if_neg q]
    show xc l cd (xc1 l t st) = xc l' cd (xc1 l' t st)
    rw [e]
    exact ih _ (fun tk ht => hk tk (List.mem_cons_of_mem _ ht))
theorem wrS_al {mind : Bool} {l l' : Nat → Int32} {lb : Nat} (h : ∀ c, (als mind).contains c = true → l c = l' c) : ∀ (cs : List Cl), (∀ c ∈ cs, CGl mind c) → wrS l lb cs = wrS l' lb cs := by
  intro cs
  induction cs with
  | nil => exact fun _ => rfl
  | cons c cs ih =>
    intro hc
    have g := hc c List.mem_cons_self
    have e1 : xc l c.2.2 [] = xc l' c.2.2 [] := xc_al h _ _ g.2.2.1
    have e2 : (c.1 = lb ∧ ∀ cc, c.2.1 = some cc → ¬ (xc l cc []).headD 0 = 0) = (c.1 = lb ∧ ∀ cc, c.2.1 = some cc → ¬ (xc l' cc []).headD 0 = 0) := by
      refine propext ⟨fun q => ⟨q.1, fun cc e => ?_⟩, fun q => ⟨q.1, fun cc e => ?_⟩⟩
      · rw [← xc_al h _ _ (g.2.1 cc e).1]
        exact q.2 cc e
      · rw [xc_al h _ _ (g.2.1 cc e).1]
        exact q.2 cc e
    show @ite _ _ (Classical.propDecidable _) _ (wrS l lb cs) = @ite _ _ (Classical.propDecidable _) _ (wrS l' lb cs)
    rw [e1, ih (fun x hx => hc x (List.mem_cons_of_mem _ hx))]
    by_cases q : c.1 = lb ∧ ∀ cc, c.2.1 = some cc → ¬ (xc l cc []).headD 0 = 0
    · rw [if_pos q, if_pos (e2 ▸ q)]
    · rw [if_neg q, if_neg (e2 ▸ q)]
theorem wtS_al {s : St} {mind : Bool} {l l' : Nat → Int32} {k lb : Nat} (h : ∀ c, (als mind).contains c = true → l c = l' c) : wtS s mind l k lb = wtS s mind l' k lb := by
  unfold wtS
  cases e : txS (txB s k) (s 127 k) (lbs mind) (als mind) with
  | mk q o =>
    cases o with
    | none => rfl
    | some cs => exact wrS_al h cs (txS_pg e).1
