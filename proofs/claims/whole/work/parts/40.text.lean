/-! ===== texts: what they say (pure) ===== -/
/-- from p on over blanks; n: where the text ends -/
def skF (B : Nat → Nat) (n : Nat) : Nat → Nat → Nat
  | 0, p => p
  | f + 1, p => if p < n ∧ B p = 32 then skF B n f (p + 1) else p
def sk (B : Nat → Nat) (n p : Nat) : Nat := skF B n (n - p) p
/-- the byte there; 256 at the end -/
def ch (B : Nat → Nat) (n p : Nat) : Nat := if p < n then B p else 256
theorem skF_spec (B : Nat → Nat) (n : Nat) : ∀ f p, n - p ≤ f → p ≤ skF B n f p ∧ (p ≤ n → skF B n f p ≤ n) ∧ ¬ (skF B n f p < n ∧ B (skF B n f p) = 32) ∧ (∀ j, p ≤ j → j < skF B n f p → B j = 32) := by
  intro f
  induction f with
  | zero =>
    intro p h
    exact ⟨Nat.le_refl _, fun h => h, fun q => by have := q.1; unfold skF at this; omega, fun j h1 h2 => by unfold skF at h2; omega⟩
  | succ f ih =>
    intro p h
    unfold skF
    split
    · rename_i c
      obtain ⟨i1, i2, i3, i4⟩ := ih (p + 1) (by omega)
      refine ⟨by omega, fun _ => i2 (by omega), i3, fun j h1 h2 => ?_⟩
      by_cases e : j = p
      · rw [e]
        exact c.2
      · exact i4 j (by omega) h2
    · rename_i c
      exact ⟨Nat.le_refl _, fun h => h, c, fun j h1 h2 => by omega⟩
theorem sk_ge (B : Nat → Nat) (n p : Nat) : p ≤ sk B n p := (skF_spec B n _ p (Nat.le_refl _)).1
theorem sk_le {B : Nat → Nat} {n p : Nat} (h : p ≤ n) : sk B n p ≤ n := (skF_spec B n _ p (Nat.le_refl _)).2.1 h
theorem sk_ne (B : Nat → Nat) (n p : Nat) : ¬ (sk B n p < n ∧ B (sk B n p) = 32) := (skF_spec B n _ p (Nat.le_refl _)).2.2.1
theorem sk_at {B : Nat → Nat} {n p : Nat} (h : ¬ (p < n ∧ B p = 32)) : sk B n p = p := by
  unfold sk
  cases n - p with
  | zero => rfl
  | succ f =>
    unfold skF
    rw [if_neg h]
theorem sk_step {B : Nat → Nat} {n p : Nat} (h : p < n ∧ B p = 32) : sk B n p = sk B n (p + 1) := by
  unfold sk
  have e : n - p = (n - (p + 1)) + 1 := by omega
  rw [e]
  show (if p < n ∧ B p = 32 then _ else _) = _
  rw [if_pos h]
theorem sk_sk (B : Nat → Nat) (n p : Nat) : sk B n (sk B n p) = sk B n p := sk_at (sk_ne B n p)
theorem ch_lt {B : Nat → Nat} {n p : Nat} (h : ch B n p < 256) : p < n := by
  unfold ch at h
  split at h
  · assumption
  · omega
/-- reads from a place on: where it stands then; its code, or none where that is the first byte at which nothing can go on -/
abbrev Ps : Type := Nat → Nat × Option (List Nat)
def dig (c : Nat) : Bool := decide (48 ≤ c ∧ c ≤ 57)
/-- at most f digits -/
def nmF (B : Nat → Nat) (n : Nat) : Nat → Nat → Nat → Nat × Nat
  | 0, p, v => (p, v)
  | f + 1, p, v => if dig (ch B n p) = true then nmF B n f (p + 1) (10 * v + (ch B n p - 48)) else (p, v)
def nmS (B : Nat → Nat) (n p : Nat) : Nat × Option (List Nat) :=
  let r := nmF B n 4 p 0
  if dig (ch B n r.1) = true then (r.1, none) else (r.1, some [48 + 256 * r.2])
/-- what stands in brackets, one deeper -/
def brS (B : Nat → Nat) (n : Nat) (z : Nat) (inner : Option Ps) (q : Nat) : Nat × Option (List Nat) :=
  match inner with
  | none => (q, none)
  | some f => match f (q + 1) with
    | (p, none) => (p, none)
    | (p, some cd) => if ch B n (sk B n p) = z then (sk B n p + 1, some cd) else (sk B n p, none)
def atomS (B : Nat → Nat) (n : Nat) (al : List Nat) (inner : Option Ps) : Ps := fun p =>
  let q := sk B n p
  let c := ch B n q
  if al.contains c = true then (q + 1, some [97 + 256 * (c - 97)])
  else if c = 91 then brS B n 93 inner q
  else if dig c = true then nmS B n q
  else (q, none)
/-- further ones behind the signs x and y; the sign's token is tk of it -/
def lpS (B : Nat → Nat) (n x y : Nat) (one : Ps) : Nat → Nat → List Nat → Nat × Option (List Nat)
  | 0, p, cd => (p, some cd)
  | f + 1, p, cd =>
    let q := sk B n p
    let c := ch B n q
    if c = x ∨ c = y then
      match one (q + 1) with
      | (p2, none) => (p2, none)
      | (p2, some c2) => lpS B n x y one f p2 (cd ++ c2 ++ [c])
    else (q, some cd)
def chS (B : Nat → Nat) (n x y : Nat) (one : Ps) : Ps := fun p =>
  match one p with
  | (p2, none) => (p2, none)
  | (p2, some cd) => lpS B n x y one (n + 1) p2 cd
def termS (B : Nat → Nat) (n : Nat) (at1 : Ps) : Ps := chS B n 42 47 at1
def sumG (B : Nat → Nat) (n : Nat) (at1 : Ps) : Ps := chS B n 43 45 (termS B n at1)
def sumS (B : Nat → Nat) (n : Nat) (al : List Nat) : Nat → Ps
  | 0 => sumG B n (atomS B n al none)
  | r + 1 => sumG B n (atomS B n al (some (sumS B n al r)))
def innS (B : Nat → Nat) (n : Nat) (al : List Nat) : Nat → Option Ps
  | 0 => none
  | r + 1 => some (sumS B n al r)
theorem sumS_eq (B : Nat → Nat) (n : Nat) (al : List Nat) (r : Nat) : sumS B n al r = sumG B n (atomS B n al (innS B n al r)) := by
  cases r <;> rfl
def sgB2 (c : Nat) : Bool := decide (c = 61 ∨ c = 60 ∨ c = 62)
/-- the second half of a relation; its first half's code stands -/
def relS (B : Nat → Nat) (n : Nat) (sm : Ps) (p : Nat) (cd : List Nat) : Nat × Option (List Nat) :=
  let q := sk B n p
  if sgB2 (ch B n q) = true then
    match sm (q + 1) with
    | (p2, none) => (p2, none)
    | (p2, some c2) => (p2, some (cd ++ c2 ++ [ch B n q]))
  else (q, none)
def rlS (B : Nat → Nat) (n : Nat) (sm : Ps) : Ps := fun p =>
  match sm p with
  | (p2, none) => (p2, none)
  | (p2, some cd) => relS B n sm p2 cd
/-- a unit; what is one deeper: units and conditions -/
def untS (B : Nat → Nat) (n : Nat) (sm : Ps) (iu ic : Option Ps) : Ps := fun p =>
  let q := sk B n p
  let c := ch B n q
  if c = 33 then
    match iu with
    | none => (q, none)
    | some f => match f (q + 1) with
      | (p2, none) => (p2, none)
      | (p2, some cd) => (p2, some (cd ++ [33]))
  else if c = 40 then brS B n 41 ic q
  else rlS B n sm q
/-- truths: units with &; conditions: truths with | -/
def truS (B : Nat → Nat) (n : Nat) (u : Ps) : Ps := chS B n 38 38 u
def cndG (B : Nat → Nat) (n : Nat) (u : Ps) : Ps := chS B n 124 124 (truS B n u)
def uniS (B : Nat → Nat) (n : Nat) (al : List Nat) : Nat → Ps
  | 0 => untS B n (sumS B n al 0) none none
  | r + 1 => untS B n (sumS B n al (r + 1)) (some (uniS B n al r)) (some (cndG B n (uniS B n al r)))
def iuS (B : Nat → Nat) (n : Nat) (al : List Nat) : Nat → Option Ps
  | 0 => none
  | r + 1 => some (uniS B n al r)
def icS (B : Nat → Nat) (n : Nat) (al : List Nat) : Nat → Option Ps
  | 0 => none
  | r + 1 => some (cndG B n (uniS B n al r))
theorem uniS_eq (B : Nat → Nat) (n : Nat) (al : List Nat) (r : Nat) : uniS B n al r = untS B n (sumS B n al r) (iuS B n al r) (icS B n al r) := by
  cases r <;> rfl
/-- a relation's second half, then truths -/
def tr1 (B : Nat → Nat) (n : Nat) (sm u : Ps) (p : Nat) (cd : List Nat) : Nat × Option (List Nat) :=
  match relS B n sm p cd with
  | (p1, none) => (p1, none)
  | (p1, some c1) => lpS B n 38 38 u (n + 1) p1 c1
/-- a condition whose first relation's first sum has been read -/
def cd1 (B : Nat → Nat) (n : Nat) (sm u : Ps) (p : Nat) (cd : List Nat) : Nat × Option (List Nat) :=
  match tr1 B n sm u p cd with
  | (p2, none) => (p2, none)
  | (p2, some c2) => lpS B n 124 124 (truS B n u) (n + 1) p2 c2
/-- a clause: label, condition, sum -/
abbrev Cl : Type := Nat × Option (List Nat) × List Nat
/-- behind a condition -/
def clsQ (B : Nat → Nat) (n : Nat) (al : List Nat) (lb p : Nat) (cc : List Nat) : Nat × Option Cl :=
  let q := sk B n p
  if ch B n q = 63 then
    match sumS B n al 6 (q + 1) with
    | (p2, none) => (p2, none)
    | (p2, some cd) => (p2, some (lb, some cc, cd))
  else (q, none)
def clsS (B : Nat → Nat) (n : Nat) (lbs al : List Nat) (p : Nat) : Nat × Option Cl :=
  let q := sk B n p
  let c := ch B n q
  if lbs.contains c = true then
    let q2 := sk B n (q + 1)
    if ch B n q2 = 58 then
      let q3 := sk B n (q2 + 1)
      if ch B n q3 = 33 ∨ ch B n q3 = 40 then
        match cndG B n (uniS B n al 6) q3 with
        | (p2, none) => (p2, none)
        | (p2, some cc) => clsQ B n al c p2 cc
      else match sumS B n al 6 q3 with
        | (p2, none) => (p2, none)
        | (p2, some cd) => if sgB2 (ch B n (sk B n p2)) = true then
            match cd1 B n (sumS B n al 6) (uniS B n al 6) p2 cd with
            | (p3, none) => (p3, none)
            | (p3, some cc) => clsQ B n al c p3 cc
          else (sk B n p2, some (c, none, cd))
    else (q2, none)
  else (q, none)
def clL (B : Nat → Nat) (n : Nat) (lbs al : List Nat) : Nat → Nat → List Cl → Nat × Option (List Cl)
  | 0, p, cs => (p, some cs)
  | f + 1, p, cs =>
    let q := sk B n p
    if ch B n q = 59 then
      match clsS B n lbs al (q + 1) with
      | (p2, none) => (p2, none)
      | (p2, some c) => clL B n lbs al f p2 (cs ++ [c])
    else if q < n then (q, none) else (q, some cs)
/-- a whole text -/
def txS (B : Nat → Nat) (n : Nat) (lbs al : List Nat) : Nat × Option (List Cl) :=
  match clsS B n lbs al 0 with
  | (p, none) => (p, none)
  | (p, some c) => clL B n lbs al (n + 1) p [c]
/-- labels and letters of a law (false), a mind (true) -/
def lbs (mind : Bool) : List Nat := if mind = true then [110, 99] else [115, 108, 100]
def als (mind : Bool) : List Nat := if mind = true then [104, 101, 111, 116, 107, 97, 113, 119, 103, 102] else [97, 107, 116, 102, 109]
/-! what a code is worth -/
def clN (z : Int) : Int32 := Int32.ofInt (max (-1000000) (min 1000000 z))
def bnF (sg : Nat) (x y : Int32) : Int32 :=
  if sg = 43 then clN (x.toInt + y.toInt)
  else if sg = 45 then clN (x.toInt - y.toInt)
  else if sg = 42 then clN (x.toInt * y.toInt)
  else if sg = 47 then (if y.toInt = 0 then clN 0 else clN (Int.tdiv x.toInt y.toInt))
  else if sg = 61 then (if x = y then 1 else 0)
  else if sg = 60 then (if x < y then 1 else 0)
  else if sg = 62 then (if y < x then 1 else 0)
  else if sg = 38 then x &&& y
  else x ||| y
def xc1 (l : Nat → Int32) (tk : Nat) (st : List Int32) : List Int32 :=
  if tk % 256 = 48 then nI (tk / 256) :: st
  else if tk % 256 = 97 then l (97 + tk / 256) :: st
  else if tk % 256 = 33 then (match st with
    | a :: r => (1 - a) :: r
    | [] => [])
  else match st with
    | y :: x :: r => bnF (tk % 256) x y :: r
    | _ => st
def xc (l : Nat → Int32) (cd : List Nat) (st : List Int32) : List Int32 := cd.foldl (fun st tk => xc1 l tk st) st
theorem xc_app (l : Nat → Int32) (a b : List Nat) (st : List Int32) : xc l (a ++ b) st = xc l b (xc l a st) := List.foldl_append
/-- a code that leaves one value -/
def Vl (l : Nat → Int32) (cd : List Nat) (v : Int32) : Prop := ∀ st, xc l cd st = v :: st
theorem Vl_num (l : Nat → Int32) {v : Nat} : Vl l [48 + 256 * v] (nI v) := by
  intro st
  show xc1 l _ st = _
  unfold xc1
  rw [if_pos (by omega), show (48 + 256 * v) / 256 = v by omega]
theorem Vl_let (l : Nat → Int32) {c : Nat} (h : 97 ≤ c) : Vl l [97 + 256 * (c - 97)] (l c) := by
  intro st
  show xc1 l _ st = _
  unfold xc1
  rw [if_neg (by omega), if_pos (by omega), show 97 + (97 + 256 * (c - 97)) / 256 = c by omega]
theorem Vl_not {l : Nat → Int32} {cd : List Nat} {v : Int32} (h : Vl l cd v) : Vl l (cd ++ [33]) (1 - v) := by
  intro st
  rw [xc_app, h st]
  rfl
theorem Vl_bin {l : Nat → Int32} {cd c2 : List Nat} {v w : Int32} {sg : Nat} (h : Vl l cd v) (h2 : Vl l c2 w) (hs : sg < 256) (h3 : sg ≠ 48 ∧ sg ≠ 97 ∧ sg ≠ 33) : Vl l (cd ++ c2 ++ [sg]) (bnF sg v w) := by
  intro st
  rw [xc_app, xc_app, h st, h2]
  show xc1 l sg _ = _
  unfold xc1
  rw [Nat.mod_eq_of_lt hs, if_neg h3.1, if_neg h3.2.1, if_neg h3.2.2]
/-- the first clause of a label whose condition holds -/
noncomputable def wrS (l : Nat → Int32) (lb : Nat) : List Cl → Option Int32
  | [] => none
  | c :: cs => @ite _ (c.1 = lb ∧ ∀ cc, c.2.1 = some cc → ¬ (xc l cc []).headD 0 = 0) (Classical.propDecidable _) (some ((xc l c.2.2 []).headD 0)) (wrS l lb cs)
