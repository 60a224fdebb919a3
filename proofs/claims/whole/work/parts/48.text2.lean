/-! ===== the reference: a whole text ===== -/
/-- what a method that reads texts changes -/
def Ft (os as : List Nat) (h h' : AH) : Prop := (gk h' = gk h ∧ gn h' = gn h ∧ gl h' = gl h) ∧ (∀ a j, xs os as a j = false → gi h' a j = gi h a j) ∧ ∀ a j, ¬ (a = 107 ∧ (j = 27 ∨ j = 38 ∨ j = 39)) → gr h' a j = gr h a j
theorem Fx.ft {os as : List Nat} {h h' : AH} (F : Fx os as h h') : Ft os as h h' := ⟨⟨F.gk, F.gn, F.gl⟩, F.2, fun a j _ => by rw [F.gr]⟩
theorem Ft.refl (os as : List Nat) (h : AH) : Ft os as h h := (Fx.refl os as h).ft
theorem Ft.trans {os as : List Nat} {h h' h2 : AH} (F : Ft os as h h') (F2 : Ft os as h' h2) : Ft os as h h2 :=
  ⟨⟨F2.1.1.trans F.1.1, F2.1.2.1.trans F.1.2.1, F2.1.2.2.trans F.1.2.2⟩, fun a j q => (F2.2.1 a j q).trans (F.2.1 a j q), fun a j q => (F2.2.2 a j q).trans (F.2.2 a j q)⟩
theorem Ft.mono {os as : List Nat} {h h' : AH} (F : Ft os as h h') {os' as' : List Nat} (hx : (os.all (fun j => os'.contains j) && as.all (fun a => as'.contains a)) = true) : Ft os' as' h h' :=
  ⟨F.1, fun a j q => F.2.1 a j (xs_sub hx q), F.2.2⟩
theorem layR_ok : ∀ q ∈ layR, ¬ (q.1 = 107 ∧ (q.2.1 = 27 ∨ q.2.1 = 38 ∨ q.2.1 = 39)) := by decide +kernel
theorem Ft.lay {os as : List Nat} {h h' : AH} (F : Ft os as h h') (L : Lay h) : Lay h' := by
  refine ⟨fun q hq => ?_, fun q hq => ?_, ?_⟩
  · rw [F.1.1]
    exact L.1 q hq
  · rw [F.2.2 _ _ (layR_ok q hq)]
    exact L.2.1 q hq
  · rw [F.1.2.1]
    exact L.2.2
theorem Ft.rw {os as : List Nat} {h h' : AH} (F : Ft os as h h') {s : St} (W : RH h s) (hx : okx os as = true) : RH h' s :=
  ⟨F.lay W.1, fun a j hp => (F.2.1 a j (okx_p hx a j hp)).trans (W.2.1 a j hp), W.2.2⟩
theorem Ft.sk {os as : List Nat} {h h' : AH} (F : Ft os as h h') (K : SK h) (hx : as.all (fun a => decide (20 ≤ a)) = true) : SK h' := by
  have hq : ∀ a j, a < 20 → xs os as a j = false := by
    intro a j ha
    unfold xs
    rw [if_neg (by omega)]
    cases q : as.contains a with
    | false => rfl
    | true =>
      have := of_decide_eq_true (List.all_eq_true.mp hx a (List.contains_iff_mem.mp q))
      omega
  intro i hi
  obtain ⟨a, b, c, e, f⟩ := K i hi
  refine ⟨by rw [F.1.1]; exact a, by rw [F.1.1]; exact b, (F.2.2 _ _ (by omega)).trans c, (F.2.1 _ _ (hq _ _ (by omega))).trans e, fun j hj => (F.2.1 _ _ (hq _ _ (by omega))).trans (f j hj)⟩
theorem Ft.se {os as : List Nat} {h h' : AH} (F : Ft os as h h') {s : St} (S : SE h s) (h1 : xs os as 107 21 = false) (h2 : ∀ j, xs os as 110 j = false) : SE h' s :=
  ⟨(F.2.1 _ _ h1).trans S.1, fun j hj => (F.2.1 _ _ (h2 j)).trans (S.2 j hj)⟩
theorem Ft.fr {os as : List Nat} {h h' : AH} (F : Ft os as h h') (hx : as.all (fun a => decide (108 ≤ a ∧ a ≤ 163)) = true) : FrR h h' := by
  refine ⟨F.1.1, F.1.2.1, F.1.2.2, fun a ha => ⟨?_, ?_⟩⟩
  · funext j
    refine F.2.1 a j ?_
    unfold xs
    rw [if_neg (by omega)]
    cases q : as.contains a with
    | false => rfl
    | true =>
      have := List.all_eq_true.mp hx a (List.contains_iff_mem.mp q)
      have := of_decide_eq_true this
      omega
  · funext j
    exact F.2.2 a j (by omega)
theorem wrS_app (l : Nat → Int32) (lb : Nat) (cs : List Cl) (c : Cl) : wrS l lb (cs ++ [c]) = match wrS l lb cs with
    | some v => some v
    | none => @ite _ (wr1 l lb c) (Classical.propDecidable _) (some ((xc l c.2.2 []).headD 0)) none := by
  induction cs with
  | nil => rfl
  | cons a cs ih =>
    show @ite _ _ (Classical.propDecidable _) _ (wrS l lb (cs ++ [c])) = match @ite _ _ (Classical.propDecidable _) _ (wrS l lb cs) with
      | some v => some v
      | none => _
    rw [ih]
    by_cases h : a.1 = lb ∧ ∀ cc, a.2.1 = some cc → ¬ (xc l cc []).headD 0 = 0
    · rw [if_pos h, if_pos h]
    · rw [if_neg h, if_neg h]
/-- what was found in the clauses so far -/
def FI (l : Nat → Int32) (lb : Nat) (G H : AH) (cs : List Cl) : Prop := Fx [37, 40] [] G H ∧ ((wrS l lb cs = none ∧ gi H 107 40 = 0) ∨ ∃ v, wrS l lb cs = some v ∧ gi H 107 40 = nI 1 ∧ gi H 107 37 = v)
theorem FI_step {l : Nat → Int32} {lb : Nat} {G H : AH} {cs : List Cl} (F : FI l lb G H cs) (c : Cl) : FI l lb G (fdH H l lb c) (cs ++ [c]) := by
  have e := wrS_app l lb cs c
  rcases F.2 with ⟨a, b⟩ | ⟨v, a, b, f⟩
  · rw [a] at e
    by_cases q : wr1 l lb c
    · have e2 : fdH H l lb c = wi (wi H 107 40 (nI 1)) 107 37 ((xc l c.2.2 []).headD 0) := if_pos ⟨b, q⟩
      rw [e2]
      refine ⟨(F.1.wi _ rfl).wi _ rfl, Or.inr ⟨_, e.trans (if_pos q), rfl, rfl⟩⟩
    · have e2 : fdH H l lb c = H := if_neg (fun z => q z.2)
      rw [e2]
      exact ⟨F.1, Or.inl ⟨e.trans (if_neg q), b⟩⟩
  · rw [a] at e
    have e2 : fdH H l lb c = H := if_neg (fun z => by rw [b] at z; exact absurd z.1 (by decide))
    rw [e2]
    exact ⟨F.1, Or.inr ⟨v, e, b, f⟩⟩
theorem te_fx {os : List Nat} {h h' : AH} {tid b n : Nat} {B : Nat → Nat} {mind : Bool} (E : TE h tid b n B mind) (F : Fx os [] h h') (h1 : xs os [] 107 31 = false) (h2 : xs os [] 107 32 = false) : TE h' tid b n B mind := by
  obtain ⟨⟨L, K⟩, ⟨g1, g2, g3⟩, ⟨g4, g5⟩, ⟨N, gN, hN, hN2⟩, hn, ht, hB⟩ := E
  refine ⟨⟨F.lay L, F.sk K rfl⟩, ⟨by rw [F.gr]; exact g1, by rw [F.gr]; exact g2, by rw [F.gr]; exact g3⟩, ⟨(F.2 _ _ h1).trans g4, (F.2 _ _ h2).trans g5⟩, ⟨N, by rw [F.gk]; exact gN, hN, hN2⟩, hn, ht, fun p hp => ⟨(F.2 _ _ ?_).trans (hB p hp).1, (hB p hp).2⟩⟩
  unfold xs
  rw [if_neg ht]
  rfl
theorem clsQ_gp {B : Nat → Nat} {n lb p : Nat} {mind : Bool} {cc : List Nat} (hp : p ≤ n) : (clsQ B n (als mind) lb p cc).1 ≤ n ∧ ∀ c, (clsQ B n (als mind) lb p cc).2 = some c → p < (clsQ B n (als mind) lb p cc).1 := by
  have s1 := sk_ge B n p
  have s2 := sk_le (B := B) hp
  by_cases h : ch B n (sk B n p) = 63
  · have hq : sk B n p < n := ch_lt (B := B) (by omega)
    have g := sumS_gp (B := B) (n := n) (mind := mind) 6 (sk B n p + 1) (by omega)
    cases e : sumS B n (als mind) 6 (sk B n p + 1) with
    | mk p2 o =>
      rw [e] at g
      cases o with
      | none =>
        rw [clsQ_n h e]
        exact ⟨g.1, fun _ e => by cases e⟩
      | some cd =>
        rw [clsQ_s h e]
        have g3 := g.2 cd rfl
        simp only at g3
        exact ⟨g.1, fun _ _ => by show p < p2; omega⟩
  · rw [clsQ_x h]
    exact ⟨s2, fun _ e => by cases e⟩
theorem clsS_gp {B : Nat → Nat} {n p : Nat} {mind : Bool} (hp : p ≤ n) : (clsS B n (lbs mind) (als mind) p).1 ≤ n ∧ ∀ c, (clsS B n (lbs mind) (als mind) p).2 = some c → p < (clsS B n (lbs mind) (als mind) p).1 := by
  have s1 := sk_ge B n p
  have s2 := sk_le (B := B) hp
  by_cases h : (lbs mind).contains (ch B n (sk B n p)) = true
  · have hc := lbs_lt mind _ h
    have hq : sk B n p < n := ch_lt (B := B) (by omega)
    have t1 := sk_ge B n (sk B n p + 1)
    have t2 := sk_le (B := B) (n := n) (p := sk B n p + 1) (by omega)
    by_cases h2 : ch B n (sk B n (sk B n p + 1)) = 58
    · have hq2 : sk B n (sk B n p + 1) < n := ch_lt (B := B) (by omega)
      have u1 := sk_ge B n (sk B n (sk B n p + 1) + 1)
      have u2 := sk_le (B := B) (n := n) (p := sk B n (sk B n p + 1) + 1) (by omega)
      by_cases h3 : ch B n (sk B n (sk B n (sk B n p + 1) + 1)) = 33 ∨ ch B n (sk B n (sk B n (sk B n p + 1) + 1)) = 40
      · rw [clsS_c h h2 h3]
        have g := cndG_gp (B := B) (uniS_gp (B := B) (n := n) (mind := mind) 6) _ u2
        cases e : cndG B n (uniS B n (als mind) 6) (sk B n (sk B n (sk B n p + 1) + 1)) with
        | mk p2 o =>
          rw [e] at g
          cases o with
          | none => exact ⟨g.1, fun _ e => by cases e⟩
          | some cc =>
            have g3 := g.2 cc rfl
            have g4 := clsQ_gp (B := B) (mind := mind) (lb := ch B n (sk B n p)) (cc := cc) g.1
            simp only at g3 g4
            dsimp only
            exact ⟨g4.1, fun c e => by have := g4.2 c e; omega⟩
      · rw [clsS_s h h2 h3]
        have g := sumS_gp (B := B) (n := n) (mind := mind) 6 _ u2
        cases e : sumS B n (als mind) 6 (sk B n (sk B n (sk B n p + 1) + 1)) with
        | mk p2 o =>
          rw [e] at g
          cases o with
          | none => exact ⟨g.1, fun _ e => by cases e⟩
          | some cd =>
            have g3 := g.2 cd rfl
            simp only at g3 g
            dsimp only
            have v1 := sk_ge B n p2
            have v2 := sk_le (B := B) g.1
            split
            · have gg := cd1_gp2 (B := B) (n := n) (cd := cd) (sumS_gp (B := B) (mind := mind) 6) (uniS_gp (B := B) (mind := mind) 6) g.1
              cases e3 : cd1 B n (sumS B n (als mind) 6) (uniS B n (als mind) 6) p2 cd with
              | mk p3 o =>
                rw [e3] at gg
                cases o with
                | none => exact ⟨gg.1, fun _ e => by cases e⟩
                | some cc =>
                  have g5 := gg.2 cc rfl
                  have g4 := clsQ_gp (B := B) (mind := mind) (lb := ch B n (sk B n p)) (cc := cc) gg.1
                  simp only at g5 g4
                  dsimp only
                  exact ⟨g4.1, fun c e => by have := g4.2 c e; omega⟩
            · exact ⟨v2, fun _ _ => by dsimp only; omega⟩
    · rw [clsS_1 h h2]
      exact ⟨t2, fun _ e => by cases e⟩
  · rw [clsS_0 h]
    exact ⟨s2, fun _ e => by cases e⟩
theorem clL_n {B : Nat → Nat} {n f p p2 : Nat} {lb al : List Nat} {cs : List Cl} (h : ch B n (sk B n p) = 59) (e : clsS B n lb al (sk B n p + 1) = (p2, none)) : clL B n lb al (f + 1) p cs = (p2, none) := by
  unfold clL
  simp only [if_pos h, e]
theorem clL_s {B : Nat → Nat} {n f p p2 : Nat} {lb al : List Nat} {cs : List Cl} {c : Cl} (h : ch B n (sk B n p) = 59) (e : clsS B n lb al (sk B n p + 1) = (p2, some c)) : clL B n lb al (f + 1) p cs = clL B n lb al f p2 (cs ++ [c]) := by
  show (if _ then _ else _) = _
  rw [if_pos h, e]
theorem clL_x {B : Nat → Nat} {n f p : Nat} {lb al : List Nat} {cs : List Cl} (h : ¬ ch B n (sk B n p) = 59) (h2 : sk B n p < n) : clL B n lb al (f + 1) p cs = (sk B n p, none) := by
  show (if _ then _ else _) = _
  rw [if_neg h, if_pos h2]
theorem clL_e {B : Nat → Nat} {n f p : Nat} {lb al : List Nat} {cs : List Cl} (h : ¬ ch B n (sk B n p) = 59) (h2 : ¬ sk B n p < n) : clL B n lb al (f + 1) p cs = (sk B n p, some cs) := by
  show (if _ then _ else _) = _
  rw [if_neg h, if_neg h2]
