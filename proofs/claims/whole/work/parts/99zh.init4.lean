/-! ===== the class's beginning: all of it ===== -/
theorem n_T_init : mN 0 = 1 := rfl
theorem l_T_init : mL 0 = 2 := rfl
theorem r_T_init : mR 0 = none := rfl
abbrev KL : Type := List (Nat × (Nat ⊕ (Nat × Nat)))
abbrev RLs : Type := List (Nat × Nat × Nat)
abbrev NLs : Type := List (Nat × Nat)
def keq : Nat ⊕ (Nat × Nat) → Nat ⊕ (Nat × Nat) → Bool
  | .inl a, .inl b => a == b
  | .inr a, .inr b => a.1 == b.1 && a.2 == b.2
  | _, _ => false
theorem keq_ok {a b : Nat ⊕ (Nat × Nat)} (h : keq a b = true) : a = b := by
  cases a with
  | inl a => cases b with
    | inl b => exact congrArg _ (eq_of_beq h)
    | inr b => cases h
  | inr a => cases b with
    | inl b => cases h
    | inr b =>
      have h2 : (a.1 == b.1 && a.2 == b.2) = true := h
      rw [Bool.and_eq_true] at h2
      exact congrArg _ (Prod.ext (eq_of_beq h2.1) (eq_of_beq h2.2))
def hasK (KS : KL) (q : Nat × (Nat ⊕ (Nat × Nat))) : Bool := KS.any (fun w => w.1 == q.1 && keq w.2 q.2)
theorem hasK_ok {KS : KL} {q : Nat × (Nat ⊕ (Nat × Nat))} (h : hasK KS q = true) : q ∈ KS := by
  obtain ⟨w, hw, e⟩ := List.any_eq_true.mp h
  rw [Bool.and_eq_true] at e
  have : w = q := Prod.ext (eq_of_beq e.1) (keq_ok e.2)
  rw [← this]
  exact hw
/-- what was made so far: kinds, references, values of -1 (the others are 0), what holds no reference -/
def MKS (h H : AH) (g : Nat) (KS : KL) (RL : RLs) (IL : NLs) (NL : List Nat) : Prop :=
  gn H = g ∧ (∀ a, a < 20 → gk H a = gk h a ∧ gi H a = gi h a ∧ gr H a = gr h a ∧ gl H a = gl h a) ∧ (∀ q ∈ KS, gk H q.1 = some q.2 ∧ q.1 < g) ∧ (∀ q ∈ RL, gr H q.1 q.2.1 = some q.2.2 ∧ q.1 < g) ∧ (∀ a, 20 ≤ a → a < g → ∀ j, gi H a j = if (a, j) ∈ IL then -1 else 0) ∧ (∀ a ∈ NL, a < g ∧ ∀ j, gr H a j = none) ∧ (∀ q ∈ IL, q.1 < g) ∧ 20 ≤ g
section
variable {h H : AH} {g : Nat} {KS : KL} {RL : RLs} {IL : NLs} {NL : List Nat}
theorem mk_al {kd : Nat ⊕ (Nat × Nat)} (M : MKS h H g KS RL IL NL) : MKS h (al H kd) (g + 1) ((g, kd) :: KS) RL IL NL := by
  obtain ⟨m1, m2, m3, m4, m5, m6, m7, m8⟩ := M
  have R := r_al_k H kd m1
  refine ⟨R.1, fun a q => ?_, fun q hq => ?_, fun q hq => ?_, fun a q1 q2 j => ?_, fun a ha => ?_, fun q hq => Nat.lt_succ_of_lt (m7 q hq), Nat.le_succ_of_le m8⟩
  · have r := R.2.2.2.2 a (by omega)
    have t := m2 a q
    exact ⟨r.1.trans t.1, r.2.1.trans t.2.1, r.2.2.1.trans t.2.2.1, r.2.2.2.trans t.2.2.2⟩
  · rcases List.mem_cons.mp hq with e | hq2
    · rw [e]
      exact ⟨R.2.1, Nat.lt_succ_self _⟩
    · have t := m3 q hq2
      rw [(R.2.2.2.2 q.1 (by omega)).1]
      exact ⟨t.1, by omega⟩
  · have t := m4 q hq
    rw [(R.2.2.2.2 q.1 (by omega)).2.2.1]
    exact ⟨t.1, by omega⟩
  · by_cases z : a = g
    · subst z
      rw [R.2.2.1, if_neg (fun y => by have := m7 _ y; simp at this)]
    · rw [(R.2.2.2.2 a z).2.1]
      exact m5 a q1 (by omega) j
  · have t := m6 a ha
    refine ⟨by omega, fun j => ?_⟩
    rw [(R.2.2.2.2 a (by omega)).2.2.1]
    exact t.2 j
theorem mk_nil {kd : Nat ⊕ (Nat × Nat)} (M : MKS h H g KS RL IL NL) : MKS h (al H kd) (g + 1) ((g, kd) :: KS) RL IL (g :: NL) := by
  obtain ⟨m1, m2, m3, m4, m5, m6, m7, m8⟩ := mk_al (kd := kd) M
  have R := r_al_k H kd M.1
  refine ⟨m1, m2, m3, m4, m5, fun a ha => ?_, m7, m8⟩
  rcases List.mem_cons.mp ha with e | ha2
  · rw [e]
    exact ⟨Nat.lt_succ_self _, fun j => congrFun R.2.2.2.1 j⟩
  · exact m6 a ha2
theorem mk_wr {a f v : Nat} (M : MKS h H g KS RL IL NL) (ha : 20 ≤ a ∧ a < g) (hf : (RL.all (fun q => !(q.1 == a && q.2.1 == f)) && NL.all (fun b => b != a)) = true) : MKS h (wr H a f (some v)) g KS ((a, f, v) :: RL) IL NL := by
  obtain ⟨m1, m2, m3, m4, m5, m6, m7, m8⟩ := M
  rw [Bool.and_eq_true] at hf
  refine ⟨m1, fun b q => ⟨(m2 b q).1, (m2 b q).2.1, ?_, (m2 b q).2.2.2⟩, m3, fun q hq => ?_, m5, fun b hb => ⟨(m6 b hb).1, fun j => ?_⟩, m7, m8⟩
  · funext j
    rw [r_wr_ne _ _ (by omega)]
    exact congrFun (m2 b q).2.2.1 j
  · rcases List.mem_cons.mp hq with e | hq2
    · rw [e]
      exact ⟨r_wr_eq _ _ _ _, ha.2⟩
    · have n := List.all_eq_true.mp hf.1 q hq2
      rw [r_wr_ne _ _ (fun y => by rw [y.1, y.2] at n; simp at n)]
      exact m4 q hq2
  · have n := List.all_eq_true.mp hf.2 b hb
    rw [r_wr_ne _ _ (fun y => by rw [y.1] at n; simp at n)]
    exact (m6 b hb).2 j
/-- a part was made -/
theorem mk_in {H2 : AH} {o k i : Nat} {ks : List (Nat × (Nat × Nat))} {rl : List (Nat × Nat)} {g7 : Nat → Int32} {il : NLs} (M : MKS h H (o + 1) KS RL IL NL) (S : RIo o k H H2 i ks rl g7) (ho : 20 ≤ o) (hf : (RL.all (fun q => q.1 != o) && NL.all (fun b => b != o) && KS.all (fun q => q.1 != o || keq q.2 (.inl k)) && IL.all (fun q => q.1 != o) && il.all (fun q => q.1 == o)) = true) (hg : ∀ j, g7 j = if (o, j) ∈ il then -1 else 0) :
    MKS h H2 (o + 1 + i) (ks.map (fun q => (o + 1 + q.1, .inr q.2)) ++ KS) (rl.map (fun q => (o, q.1, q.2)) ++ RL) (il ++ IL) NL := by
  obtain ⟨m1, m2, m3, m4, m5, m6, m7, m8⟩ := M
  obtain ⟨s1, s2, s3, s4, s5, s6, s7⟩ := S
  rw [Bool.and_eq_true, Bool.and_eq_true, Bool.and_eq_true, Bool.and_eq_true] at hf
  obtain ⟨⟨⟨⟨f1, f2⟩, f3⟩, f4⟩, f5⟩ := hf
  refine ⟨s1, fun a q => ?_, fun q hq => ?_, fun q hq => ?_, fun a q1 q2 j => ?_, fun a ha => ?_, fun q hq => ?_, by omega⟩
  · have r := s2 a (by omega)
    have t := m2 a q
    exact ⟨r.1.trans t.1, r.2.1.trans t.2.1, r.2.2.1.trans t.2.2.1, r.2.2.2.trans t.2.2.2⟩
  · rcases List.mem_append.mp hq with e | hq2
    · obtain ⟨w, hw, rfl⟩ := List.mem_map.mp e
      exact ⟨(s6 w hw).1, by have := (s6 w hw).2; show o + 1 + w.1 < _; omega⟩
    · have t := m3 q hq2
      have n := List.all_eq_true.mp f3 q hq2
      by_cases z : q.1 = o
      · rw [z] at n
        have e2 : q.2 = .inl k := keq_ok (by simpa using n)
        rw [z, e2]
        exact ⟨s3, by omega⟩
      · rw [(s2 q.1 (by omega)).1]
        exact ⟨t.1, by omega⟩
  · rcases List.mem_append.mp hq with e | hq2
    · obtain ⟨w, hw, rfl⟩ := List.mem_map.mp e
      exact ⟨s7 w hw, by show o < _; omega⟩
    · have t := m4 q hq2
      have n := List.all_eq_true.mp f1 q hq2
      have z : q.1 ≠ o := fun y => by rw [y] at n; simp at n
      rw [(s2 q.1 (by omega)).2.2.1]
      exact ⟨t.1, by omega⟩
  · have io : ∀ b, (b, j) ∈ il → b = o := fun b hb => by
      have n := List.all_eq_true.mp f5 _ hb
      simpa using n
    have iO : ∀ b, (b, j) ∈ IL → b < o := fun b hb => by
      have n := List.all_eq_true.mp f4 _ hb
      have n2 : b ≠ o := by simpa using n
      have := m7 _ hb
      have : b < o + 1 := this
      omega
    by_cases z : a = o
    · subst z
      rw [s4, hg j]
      by_cases y : (a, j) ∈ il
      · rw [if_pos y, if_pos (List.mem_append_left _ y)]
      · rw [if_neg y, if_neg (fun y2 => (List.mem_append.mp y2).elim y (fun y3 => by have := iO _ y3; omega))]
    · by_cases z2 : a < o
      · rw [(s2 a z2).2.1, m5 a q1 (by omega) j]
        by_cases y : (a, j) ∈ IL
        · rw [if_pos y, if_pos (List.mem_append_right _ y)]
        · rw [if_neg y, if_neg (fun y2 => (List.mem_append.mp y2).elim (fun y3 => z (io _ y3)) y)]
      · rw [s5 a (by omega) q2, if_neg (fun y2 => (List.mem_append.mp y2).elim (fun y3 => z (io _ y3)) (fun y3 => by have := iO _ y3; omega))]
  · have t := m6 a ha
    have n := List.all_eq_true.mp f2 a ha
    have z : a ≠ o := fun y => by rw [y] at n; simp at n
    refine ⟨by omega, fun j => ?_⟩
    rw [(s2 a (by omega)).2.2.1]
    exact t.2 j
  · rcases List.mem_append.mp hq with e | hq2
    · have n := List.all_eq_true.mp f5 q e
      have : q.1 = o := by simpa using n
      omega
    · have := m7 q hq2
      omega
end
