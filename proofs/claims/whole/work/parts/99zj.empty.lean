/-! ===== where the law's loop begins ===== -/
def st0 : St := fun a j => if a = 107 ∧ j = 61 then 4294967295 else 0
theorem st0_z {a j : Nat} (h : ¬ (a = 107 ∧ j = 61)) : st0 a j = 0 := if_neg h
theorem st0_61 : st0 107 61 = 4294967295 := rfl
theorem rs_st0 : RS st0 := by
  have z : ∀ k, ¬ k < 0 := Nat.not_lt_zero
  refine ⟨⟨Nat.zero_le _, Nat.zero_le _, Nat.zero_le _, Nat.zero_le _, Nat.zero_le _, Nat.zero_le _, Nat.zero_le _, Nat.zero_le _, Nat.zero_le _, by decide⟩, fun e he => absurd he (z e), fun j => Nat.zero_le _, fun j => Nat.zero_le _, fun m hm => absurd hm (z m), fun j => Nat.zero_le _, fun j => Nat.zero_le _, fun e he => absurd he (z e), fun k hk => absurd hk (z k), fun j hj => absurd hj (z j), fun k => Nat.zero_le _, fun j => Nat.zero_le _, fun k hk => absurd hk (z k), fun k hk => absurd hk (z k), fun k hk => absurd hk (z k)⟩
theorem layK_ok : layK.all (fun q => (decide (q.1 < 107) && hasK tK17 q) || (q.1 == 107 && keq q.2 (.inl 12)) || riK.any (fun w => w.1 == q.1 && keq w.2 q.2)) = true := by decide +kernel
theorem layR_ok2 : layR.all (fun q => (decide (q.1 < 107) && tR17.contains q) || (q.1 == 107 && riR.contains q.2)) = true := by decide +kernel
section
variable {h HT H0 HR H : AH}
theorem lay_st0 (T : MKS h HT 107 tK17 tR17 tI17 tN17) (e0 : H0 = al HT (.inl 12)) (R : RIs H0 HR 56 riK riR ri7) (eH : H = al HR (.inr (3, 1))) : (∀ a, a < 107 → gk H a = gk HT a ∧ gi H a = gi HT a ∧ gr H a = gr HT a ∧ gl H a = gl HT a) ∧ (∀ a, a < 164 → gk H a = gk HR a ∧ gi H a = gi HR a ∧ gr H a = gr HR a ∧ gl H a = gl HR a) ∧ gn H = 165 ∧ Lay H := by
  have A0 := r_al_k HT (.inl 12) T.1
  rw [← e0] at A0
  have AH := r_al_k HR (.inr (3, 1)) (n := 164) R.1
  rw [← eH] at AH
  have o1 : ∀ a, a < 164 → gk H a = gk HR a ∧ gi H a = gi HR a ∧ gr H a = gr HR a ∧ gl H a = gl HR a := fun a ha => AH.2.2.2.2 a (by omega)
  have o2 : ∀ a, a < 107 → gk H a = gk HT a ∧ gi H a = gi HT a ∧ gr H a = gr HT a ∧ gl H a = gl HT a := fun a ha => by
    have x := o1 a (by omega)
    have y := R.2.1 a ha
    have w := A0.2.2.2.2 a (by omega)
    exact ⟨x.1.trans (y.1.trans w.1), x.2.1.trans (y.2.1.trans w.2.1), x.2.2.1.trans (y.2.2.1.trans w.2.2.1), x.2.2.2.trans (y.2.2.2.trans w.2.2.2)⟩
  refine ⟨o2, o1, AH.1, fun q hq => ?_, fun q hq => ?_, by rw [AH.1]; omega⟩
  · have n := List.all_eq_true.mp layK_ok q hq
    rw [Bool.or_eq_true, Bool.or_eq_true, Bool.and_eq_true, Bool.and_eq_true] at n
    rcases n with (⟨n1, n2⟩ | ⟨n1, n2⟩) | n
    · rw [(o2 q.1 (of_decide_eq_true n1)).1]
      exact (T.2.2.1 q (hasK_ok n2)).1
    · rw [eq_of_beq n1, keq_ok n2, (o1 107 (by omega)).1]
      exact R.2.2.1
    · have w := R.2.2.2.2.2.1 q (hasK_ok (KS := riK) n)
      rw [(o1 q.1 (by omega)).1]
      exact w.1
  · have n := List.all_eq_true.mp layR_ok2 q hq
    rw [Bool.or_eq_true, Bool.and_eq_true, Bool.and_eq_true] at n
    rcases n with ⟨n1, n2⟩ | ⟨n1, n2⟩
    · rw [(o2 q.1 (of_decide_eq_true n1)).2.2.1]
      exact (T.2.2.2.1 q (List.contains_iff_mem.mp n2)).1
    · rw [eq_of_beq n1, (o1 107 (by omega)).2.2.1]
      exact R.2.2.2.2.2.2 q.2 (List.contains_iff_mem.mp n2)
theorem rh_st0 (T : MKS h HT 107 tK17 tR17 tI17 tN17) (e0 : H0 = al HT (.inl 12)) (R : RIs H0 HR 56 riK riR ri7) (eH : H = al HR (.inr (3, 1))) : RH H st0 ∧ gi H 107 0 = 0 := by
  obtain ⟨o2, o1, gH, L⟩ := lay_st0 T e0 R eH
  have i107 : gi H 107 = ri7 := (o1 107 (by omega)).2.1.trans R.2.2.2.1
  have pa : ∀ a ∈ persA, 108 ≤ a ∧ a < 164 := by decide +kernel
  refine ⟨⟨L, fun a j hp => ?_, rs_st0⟩, by rw [i107]; rfl⟩
  unfold pers at hp
  by_cases e : a = 107
  · subst e
    rw [i107]
    unfold ri7 enc
    rw [if_neg (by decide : ¬ ((107 : Nat) = 125 ∨ (107 : Nat) = 126))]
    by_cases e2 : j = 61
    · rw [if_pos e2, e2, st0_61]
      exact n_m1
    · rw [if_neg e2, st0_z (fun y => e2 y.2)]
      rfl
  · rw [if_neg e] at hp
    have b := pa a (List.contains_iff_mem.mp hp)
    rw [(o1 a (by omega)).2.1, R.2.2.2.2.1 a b.1 (by omega), st0_z (fun y => e y.1)]
    unfold enc by8
    split <;> rfl
end
