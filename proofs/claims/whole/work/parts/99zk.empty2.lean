/-! ===== where the law's loop begins: the class ===== -/
theorem tI_17 : tI17.all (fun q => q.2 == 17) = true := by decide +kernel
theorem tI_T : ∀ T ∈ [46, 75, 83, 91, 99], tI17.contains (T, 17) = true := by decide +kernel
theorem tN_32 : tN17.contains 32 = true := by decide +kernel
theorem sn_st0 : sn st0 = 0 := by decide +kernel
theorem tho_st0 : thoN st0 = 0 := by decide +kernel
theorem sk_h00 (L : Nat) (xs : Nat → Int32) : SK (h00 L xs) := (h00_ro L xs).1
section
variable {h HT H0 HR H : AH}
theorem ci_st0 (T : MKS h HT 107 tK17 tR17 tI17 tN17) (e0 : H0 = al HT (.inl 12)) (R : RIs H0 HR 56 riK riR ri7) (eH : H = al HR (.inr (3, 1))) : CI H st0 (fun _ => 0) 0 := by
  obtain ⟨o2, o1, gH, L⟩ := lay_st0 T e0 R eH
  have z0 : ∀ k, ¬ k < 0 := Nat.not_lt_zero
  have zz : ∀ a j, 20 ≤ a → a < 107 → j ≠ 17 → gi H a j = nI 0 := fun a j h1 h2 h3 => by
    rw [(o2 a h2).2.1, T.2.2.2.2.1 a h1 h2 j, if_neg (fun y => h3 (by have := List.all_eq_true.mp tI_17 _ y; simpa using this))]
    rfl
  have z17 : ∀ A, A ∈ [46, 75, 83, 91, 99] → gi H A 17 = nI 4294967295 := fun A hA => by
    have b : 20 ≤ A ∧ A < 107 := by
      have : ∀ A ∈ [46, 75, 83, 91, 99], 20 ≤ A ∧ A < 107 := by decide +kernel
      exact this A hA
    rw [(o2 A b.2).2.1, T.2.2.2.2.1 A b.1 b.2 17, if_pos (List.contains_iff_mem.mp (tI_T A hA))]
    exact n_m1.symm
  refine ⟨L, ⟨⟨zz 21 4 (by omega) (by omega) (by omega), by rw [sn_st0]; exact zz 21 5 (by omega) (by omega) (by omega), by rw [tho_st0]; exact zz 21 6 (by omega) (by omega) (by omega)⟩, fun e he => absurd he (z0 e), fun e o he ho => ?_, fun k hk => by rw [sn_st0] at hk; exact absurd hk (z0 k), fun e he => ?_⟩, ⟨zz 20 13 (by omega) (by omega) (by omega), zz 20 14 (by omega) (by omega) (by omega), zz 20 15 (by omega) (by omega) (by omega), zz 20 16 (by omega) (by omega) (by omega), ?_, Nat.zero_le _⟩, fun m hm => absurd hm (z0 m), fun i j hi hj => absurd hj (z0 j), ⟨fun k hk => absurd hk (z0 k), fun k hk => absurd hk (z0 k)⟩, fun t ht m hm => absurd hm (z0 m), ⟨zz 35 1 (by omega) (by omega) (by omega), fun j hj => absurd hj (z0 j)⟩, ⟨zz 54 5 (by omega) (by omega) (by omega), fun k hk => absurd hk (z0 k)⟩, ⟨zz 61 10 (by omega) (by omega) (by omega), fun k hk => absurd hk (z0 k)⟩, ⟨zz 69 5 (by omega) (by omega) (by omega), fun k hk => absurd hk (z0 k)⟩, fun A hA => ?_, fun j hj => absurd hj (z0 j), ⟨⟨fun e m p w he => absurd he (z0 e), fun e m p he => absurd he (z0 e), fun e o _ _ _ => st0_z (by omega)⟩, st0_z (by decide), rfl, ⟨fun k hk => absurd hk (z0 k), fun k hk => absurd hk (z0 k)⟩, fun e _ _ => st0_z (by omega)⟩⟩
  · by_cases o17 : o = 17
    · omega
    · rw [zz (24 + e) o (by omega) (by omega) o17, st0_z (by omega)]
  · unfold mdR
    rw [if_neg (fun y => z0 e y.1), (o2 32 (by omega)).2.2.1]
    exact (T.2.2.2.2.2.1 32 (List.contains_iff_mem.mp tN_32)).2 e
  · rw [(o2 20 (by omega)).2.1, T.2.2.2.2.1 20 (by omega) (by omega) 17, if_neg (fun y => by
      have : tI17.contains (20, 17) = false := by decide +kernel
      rw [List.contains_iff_mem.mpr y] at this
      cases this)]
    rfl
  · have hA2 : A ∈ [46, 75, 83, 91, 99] := by
      unfold isT at hA
      rcases hA with e | e | e | e | e <;> subst e <;> decide
    refine ⟨z17 A hA2, 0, ?_, by decide⟩
    have b : 20 ≤ A ∧ A < 107 := by
      have : ∀ A ∈ [46, 75, 83, 91, 99], 20 ≤ A ∧ A < 107 := by decide +kernel
      exact this A hA2
    exact zz A 18 b.1 b.2 (by omega)
/-- strings, through the making of both -/
theorem sk_st0 {L : Nat} {xs : Nat → Int32} (hh : h = al (h00 L xs) (.inl 11)) (T : MKS h HT 107 tK17 tR17 tI17 tN17) (e0 : H0 = al HT (.inl 12)) (R : RIs H0 HR 56 riK riR ri7) (eH : H = al HR (.inr (3, 1))) : ∀ a, a < 20 → gk H a = gk (h00 L xs) a ∧ gi H a = gi (h00 L xs) a ∧ gr H a = gr (h00 L xs) a ∧ gl H a = gl (h00 L xs) a := by
  obtain ⟨o2, o1, gH, _⟩ := lay_st0 T e0 R eH
  intro a ha
  have A := r_al_k (h00 L xs) (.inl 11) (n := 20) rfl
  rw [← hh] at A
  have x := o2 a (by omega)
  have y := T.2.1 a ha
  have w := A.2.2.2.2 a (by omega)
  exact ⟨x.1.trans (y.1.trans w.1), x.2.1.trans (y.2.1.trans w.2.1), x.2.2.1.trans (y.2.2.1.trans w.2.2.1), x.2.2.2.trans (y.2.2.2.trans w.2.2.2)⟩
end
