/-! ===== the reference: talks, one on the other ===== -/
/-- what a talk comes to doesn't hang on the looks written down before -/
theorem dyS_core {s : St} {ed rs : Nat → Nat} {m day : Nat} {x y : Ds} (h1 : x.1 = y.1) (h2 : x.2.1 = y.2.1) : ∀ k, (dyS s ed rs m day x k).1 = (dyS s ed rs m day y k).1 ∧ (dyS s ed rs m day x k).2.1 = (dyS s ed rs m day y k).2.1 ∧ (dyS s ed rs m day x k).2.2.1 = (dyS s ed rs m day y k).2.2.1 := by
  intro k
  induction k with
  | zero => exact ⟨h1, h2, rfl⟩
  | succ k ih =>
    obtain ⟨i1, i2, i3⟩ := ih
    show (stD s m day (sd s k) (dyS s ed rs m day x k) (tuS s ed rs (dyS s ed rs m day x k).1 (dyS s ed rs m day x k).2.1 (sd s k) m day k (dyS s ed rs m day x k).2.2.1) _).1 = (stD s m day (sd s k) (dyS s ed rs m day y k) (tuS s ed rs (dyS s ed rs m day y k).1 (dyS s ed rs m day y k).2.1 (sd s k) m day k (dyS s ed rs m day y k).2.2.1) _).1 ∧ (stD s m day (sd s k) (dyS s ed rs m day x k) (tuS s ed rs (dyS s ed rs m day x k).1 (dyS s ed rs m day x k).2.1 (sd s k) m day k (dyS s ed rs m day x k).2.2.1) _).2.1 = (stD s m day (sd s k) (dyS s ed rs m day y k) (tuS s ed rs (dyS s ed rs m day y k).1 (dyS s ed rs m day y k).2.1 (sd s k) m day k (dyS s ed rs m day y k).2.2.1) _).2.1 ∧ (stD s m day (sd s k) (dyS s ed rs m day x k) (tuS s ed rs (dyS s ed rs m day x k).1 (dyS s ed rs m day x k).2.1 (sd s k) m day k (dyS s ed rs m day x k).2.2.1) _).2.2.1 = (stD s m day (sd s k) (dyS s ed rs m day y k) (tuS s ed rs (dyS s ed rs m day y k).1 (dyS s ed rs m day y k).2.1 (sd s k) m day k (dyS s ed rs m day y k).2.2.1) _).2.2.1
    rw [i1, i2, i3]
    cases tuS s ed rs (dyS s ed rs m day y k).1 (dyS s ed rs m day y k).2.1 (sd s k) m day k (dyS s ed rs m day y k).2.2.1 with
    | none => exact ⟨i1, i2, i3⟩
    | some q =>
      refine ⟨?_, ?_, ?_⟩
      · show (dyS s ed rs m day x k).1 ++ [_] = (dyS s ed rs m day y k).1 ++ [_]
        rw [i1, i2]
      · show wwN _ (dyS s ed rs m day x k).2.1 _ _ = wwN _ (dyS s ed rs m day y k).2.1 _ _
        rw [i2]
      · show (dyS s ed rs m day x k).2.2.1 + 1 = (dyS s ed rs m day y k).2.2.1 + 1
        rw [i3]
theorem dE_core {s : St} {ed rs : Nat → Nat} {m : Nat} (ls : List Lk) : ∀ j, (dE s ed rs m ls j).1 = (dE s ed rs m [] j).1 ∧ (dE s ed rs m ls j).2.1 = (dE s ed rs m [] j).2.1 ∧ (dE s ed rs m ls j).2.2.1 = (dE s ed rs m [] j).2.2.1 := by
  intro j
  induction j with
  | zero => exact ⟨rfl, rfl, rfl⟩
  | succ j ih => exact dyS_core ih.1 ih.2.1 _
theorem endA_core {s : St} {ed rs : Nat → Nat} {m : Nat} (ls : List Lk) (j : Nat) : endA s ed rs m ls j = endA s ed rs m [] j := by
  have c := dE_core (s := s) (ed := ed) (rs := rs) (m := m) ls
  have e : ∀ b, wsB s ed rs m ls j b = wsB s ed rs m [] j b := by
    intro b
    unfold wsB waP wdG wdF wdN
    rw [(c j).1, (c j).2.1, (c b).1, (c b).2.1]
  unfold endA
  rw [(c j).2.1, (c j).2.2]
  simp only [e]
theorem tlF_core {s : St} {ed rs : Nat → Nat} {m : Nat} (ls : List Lk) : ∀ n j, tlF s ed rs m ls n j = tlF s ed rs m [] n j := by
  intro n
  induction n with
  | zero => exact fun _ => rfl
  | succ n ih =>
    intro j
    show (match endA s ed rs m ls j with | some c => (j, c) | none => tlF s ed rs m ls n (j + 1)) = (match endA s ed rs m [] j with | some c => (j, c) | none => tlF s ed rs m [] n (j + 1))
    rw [endA_core, ih]
theorem tlS_core {s : St} {ed rs : Nat → Nat} {m : Nat} (ls : List Lk) : tlS s ed rs m ls = tlS s ed rs m [] := tlF_core ls 30 1
/-- how the talks of the matters below k end, and their grounds then -/
noncomputable def erS (s : St) : Nat → (Nat → Nat) × (Nat → Nat)
  | 0 => (fun _ => 0, fun _ => 0)
  | k + 1 => (fun j => if j = k then (tlS s (erS s k).1 (erS s k).2 k []).2 else (erS s k).1 j, fun j => if j = k then (dE s (erS s k).1 (erS s k).2 k [] (tlS s (erS s k).1 (erS s k).2 k []).1).2.1 else (erS s k).2 j)
theorem tlF_b {h : AH} {s : St} (W : RH h s) {ed rs : Nat → Nat} {m : Nat} {ls : List Lk} : ∀ n j, 1 ≤ j → j + n = 31 → j ≤ ldN s m → (tlF s ed rs m ls n j).1 ≤ 30 ∧ 1 ≤ (tlF s ed rs m ls n j).1 ∧ (tlF s ed rs m ls n j).2 ≤ 3 := by
  have lb := ldN_b s m
  intro n
  induction n with
  | zero => exact fun j h1 h2 h3 => absurd h3 (by omega)
  | succ n ih =>
    intro j h1 h2 h3
    have e0 : tlF s ed rs m ls (n + 1) j = match endA s ed rs m ls j with | some c => (j, c) | none => tlF s ed rs m ls n (j + 1) := rfl
    by_cases q1 : (dE s ed rs m ls j).2.2.1 = 0
    · have e : endA s ed rs m ls j = some _ := ifO_t q1
      rw [e0, e]
      dsimp only
      exact ⟨by omega, h1, nif_le (by omega) (by omega)⟩
    · by_cases q2 : j = ldN s m
      · have e : endA s ed rs m ls j = some 1 := (ifO_f q1).trans (ifO_t q2)
        rw [e0, e]
        dsimp only
        exact ⟨by omega, h1, by omega⟩
      · by_cases q3 : ∃ b, 1 ≤ b ∧ b < j ∧ wsB s ed rs m ls j b
        · have e : endA s ed rs m ls j = some 2 := (ifO_f q1).trans ((ifO_f q2).trans (ifO_t q3))
          rw [e0, e]
          dsimp only
          exact ⟨by omega, h1, by omega⟩
        · have e : endA s ed rs m ls j = none := (ifO_f q1).trans ((ifO_f q2).trans (ifO_f q3))
          rw [e0, e]
          dsimp only
          exact ih (j + 1) (by omega) (by omega) (by omega)
theorem tlS_b {h : AH} {s : St} (W : RH h s) {ed rs : Nat → Nat} {m : Nat} {ls : List Lk} : (tlS s ed rs m ls).1 ≤ 30 ∧ 1 ≤ (tlS s ed rs m ls).1 ∧ (tlS s ed rs m ls).2 ≤ 3 := tlF_b W 30 1 (Nat.le_refl _) rfl (ldN_b s m).1
/-- nobody is watched -/
def unW (s : St) : St := uS s 107 61 4294967295
theorem rs_w {s : St} (R : RS s) (v : Nat) : RS (uS s 107 61 v) := R
theorem EO_step {H : AH} {s : St} {m : Nat} (E : EO H (erS s m).1 (erS s m).2 m) {c g : Nat} (hc : c = (tlS s (erS s m).1 (erS s m).2 m []).2) (hg : g = (dE s (erS s m).1 (erS s m).2 m [] (tlS s (erS s m).1 (erS s m).2 m []).1).2.1) (c3 : c ≤ 3) (g10 : g < 1024) : EO (wi (wi H 141 m (nI c)) 142 m (nI g)) (erS s (m + 1)).1 (erS s (m + 1)).2 (m + 1) := by
  intro j hj
  by_cases q : j = m
  · subst q
    have e1 : (erS s (j + 1)).1 j = c := (if_pos rfl).trans hc.symm
    have e2 : (erS s (j + 1)).2 j = g := (if_pos rfl).trans hg.symm
    rw [e1, e2]
    refine ⟨?_, ?_, c3, g10⟩
    · simp (disch := omega) only [r_wi_eq, r_wi_ne]
    · simp (disch := omega) only [r_wi_eq]
  · have e1 : (erS s (m + 1)).1 j = (erS s m).1 j := if_neg q
    have e2 : (erS s (m + 1)).2 j = (erS s m).2 j := if_neg q
    rw [e1, e2]
    obtain ⟨a, b, c, d⟩ := E j (by omega)
    refine ⟨?_, ?_, c, d⟩
    · simp (disch := omega) only [r_wi_ne, r_wi_nj]
      exact a
    · simp (disch := omega) only [r_wi_ne, r_wi_nj]
      exact b
