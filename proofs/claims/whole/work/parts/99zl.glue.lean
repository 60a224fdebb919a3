/-! ===== one round of the law: both sides ===== -/
theorem rh_frc {h h' : AH} {s : St} (W : RH h s) (F : FrC h h') (L : Lay h') : RH h' s := by
  have pa : ∀ a ∈ persA, 108 ≤ a ∧ a < 164 := by decide +kernel
  refine ⟨L, fun a j hp => ?_, W.2.2⟩
  have b : 107 ≤ a ∧ a ≤ 164 := by
    have hp2 := hp
    unfold pers at hp2
    by_cases e : a = 107
    · omega
    · rw [if_neg e] at hp2
      have := pa a (List.contains_iff_mem.mp hp2)
      omega
  rw [(F.2.2.2 a (Or.inr b)).1]
  exact W.2.1 a j hp
theorem sk_frr {h h' : AH} (F : FrR h h') (K : SK h) : SK h' := by
  intro i hi
  obtain ⟨k1, k2, k3, k4, k5⟩ := K i hi
  have o : ∀ a, a < 20 → gi h' a = gi h a ∧ gr h' a = gr h a := fun a ha => F.2.2.2 a (by omega)
  exact ⟨by rw [F.1]; exact k1, by rw [F.1]; exact k2, by rw [(o _ (by omega)).2]; exact k3, by rw [(o _ (by omega)).1]; exact k4, fun j hj => by rw [(o _ (by omega)).1]; exact k5 j hj⟩
theorem ci_frr {h0 : AH} {s : St} {bm : Nat → Nat} {c : Nat} (W : RH h0 s) {h2 H : AH} (I : CI h2 s bm c) (F : FrR h2 H) (L : Lay H) : CI H s bm c := by
  have b0 := rs_m W
  have g := (ci_L I).2.2
  have c4 := (ci_ct I).2.2.2.2.2
  have FB : Fg (fun a => 107 ≤ a ∧ a < 164) (fun a j => 107 ≤ a ∧ a < 164) h2 H := ⟨fun a _ => by rw [F.1], by rw [F.2.1]; exact Nat.le_refl _, fun a _ q => (F.2.2.2 a (by omega)).1, fun a j _ q => by rw [(F.2.2.2 a (by omega)).2]⟩
  exact ⟨L, Fg.cc (s := s) FB g (ci_C I) (fun a q => by omega) (fun j y => (by first | exact y.elim | omega)) (fun j _ y => (by first | exact y.elim | omega)) (fun e he => rs_md W he), Fg.ct (s := s) FB g (ci_ct I) (fun q => by omega), Fg.mt (s := s) FB g (ci_m I) (fun m hm => rs_law W hm) (fun m hm a q => by have := ci_b I hm; omega) (fun m hm a j y => by first | exact y.elim | (have := ci_b I hm; omega)) (fun j _ y => (by first | exact y.elim | omega)) (fun j _ y => (by first | exact y.elim | omega)), (show BO s bm from ci_bo I), Fg.txa (s := s) FB g (ci_tx I) (fun t ht a q => by have := isTx_b (ci_tx I) ht; omega) (fun t ht j y => by first | exact y.elim | (have := isTx_b (ci_tx I) ht; omega)) (fun j _ y => (by first | exact y.elim | omega)) (fun j _ y => (by first | exact y.elim | omega)), Fg.dj (s := s) FB g (ci_dj I) (fun j _ y => (by first | exact y.elim | omega)) (fun j _ y => (by first | exact y.elim | omega)), Fg.tpc (s := s) FB g (ci_tp I) ⟨fun q => by omega, fun q => by omega⟩, Fg.plc (s := s) FB g (ci_pl I) (fun a q => by omega), Fg.gfc (s := s) FB g (ci_gf I) (by rw [FB.2.2.1 61 (by omega) (fun q => by omega)]) (fun a q => by omega), Fg.asc (s := s) FB g (ci_as I) (fun a q => by omega), Fg.twc (s := s) FB g (ci_tw I) (fun a ha q => by have := ta_b ha; unfold isT at ha; omega), Fg.std FB g (Nat.le_trans c4 b0) (ci_st I) (fun j hj a q => by have e : tOf j = 75 + 8 * j := rfl; omega) (fun j hj y => by have e : tOf j = 75 + 8 * j := rfl; omega), ci_pu I⟩
/-- between two rounds: N numbers xs are the law's argument -/
def INV (N : Nat) (xs : Nat → Int32) (h : AH) (s : St) : Prop := (RH h s ∧ SK h ∧ ∃ bm c, CI h s bm c) ∧ gk h 19 = some (.inr (0, N)) ∧ gi h 19 = xs ∧ gk h 164 = some (.inr (3, 1)) ∧ 165 ≤ gn h
section
variable {N : Nat} {xs : Nat → Int32} {h h1 h2 : AH} {s s' : St} {v : Int32} {r r2 : Option (Option Value)}
/-- behind the class's call: what the reference's call wants -/
theorem inv_c (I : INV N xs h s) (F : FrC h h1) (J : ∃ bm c, CI h1 s' bm c) : RH h1 s ∧ SK h1 ∧ gk h1 19 = some (.inr (0, N)) ∧ gi h1 19 = xs ∧ gk h1 164 = some (.inr (3, 1)) ∧ 165 ≤ gn h1 := by
  obtain ⟨⟨W, K, _⟩, a, b, c, g⟩ := I
  obtain ⟨bm, k, J⟩ := J
  exact ⟨rh_frc W F (ci_L J), F.sk (by omega) K, by rw [F.1 19 (by omega)]; exact a, by rw [(F.2.2.2 19 (Or.inl (by omega))).1]; exact b, by rw [F.1 164 (by omega)]; exact c, Nat.le_trans g F.2.1⟩
/-- behind the reference's call -/
theorem inv_r (I : RH h1 s ∧ SK h1 ∧ gk h1 19 = some (.inr (0, N)) ∧ gi h1 19 = xs ∧ gk h1 164 = some (.inr (3, 1)) ∧ 165 ≤ gn h1) (J : ∃ bm c, CI h1 s' bm c) (W : RH h2 s') (F : FrR h1 h2) : INV N xs h2 s' := by
  obtain ⟨_, K, a, b, c, g⟩ := I
  obtain ⟨bm, k, J⟩ := J
  exact ⟨⟨W, sk_frr F K, bm, k, ci_frr W J F W.1⟩, by rw [F.1]; exact a, by rw [(F.2.2.2 19 (by omega)).1]; exact b, by rw [F.1]; exact c, by rw [F.2.1]; exact g⟩
/-- one round: the class's answer is v, so is the reference's -/
theorem inv_1 (I : INV N xs h s) (p : PC2 v s' h r h1) : r = some (some (.int v)) ∧ (RH h1 s ∧ SK h1 ∧ gk h1 19 = some (.inr (0, N)) ∧ gi h1 19 = xs ∧ gk h1 164 = some (.inr (3, 1)) ∧ 165 ≤ gn h1) ∧ ∃ bm c, CI h1 s' bm c := ⟨p.1, inv_c I p.2.1 p.2.2, p.2.2⟩
theorem inv_2 (I : RH h1 s ∧ SK h1 ∧ gk h1 19 = some (.inr (0, N)) ∧ gi h1 19 = xs ∧ gk h1 164 = some (.inr (3, 1)) ∧ 165 ≤ gn h1) (J : ∃ bm c, CI h1 s' bm c) (p : Pb v s' h1 r h2) : r = some (some (.int v)) ∧ INV N xs h2 s' := ⟨p.1, inv_r I J p.2.1 p.2.2⟩
end
