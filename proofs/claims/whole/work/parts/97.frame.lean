/-! ===== the class: frames with references and what is made anew; grounds stay proposals; what is new (pure) ===== -/
def Fg (X : Nat → Prop) (Y : Nat → Nat → Prop) (h h' : AH) : Prop := (∀ a, a < gn h → gk h' a = gk h a) ∧ gn h ≤ gn h' ∧ (∀ a, a < gn h → ¬ X a → gi h' a = gi h a) ∧ ∀ a j, a < gn h → ¬ Y a j → gr h' a j = gr h a j
def noY : Nat → Nat → Prop := fun _ _ => False
theorem Fp.fg {X : Nat → Prop} {h h' : AH} (F : Fp X h h') : Fg X noY h h' := ⟨fun a _ => by rw [F.gk], by rw [F.gn]; exact Nat.le_refl _, fun a _ q => F.2 a q, fun a j _ _ => by rw [F.gr]⟩
theorem Fg.refl (X : Nat → Prop) (Y : Nat → Nat → Prop) (h : AH) : Fg X Y h h := ⟨fun _ _ => rfl, Nat.le_refl _, fun _ _ _ => rfl, fun _ _ _ _ => rfl⟩
theorem Fg.trans {X : Nat → Prop} {Y : Nat → Nat → Prop} {h h' h2 : AH} (F : Fg X Y h h') (F2 : Fg X Y h' h2) : Fg X Y h h2 :=
  ⟨fun a q => (F2.1 a (Nat.lt_of_lt_of_le q F.2.1)).trans (F.1 a q), Nat.le_trans F.2.1 F2.2.1, fun a q z => (F2.2.2.1 a (Nat.lt_of_lt_of_le q F.2.1) z).trans (F.2.2.1 a q z), fun a j q z => (F2.2.2.2 a j (Nat.lt_of_lt_of_le q F.2.1) z).trans (F.2.2.2 a j q z)⟩
theorem Fg.mono {X X2 : Nat → Prop} {Y Y2 : Nat → Nat → Prop} {h h' : AH} (F : Fg X Y h h') (hx : ∀ a, a < gn h → X a → X2 a) (hy : ∀ a j, a < gn h → Y a j → Y2 a j) : Fg X2 Y2 h h' :=
  ⟨F.1, F.2.1, fun a q z => F.2.2.1 a q (fun y => z (hx a q y)), fun a j q z => F.2.2.2 a j q (fun y => z (hy a j q y))⟩
theorem Fg.wr (h : AH) (a k : Nat) (v : Option Nat) : Fg (fun _ => False) (fun b j => b = a ∧ j = k) h (wr h a k v) := by
  refine ⟨fun _ _ => rfl, Nat.le_refl _, fun _ _ _ => rfl, fun b j _ q => ?_⟩
  rw [r_gr_wr]
  by_cases e : b = a
  · rw [if_pos e, if_neg (fun z => q ⟨e, z⟩)]
  · rw [if_neg e]
theorem layK_b : ∀ q ∈ layK, q.1 < 164 := by decide +kernel
theorem layR_b : ∀ q ∈ layR, q.1 < 164 := by decide +kernel
theorem layR_3 : ∀ q ∈ layR, ¬ ((q.1 = 46 ∨ q.1 = 75 ∨ q.1 = 83 ∨ q.1 = 91 ∨ q.1 = 99) ∧ q.2.1 = 3) ∧ q.1 ≠ 32 ∧ q.1 ≠ 34 ∧ q.1 ≠ 40 ∧ q.1 ≠ 41 := by decide +kernel
section
variable {X : Nat → Prop} {Y : Nat → Nat → Prop} {h h' : AH} {s : St}
/-- what a frame may touch among references: a talk's matter, elders' minds, the lists, a matter's law -/
def yOK (Y : Nat → Nat → Prop) : Prop := ∀ a j, Y a j → (isT a ∧ j = 3) ∨ a = 32 ∨ a = 34 ∨ a = 40 ∨ a = 41 ∨ 164 ≤ a
theorem Fg.lay (F : Fg X Y h h') (L : Lay h) (hy : yOK Y) : Lay h' := by
  have g := L.2.2
  refine ⟨fun q hq => ?_, fun q hq => ?_, Nat.lt_of_lt_of_le g F.2.1⟩
  · have := layK_b q hq
    rw [F.1 _ (by omega)]
    exact L.1 q hq
  · have b := layR_b q hq
    have z := layR_3 q hq
    rw [F.2.2.2 _ _ (by omega) (fun y => by
      rcases hy _ _ y with y | y | y | y | y | y
      · exact z.1 ⟨y.1, y.2⟩
      · exact z.2.1 y
      · exact z.2.2.1 y
      · exact z.2.2.2.1 y
      · exact z.2.2.2.2 y
      · omega)]
    exact L.2.1 q hq
theorem Fg.cc (F : Fg X Y h h') (g : 164 < gn h) (C : CC h s) (hx : ∀ a, X a → a < 21 ∨ 33 < a) (hy : ∀ j, ¬ Y 32 j) (hy2 : ∀ j, j < s 107 30 → ¬ Y 41 j) (W : ∀ e, e < s 107 18 → s 118 e = 4294967295 ∨ s 118 e < s 107 30) : CC h' s := by
  obtain ⟨⟨c1, c2, c3⟩, c4, c5, c6, c7⟩ := C
  have e : ∀ a, 21 ≤ a → a ≤ 33 → gi h' a = gi h a := fun a h1 h2 => F.2.2.1 a (by omega) (fun q => by have := hx a q; omega)
  refine ⟨?_, ?_, ?_, ?_, ?_⟩
  · rw [e 21 (by omega) (by omega)]
    exact ⟨c1, c2, c3⟩
  · rw [e 22 (by omega) (by omega)]
    exact c4
  · intro x o hx ho
    rw [e (24 + x) (by omega) (by omega)]
    exact c5 x o hx ho
  · rw [e 33 (by omega) (by omega)]
    exact c6
  · intro x hx
    rw [F.2.2.2 32 x (by omega) (hy x), c7 x hx]
    unfold mdR
    split
    · rename_i q
      rw [F.2.2.2 41 _ (by omega) (hy2 _ ((W x q.1).resolve_left q.2))]
    · rfl
theorem Fg.ma (F : Fg X Y h h') {b P : Nat} (M : MA h b P) (hy : ∀ a j, Y a j → a < b ∨ b + 14 < a ∨ (a = b ∧ j = 10)) : MA h' b P := by
  obtain ⟨⟨m1, m2⟩, ⟨k1, k2, k3, k4, k5, k6, k7⟩, ⟨r1, r2, r3, r4, r5, r6⟩, rr⟩ := M
  have ek : ∀ a, a ≤ b + 14 → gk h' a = gk h a := fun a q => F.1 a (by omega)
  have er : ∀ j, j ≠ 10 → gr h' b j = gr h b j := fun j q => F.2.2.2 b j (by omega) (fun y => by have := hy _ _ y; omega)
  refine ⟨⟨m1, Nat.lt_of_lt_of_le m2 F.2.1⟩, ⟨?_, ?_, ?_, ?_, ?_, ?_, ?_⟩, ⟨?_, ?_, ?_, ?_, ?_, ?_⟩, fun e he => ⟨?_, ?_⟩⟩
  · rw [ek _ (by omega)]; exact k1
  · rw [ek _ (by omega)]; exact k2
  · rw [ek _ (by omega)]; exact k3
  · rw [ek _ (by omega)]; exact k4
  · rw [ek _ (by omega)]; exact k5
  · rw [ek _ (by omega)]; exact k6
  · rw [ek _ (by omega)]; exact k7
  · rw [er _ (by omega)]; exact r1
  · rw [er _ (by omega)]; exact r2
  · rw [er _ (by omega)]; exact r3
  · rw [er _ (by omega)]; exact r4
  · rw [er _ (by omega)]; exact r5
  · rw [er _ (by omega)]; exact r6
  · rw [ek _ (by omega)]; exact (rr e he).1
  · rw [F.2.2.2 (b + 3) e (by omega) (fun y => by have := hy _ _ y; omega)]; exact (rr e he).2
theorem Fg.mv (F : Fg X Y h h') {m b : Nat} (g : b + 14 < gn h) (V : MV h s m b) (hx : ∀ a, X a → a < b ∨ b + 14 < a) : MV h' s m b := by
  have e : ∀ a, b ≤ a → a ≤ b + 14 → gi h' a = gi h a := fun a h1 h2 => F.2.2.1 a (by omega) (fun q => by have := hx a q; omega)
  obtain ⟨v1, v2, v3, v4, v5⟩ := V
  refine ⟨?_, fun x hx => ?_, fun x hx => ?_, fun x p hx hp => ?_, fun i hi => ?_⟩
  · rw [e b (by omega) (by omega)]
    exact v1
  · rw [e _ (by omega) (by omega)]
    exact v2 x hx
  · rw [e (b + 1) (by omega) (by omega), e (b + 2) (by omega) (by omega)]
    exact v3 x hx
  · rw [e _ (by omega) (by omega)]
    exact v4 x p hx hp
  · rw [e (b + 12) (by omega) (by omega), e (b + 13) (by omega) (by omega)]
    exact v5 i hi
theorem Fg.txt (F : Fg X Y h h') {t : Nat} {cs : List Cl} (T : TXT h t cs) (hx : ∀ a, X a → a < t ∨ t + 2 < a) (hy : ∀ j, ¬ Y t j) : TXT h' t cs := by
  obtain ⟨⟨a1, a2⟩, ⟨b1, b2, b3, b4, b5⟩, c1, c2⟩ := T
  have e1 : gi h' (t + 1) = gi h (t + 1) := F.2.2.1 _ (by omega) (fun q => by have := hx _ q; omega)
  have e2 : gi h' (t + 2) = gi h (t + 2) := F.2.2.1 _ (by omega) (fun q => by have := hx _ q; omega)
  refine ⟨⟨a1, Nat.lt_of_lt_of_le a2 F.2.1⟩, ⟨?_, ?_, ?_, ?_, ?_⟩, ?_, ?_⟩
  · rw [F.1 _ (by omega)]; exact b1
  · rw [F.1 _ (by omega)]; exact b2
  · rw [F.1 _ (by omega)]; exact b3
  · rw [F.2.2.2 _ _ (by omega) (hy _)]; exact b4
  · rw [F.2.2.2 _ _ (by omega) (hy _)]; exact b5
  · rw [e1]
    exact c1
  · rw [e2]
    exact c2
/-- where the texts lie -/
def isTx (h : AH) (s : St) (t : Nat) : Prop := (∃ k, k < s 107 29 ∧ gr h 40 k = some t) ∨ ∃ k, k < s 107 30 ∧ gr h 41 k = some t
theorem Fg.txa (F : Fg X Y h h') (g : 164 < gn h) (T : TxA h s) (hx : ∀ t, isTx h s t → ∀ a, X a → a < t ∨ t + 2 < a) (hy : ∀ t, isTx h s t → ∀ j, ¬ Y t j) (hy0 : ∀ j, j < s 107 29 → ¬ Y 40 j) (hy1 : ∀ j, j < s 107 30 → ¬ Y 41 j) : TxA h' s := by
  refine ⟨fun k hk => ?_, fun k hk => ?_⟩
  · obtain ⟨t, cs, q, a, b, c⟩ := T.1 k hk
    exact ⟨t, cs, q, by rw [F.2.2.2 40 k (by omega) (hy0 k hk)]; exact a, F.txt b (hx t (Or.inl ⟨k, hk, a⟩)) (hy t (Or.inl ⟨k, hk, a⟩)), c⟩
  · obtain ⟨t, cs, q, a, b, c⟩ := T.2 k hk
    exact ⟨t, cs, q, by rw [F.2.2.2 41 k (by omega) (hy1 k hk)]; exact a, F.txt b (hx t (Or.inr ⟨k, hk, a⟩)) (hy t (Or.inr ⟨k, hk, a⟩)), c⟩
theorem isTx_b (T : TxA h s) {t : Nat} (ht : isTx h s t) : 164 < t ∧ t + 2 < gn h := by
  rcases ht with ⟨k, hk, e⟩ | ⟨k, hk, e⟩
  · obtain ⟨t2, cs, q, a, b, c⟩ := T.1 k hk
    rw [e] at a
    cases a
    exact b.1
  · obtain ⟨t2, cs, q, a, b, c⟩ := T.2 k hk
    rw [e] at a
    cases a
    exact b.1
/-- a talk's matter is laid -/
theorem ev_wr {m b : Nat} (E : EV h s m b) {T : Nat} (hT : isT T) (v : Option Nat) : EV (wr h T 3 v) s m b := by
  have tb := ta_b hT
  obtain ⟨e1, e2, e3, e4, e5, e6⟩ := E
  have F := Fg.wr h T 3 v
  have ne : ∀ a j, a ≠ T → gr (wr h T 3 v) a j = gr h a j := fun a j q => by rw [r_gr_wr, if_neg q]
  have g := e1.2.2
  refine ⟨F.lay e1 (fun a j y => Or.inl ⟨by rw [y.1]; exact hT, y.2⟩), ?_, F.ma e3 (fun a j y => by have := e3.1.1; omega), e4, F.txa g e5 (fun t ht a y => y.elim) (fun t ht j y => by have := isTx_b e5 ht; omega) (fun j _ y => by omega) (fun j _ y => by omega), ?_⟩
  · obtain ⟨c1, c2, c3, c4, c5⟩ := e2
    refine ⟨c1, c2, c3, c4, fun e he => ?_⟩
    rw [ne 32 e (by omega), c5 e he]
    unfold mdR
    rw [ne 41 _ (by omega)]
  · have := e3.1.1
    rw [ne b 10 (by omega), e6]
    unfold lwR
    rw [ne 40 _ (by omega)]
end
/-! grounds -/
theorem wy_ww {n x p v q : Nat} (hv : v < 4) (hp : p < n) (hq : q < n) : wyN n (wwN n x p v) q = if q = p then v else wyN n x q := by
  refine Nat.eq_of_testBit_eq fun i => ?_
  have v2 : ∀ i, 2 ≤ i → v.testBit i = false := fun i hi => Nat.testBit_lt_two_pow (Nat.lt_of_lt_of_le (show v < 2 ^ 2 from hv) (Nat.pow_le_pow_right (by omega) hi))
  have t3 : ∀ i, (3 : Nat).testBit i = decide (i < 2) := fun i => Nat.testBit_two_pow_sub_one 2 i
  unfold wyN wwN
  rw [Nat.testBit_and, Nat.testBit_shiftRight, Nat.testBit_or, adN_bit, Nat.testBit_shiftLeft, Nat.testBit_shiftLeft, t3, t3]
  by_cases e : q = p
  · subst e
    rw [if_pos rfl, show 2 * (n - 1 - q) + i - 2 * (n - 1 - q) = i by omega, decide_eq_true (show 2 * (n - 1 - q) + i ≥ 2 * (n - 1 - q) by omega)]
    by_cases i2 : i < 2
    · rw [decide_eq_true i2]
      simp
    · rw [decide_eq_false i2, v2 i (by omega)]
      simp
  · rw [if_neg e, Nat.testBit_and, Nat.testBit_shiftRight, t3]
    by_cases i2 : i < 2
    · rcases (by omega : 2 * (n - 1 - q) + i < 2 * (n - 1 - p) ∨ 2 * (n - 1 - p) + 2 ≤ 2 * (n - 1 - q) + i) with z | z
      · rw [decide_eq_false (show ¬ 2 * (n - 1 - q) + i ≥ 2 * (n - 1 - p) by omega)]
        simp
      · rw [decide_eq_false (show ¬ 2 * (n - 1 - q) + i - 2 * (n - 1 - p) < 2 by omega), v2 (2 * (n - 1 - q) + i - 2 * (n - 1 - p)) (by omega)]
        simp
    · rw [decide_eq_false i2]
      simp
theorem ww_pr {h : AH} {s : St} (W : RH h s) {m x p v : Nat} (hm : m < s 107 19) (hx : isPr s m x) (hp : p < s 112 m) (hv : v < s 113 m) : isPr s m (wwN (s 112 m) x p v) := by
  have b4 := rs_p W hm
  refine ⟨?_, fun q hq => ?_⟩
  · have h1 := hx.1
    rw [Nat.one_shiftLeft] at h1 ⊢
    refine or_lt (adN_lt h1) ?_
    have h2 : v <<< (2 * (s 112 m - 1 - p)) < 2 ^ (2 * (s 112 m - 1 - p) + 2) := by
      rw [Nat.shiftLeft_eq, Nat.pow_add, Nat.mul_comm]
      exact Nat.mul_lt_mul_of_pos_left (show v < 2 ^ 2 by omega) (Nat.two_pow_pos _)
    exact Nat.lt_of_lt_of_le h2 (Nat.pow_le_pow_right (by omega) (by omega))
  · rw [wy_ww (by omega) hp hq]
    split
    · exact hv
    · exact hx.2 q hq
theorem stD_pr {h : AH} {s : St} (W : RH h s) {ed rs : Nat → Nat} {m day e ahead : Nat} {x : Ds} {lk : List Lk} (hm : m < s 107 19) (hx : isPr s m x.2.1) : isPr s m (stD s m day e x (tuS s ed rs x.1 x.2.1 e m day ahead x.2.2.1) lk).2.1 := by
  cases er : tuS s ed rs x.1 x.2.1 e m day ahead x.2.2.1 with
  | none => exact hx
  | some q =>
    obtain ⟨p, i⟩ := q
    have er2 : tuF s x.1 x.2.1 (trI s ed rs e m (s 107 67)) e m day ahead x.2.2.1 (s 112 m) 0 = some (p, i) := by
      by_cases c : msP s m x.1 e day ahead x.2.2.1
      · rw [← er]
        exact (ifO_t c).symm
      · have : tuS s ed rs x.1 x.2.1 e m day ahead x.2.2.1 = none := ifO_f c
        rw [er] at this
        cases this
    obtain ⟨q1, q2, q3⟩ := tuF_ok W hm _ _ _ _ er2
    exact ww_pr W hm hx (by omega) q3
theorem dyS_pr {h : AH} {s : St} (W : RH h s) {ed rs : Nat → Nat} {m day : Nat} {x : Ds} (hm : m < s 107 19) (hx : isPr s m x.2.1) : ∀ k, isPr s m (dyS s ed rs m day x k).2.1 := by
  intro k
  induction k with
  | zero => exact hx
  | succ k ih => exact stD_pr W hm ih
theorem dE_pr {h : AH} {s : St} (W : RH h s) {ed rs : Nat → Nat} {m : Nat} {ls : List Lk} (hm : m < s 107 19) : ∀ j, isPr s m (dE s ed rs m ls j).2.1 := by
  intro j
  induction j with
  | zero => exact rs_gr W hm
  | succ j ih => exact dyS_pr W hm ih _
/-! words only grow -/
theorem stD_pre (s : St) (m day e : Nat) (x : Ds) (res : Option (Nat × Nat)) (lk : List Lk) : ∃ zs, (stD s m day e x res lk).1 = x.1 ++ zs := by
  cases res with
  | none => exact ⟨[], by rw [List.append_nil]; rfl⟩
  | some q => exact ⟨_, rfl⟩
theorem dyS_pre (s : St) (ed rs : Nat → Nat) (m day : Nat) (x : Ds) : ∀ k, ∃ zs, (dyS s ed rs m day x k).1 = x.1 ++ zs := by
  intro k
  induction k with
  | zero => exact ⟨[], by rw [List.append_nil]; rfl⟩
  | succ k ih =>
    obtain ⟨zs, e⟩ := ih
    obtain ⟨z2, e2⟩ := stD_pre s m day (sd s k) (dyS s ed rs m day x k) (tuS s ed rs (dyS s ed rs m day x k).1 (dyS s ed rs m day x k).2.1 (sd s k) m day k (dyS s ed rs m day x k).2.2.1) (lkS s ed rs (dyS s ed rs m day x k).1 (dyS s ed rs m day x k).2.1 (sd s k) m day k (dyS s ed rs m day x k).2.2.1)
    exact ⟨zs ++ z2, by rw [← List.append_assoc, ← e]; exact e2⟩
theorem dE_pre (s : St) (ed rs : Nat → Nat) (m : Nat) (ls : List Lk) (b : Nat) : ∀ n, ∃ zs, (dE s ed rs m ls (b + n)).1 = (dE s ed rs m ls b).1 ++ zs := by
  intro n
  induction n with
  | zero => exact ⟨[], by rw [List.append_nil]; rfl⟩
  | succ n ih =>
    obtain ⟨zs, e⟩ := ih
    obtain ⟨z2, e2⟩ := dyS_pre s ed rs m (b + n + 1) (dE s ed rs m ls (b + n)) (sn s)
    exact ⟨zs ++ z2, by rw [← List.append_assoc, ← e]; exact e2⟩
theorem cf_mono (ws zs : List Wd) (e i : Nat) (h : (cfB ws e).testBit i = true) : (cfB (ws ++ zs) e).testBit i = true := by
  unfold cfB at h ⊢
  rw [foldB_bit (c := fun x => x.1 = e) (f := fun x => 4 * x.2.2.1 + x.2.2.2.2.1)] at h ⊢
  refine h.imp id fun ⟨x, hx, q⟩ => ⟨x, List.mem_append.mpr (Or.inl hx), q⟩
theorem cn_mono (ws zs : List Wd) (e i : Nat) (h : (cnB ws e).testBit i = true) : (cnB (ws ++ zs) e).testBit i = true := by
  unfold cnB at h ⊢
  rw [foldB_bit (c := fun x => x.1 = e) (f := fun x => 4 * x.2.2.1 + x.2.2.2.1)] at h ⊢
  refine h.imp id fun ⟨x, hx, q⟩ => ⟨x, List.mem_append.mpr (Or.inl hx), q⟩
def sameB (ws w2 : List Wd) : Prop := ∀ e, cnB w2 e = cnB ws e ∧ cfB w2 e = cfB ws e
theorem nw_app : ∀ (zs ws : List Wd), (sameB ws (ws ++ zs) ∧ nwB (ws ++ zs) = nwB ws) ∨ (¬ sameB ws (ws ++ zs) ∧ ws.length < nwB (ws ++ zs)) := by
  intro zs
  induction zs with
  | nil =>
    intro ws
    rw [List.append_nil]
    exact Or.inl ⟨fun _ => ⟨rfl, rfl⟩, rfl⟩
  | cons z zs ih =>
    intro ws
    have e1 : ws ++ z :: zs = (ws ++ [z]) ++ zs := by simp
    rw [e1]
    have i := ih (ws ++ [z])
    have nb := nwB_app ws z
    by_cases q : isNew ws z
    · rw [nif_t q] at nb
      refine Or.inr ⟨fun sm => q ⟨?_, ?_⟩, ?_⟩
      · rw [← (sm z.1).1]
        refine cn_mono _ _ _ _ ?_
        rw [cnB_app, if_pos rfl, Nat.testBit_or, (bit_one _ _).mpr rfl, Bool.or_true]
      · rw [← (sm z.1).2]
        refine cf_mono _ _ _ _ ?_
        rw [cfB_app, if_pos rfl, Nat.testBit_or, (bit_one _ _).mpr rfl, Bool.or_true]
      · rcases i with ⟨_, i2⟩ | ⟨_, i2⟩
        · rw [i2, nb]
          omega
        · rw [List.length_append] at i2
          omega
    · rw [nif_f q] at nb
      have q2 := Classical.not_not.mp q
      have s1 : sameB ws (ws ++ [z]) := by
        intro e
        rw [cnB_app, cfB_app]
        by_cases y : z.1 = e
        · subst y
          rw [if_pos rfl, if_pos rfl, or_one q2.1, or_one q2.2]
          exact ⟨rfl, rfl⟩
        · rw [if_neg y, if_neg y]
          exact ⟨rfl, rfl⟩
      have s2 : sameB ws ((ws ++ [z]) ++ zs) ↔ sameB (ws ++ [z]) ((ws ++ [z]) ++ zs) := by
        unfold sameB
        constructor
        · intro h e
          rw [(s1 e).1, (s1 e).2]
          exact h e
        · intro h e
          have := h e
          rw [(s1 e).1, (s1 e).2] at this
          exact this
      rw [s2]
      rcases i with ⟨i1, i2⟩ | ⟨i1, i2⟩
      · exact Or.inl ⟨i1, i2.trans nb⟩
      · rw [List.length_append] at i2
        exact Or.inr ⟨i1, by omega⟩
theorem nw_same (ws zs : List Wd) : nwB (ws ++ zs) = nwB ws ↔ sameB ws (ws ++ zs) := by
  have l := nwB_le ws
  rcases nw_app zs ws with ⟨a, b⟩ | ⟨a, b⟩
  · exact ⟨fun _ => a, fun _ => b⟩
  · exact ⟨fun q => by omega, fun q => absurd q a⟩
/-- the sets are the same, by elders or by ways -/
theorem same_wa {s : St} {m : Nat} {ws w2 : List Wd} (K : WK s m ws) (K2 : WK s m w2) (P : s 112 m ≤ 5) (R : s 113 m ≤ 4) : sameB ws w2 ↔ ∀ k, k < 20 → sfB ws (k / 4) (k % 4) = sfB w2 (k / 4) (k % 4) ∧ snB ws (k / 4) (k % 4) = snB w2 (k / 4) (k % 4) := by
  have f1 := fun e p w hw => cfB_bit (e := e) (p := p) (w := w) K R hw
  have f2 := fun e p w hw => cfB_bit (e := e) (p := p) (w := w) K2 R hw
  have n1 := fun e p w hw => cnB_bit (e := e) (p := p) (w := w) K hw
  have n2 := fun e p w hw => cnB_bit (e := e) (p := p) (w := w) K2 hw
  constructor
  · intro h k hk
    refine ⟨Nat.eq_of_testBit_eq fun e => Bool.eq_iff_iff.mpr ?_, Nat.eq_of_testBit_eq fun e => Bool.eq_iff_iff.mpr ?_⟩
    · rw [← f1 e (k / 4) (k % 4) (by omega), ← f2 e (k / 4) (k % 4) (by omega), (h e).2]
    · rw [← n1 e (k / 4) (k % 4) (by omega), ← n2 e (k / 4) (k % 4) (by omega), (h e).1]
  · intro h e
    refine ⟨Nat.eq_of_testBit_eq fun i => Bool.eq_iff_iff.mpr ?_, Nat.eq_of_testBit_eq fun i => Bool.eq_iff_iff.mpr ?_⟩
    · by_cases hi : i < 20
      · have a := n2 e (i / 4) (i % 4) (by omega)
        have b := n1 e (i / 4) (i % 4) (by omega)
        rw [show 4 * (i / 4) + i % 4 = i by omega] at a b
        rw [a, b, (h i hi).2]
      · rw [lt_pow_bit.mp (cnB_lt K P e) i (by omega), lt_pow_bit.mp (cnB_lt K2 P e) i (by omega)]
    · by_cases hi : i < 20
      · have a := f2 e (i / 4) (i % 4) (by omega)
        have b := f1 e (i / 4) (i % 4) (by omega)
        rw [show 4 * (i / 4) + i % 4 = i by omega] at a b
        rw [a, b, (h i hi).1]
      · rw [lt_pow_bit.mp (cfB_lt K P R e) i (by omega), lt_pow_bit.mp (cfB_lt K2 P R e) i (by omega)]
/-- it is as it was, as the class sees it -/
theorem ws_nw {h : AH} {s : St} (W : RH h s) {ed rs : Nat → Nat} {m : Nat} {ls : List Lk} (hm : m < s 107 19) {j b : Nat} (hj : j ≤ 30) (hb : b ≤ j) : wsB s ed rs m ls j b ↔ (dE s ed rs m ls b).2.1 = (dE s ed rs m ls j).2.1 ∧ nwB (dE s ed rs m ls b).1 = nwB (dE s ed rs m ls j).1 := by
  have r := rs_p W hm
  have Kj := (dE_ok (ed := ed) (rs := rs) (ls := ls) W hm j hj).1
  have Kb := (dE_ok (ed := ed) (rs := rs) (ls := ls) W hm b (by omega)).1
  obtain ⟨zs, e⟩ := dE_pre s ed rs m ls b (j - b)
  rw [show b + (j - b) = j by omega] at e
  have sm := same_wa Kb Kj r.2.1 r.2.2.2
  have nw := nw_same (dE s ed rs m ls b).1 zs
  rw [← e] at nw
  unfold wsB waP
  refine and_congr Iff.rfl ?_
  rw [eq_comm (a := nwB (dE s ed rs m ls b).1), nw, sm]
  exact Iff.rfl
