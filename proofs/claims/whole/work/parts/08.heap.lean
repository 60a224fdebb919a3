/-! ===== the flat heap's changes over the machine's heap ===== -/
theorem up_self {α : Type} (f : Nat → α) (k : Nat) (v : α) : up f k v k = v := by simp [up]
theorem up_ne {α : Type} (f : Nat → α) {k j : Nat} (v : α) (h : j ≠ k) : up f k v j = f j := by simp [up, h]
theorem adf_inj {G : GG} (h : ADF G) {i j : Nat} (hi : 20 ≤ i) (hj : 20 ≤ j) (e : gA G i = gA G j) : i = j := by
  rw [h i hi, h j hj] at e
  omega
theorem adf_in {G : GG} (h : ADF G) {i : Nat} (hi : 20 ≤ i) : gZ G (gA G i) := by
  show gB G ≤ gA G i
  rw [h i hi]
  omega
theorem adf_lt {G : GG} (h : ADF G) {i : Nat} {f : AH} {H : Heap} (hi : 20 ≤ i) (hR : RW G f H) (hl : i < gn f) : gA G i < H.size := by
  rw [h i hi, hR.2.1]
  omega
theorem CA_kept {G : GG} {h h' : AH} {H H' : Heap} {i : Nat} {kd : Nat ⊕ (Nat × Nat)} (hc : CA G h H i kd) (hq : H'[gA G i]? = H[gA G i]?) (h1 : gi h' i = gi h i) (h2 : gr h' i = gr h i) (h3 : gl h' i = gl h i) : CA G h' H' i kd := by
  cases kd with
  | inl c =>
    obtain ⟨a, b⟩ := hc
    refine ⟨a, (t_OB.kept b hq).to fun k _ => ?_⟩
    simp only [fv, h1, h2]
  | inr x =>
    obtain ⟨t, n⟩ := x
    obtain ⟨a, b, d⟩ := hc
    refine ⟨a, b, ?_⟩
    show H'[gA G i]? = _
    rw [hq, d]
    congr 2
    funext j
    simp only [av, h1, h2, h3]
/-- one object changed -/
theorem RW_set {G : GG} (hA : ADF G) {h h' : AH} {H H' : Heap} {a : Nat} (ha : 20 ≤ a) (hR : RW G h H) (hz : H'.size = H.size) (ho : ∀ q, q ≠ gA G a → H'[q]? = H[q]?)
    (hk : gk h' = gk h) (hn : gn h' = gn h) (h1 : ∀ i, i ≠ a → gi h' i = gi h i) (h2 : ∀ i, i ≠ a → gr h' i = gr h i) (h3 : ∀ i, i ≠ a → gl h' i = gl h i)
    (hc : ∀ kd, gk h a = some kd → CA G h' H' a kd) : RW G h' H' := by
  refine ⟨by rw [hn]; exact hR.1, by rw [hz, hn]; exact hR.2.1, fun i kd hi hkd => ?_⟩
  rw [hk] at hkd
  obtain ⟨hlt, hca⟩ := hR.2.2 i kd hi hkd
  rw [hn]
  refine ⟨hlt, ?_⟩
  by_cases e : i = a
  · subst e
    exact hc kd hkd
  · exact CA_kept hca (ho _ (fun q => e (adf_inj hA hi ha q))) (h1 i e) (h2 i e) (h3 i e)
/-- one object more -/
theorem RW_al {G : GG} (hA : ADF G) {h : AH} {H H' : Heap} {kd : Nat ⊕ (Nat × Nat)} (hR : RW G h H) (hz : H'.size = H.size + 1) (ho : ∀ q, q < H.size → H'[q]? = H[q]?) (hc : CA G (al h kd) H' (gn h) kd) : RW G (al h kd) H' := by
  have hg : gn (al h kd) = gn h + 1 := rfl
  have h20 := hR.1
  refine ⟨by rw [hg]; omega, by rw [hz, hR.2.1, hg]; omega, fun i kd' hi hkd => ?_⟩
  have hk : gk (al h kd) i = if i = gn h then some kd else gk h i := rfl
  rw [hk] at hkd
  rw [hg]
  split at hkd
  · rename_i e
    subst e
    cases hkd
    exact ⟨by omega, hc⟩
  · rename_i e
    obtain ⟨hlt, hca⟩ := hR.2.2 i kd' hi hkd
    have e1 : gi (al h kd) i = gi h i := up_ne _ _ e
    have e2 : gr (al h kd) i = gr h i := up_ne _ _ e
    have e3 : gl (al h kd) i = gl h i := up_ne _ _ e
    exact ⟨by omega, CA_kept hca (ho _ (adf_lt hA hi hR hlt)) e1 e2 e3⟩
theorem RW_al_at {G : GG} (hA : ADF G) {h : AH} {H : Heap} (hR : RW G h H) : gA G (gn h) = H.size := by rw [hA _ hR.1, hR.2.1]
theorem RW_gb {G : GG} (hA : ADF G) {h : AH} {H H' : Heap} (hR : RW G h H) (hz : H.size ≤ H'.size) (ho : ∀ q, q < H.size → H'[q]? = H[q]?) : ∃ m, gn h ≤ m ∧ RW G (gb h m) H' := by
  have h20 := hR.1
  have hs := hR.2.1
  refine ⟨gn h + (H'.size - H.size), by omega, ?_, ?_, fun i kd hi hkd => ?_⟩
  · show 20 ≤ gn h + (H'.size - H.size)
    omega
  · show H'.size = gB G + (gn h + (H'.size - H.size) - 20)
    omega
  · obtain ⟨hlt, hca⟩ := hR.2.2 i kd hi hkd
    refine ⟨?_, CA_kept hca (ho _ (adf_lt hA hi hR hlt)) rfl rfl rfl⟩
    show i < gn h + (H'.size - H.size)
    omega
theorem ROH_of {L : Nat} {xs : Nat → Int32} {h h' : AH} (hR : ROH L xs h) (e : ∀ i, i < 20 → gk h' i = gk h i ∧ gi h' i = gi h i ∧ gr h' i = gr h i) : ROH L xs h' := by
  obtain ⟨h1, h2, h3, h4⟩ := hR
  refine ⟨fun i hi => ?_, ?_, ?_, fun j hj => ?_⟩
  · obtain ⟨a, b, c, d, f⟩ := h1 i hi
    obtain ⟨x1, x2, x3⟩ := e (2 * i) (by omega)
    obtain ⟨y1, y2, y3⟩ := e (2 * i + 1) (by omega)
    exact ⟨by rw [x1]; exact a, by rw [y1]; exact b, by rw [x3]; exact c, by rw [x2]; exact d, fun j hj => by rw [y2]; exact f j hj⟩
  · rw [(e 18 (by omega)).1]; exact h2
  · rw [(e 19 (by omega)).1]; exact h3
  · rw [(e 19 (by omega)).2.1]; exact h4 j hj
theorem ROH_wi {L : Nat} {xs : Nat → Int32} {h : AH} (hR : ROH L xs h) {a k : Nat} {v : Int32} (ha : 20 ≤ a) : ROH L xs (wi h a k v) := ROH_of hR fun i hi => ⟨rfl, up_ne _ _ (by omega), rfl⟩
theorem ROH_wr {L : Nat} {xs : Nat → Int32} {h : AH} (hR : ROH L xs h) {a k : Nat} {v : Option Nat} (ha : 20 ≤ a) : ROH L xs (wr h a k v) := ROH_of hR fun i hi => ⟨rfl, rfl, up_ne _ _ (by omega)⟩
theorem ROH_wl {L : Nat} {xs : Nat → Int32} {h : AH} (hR : ROH L xs h) {a k : Nat} {v : Int64} : ROH L xs (wl h a k v) := ROH_of hR fun i hi => ⟨rfl, rfl, rfl⟩
theorem ROH_wa {L : Nat} {xs : Nat → Int32} {h : AH} (hR : ROH L xs h) {a : Nat} {f : Nat → Int32} (ha : 20 ≤ a) : ROH L xs (wa h a f) := ROH_of hR fun i hi => ⟨rfl, up_ne _ _ (by omega), rfl⟩
theorem ROH_al {L : Nat} {xs : Nat → Int32} {h : AH} (hR : ROH L xs h) {kd : Nat ⊕ (Nat × Nat)} (ha : 20 ≤ gn h) : ROH L xs (al h kd) := ROH_of hR fun i hi => ⟨up_ne _ _ (by omega), up_ne _ _ (by omega), up_ne _ _ (by omega)⟩
theorem ROH_gb {L : Nat} {xs : Nat → Int32} {h : AH} (hR : ROH L xs h) {m : Nat} : ROH L xs (gb h m) := ROH_of hR fun i hi => ⟨rfl, rfl, rfl⟩
theorem ROH_alm {L : Nat} {xs : Nat → Int32} {h : AH} (hR : ROH L xs h) {n K : Nat} (ha : 20 ≤ gn h) : ROH L xs (alm h n K) := ROH_of hR fun i hi => by
  refine ⟨?_, ?_, ?_⟩
  · show (if i = gn h then _ else if gn h < i ∧ i ≤ gn h + n then _ else gk h i) = _
    rw [if_neg (by omega), if_neg (by omega)]
  · show (if gn h ≤ i ∧ i ≤ gn h + n then _ else gi h i) = _
    rw [if_neg (by omega)]
  · show (if i = gn h then _ else if gn h < i ∧ i ≤ gn h + n then _ else gr h i) = _
    rw [if_neg (by omega), if_neg (by omega)]
theorem ro_low {L : Nat} {xs : Nat → Int32} {h : AH} (hR : ROH L xs h) {a : Nat} (ha : a < 20) : (∃ i, i < 9 ∧ a = 2 * i ∧ gk h a = some (.inl 13)) ∨ (∃ i, i < 9 ∧ a = 2 * i + 1 ∧ gk h a = some (.inr (2, sln.getD i 0))) ∨ gk h a = none ∨ (a = 19 ∧ gk h a = some (.inr (0, L))) := by
  by_cases h18 : a < 18
  · rcases Nat.mod_two_eq_zero_or_one a with q | q
    · exact Or.inl ⟨a / 2, by omega, by omega, by have := (hR.1 (a / 2) (by omega)).1; rw [show 2 * (a / 2) = a by omega] at this; exact this⟩
    · exact Or.inr (Or.inl ⟨a / 2, by omega, by omega, by have := (hR.1 (a / 2) (by omega)).2.1; rw [show 2 * (a / 2) + 1 = a by omega] at this; exact this⟩)
  · rcases (by omega : a = 18 ∨ a = 19) with rfl | rfl
    · exact Or.inr (Or.inr (Or.inl hR.2.1))
    · exact Or.inr (Or.inr (Or.inr ⟨rfl, hR.2.2.1⟩))
theorem vw_at : ∀ c, c < 13 → vwCl[c]? = some (cnm c, ftb c, nfc c) := by
  intro c hc
  match c, hc with
  | 0, _ => rfl
  | 1, _ => rfl
  | 2, _ => rfl
  | 3, _ => rfl
  | 4, _ => rfl
  | 5, _ => rfl
  | 6, _ => rfl
  | 7, _ => rfl
  | 8, _ => rfl
  | 9, _ => rfl
  | 10, _ => rfl
  | 11, _ => rfl
  | 12, _ => rfl
  | c + 13, h => omega
theorem lay_gw {l : List Cond} (h : l.all (fun w => decide (w ∈ lw_tbl) && goodWord w) = true) : ∀ w ∈ l, w ∈ gw := by
  intro w hw
  have h1 := List.all_eq_true.mp h w hw
  rw [Bool.and_eq_true, decide_eq_true_eq] at h1
  exact List.mem_filter.mpr h1
theorem lay_0 : ∀ w ∈ wsX00, w ∈ gw := lay_gw (by decide +kernel)
theorem lay_1 : ∀ w ∈ wsX10, w ∈ gw := lay_gw (by decide +kernel)
theorem lay_2 : ∀ w ∈ wsX20, w ∈ gw := lay_gw (by decide +kernel)
theorem lay_3 : ∀ w ∈ wsX30, w ∈ gw := lay_gw (by decide +kernel)
theorem lay_4 : ∀ w ∈ wsX40, w ∈ gw := lay_gw (by decide +kernel)
theorem lay_5 : ∀ w ∈ wsX50, w ∈ gw := lay_gw (by decide +kernel)
theorem lay_6 : ∀ w ∈ wsX60, w ∈ gw := lay_gw (by decide +kernel)
theorem lay_7 : ∀ w ∈ wsX70, w ∈ gw := lay_gw (by decide +kernel)
theorem lay_8 : ∀ w ∈ wsX80, w ∈ gw := lay_gw (by decide +kernel)
theorem lay_9 : ∀ w ∈ wsX90, w ∈ gw := lay_gw (by decide +kernel)
theorem lay_10 : ∀ w ∈ wsX100, w ∈ gw := lay_gw (by decide +kernel)
theorem lay_11 : ∀ w ∈ wsX110, w ∈ gw := lay_gw (by decide +kernel)
theorem lay_12 : ∀ w ∈ wsX120, w ∈ gw := lay_gw (by decide +kernel)
theorem lay_in : ∀ c, c < 13 → ∀ w ∈ u_ws (cnm c) (ftb c) (nfc c), w ∈ gw := by
  intro c hc
  match c, hc with
  | 0, _ => exact lay_0
  | 1, _ => exact lay_1
  | 2, _ => exact lay_2
  | 3, _ => exact lay_3
  | 4, _ => exact lay_4
  | 5, _ => exact lay_5
  | 6, _ => exact lay_6
  | 7, _ => exact lay_7
  | 8, _ => exact lay_8
  | 9, _ => exact lay_9
  | 10, _ => exact lay_10
  | 11, _ => exact lay_11
  | 12, _ => exact lay_12
  | c + 13, h => omega
theorem tyO_ok : ∀ c, c < 13 → ∀ k, k < nfc c → parseFieldDescriptor (ftb c k).2.2.1 = some (tyO c k) := by
  intro c hc
  match c, hc with
  | 0, _ => exact tyX0_ok
  | 1, _ => exact tyX1_ok
  | 2, _ => exact tyX2_ok
  | 3, _ => exact tyX3_ok
  | 4, _ => exact tyX4_ok
  | 5, _ => exact tyX5_ok
  | 6, _ => exact tyX6_ok
  | 7, _ => exact tyX7_ok
  | 8, _ => exact tyX8_ok
  | 9, _ => exact tyX9_ok
  | 10, _ => exact tyX10_ok
  | 11, _ => exact tyX11_ok
  | 12, _ => exact tyX12_ok
  | c + 13, h => omega
theorem nm_ok : ∀ c, c < 13 → ∀ a, a < nfc c → ∀ b, b < nfc c → a ≠ b → (ftb c a).2.1 ≠ (ftb c b).2.1 := by
  intro c hc
  match c, hc with
  | 0, _ => exact nmX0
  | 1, _ => exact nmX1
  | 2, _ => exact nmX2
  | 3, _ => exact nmX3
  | 4, _ => exact nmX4
  | 5, _ => exact nmX5
  | 6, _ => exact nmX6
  | 7, _ => exact nmX7
  | 8, _ => exact nmX8
  | 9, _ => exact nmX9
  | 10, _ => exact nmX10
  | 11, _ => exact nmX11
  | 12, _ => exact nmX12
  | c + 13, h => omega
theorem tyO_kind : ∀ c, c < 13 → ∀ k, k < nfc c → tyO c k = .int ∨ tyO c k = .boolean ∨ isR c k = true := by decide +kernel
/-- a class's fields lie apart -/
theorem fd_apart {G : GG} {s : State} {args : Array Value} (hts : ∀ w ∈ gw, w.before args s = true) (hSU : SU G s) {c : Nat} (hc : c < 13) : ∀ x y, x < nfc c → y < nfc c → x ≠ y → (gD G).2 c x ≠ (gD G).2 c y :=
  va_apart (D := gD G) (own := cnm c) hts (lay_in c hc) (tyO c) (tyO_ok c hc) (nm_ok c hc) hSU.1 (vw_at c hc)
/-- the fields of a new object -/
theorem fd_new {G : GG} {h : AH} {c k : Nat} (hc : c < 13) (hk : k < nfc c) : defaultValue (tyO c k) = fv G (al h (.inl c)) (gn h) c k := by
  have e1 : gi (al h (.inl c)) (gn h) = fun _ => 0 := up_self _ _ _
  have e2 : gr (al h (.inl c)) (gn h) = fun _ => none := up_self _ _ _
  simp only [fv, e1, e2]
  rcases tyO_kind c hc k hk with q | q | q
  · rw [q, if_neg (by rw [isR, q]; exact Bool.false_ne_true)]
    rfl
  · rw [q, if_neg (by rw [isR, q]; exact Bool.false_ne_true)]
    rfl
  · rw [if_pos q]
    rw [isR] at q
    cases e : tyO c k <;> rw [e] at q <;> first | rfl | exact absurd q Bool.false_ne_true
