/-! ===== a matter in the class: its slots, its sets (pure) ===== -/
def slC (P W x : Nat) : Prop := ∀ p, p < P → wyN P x p < W
noncomputable def slN (P W x : Nat) : Nat := nif (slC P W x) (orN P (fun p => 1 <<< (4 * p + wyN P x p))) 0
theorem sl_bit {P W x : Nat} (c : slC P W x) (i : Nat) : (slN P W x).testBit i = true ↔ i / 4 < P ∧ i % 4 = wyN P x (i / 4) := by
  rw [show slN P W x = _ from nif_t c, orN_bit]
  constructor
  · rintro ⟨j, hj, q⟩
    rw [bit_one] at q
    have := wyN_lt P x j
    have e1 : i / 4 = j := by omega
    rw [e1]
    exact ⟨hj, by omega⟩
  · rintro ⟨h1, h2⟩
    refine ⟨i / 4, h1, ?_⟩
    rw [bit_one]
    omega
theorem sl_0 {P W x : Nat} (h : ¬ slC P W x) : slN P W x = 0 := nif_f h
theorem sl_n0 {P W x : Nat} (c : slC P W x) (hP : 1 ≤ P) : slN P W x ≠ 0 := by
  intro e
  have h2 : (slN P W x).testBit (wyN P x 0) = true := (sl_bit c _).mpr (by
    have := wyN_lt P x 0
    have e1 : wyN P x 0 / 4 = 0 := by omega
    rw [e1]
    exact ⟨by omega, by omega⟩)
  rw [e, Nat.zero_testBit] at h2
  cases h2
theorem sl_lt {P : Nat} (hP : P ≤ 5) (W x : Nat) : slN P W x < 2 ^ 20 := by
  by_cases c : slC P W x
  · rw [show slN P W x = _ from nif_t c]
    refine orN_lt fun j hj => one_lt ?_
    have := wyN_lt P x j
    omega
  · rw [sl_0 c]
    decide
/-- an elder's ways of hold v, as slots -/
noncomputable def cnN (s : St) (m v e : Nat) : Nat := orN 20 (fun i => nif (e < s 107 18 ∧ s 114 (20 * (4 * e + m) + i) = v) (1 <<< i) 0)
theorem cn_bit (s : St) (m v e i : Nat) : (cnN s m v e).testBit i = true ↔ i < 20 ∧ e < s 107 18 ∧ s 114 (20 * (4 * e + m) + i) = v := by
  unfold cnN
  rw [orN_bit]
  constructor
  · rintro ⟨j, hj, q⟩
    by_cases c : e < s 107 18 ∧ s 114 (20 * (4 * e + m) + j) = v
    · rw [nif_t c, bit_one] at q
      subst q
      exact ⟨hj, c⟩
    · rw [nif_f c, Nat.zero_testBit] at q
      cases q
  · rintro ⟨h1, h2⟩
    refine ⟨i, h1, ?_⟩
    rw [nif_t h2, bit_one]
theorem cn_lt (s : St) (m v e : Nat) : cnN s m v e < 2 ^ 20 := by
  refine orN_lt fun j hj => ?_
  by_cases c : e < s 107 18 ∧ s 114 (20 * (4 * e + m) + j) = v
  · rw [nif_t c]
    exact one_lt hj
  · rw [nif_f c]
    decide
theorem and_bit0 (a b : Nat) : a &&& b = 0 ↔ ∀ i, ¬ (a.testBit i = true ∧ b.testBit i = true) := by
  constructor
  · intro h i hi
    have := congrArg (fun q => q.testBit i) h
    simp only [Nat.testBit_and, hi.1, hi.2, Nat.zero_testBit, Bool.and_self] at this
    cases this
  · intro h
    refine Nat.eq_of_testBit_eq fun i => ?_
    rw [Nat.testBit_and, Nat.zero_testBit]
    have := h i
    cases q : a.testBit i <;> cases q2 : b.testBit i <;> simp_all
theorem and_lt {a b k : Nat} (h : a < 2 ^ k) : a &&& b < 2 ^ k := Nat.lt_of_le_of_lt Nat.and_le_left h
theorem f15_bit (p i : Nat) : (15 <<< (4 * p)).testBit i = true ↔ 4 * p ≤ i ∧ i < 4 * p + 4 := by
  rw [Nat.testBit_shiftLeft]
  simp only [Bool.and_eq_true, decide_eq_true_eq]
  constructor
  · rintro ⟨h1, h2⟩
    refine ⟨h1, ?_⟩
    have := Nat.ge_two_pow_of_testBit h2
    rcases Nat.lt_or_ge (i - 4 * p) 4 with q | q
    · omega
    · have h3 : 2 ^ 4 ≤ 2 ^ (i - 4 * p) := Nat.pow_le_pow_right (by omega) q
      omega
  · rintro ⟨h1, h2⟩
    refine ⟨h1, ?_⟩
    rcases (by omega : i - 4 * p = 0 ∨ i - 4 * p = 1 ∨ i - 4 * p = 2 ∨ i - 4 * p = 3) with q | q | q | q <;> (rw [q]; decide)
/-- a matter's clashes: whose, and the two slots -/
def clE (s : St) (k : Nat) : Nat × Nat := (s 119 k, 1 <<< (4 * s 121 k + s 122 k) ||| 1 <<< (4 * s 123 k + s 124 k))
def CL (s : St) (m : Nat) : List (Nat × Nat) := ((List.range (s 107 20)).filter (fun k => s 120 k == m)).map (clE s)
def c0 : Nat × Nat := (0, 0)
theorem mem_CL {s : St} {m : Nat} {c : Nat × Nat} : c ∈ CL s m ↔ ∃ k, k < s 107 20 ∧ s 120 k = m ∧ clE s k = c := by
  unfold CL
  simp only [List.mem_map, List.mem_filter, List.mem_range, beq_iff_eq]
  constructor
  · rintro ⟨k, ⟨a, b⟩, q⟩
    exact ⟨k, a, b, q⟩
  · rintro ⟨k, a, b, q⟩
    exact ⟨k, ⟨a, b⟩, q⟩
theorem CL_len (s : St) (m : Nat) : (CL s m).length ≤ s 107 20 := by
  unfold CL
  rw [List.length_map]
  have := List.length_filter_le (fun k => s 120 k == m) (List.range (s 107 20))
  rw [List.length_range] at this
  exact this
theorem CL_at {s : St} {m i : Nat} (hi : i < (CL s m).length) : (CL s m).getD i c0 ∈ CL s m := by
  rw [List.getD_eq_getElem?_getD, List.getElem?_eq_getElem hi]
  exact List.getElem_mem hi
theorem ad_two (a b sl : Nat) : adN (1 <<< a ||| 1 <<< b) sl = 0 ↔ sl.testBit a = true ∧ sl.testBit b = true := by
  rw [adN_0]
  constructor
  · intro h
    exact ⟨h a (by rw [Nat.testBit_or, (bit_one a a).mpr rfl, Bool.true_or]), h b (by rw [Nat.testBit_or, (bit_one b b).mpr rfl, Bool.or_true])⟩
  · rintro ⟨h1, h2⟩ i hi
    rw [Nat.testBit_or, Bool.or_eq_true, bit_one, bit_one] at hi
    rcases hi with q | q
    · rw [← q]
      exact h1
    · rw [← q]
      exact h2
noncomputable def clB (s : St) (m sl : Nat) : Nat → Nat := fun n => orN n (fun i => nif (adN ((CL s m).getD i c0).2 sl = 0) (1 <<< ((CL s m).getD i c0).1) 0)
noncomputable def ucB (s : St) (m sl : Nat) : Nat → Nat := fun n => orN n (fun e => nif (¬ cnN s m 0 e &&& sl = 0) (1 <<< e) 0)
noncomputable def unB (s : St) (m sl : Nat) : Nat := clB s m sl (CL s m).length ||| ucB s m sl 8
theorem CL_b {h : AH} {s : St} (W : RH h s) {m : Nat} {c : Nat × Nat} (hc : c ∈ CL s m) : c.1 < 8 ∧ c.2 < 2 ^ 20 := by
  obtain ⟨k, hk, e, rfl⟩ := mem_CL.mp hc
  have r := rs_cl W hk
  have r2 := rs_p W r.2.1
  have r3 := rs_e W
  exact ⟨Nat.lt_of_lt_of_le r.1 r3, or_lt (one_lt (by omega)) (one_lt (by omega))⟩
theorem clB_bit {s : St} (m sl : Nat) (e : Nat) : (clB s m sl (CL s m).length).testBit e = true ↔ ∃ k, k < s 107 20 ∧ s 120 k = m ∧ s 119 k = e ∧ adN (clE s k).2 sl = 0 := by
  unfold clB
  rw [orN_bit]
  constructor
  · rintro ⟨j, hj, q⟩
    obtain ⟨k, a, b, c⟩ := mem_CL.mp (CL_at hj)
    rw [← c] at q
    by_cases z : adN (clE s k).2 sl = 0
    · rw [nif_t z, bit_one] at q
      exact ⟨k, a, b, q, z⟩
    · rw [nif_f z, Nat.zero_testBit] at q
      cases q
  · rintro ⟨k, a, b, c, z⟩
    obtain ⟨j, hj, q⟩ := List.mem_iff_getElem.mp (mem_CL.mpr ⟨k, a, b, rfl⟩ : clE s k ∈ CL s m)
    refine ⟨j, hj, ?_⟩
    rw [List.getD_eq_getElem?_getD, List.getElem?_eq_getElem hj]
    show (nif (adN ((CL s m)[j]).2 sl = 0) (1 <<< ((CL s m)[j]).1) 0).testBit e = true
    rw [q, nif_t z, bit_one]
    exact c
theorem clB_lt {h : AH} {s : St} (W : RH h s) (m sl : Nat) {n : Nat} (hn : n ≤ (CL s m).length) : clB s m sl n < 2 ^ 8 := by
  refine orN_lt fun j hj => ?_
  have := CL_b W (CL_at (s := s) (m := m) (i := j) (by omega))
  by_cases z : adN ((CL s m).getD j c0).2 sl = 0
  · rw [nif_t z]
    exact one_lt this.1
  · rw [nif_f z]
    decide
theorem ucB_lt (s : St) (m sl : Nat) {n : Nat} (hn : n ≤ 8) : ucB s m sl n < 2 ^ 8 := by
  refine orN_lt fun j hj => ?_
  by_cases z : ¬ cnN s m 0 j &&& sl = 0
  · rw [nif_t z]
    exact one_lt (by omega)
  · rw [nif_f z]
    decide
theorem unB_lt {h : AH} {s : St} (W : RH h s) (m sl : Nat) : unB s m sl < 2 ^ 8 := or_lt (clB_lt W m sl (Nat.le_refl _)) (ucB_lt s m sl (Nat.le_refl _))
theorem unB_bit {h : AH} {s : St} (W : RH h s) (m sl : Nat) {e : Nat} (he : e < s 107 18) : (unB s m sl).testBit e = true ↔ (∃ k, k < s 107 20 ∧ s 120 k = m ∧ s 119 k = e ∧ adN (clE s k).2 sl = 0) ∨ ∃ i, i < 20 ∧ s 114 (20 * (4 * e + m) + i) = 0 ∧ sl.testBit i = true := by
  have r3 := rs_e W
  unfold unB
  rw [Nat.testBit_or, Bool.or_eq_true, clB_bit]
  refine or_congr Iff.rfl ?_
  unfold ucB
  rw [orN_bit]
  constructor
  · rintro ⟨j, hj, q⟩
    by_cases z : ¬ cnN s m 0 j &&& sl = 0
    · rw [nif_t z, bit_one] at q
      subst q
      rw [and_bit0] at z
      have ⟨i, hi⟩ := Classical.not_forall.mp z
      have hi2 := Classical.not_not.mp hi
      have := (cn_bit s m 0 j i).mp hi2.1
      exact ⟨i, this.1, this.2.2, hi2.2⟩
    · rw [nif_f z, Nat.zero_testBit] at q
      cases q
  · rintro ⟨i, h1, h2, h3⟩
    refine ⟨e, by omega, ?_⟩
    rw [nif_t (fun z => (and_bit0 _ _).mp z i ⟨(cn_bit s m 0 e i).mpr ⟨h1, he, h2⟩, h3⟩), bit_one]
theorem ev_bit {s : St} (m p : Nat) : (evN s m).testBit p = true ↔ p < s 112 m := by
  unfold evN
  rw [Nat.one_shiftLeft, Nat.testBit_two_pow_sub_one]
  simp
/-- a clash within a proposal -/
theorem cl_pr {h : AH} {s : St} (W : RH h s) {m x k : Nat} (hm : m < s 107 19) (hx : isPr s m x) (hk : k < s 107 20) (em : s 120 k = m) : adN (clE s k).2 (slN (s 112 m) (s 113 m) x) = 0 ↔ wyN (s 112 m) x (s 121 k) = s 122 k ∧ wyN (s 112 m) x (s 123 k) = s 124 k := by
  have r := rs_cl W hk
  rw [em] at r
  have r2 := rs_p W hm
  show adN (1 <<< _ ||| 1 <<< _) _ = 0 ↔ _
  rw [ad_two, sl_bit hx.2, sl_bit hx.2]
  have e1 : (4 * s 121 k + s 122 k) / 4 = s 121 k := by omega
  have e2 : (4 * s 123 k + s 124 k) / 4 = s 123 k := by omega
  rw [e1, e2]
  constructor
  · rintro ⟨⟨_, h1⟩, ⟨_, h2⟩⟩
    exact ⟨by omega, by omega⟩
  · rintro ⟨h1, h2⟩
    exact ⟨⟨r.2.2.1, by omega⟩, ⟨r.2.2.2.2.1, by omega⟩⟩
theorem cls_ev {h : AH} {s : St} (W : RH h s) {e m x : Nat} {one : Option Nat} (hm : m < s 107 19) (hx : isPr s m x) : clsP s e m x (evN s m) one ↔ ∃ k, k < s 107 20 ∧ s 120 k = m ∧ s 119 k = e ∧ adN (clE s k).2 (slN (s 112 m) (s 113 m) x) = 0 ∧ (one = none ∨ some (s 121 k) = one ∨ some (s 123 k) = one) := by
  constructor
  · rintro ⟨k, hk, a, b, ⟨c1, c2, c3⟩, c4⟩
    exact ⟨k, hk, b, a, (cl_pr W hm hx hk b).mpr c4, c3⟩
  · rintro ⟨k, hk, b, a, c4, c3⟩
    have r := rs_cl W hk
    rw [b] at r
    exact ⟨k, hk, a, b, ⟨(ev_bit m _).mpr r.2.2.1, (ev_bit m _).mpr r.2.2.2.2.1, c3⟩, (cl_pr W hm hx hk b).mp c4⟩
theorem idx_eq (e m p w : Nat) : ((4 * e + m) * 5 + p) * 4 + w = 20 * (4 * e + m) + (4 * p + w) := by omega
theorem un_pr {h : AH} {s : St} (W : RH h s) (g0 : s 107 22 = 0) {e m x : Nat} (he : e < s 107 18) (hm : m < s 107 19) (hx : isPr s m x) : (unB s m (slN (s 112 m) (s 113 m) x)).testBit e = true ↔ ¬ brP s e m x (evN s m) := by
  rw [unB_bit W _ _ he]
  have r2 := rs_p W hm
  have hc := cls_ev W (e := e) (one := none) hm hx
  have hb : ∀ p w, cbP s e m p w ↔ 0 < s 114 (((4 * e + m) * 5 + p) * 4 + w) := by
    intro p w
    refine ⟨fun q => q.elim id (fun ⟨k, hk, q2⟩ => ?_), Or.inl⟩
    have := q2.1
    rw [g0, Nat.zero_testBit] at this
    cases this
  unfold brP
  constructor
  · rintro (⟨k, a1, a2, a3, a4⟩ | ⟨i, b1, b2, b3⟩) q
    · exact q.2 (hc.mpr ⟨k, a1, a2, a3, a4, Or.inl rfl⟩)
    · rw [sl_bit hx.2] at b3
      have := (hb _ _).mp (q.1 (i / 4) b3.1 ((ev_bit m _).mpr b3.1))
      rw [← b3.2, idx_eq, show 4 * (i / 4) + i % 4 = i by omega] at this
      omega
  · intro q
    by_cases z : clsP s e m x (evN s m) none
    · obtain ⟨k, a1, a2, a3, a4, _⟩ := hc.mp z
      exact Or.inl ⟨k, a1, a2, a3, a4⟩
    · refine Or.inr ?_
      apply Classical.byContradiction
      intro n
      refine q ⟨fun p hp _ => (hb _ _).mpr (Nat.pos_of_ne_zero fun y => n ⟨4 * p + wyN (s 112 m) x p, ?_, ?_, ?_⟩), z⟩
      · have := wyN_lt (s 112 m) x p
        omega
      · rw [← idx_eq]
        exact y
      · have := wyN_lt (s 112 m) x p
        rw [sl_bit hx.2, show (4 * p + wyN (s 112 m) x p) / 4 = p by omega]
        exact ⟨hp, by omega⟩
/-- a look at a slot -/
def agP (s : St) (m e i sl : Nat) : Prop := s 114 (20 * (4 * e + m) + i) = 0 ∨ ∃ c ∈ CL s m, (c.1 = e ∧ c.2.testBit i = true) ∧ adN c.2 sl = 0
theorem ag_pl {h : AH} {s : St} (W : RH h s) {e m x p : Nat} (hm : m < s 107 19) (hx : isPr s m x) (hp : p < s 112 m) : agP s m e (4 * p + wyN (s 112 m) x p) (slN (s 112 m) (s 113 m) x) ↔ plP s e m p x := by
  unfold agP plP
  rw [idx_eq, cls_ev W hm hx]
  have w4 := wyN_lt (s 112 m) x p
  have r2 := rs_p W hm
  refine or_congr Iff.rfl ⟨?_, ?_⟩
  · rintro ⟨c, hc, ⟨c1, c2⟩, c3⟩
    obtain ⟨k, hk, em, rfl⟩ := mem_CL.mp hc
    have r := rs_cl W hk
    rw [em] at r
    refine ⟨k, hk, em, c1, c3, Or.inr ?_⟩
    have c4 : (1 <<< (4 * s 121 k + s 122 k) ||| 1 <<< (4 * s 123 k + s 124 k)).testBit (4 * p + wyN (s 112 m) x p) = true := c2
    rw [Nat.testBit_or, Bool.or_eq_true, bit_one, bit_one] at c4
    rcases c4 with q | q
    · exact Or.inl (congrArg some (by omega))
    · exact Or.inr (congrArg some (by omega))
  · rintro ⟨k, hk, em, ee, ad, q⟩
    have wy := (cl_pr W hm hx hk em).mp ad
    refine ⟨clE s k, mem_CL.mpr ⟨k, hk, em, rfl⟩, ⟨ee, ?_⟩, ad⟩
    show (1 <<< (4 * s 121 k + s 122 k) ||| 1 <<< (4 * s 123 k + s 124 k)).testBit (4 * p + wyN (s 112 m) x p) = true
    rw [Nat.testBit_or, Bool.or_eq_true, bit_one, bit_one]
    rcases q with q | q | q
    · cases q
    · cases q
      exact Or.inl (by omega)
    · cases q
      exact Or.inr (by omega)
/-- what the lasting cells keep beyond their bounds -/
def PI (s : St) : Prop :=
  (∀ e m p w, e < s 107 18 → m < 4 → p < 5 → w < 4 → ¬ (m < s 107 19 ∧ p < s 112 m ∧ w < s 113 m) → s 114 (20 * (4 * e + m) + (4 * p + w)) = 1) ∧
  (∀ e m p, e < s 107 18 → m < 4 → p < 5 → ¬ (m < s 107 19 ∧ p < s 112 m) → s 115 (5 * (4 * e + m) + p) = 1) ∧ ∀ e o, e < 8 → o < 8 → (s 107 18 ≤ e ∨ s 107 18 ≤ o ∨ e = o) → s 109 (8 * e + o) = 0
noncomputable def crN (s : St) (m e p : Nat) : Nat := nif (e < s 107 18) (s 115 (5 * (4 * e + m) + p)) 1
noncomputable def laF (s : St) (m e sl p : Nat) : Nat := nif (¬ cnN s m 2 e &&& 15 <<< (4 * p) = 0 ∧ cnN s m 2 e &&& 15 <<< (4 * p) &&& sl = 0) (crN s m e p) 0
theorem la_ls {h : AH} {s : St} (W : RH h s) (I : PI s) {e m x p : Nat} (he : e < s 107 18) (hm : m < s 107 19) (hx : isPr s m x) (hp : p < s 112 m) : laF s m e (slN (s 112 m) (s 113 m) x) p = lsF s e m x p := by
  have r2 := rs_p W hm
  have r3 := rs_m W
  have w4 := wyN_lt (s 112 m) x p
  have e1 : crN s m e p = s 115 ((4 * e + m) * 5 + p) := by
    rw [show crN s m e p = _ from nif_t he]
    congr 1
    omega
  have c1 : (¬ cnN s m 2 e &&& 15 <<< (4 * p) = 0) ↔ wdP s e m p := by
    rw [and_bit0]
    constructor
    · intro q
      have ⟨i, hi⟩ := Classical.not_forall.mp q
      have ⟨h1, h2⟩ := Classical.not_not.mp hi
      rw [cn_bit] at h1
      rw [f15_bit] at h2
      refine ⟨i - 4 * p, ?_, ?_⟩
      · apply Classical.byContradiction
        intro z
        have := I.1 e m p (i - 4 * p) he (by omega) (by omega) (by omega) (fun y => z y.2.2)
        rw [show 4 * p + (i - 4 * p) = i by omega, h1.2.2] at this
        cases this
      · rw [idx_eq, show 4 * p + (i - 4 * p) = i by omega]
        exact h1.2.2
    · rintro ⟨w, h1, h2⟩ q
      refine q (4 * p + w) ⟨(cn_bit s m 2 e _).mpr ⟨by omega, he, ?_⟩, (f15_bit p _).mpr ⟨by omega, by omega⟩⟩
      rw [← idx_eq]
      exact h2
  have c2 : (cnN s m 2 e &&& 15 <<< (4 * p) &&& slN (s 112 m) (s 113 m) x = 0) ↔ ¬ s 114 (((4 * e + m) * 5 + p) * 4 + wyN (s 112 m) x p) = 2 := by
    rw [and_bit0]
    constructor
    · intro q z
      refine q (4 * p + wyN (s 112 m) x p) ⟨?_, ?_⟩
      · rw [Nat.testBit_and, Bool.and_eq_true]
        exact ⟨(cn_bit s m 2 e _).mpr ⟨by omega, he, by rw [← idx_eq]; exact z⟩, (f15_bit p _).mpr ⟨by omega, by omega⟩⟩
      · rw [sl_bit hx.2, show (4 * p + wyN (s 112 m) x p) / 4 = p by omega]
        exact ⟨hp, by omega⟩
    · rintro q i ⟨h1, h2⟩
      rw [Nat.testBit_and, Bool.and_eq_true, cn_bit, f15_bit] at h1
      rw [sl_bit hx.2] at h2
      have e4 : i / 4 = p := by omega
      rw [e4] at h2
      refine q ?_
      rw [idx_eq, ← h2.2, show 4 * p + i % 4 = i by omega]
      exact h1.1.2.2
  unfold laF lsF
  rw [e1]
  by_cases q : wdP s e m p ∧ ¬ s 114 (((4 * e + m) * 5 + p) * 4 + wyN (s 112 m) x p) = 2
  · rw [nif_t q, nif_t ⟨c1.mpr q.1, c2.mpr q.2⟩]
  · rw [nif_f q, nif_f (fun z => q ⟨c1.mp z.1, c2.mp z.2⟩)]
theorem smN_congr {f g : Nat → Nat} : ∀ {n}, (∀ i, i < n → f i = g i) → smN n f = smN n g := by
  intro n
  induction n with
  | zero => exact fun _ => rfl
  | succ n ih =>
    intro h
    show smN n f + f n = smN n g + g n
    rw [ih (fun i hi => h i (by omega)), h n (by omega)]
theorem la_loss {h : AH} {s : St} (W : RH h s) (I : PI s) {e m x : Nat} (he : e < s 107 18) (hm : m < s 107 19) (hx : isPr s m x) : smN (s 112 m) (laF s m e (slN (s 112 m) (s 113 m) x)) = lossN s e m x := smN_congr fun p hp => la_ls W I he hm hx hp
