/-! ===== the lasting cells of the reference ===== -/
abbrev St : Type := Nat → Nat → Nat
def persO : List Nat := [18, 19, 20, 22, 28, 29, 30, 61, 67, 77, 84]
def persA : List Nat := [108, 109, 111, 112, 113, 114, 115, 116, 117, 118, 119, 120, 121, 122, 123, 124, 125, 126, 127, 144, 145, 146, 147, 148, 151, 152, 153, 154, 155, 156, 157, 158, 159, 160, 161, 162, 163]
def pers (a j : Nat) : Bool := if a = 107 then persO.contains j else persA.contains a
/-- bounds of the lasting cells -/
def tu (s : St) : Prop := (∀ k, k < s 107 20 → s 119 k < s 107 18 ∧ s 120 k < s 107 19 ∧ s 121 k < s 112 (s 120 k) ∧ s 122 k < s 113 (s 120 k) ∧ s 123 k < s 112 (s 120 k) ∧ s 124 k < s 113 (s 120 k) ∧ s 121 k ≠ s 123 k)
def wyN (n x p : Nat) : Nat := x >>> (2 * (n - 1 - p)) &&& 3
def isPr (s : St) (m x : Nat) : Prop := x < 1 <<< (2 * s 112 m) ∧ ∀ p, p < s 112 m → wyN (s 112 m) x p < s 113 m
def RS (s : St) : Prop :=
  (s 107 18 ≤ 8 ∧ s 107 19 ≤ 4 ∧ s 107 20 ≤ 40 ∧ s 107 28 ≤ 160 ∧ s 107 29 ≤ 8 ∧ s 107 30 ≤ 8 ∧ s 107 67 ≤ 20 ∧ s 107 77 ≤ 8 ∧ s 107 84 ≤ 60 ∧ s 107 22 < 256) ∧
  (∀ e, e < s 107 18 → 20 ≤ s 108 e ∧ s 108 e ≤ 99) ∧ (∀ j, s 109 j ≤ 9) ∧ (∀ j, s 111 j ≤ 1) ∧
  (∀ m, m < s 107 19 → 1 ≤ s 112 m ∧ s 112 m ≤ 5 ∧ 2 ≤ s 113 m ∧ s 113 m ≤ 4 ∧ (s 116 m = 4294967295 ∨ s 116 m < s 107 29) ∧ isPr s m (s 117 m)) ∧
  (∀ j, s 114 j ≤ 2) ∧ (∀ j, s 115 j ≤ 9) ∧ (∀ e, e < s 107 18 → s 118 e = 4294967295 ∨ s 118 e < s 107 30) ∧ tu s ∧
  (∀ j, j < s 107 28 → 1 ≤ s 125 j ∧ s 125 j ≤ 255) ∧
  (∀ k, s 127 k ≤ 160) ∧ (∀ j, s 126 j ≤ 255) ∧
  (∀ k, k < s 107 67 → s 144 k < s 107 18 ∧ s 145 k < s 107 18 ∧ s 146 k < s 107 19 ∧ s 147 k < s 112 (s 146 k) ∧ s 148 k < s 113 (s 146 k)) ∧
  (∀ k, k < s 107 77 → s 151 k < s 107 18 ∧ s 152 k < s 107 19 ∧ s 153 k < s 112 (s 152 k) ∧ s 154 k < s 113 (s 152 k) ∧ s 155 k < s 107 19 ∧ s 156 k < s 112 (s 155 k) ∧ s 157 k < s 113 (s 155 k) ∧ s 152 k ≠ s 155 k) ∧
  (∀ k, k < s 107 84 → s 158 k < s 107 18 ∧ 1 ≤ s 159 k ∧ s 159 k < 1 <<< s 107 18 ∧ s 160 k < s 107 19 ∧ s 161 k < s 112 (s 160 k) ∧ s 162 k < s 113 (s 160 k) ∧ s 163 k ≤ 1)
/-- a byte as the machine has it -/
def by8 (n : Nat) : Int32 := (nI n).toInt8.toInt32
def enc (a n : Nat) : Int32 := if a = 125 ∨ a = 126 then by8 n else nI n
def RH (h : AH) (s : St) : Prop := Lay h ∧ (∀ a j, pers a j = true → gi h a j = enc a (s a j)) ∧ RS s
theorem q107_18 {h : AH} {s : St} (W : RH h s) : gi h 107 18 = nI (s 107 18) := W.2.1 107 18 rfl
theorem q107_19 {h : AH} {s : St} (W : RH h s) : gi h 107 19 = nI (s 107 19) := W.2.1 107 19 rfl
theorem q107_20 {h : AH} {s : St} (W : RH h s) : gi h 107 20 = nI (s 107 20) := W.2.1 107 20 rfl
theorem q107_22 {h : AH} {s : St} (W : RH h s) : gi h 107 22 = nI (s 107 22) := W.2.1 107 22 rfl
theorem q107_28 {h : AH} {s : St} (W : RH h s) : gi h 107 28 = nI (s 107 28) := W.2.1 107 28 rfl
theorem q107_29 {h : AH} {s : St} (W : RH h s) : gi h 107 29 = nI (s 107 29) := W.2.1 107 29 rfl
theorem q107_30 {h : AH} {s : St} (W : RH h s) : gi h 107 30 = nI (s 107 30) := W.2.1 107 30 rfl
theorem q107_61 {h : AH} {s : St} (W : RH h s) : gi h 107 61 = nI (s 107 61) := W.2.1 107 61 rfl
theorem q107_67 {h : AH} {s : St} (W : RH h s) : gi h 107 67 = nI (s 107 67) := W.2.1 107 67 rfl
theorem q107_77 {h : AH} {s : St} (W : RH h s) : gi h 107 77 = nI (s 107 77) := W.2.1 107 77 rfl
theorem q107_84 {h : AH} {s : St} (W : RH h s) : gi h 107 84 = nI (s 107 84) := W.2.1 107 84 rfl
theorem q108 {h : AH} {s : St} (W : RH h s) (j : Nat) : gi h 108 j = nI (s 108 j) := W.2.1 108 j rfl
theorem q109 {h : AH} {s : St} (W : RH h s) (j : Nat) : gi h 109 j = nI (s 109 j) := W.2.1 109 j rfl
theorem q111 {h : AH} {s : St} (W : RH h s) (j : Nat) : gi h 111 j = nI (s 111 j) := W.2.1 111 j rfl
theorem q112 {h : AH} {s : St} (W : RH h s) (j : Nat) : gi h 112 j = nI (s 112 j) := W.2.1 112 j rfl
theorem q113 {h : AH} {s : St} (W : RH h s) (j : Nat) : gi h 113 j = nI (s 113 j) := W.2.1 113 j rfl
theorem q114 {h : AH} {s : St} (W : RH h s) (j : Nat) : gi h 114 j = nI (s 114 j) := W.2.1 114 j rfl
theorem q115 {h : AH} {s : St} (W : RH h s) (j : Nat) : gi h 115 j = nI (s 115 j) := W.2.1 115 j rfl
theorem q116 {h : AH} {s : St} (W : RH h s) (j : Nat) : gi h 116 j = nI (s 116 j) := W.2.1 116 j rfl
theorem q117 {h : AH} {s : St} (W : RH h s) (j : Nat) : gi h 117 j = nI (s 117 j) := W.2.1 117 j rfl
theorem q118 {h : AH} {s : St} (W : RH h s) (j : Nat) : gi h 118 j = nI (s 118 j) := W.2.1 118 j rfl
theorem q119 {h : AH} {s : St} (W : RH h s) (j : Nat) : gi h 119 j = nI (s 119 j) := W.2.1 119 j rfl
theorem q120 {h : AH} {s : St} (W : RH h s) (j : Nat) : gi h 120 j = nI (s 120 j) := W.2.1 120 j rfl
theorem q121 {h : AH} {s : St} (W : RH h s) (j : Nat) : gi h 121 j = nI (s 121 j) := W.2.1 121 j rfl
theorem q122 {h : AH} {s : St} (W : RH h s) (j : Nat) : gi h 122 j = nI (s 122 j) := W.2.1 122 j rfl
theorem q123 {h : AH} {s : St} (W : RH h s) (j : Nat) : gi h 123 j = nI (s 123 j) := W.2.1 123 j rfl
theorem q124 {h : AH} {s : St} (W : RH h s) (j : Nat) : gi h 124 j = nI (s 124 j) := W.2.1 124 j rfl
theorem q125 {h : AH} {s : St} (W : RH h s) (j : Nat) : gi h 125 j = by8 (s 125 j) := W.2.1 125 j rfl
theorem q126 {h : AH} {s : St} (W : RH h s) (j : Nat) : gi h 126 j = by8 (s 126 j) := W.2.1 126 j rfl
theorem q127 {h : AH} {s : St} (W : RH h s) (j : Nat) : gi h 127 j = nI (s 127 j) := W.2.1 127 j rfl
theorem q144 {h : AH} {s : St} (W : RH h s) (j : Nat) : gi h 144 j = nI (s 144 j) := W.2.1 144 j rfl
theorem q145 {h : AH} {s : St} (W : RH h s) (j : Nat) : gi h 145 j = nI (s 145 j) := W.2.1 145 j rfl
theorem q146 {h : AH} {s : St} (W : RH h s) (j : Nat) : gi h 146 j = nI (s 146 j) := W.2.1 146 j rfl
theorem q147 {h : AH} {s : St} (W : RH h s) (j : Nat) : gi h 147 j = nI (s 147 j) := W.2.1 147 j rfl
theorem q148 {h : AH} {s : St} (W : RH h s) (j : Nat) : gi h 148 j = nI (s 148 j) := W.2.1 148 j rfl
theorem q151 {h : AH} {s : St} (W : RH h s) (j : Nat) : gi h 151 j = nI (s 151 j) := W.2.1 151 j rfl
theorem q152 {h : AH} {s : St} (W : RH h s) (j : Nat) : gi h 152 j = nI (s 152 j) := W.2.1 152 j rfl
theorem q153 {h : AH} {s : St} (W : RH h s) (j : Nat) : gi h 153 j = nI (s 153 j) := W.2.1 153 j rfl
theorem q154 {h : AH} {s : St} (W : RH h s) (j : Nat) : gi h 154 j = nI (s 154 j) := W.2.1 154 j rfl
theorem q155 {h : AH} {s : St} (W : RH h s) (j : Nat) : gi h 155 j = nI (s 155 j) := W.2.1 155 j rfl
theorem q156 {h : AH} {s : St} (W : RH h s) (j : Nat) : gi h 156 j = nI (s 156 j) := W.2.1 156 j rfl
theorem q157 {h : AH} {s : St} (W : RH h s) (j : Nat) : gi h 157 j = nI (s 157 j) := W.2.1 157 j rfl
theorem q158 {h : AH} {s : St} (W : RH h s) (j : Nat) : gi h 158 j = nI (s 158 j) := W.2.1 158 j rfl
theorem q159 {h : AH} {s : St} (W : RH h s) (j : Nat) : gi h 159 j = nI (s 159 j) := W.2.1 159 j rfl
theorem q160 {h : AH} {s : St} (W : RH h s) (j : Nat) : gi h 160 j = nI (s 160 j) := W.2.1 160 j rfl
theorem q161 {h : AH} {s : St} (W : RH h s) (j : Nat) : gi h 161 j = nI (s 161 j) := W.2.1 161 j rfl
theorem q162 {h : AH} {s : St} (W : RH h s) (j : Nat) : gi h 162 j = nI (s 162 j) := W.2.1 162 j rfl
theorem q163 {h : AH} {s : St} (W : RH h s) (j : Nat) : gi h 163 j = nI (s 163 j) := W.2.1 163 j rfl
theorem rw_wi {h : AH} {s : St} (W : RH h s) {a k : Nat} {v : Int32} (hp : pers a k = false) : RH (wi h a k v) s := by
  refine ⟨W.1, fun b j hb => ?_, W.2.2⟩
  rw [r_gi_wi]
  split
  · rename_i e
    subst e
    split
    · rename_i e
      subst e
      rw [hp] at hb
      cases hb
    · exact W.2.1 _ _ hb
  · exact W.2.1 _ _ hb
theorem rs_e {h : AH} {s : St} (W : RH h s) : s 107 18 ≤ 8 := W.2.2.1.1
theorem rs_m {h : AH} {s : St} (W : RH h s) : s 107 19 ≤ 4 := W.2.2.1.2.1
theorem rs_c {h : AH} {s : St} (W : RH h s) : s 107 20 ≤ 40 := W.2.2.1.2.2.1
theorem rs_l {h : AH} {s : St} (W : RH h s) : s 107 28 ≤ 160 := W.2.2.1.2.2.2.1
theorem rs_laws {h : AH} {s : St} (W : RH h s) : s 107 29 ≤ 8 := W.2.2.1.2.2.2.2.1
theorem rs_minds {h : AH} {s : St} (W : RH h s) : s 107 30 ≤ 8 := W.2.2.1.2.2.2.2.2.1
theorem rs_pr {h : AH} {s : St} (W : RH h s) : s 107 67 ≤ 20 := W.2.2.1.2.2.2.2.2.2.1
theorem rs_gf {h : AH} {s : St} (W : RH h s) : s 107 77 ≤ 8 := W.2.2.1.2.2.2.2.2.2.2.1
theorem rs_as {h : AH} {s : St} (W : RH h s) : s 107 84 ≤ 60 := W.2.2.1.2.2.2.2.2.2.2.2.1
theorem rs_gv {h : AH} {s : St} (W : RH h s) : s 107 22 < 256 := W.2.2.1.2.2.2.2.2.2.2.2.2
theorem rs_age {h : AH} {s : St} (W : RH h s) {e : Nat} (he : e < s 107 18) : 20 ≤ s 108 e ∧ s 108 e ≤ 99 := W.2.2.2.1 e he
theorem rs_hd {h : AH} {s : St} (W : RH h s) (j : Nat) : s 109 j ≤ 9 := W.2.2.2.2.1 j
theorem rs_lf {h : AH} {s : St} (W : RH h s) (j : Nat) : s 111 j ≤ 1 := W.2.2.2.2.2.1 j
theorem rs_p {h : AH} {s : St} (W : RH h s) {m : Nat} (hm : m < s 107 19) : 1 ≤ s 112 m ∧ s 112 m ≤ 5 ∧ 2 ≤ s 113 m ∧ s 113 m ≤ 4 := ⟨(W.2.2.2.2.2.2.1 m hm).1, (W.2.2.2.2.2.2.1 m hm).2.1, (W.2.2.2.2.2.2.1 m hm).2.2.1, (W.2.2.2.2.2.2.1 m hm).2.2.2.1⟩
theorem rs_law {h : AH} {s : St} (W : RH h s) {m : Nat} (hm : m < s 107 19) : s 116 m = 4294967295 ∨ s 116 m < s 107 29 := (W.2.2.2.2.2.2.1 m hm).2.2.2.2.1
theorem rs_gr {h : AH} {s : St} (W : RH h s) {m : Nat} (hm : m < s 107 19) : isPr s m (s 117 m) := (W.2.2.2.2.2.2.1 m hm).2.2.2.2.2
theorem rs_h {h : AH} {s : St} (W : RH h s) (j : Nat) : s 114 j ≤ 2 := W.2.2.2.2.2.2.2.1 j
theorem rs_ca {h : AH} {s : St} (W : RH h s) (j : Nat) : s 115 j ≤ 9 := W.2.2.2.2.2.2.2.2.1 j
theorem rs_md {h : AH} {s : St} (W : RH h s) {e : Nat} (he : e < s 107 18) : s 118 e = 4294967295 ∨ s 118 e < s 107 30 := W.2.2.2.2.2.2.2.2.2.1 e he
theorem rs_cl {h : AH} {s : St} (W : RH h s) {k : Nat} (hk : k < s 107 20) : s 119 k < s 107 18 ∧ s 120 k < s 107 19 ∧ s 121 k < s 112 (s 120 k) ∧ s 122 k < s 113 (s 120 k) ∧ s 123 k < s 112 (s 120 k) ∧ s 124 k < s 113 (s 120 k) ∧ s 121 k ≠ s 123 k := W.2.2.2.2.2.2.2.2.2.2.1 k hk
theorem rs_tp {h : AH} {s : St} (W : RH h s) {j : Nat} (hj : j < s 107 28) : 1 ≤ s 125 j ∧ s 125 j ≤ 255 := W.2.2.2.2.2.2.2.2.2.2.2.1 j hj
theorem rs_tl {h : AH} {s : St} (W : RH h s) (k : Nat) : s 127 k ≤ 160 := W.2.2.2.2.2.2.2.2.2.2.2.2.1 k
theorem rs_tx {h : AH} {s : St} (W : RH h s) (k : Nat) : s 126 k ≤ 255 := W.2.2.2.2.2.2.2.2.2.2.2.2.2.1 k
theorem rs_prm {h : AH} {s : St} (W : RH h s) {k : Nat} (hk : k < s 107 67) : s 144 k < s 107 18 ∧ s 145 k < s 107 18 ∧ s 146 k < s 107 19 ∧ s 147 k < s 112 (s 146 k) ∧ s 148 k < s 113 (s 146 k) := W.2.2.2.2.2.2.2.2.2.2.2.2.2.2.1 k hk
theorem rs_gif {h : AH} {s : St} (W : RH h s) {k : Nat} (hk : k < s 107 77) : s 151 k < s 107 18 ∧ s 152 k < s 107 19 ∧ s 153 k < s 112 (s 152 k) ∧ s 154 k < s 113 (s 152 k) ∧ s 155 k < s 107 19 ∧ s 156 k < s 112 (s 155 k) ∧ s 157 k < s 113 (s 155 k) ∧ s 152 k ≠ s 155 k := W.2.2.2.2.2.2.2.2.2.2.2.2.2.2.2.1 k hk
theorem rs_asd {h : AH} {s : St} (W : RH h s) {k : Nat} (hk : k < s 107 84) : s 158 k < s 107 18 ∧ 1 ≤ s 159 k ∧ s 159 k < 1 <<< s 107 18 ∧ s 160 k < s 107 19 ∧ s 161 k < s 112 (s 160 k) ∧ s 162 k < s 113 (s 160 k) ∧ s 163 k ≤ 1 := W.2.2.2.2.2.2.2.2.2.2.2.2.2.2.2.2 k hk
