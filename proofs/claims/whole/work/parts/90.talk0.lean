/-! ===== the class: a talk's object, its words ===== -/
theorem n_Ta_run : mN 215 = 2 := rfl
theorem l_Ta_run : mL 215 = 5 := rfl
theorem r_Ta_run : mR 215 = none := rfl
theorem n_Ta_lastDay : mN 216 = 1 := rfl
theorem l_Ta_lastDay : mL 216 = 3 := rfl
theorem r_Ta_lastDay : mR 216 = some .int := rfl
theorem n_Ta_endOfDay : mN 217 = 2 := rfl
theorem l_Ta_endOfDay : mL 217 = 2 := rfl
theorem r_Ta_endOfDay : mR 217 = some .int := rfl
theorem n_Ta_failsBySilence : mN 218 = 1 := rfl
theorem l_Ta_failsBySilence : mL 218 = 1 := rfl
theorem r_Ta_failsBySilence : mR 218 = some .boolean := rfl
theorem n_Ta_wasSoBefore : mN 219 = 1 := rfl
theorem l_Ta_wasSoBefore : mL 219 = 2 := rfl
theorem r_Ta_wasSoBefore : mR 219 = some .boolean := rfl
theorem n_Ta_takeTurn : mN 220 = 3 := rfl
theorem l_Ta_takeTurn : mL 220 = 5 := rfl
theorem r_Ta_takeTurn : mR 220 = none := rfl
theorem n_Ta_maySpeak : mN 221 = 3 := rfl
theorem l_Ta_maySpeak : mL 221 = 5 := rfl
theorem r_Ta_maySpeak : mR 221 = some .boolean := rfl
theorem n_Ta_tellLook : mN 222 = 4 := rfl
theorem l_Ta_tellLook : mL 222 = 6 := rfl
theorem r_Ta_tellLook : mR 222 = none := rfl
theorem n_Ta_heedFor : mN 223 = 4 := rfl
theorem l_Ta_heedFor : mL 223 = 6 := rfl
theorem r_Ta_heedFor : mR 223 = some .int := rfl
theorem n_Ta_isNo : mN 224 = 4 := rfl
theorem l_Ta_isNo : mL 224 = 5 := rfl
theorem r_Ta_isNo : mR 224 = some .boolean := rfl
theorem n_Ta_sift : mN 225 = 4 := rfl
theorem l_Ta_sift : mL 225 = 5 := rfl
theorem r_Ta_sift : mR 225 = none := rfl
theorem n_Ta_speak : mN 226 = 4 := rfl
theorem l_Ta_speak : mL 226 = 6 := rfl
theorem r_Ta_speak : mR 226 = none := rfl
theorem n_Ta_noteSaid : mN 227 = 4 := rfl
theorem l_Ta_noteSaid : mL 227 = 4 := rfl
theorem r_Ta_noteSaid : mR 227 = none := rfl
theorem n_Ta_wayInstead : mN 228 = 3 := rfl
theorem l_Ta_wayInstead : mL 228 = 10 := rfl
theorem r_Ta_wayInstead : mR 228 = some .int := rfl
theorem n_Ta_restsWith : mN 229 = 2 := rfl
theorem l_Ta_restsWith : mL 229 = 2 := rfl
theorem r_Ta_restsWith : mR 229 = some .boolean := rfl
theorem n_Ta_lastSaid : mN 230 = 5 := rfl
theorem l_Ta_lastSaid : mL 230 = 8 := rfl
theorem r_Ta_lastSaid : mR 230 = some .int := rfl
theorem n_Ta_nosWithoutNeed : mN 231 = 2 := rfl
theorem l_Ta_nosWithoutNeed : mL 231 = 7 := rfl
theorem r_Ta_nosWithoutNeed : mR 231 = some .int := rfl
theorem n_Ta_leansIn : mN 232 = 3 := rfl
theorem l_Ta_leansIn : mL 232 = 5 := rfl
theorem r_Ta_leansIn : mR 232 = some .boolean := rfl
theorem n_Ta_voicesFor : mN 233 = 2 := rfl
theorem l_Ta_voicesFor : mL 233 = 4 := rfl
theorem r_Ta_voicesFor : mR 233 = some .int := rfl
def isT (T : Nat) : Prop := T = 46 ∨ T = 75 ∨ T = 83 ∨ T = 91 ∨ T = 99
theorem ta_k {h : AH} (L : Lay h) {T : Nat} (hT : isT T) : gk h T = some (.inl 8) ∧ gk h (T + 1) = some (.inr (0, 8)) ∧ gk h (T + 2) = some (.inr (0, 1200)) ∧ gk h (T + 3) = some (.inr (0, 8)) ∧ gk h (T + 4) = some (.inr (0, 8)) ∧ gk h (T + 5) = some (.inr (0, 8)) ∧ gk h (T + 6) = some (.inr (0, 31)) ∧ gk h (T + 7) = some (.inr (0, 31)) := by
  rcases hT with rfl | rfl | rfl | rfl | rfl
  · exact ⟨k46 L, k47 L, k48 L, k49 L, k50 L, k51 L, k52 L, k53 L⟩
  · exact ⟨k75 L, k76 L, k77 L, k78 L, k79 L, k80 L, k81 L, k82 L⟩
  · exact ⟨k83 L, k84 L, k85 L, k86 L, k87 L, k88 L, k89 L, k90 L⟩
  · exact ⟨k91 L, k92 L, k93 L, k94 L, k95 L, k96 L, k97 L, k98 L⟩
  · exact ⟨k99 L, k100 L, k101 L, k102 L, k103 L, k104 L, k105 L, k106 L⟩
theorem ta_r {h : AH} (L : Lay h) {T : Nat} (hT : isT T) : gr h T 0 = some 21 ∧ gr h T 1 = some 41 ∧ gr h T 2 = some 42 ∧ gr h T 4 = some (T + 1) ∧ gr h T 5 = some (T + 2) ∧ gr h T 6 = some (T + 3) ∧ gr h T 7 = some (T + 4) ∧ gr h T 8 = some (T + 5) ∧ gr h T 9 = some (T + 6) ∧ gr h T 10 = some (T + 7) := by
  rcases hT with rfl | rfl | rfl | rfl | rfl
  · exact ⟨f46_0 L, f46_1 L, f46_2 L, f46_4 L, f46_5 L, f46_6 L, f46_7 L, f46_8 L, f46_9 L, f46_10 L⟩
  · exact ⟨f75_0 L, f75_1 L, f75_2 L, f75_4 L, f75_5 L, f75_6 L, f75_7 L, f75_8 L, f75_9 L, f75_10 L⟩
  · exact ⟨f83_0 L, f83_1 L, f83_2 L, f83_4 L, f83_5 L, f83_6 L, f83_7 L, f83_8 L, f83_9 L, f83_10 L⟩
  · exact ⟨f91_0 L, f91_1 L, f91_2 L, f91_4 L, f91_5 L, f91_6 L, f91_7 L, f91_8 L, f91_9 L, f91_10 L⟩
  · exact ⟨f99_0 L, f99_1 L, f99_2 L, f99_4 L, f99_5 L, f99_6 L, f99_7 L, f99_8 L, f99_9 L, f99_10 L⟩
theorem ta_b {T : Nat} (hT : isT T) : 46 ≤ T ∧ T ≤ 99 ∧ (T = 46 ∨ 75 ≤ T) := by
  unfold isT at hT
  omega
/-- what one said for, said no to, as slots -/
def cfB (ws : List Wd) (e : Nat) : Nat := ws.foldl (fun a x => if x.1 = e then a ||| 1 <<< (4 * x.2.2.1 + x.2.2.2.2.1) else a) 0
def cnB (ws : List Wd) (e : Nat) : Nat := ws.foldl (fun a x => if x.1 = e then a ||| 1 <<< (4 * x.2.2.1 + x.2.2.2.1) else a) 0
theorem cfB_app (ws : List Wd) (x : Wd) (e : Nat) : cfB (ws ++ [x]) e = if x.1 = e then cfB ws e ||| 1 <<< (4 * x.2.2.1 + x.2.2.2.2.1) else cfB ws e := by
  unfold cfB
  rw [List.foldl_append]
  rfl
theorem cnB_app (ws : List Wd) (x : Wd) (e : Nat) : cnB (ws ++ [x]) e = if x.1 = e then cnB ws e ||| 1 <<< (4 * x.2.2.1 + x.2.2.2.1) else cnB ws e := by
  unfold cnB
  rw [List.foldl_append]
  rfl
theorem foldB_bit {c : Wd → Prop} [DecidablePred c] {f : Wd → Nat} (i : Nat) : ∀ (ws : List Wd) (a : Nat), (ws.foldl (fun a x => if c x then a ||| 1 <<< f x else a) a).testBit i = true ↔ a.testBit i = true ∨ ∃ x ∈ ws, c x ∧ f x = i := by
  intro ws
  induction ws with
  | nil => exact fun a => ⟨Or.inl, fun q => q.elim id (fun ⟨x, hx, _⟩ => by cases hx)⟩
  | cons y ws ih =>
    intro a
    rw [List.foldl_cons, ih]
    by_cases q : c y
    · rw [if_pos q, Nat.testBit_or, Bool.or_eq_true, bit_one]
      constructor
      · rintro ((h | h) | ⟨x, hx, h⟩)
        · exact Or.inl h
        · exact Or.inr ⟨y, List.mem_cons_self, q, h⟩
        · exact Or.inr ⟨x, List.mem_cons_of_mem _ hx, h⟩
      · rintro (h | ⟨x, hx, h⟩)
        · exact Or.inl (Or.inl h)
        · rcases List.mem_cons.mp hx with e | e
          · subst e
            exact Or.inl (Or.inr h.2)
          · exact Or.inr ⟨x, e, h⟩
    · rw [if_neg q]
      constructor
      · rintro (h | ⟨x, hx, h⟩)
        · exact Or.inl h
        · exact Or.inr ⟨x, List.mem_cons_of_mem _ hx, h⟩
      · rintro (h | ⟨x, hx, h⟩)
        · exact Or.inl h
        · rcases List.mem_cons.mp hx with e | e
          · subst e
            exact absurd h.1 q
          · exact Or.inr ⟨x, e, h⟩
theorem cfB_bit {s : St} {m : Nat} {ws : List Wd} (K : WK s m ws) (R : s 113 m ≤ 4) {e p w : Nat} (hw : w < 4) : (cfB ws e).testBit (4 * p + w) = true ↔ (sfB ws p w).testBit e = true := by
  unfold cfB sfB
  rw [foldB_bit (c := fun x => x.1 = e) (f := fun x => 4 * x.2.2.1 + x.2.2.2.2.1), foldB_bit (c := fun x => x.2.2.1 = p ∧ x.2.2.2.2.1 = w) (f := fun x => x.1)]
  refine or_congr (by simp) ⟨?_, ?_⟩
  · rintro ⟨x, hx, h1, h2⟩
    have := K.2 x hx
    exact ⟨x, hx, ⟨by omega, by omega⟩, h1⟩
  · rintro ⟨x, hx, h1, h2⟩
    exact ⟨x, hx, h2, by omega⟩
theorem cnB_bit {s : St} {m : Nat} {ws : List Wd} (K : WK s m ws) {e p w : Nat} (hw : w < 4) : (cnB ws e).testBit (4 * p + w) = true ↔ (snB ws p w).testBit e = true := by
  unfold cnB snB
  rw [foldB_bit (c := fun x => x.1 = e) (f := fun x => 4 * x.2.2.1 + x.2.2.2.1), foldB_bit (c := fun x => x.2.2.1 = p ∧ x.2.2.2.1 = w) (f := fun x => x.1)]
  refine or_congr (by simp) ⟨?_, ?_⟩
  · rintro ⟨x, hx, h1, h2⟩
    have := K.2 x hx
    exact ⟨x, hx, ⟨by omega, by omega⟩, h1⟩
  · rintro ⟨x, hx, h1, h2⟩
    exact ⟨x, hx, h2, by omega⟩
theorem foldB_lt {c : Wd → Prop} [DecidablePred c] {f : Wd → Nat} {k : Nat} : ∀ (ws : List Wd) (a : Nat), a < 2 ^ k → (∀ x ∈ ws, f x < k) → ws.foldl (fun a x => if c x then a ||| 1 <<< f x else a) a < 2 ^ k := by
  intro ws
  induction ws with
  | nil => exact fun a h _ => h
  | cons x ws ih =>
    intro a h hx
    refine ih _ ?_ (fun y hy => hx y (List.mem_cons_of_mem _ hy))
    dsimp only
    split
    · exact or_lt h (one_lt (hx x List.mem_cons_self))
    · exact h
theorem cfB_lt {s : St} {m : Nat} {ws : List Wd} (K : WK s m ws) (h1 : s 112 m ≤ 5) (h2 : s 113 m ≤ 4) (e : Nat) : cfB ws e < 2 ^ 20 := foldB_lt ws 0 (by decide) (fun x hx => by have := K.2 x hx; omega)
theorem cnB_lt {s : St} {m : Nat} {ws : List Wd} (K : WK s m ws) (h1 : s 112 m ≤ 5) (e : Nat) : cnB ws e < 2 ^ 20 := foldB_lt ws 0 (by decide) (fun x hx => by have := K.2 x hx; omega)
/-- a text of the reference as the class keeps it -/
def TXr (h : AH) (s : St) (mind : Bool) (k : Nat) (o : Option Nat) : Prop := ∃ t cs q, o = some t ∧ TXT h t cs ∧ txS (txB s (kOf mind k)) (s 127 (kOf mind k)) (lbs mind) (als mind) = (q, some cs)
def TxA (h : AH) (s : St) : Prop := (∀ k, k < s 107 29 → TXr h s false k (gr h 40 k)) ∧ ∀ k, k < s 107 30 → TXr h s true k (gr h 41 k)
theorem Fp.txa {X : Nat → Prop} {h h' : AH} (F : Fp X h h') {s : St} (T : TxA h s) (hx : ∀ a, X a → a ≤ 164) : TxA h' s := by
  refine ⟨fun k hk => ?_, fun k hk => ?_⟩
  · obtain ⟨t, cs, q, a, b, c⟩ := T.1 k hk
    refine ⟨t, cs, q, by rw [F.gr]; exact a, F.txt b (fun z hz => ?_), c⟩
    have := hx z hz
    have := b.1.1
    omega
  · obtain ⟨t, cs, q, a, b, c⟩ := T.2 k hk
    refine ⟨t, cs, q, by rw [F.gr]; exact a, F.txt b (fun z hz => ?_), c⟩
    have := hx z hz
    have := b.1.1
    omega
def lwR (h : AH) (s : St) (m : Nat) : Option Nat := if s 116 m = 4294967295 then none else gr h 40 (s 116 m)
/-- what a talk of m looks at: the circle, the matter at b, the texts -/
def EV (h : AH) (s : St) (m b : Nat) : Prop := Lay h ∧ CC h s ∧ MA h b (s 112 m) ∧ MV h s m b ∧ TxA h s ∧ gr h b 10 = lwR h s m
def XT (T : Nat) : Nat → Prop := fun a => (42 ≤ a ∧ a ≤ 44) ∨ (T ≤ a ∧ a ≤ T + 7)
theorem Fp.ev {X : Nat → Prop} {h h' : AH} (F : Fp X h h') {s : St} {m b : Nat} (E : EV h s m b) (hx : ∀ a, X a → 33 < a ∧ a ≤ 164) : EV h' s m b := by
  obtain ⟨e1, e2, e3, e4, e5, e6⟩ := E
  have := ma_b e3
  refine ⟨F.lay e1, F.cc e2 (fun a q => by have := hx a q; omega), F.ma e3, F.mv e4 (fun a q => by have := hx a q; omega), F.txa e5 (fun a q => (hx a q).2), ?_⟩
  unfold lwR
  rw [F.gr]
  exact e6
theorem xt_b {T : Nat} (hT : isT T) : ∀ a, XT T a → 33 < a ∧ a ≤ 164 := by
  intro a q
  have := ta_b hT
  unfold XT at q
  omega
/-- the talk's cells: words, ground, spoken today, the day -/
def TS (h : AH) (T : Nat) (ws : List Wd) (g today day : Nat) : Prop :=
  (gi h T 12 = nI day ∧ gi h T 13 = nI g ∧ gi h T 14 = nI ws.length ∧ gi h T 15 = nI today) ∧
  (∀ e, e < 8 → gi h (T + 3) e = nI (spk ws e) ∧ gi h (T + 4) e = nI (cfB ws e) ∧ gi h (T + 5) e = nI (cnB ws e)) ∧
  ∀ k, k < ws.length → gi h (T + 2) (5 * k) = nI (ws.getD k w0).1 ∧ gi h (T + 2) (5 * k + 1) = nI (ws.getD k w0).2.1 ∧ gi h (T + 2) (5 * k + 2) = nI (ws.getD k w0).2.2.1 ∧ gi h (T + 2) (5 * k + 3) = nI (ws.getD k w0).2.2.2.1 ∧ gi h (T + 2) (5 * k + 4) = nI (ws.getD k w0).2.2.2.2.1
theorem Fp.ts {X : Nat → Prop} {h h' : AH} (F : Fp X h h') {T : Nat} {ws : List Wd} {g today day : Nat} (S : TS h T ws g today day) (hx : ∀ a, X a → a < T ∨ T + 5 < a) : TS h' T ws g today day := by
  have e : ∀ a, T ≤ a → a ≤ T + 5 → gi h' a = gi h a := fun a h1 h2 => F.2 a (fun q => by have := hx a q; omega)
  obtain ⟨s1, s2, s3⟩ := S
  refine ⟨?_, ?_, ?_⟩
  · rw [e T (by omega) (by omega)]
    exact s1
  · rw [e (T + 3) (by omega) (by omega), e (T + 4) (by omega) (by omega), e (T + 5) (by omega) (by omega)]
    exact s2
  · rw [e (T + 2) (by omega) (by omega)]
    exact s3
