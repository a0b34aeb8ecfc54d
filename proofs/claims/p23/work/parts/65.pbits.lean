/-! sets of bits: what the law asks of them -/
theorem bset_ext {f h : Nat → Bool} : ∀ n, (∀ k, k < n → f k = h k) → bset f n = bset h n
  | 0, _ => rfl
  | n + 1, q => by
    unfold bset
    rw [bset_ext n (fun k hk => q k (by omega)), q n (by omega)]
theorem bset_z {f : Nat → Bool} {m : Nat} : ∀ d, (∀ k, m ≤ k → k < m + d → f k = false) → bset f (m + d) = bset f m
  | 0, _ => rfl
  | d + 1, q => by
    show bset f (m + d) ||| (if f (m + d) = true then nI 1 <<< (nI (m + d) &&& 31) else nI 0) = _
    rw [q (m + d) (by omega) (by omega), if_neg (by decide), or_nI0, bset_z d (fun k h1 h2 => q k h1 (by omega))]
def bl10 (a b c d e f g h i j : Bool) (k : Nat) : Bool := match k with
  | 0 => a
  | 1 => b
  | 2 => c
  | 3 => d
  | 4 => e
  | 5 => f
  | 6 => g
  | 7 => h
  | 8 => i
  | 9 => j
  | _ => false
theorem bl10_eq (f : Nat → Bool) : ∀ k, k < 10 → f k = bl10 (f 0) (f 1) (f 2) (f 3) (f 4) (f 5) (f 6) (f 7) (f 8) (f 9) k := fun k hk => by
  match k, hk with
  | 0, _ => rfl
  | 1, _ => rfl
  | 2, _ => rfl
  | 3, _ => rfl
  | 4, _ => rfl
  | 5, _ => rfl
  | 6, _ => rfl
  | 7, _ => rfl
  | 8, _ => rfl
  | 9, _ => rfl
  | k + 10, hk => exact absurd hk (by omega)
theorem bset_bl (f : Nat → Bool) : bset f 10 = bset (bl10 (f 0) (f 1) (f 2) (f 3) (f 4) (f 5) (f 6) (f 7) (f 8) (f 9)) 10 := bset_ext 10 (bl10_eq f)
abbrev tb (s : Int32) (k : Nat) : Int32 := (s >>> (nI k &&& 31)) &&& nI 1
theorem tb10a : ∀ a b c d e f g h i j : Bool, ∀ k : Fin 20, tb (bset (bl10 a b c d e f g h i j) 10) k.1 = bI (bl10 a b c d e f g h i j k.1) := by decide +kernel
theorem tb10 (f : Nat → Bool) {k : Nat} (hk : k < 20) : tb (bset f 10) k = bI (decide (k < 10) && f k) := by
  rw [bset_bl]
  refine (tb10a (f 0) (f 1) (f 2) (f 3) (f 4) (f 5) (f 6) (f 7) (f 8) (f 9) ⟨k, hk⟩).trans ?_
  by_cases h : k < 10
  · rw [← bl10_eq f k h, decide_eq_true h, Bool.true_and]
  · rw [decide_eq_false h, Bool.false_and]
    match k, h with
    | k + 10, _ => rfl
    | 0, h => exact absurd (by decide) h
    | 1, h => exact absurd (by decide) h
    | 2, h => exact absurd (by decide) h
    | 3, h => exact absurd (by decide) h
    | 4, h => exact absurd (by decide) h
    | 5, h => exact absurd (by decide) h
    | 6, h => exact absurd (by decide) h
    | 7, h => exact absurd (by decide) h
    | 8, h => exact absurd (by decide) h
    | 9, h => exact absurd (by decide) h
theorem tb10_lt (f : Nat → Bool) {k : Nat} (hk : k < 10) : tb (bset f 10) k = bI (f k) := by
  rw [tb10 f (by omega), decide_eq_true hk, Bool.true_and]
theorem bon10a : ∀ a b c d e f g h i j : Bool, ∀ n : Fin 10, bset (f1 (bl10 a b c d e f g h i j) n.1 true) 10 = bset (bl10 a b c d e f g h i j) 10 ||| (nI 1 <<< (nI n.1 &&& 31)) := by decide +kernel
theorem bof10a : ∀ a b c d e f g h i j : Bool, ∀ n : Fin 10, bset (f1 (bl10 a b c d e f g h i j) n.1 false) 10 = bset (bl10 a b c d e f g h i j) 10 &&& ((nI 1 <<< (nI n.1 &&& 31)) ^^^ (-1)) := by decide +kernel
theorem f1_ext {f h : Nat → Bool} {n : Nat} (b : Bool) (q : ∀ k, k < 10 → f k = h k) : ∀ k, k < 10 → f1 f n b k = f1 h n b k := fun k hk => by
  unfold f1
  split
  · rfl
  · exact q k hk
theorem bset_on (f : Nat → Bool) {n : Nat} (hn : n < 10) : bset (f1 f n true) 10 = bset f 10 ||| (nI 1 <<< (nI n &&& 31)) := by
  rw [bset_ext 10 (f1_ext true (bl10_eq f)), bset_bl f]
  exact bon10a _ _ _ _ _ _ _ _ _ _ ⟨n, hn⟩
theorem bset_off (f : Nat → Bool) {n : Nat} (hn : n < 10) : bset (f1 f n false) 10 = bset f 10 &&& ((nI 1 <<< (nI n &&& 31)) ^^^ (-1)) := by
  rw [bset_ext 10 (f1_ext false (bl10_eq f)), bset_bl f]
  exact bof10a _ _ _ _ _ _ _ _ _ _ ⟨n, hn⟩
theorem blt10a : ∀ a b c d e f g h i j : Bool, ∀ n : Fin 11, bset (bl10 a b c d e f g h i j) n.1 < nI 1 <<< (nI n.1 &&& 31) := by decide +kernel
theorem bpo10a : ∀ a b c d e f g h i j : Bool, (a || b || c || d || e || f || g || h || i || j) = true → ¬ bset (bl10 a b c d e f g h i j) 10 ≤ 0 := by decide +kernel
theorem bset_lt {f : Nat → Bool} {n : Nat} (hn : n ≤ 10) (h : ∀ k, n ≤ k → k < 10 → f k = false) : bset f 10 < nI 1 <<< (nI n &&& 31) := by
  have e := bset_z (f := f) (m := n) (10 - n) (fun k h1 h2 => h k h1 (by omega))
  rw [show n + (10 - n) = 10 by omega] at e
  rw [e, bset_ext n (fun k hk => bl10_eq f k (by omega))]
  exact blt10a _ _ _ _ _ _ _ _ _ _ ⟨n, by omega⟩
theorem bset_pos {f : Nat → Bool} {k : Nat} (hk : k < 10) (h : f k = true) : ¬ bset f 10 ≤ 0 := by
  rw [bset_bl]
  refine bpo10a _ _ _ _ _ _ _ _ _ _ ?_
  match k, hk, h with
  | 0, _, h => simp [h]
  | 1, _, h => simp [h]
  | 2, _, h => simp [h]
  | 3, _, h => simp [h]
  | 4, _, h => simp [h]
  | 5, _, h => simp [h]
  | 6, _, h => simp [h]
  | 7, _, h => simp [h]
  | 8, _, h => simp [h]
  | 9, _, h => simp [h]
  | k + 10, hk, _ => exact absurd hk (by omega)
/-- the law's count of bits -/
def bitsI (s : Int32) : Nat → Int32
  | 0 => nI 0
  | k + 1 => bitsI s k + tb s k
theorem bI_n (b : Bool) : bI b = nI (if b = true then 1 else 0) := by cases b <;> decide
theorem bits10a (f : Nat → Bool) : ∀ n, n ≤ 20 → bitsI (bset f 10) n = nI (cntB (fun k => decide (k < 10) && f k) n)
  | 0, _ => rfl
  | n + 1, h => by
    unfold bitsI cntB
    rw [bits10a f n (by omega), tb10 f (by omega), bI_n, nI_add]
theorem cntB_ext {f h : Nat → Bool} : ∀ n, (∀ k, k < n → f k = h k) → cntB f n = cntB h n
  | 0, _ => rfl
  | n + 1, q => by
    unfold cntB
    rw [cntB_ext n (fun k hk => q k (by omega)), q n (by omega)]
theorem cntB_z {f : Nat → Bool} {m : Nat} : ∀ d, (∀ k, m ≤ k → k < m + d → f k = false) → cntB f (m + d) = cntB f m
  | 0, _ => rfl
  | d + 1, q => by
    show cntB f (m + d) + (if f (m + d) = true then 1 else 0) = _
    rw [q (m + d) (by omega) (by omega), if_neg (by decide), cntB_z d (fun k h1 h2 => q k h1 (by omega))]
    rfl
theorem bits10 (f : Nat → Bool) : bitsI (bset f 10) 20 = nI (cntB f 10) := by
  rw [bits10a f 20 (Nat.le_refl _)]
  have e := cntB_z (f := fun k => decide (k < 10) && f k) (m := 10) 10 (fun k h1 _ => by simp only [decide_eq_false (show ¬ k < 10 by omega), Bool.false_and])
  rw [e, cntB_ext 10 (fun k hk => by simp only [decide_eq_true hk, Bool.true_and] : ∀ k, k < 10 → (decide (k < 10) && f k) = f k)]
/-- four sites -/
def b4f (f : Nat → Bool) (k : Nat) : Bool := decide (k < 4) && f k
theorem bset_4 (f : Nat → Bool) : bset f 4 = bset (b4f f) 10 := by
  have e := bset_z (f := b4f f) (m := 4) 6 (fun k h1 _ => by unfold b4f; rw [decide_eq_false (by omega), Bool.false_and])
  rw [show (10 : Nat) = 4 + 6 from rfl, e]
  exact bset_ext 4 (fun k hk => by unfold b4f; rw [decide_eq_true hk, Bool.true_and])
theorem tb4 (f : Nat → Bool) {k : Nat} (hk : k < 4) : tb (bset f 4) k = bI (f k) := by
  rw [bset_4, tb10_lt _ (by omega)]
  unfold b4f
  rw [decide_eq_true hk, Bool.true_and]
theorem bits4 (f : Nat → Bool) : bitsI (bset f 4) 20 = nI (cntB f 4) := by
  rw [bset_4, bits10]
  have e := cntB_z (f := b4f f) (m := 4) 6 (fun k h1 _ => by unfold b4f; rw [decide_eq_false (by omega), Bool.false_and])
  rw [show (10 : Nat) = 4 + 6 from rfl, e]
  exact congrArg nI (cntB_ext 4 (fun k hk => by unfold b4f; rw [decide_eq_true hk, Bool.true_and]))
def bl4 (a b c d : Bool) (k : Nat) : Bool := match k with
  | 0 => a
  | 1 => b
  | 2 => c
  | 3 => d
  | _ => false
theorem bl4_eq (f : Nat → Bool) : ∀ k, k < 4 → f k = bl4 (f 0) (f 1) (f 2) (f 3) k := fun k hk => by
  match k, hk with
  | 0, _ => rfl
  | 1, _ => rfl
  | 2, _ => rfl
  | 3, _ => rfl
  | k + 4, hk => exact absurd hk (by omega)
theorem b4_rng : ∀ a b c d : Bool, ¬ bset (bl4 a b c d) 4 < 0 ∧ ¬ nI 16 ≤ bset (bl4 a b c d) 4 := by decide +kernel
theorem b4_dis : ∀ a b c d a' b' c' d' : Bool, (a && a') = false → (b && b') = false → (c && c') = false → (d && d') = false → bset (bl4 a b c d) 4 &&& bset (bl4 a' b' c' d') 4 = 0 := by decide +kernel
theorem b4_flp : ∀ a b c d : Bool, ∀ s : Fin 4, bset (f1 (bl4 a b c d) s.1 (!bl4 a b c d s.1)) 4 = bset (bl4 a b c d) 4 ^^^ (nI 1 <<< (nI s.1 &&& 31)) := by decide +kernel
theorem bset4_pos (f : Nat → Bool) : ¬ bset f 4 < 0 := by
  rw [bset_ext 4 (bl4_eq f)]
  exact (b4_rng _ _ _ _).1
theorem bset4_16 (f : Nat → Bool) : ¬ nI 16 ≤ bset f 4 := by
  rw [bset_ext 4 (bl4_eq f)]
  exact (b4_rng _ _ _ _).2
theorem bset4_dis {f h : Nat → Bool} (q : ∀ s, s < 4 → h s = true → f s = false) : bset f 4 &&& bset h 4 = 0 := by
  rw [bset_ext 4 (bl4_eq f), bset_ext 4 (bl4_eq h)]
  have k : ∀ s, s < 4 → (f s && h s) = false := fun s hs => by
    cases e : h s with
    | false => rw [Bool.and_false]
    | true => rw [q s hs e, Bool.false_and]
  exact b4_dis _ _ _ _ _ _ _ _ (k 0 (by decide)) (k 1 (by decide)) (k 2 (by decide)) (k 3 (by decide))
theorem bset4_flp (f : Nat → Bool) {s : Nat} (hs : s < 4) : bset (f1 f s (!f s)) 4 = bset f 4 ^^^ (nI 1 <<< (nI s &&& 31)) := by
  have e : ∀ k, k < 4 → f1 f s (!f s) k = f1 (bl4 (f 0) (f 1) (f 2) (f 3)) s (!bl4 (f 0) (f 1) (f 2) (f 3) s) k := fun k hk => by
    unfold f1
    by_cases h : k = s
    · rw [if_pos h, if_pos h, ← bl4_eq f s hs]
    · rw [if_neg h, if_neg h]
      exact bl4_eq f k hk
  rw [bset_ext 4 e, bset_ext 4 (bl4_eq f)]
  exact b4_flp _ _ _ _ ⟨s, hs⟩
theorem cpc_cntB (σ : ST) (u : Nat) (n : Nat) : cntB (σ.cp u) n = cpc σ u n := cntB_cpc σ u n
