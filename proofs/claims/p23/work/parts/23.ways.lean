/-! best ways: a search that makes a round less than there are formats has come to its end -/
def INF : Nat := 1000000000
theorem INF_eq : INF = 1000000000 := rfl
def nst (w : Nat → Nat → Nat) (b : Nat → Nat) (i j : Nat) : Nat → Nat := if b i + w i j < b j then f1 b j (b i + w i j) else b
def nwy (w : Nat → Nat → Nat) (a : Nat) : Nat → Nat → Nat
  | 0 => fun k => if k = a then 0 else INF
  | n + 1 => nst w (nwy w a n) (n / 8 % 8) (n % 8)
/-- the least of B k and of B i + w i k, i < n -/
def mnS (w : Nat → Nat → Nat) (B : Nat → Nat) (k : Nat) : Nat → Nat
  | 0 => B k
  | n + 1 => min (mnS w B k n) (B n + w n k)
/-- the search by rounds at once -/
def syn (w : Nat → Nat → Nat) (a : Nat) : Nat → Nat → Nat
  | 0 => fun k => if k = a then 0 else INF
  | m + 1 => fun k => mnS w (syn w a m) k 8
theorem syn_0 (w : Nat → Nat → Nat) (a k : Nat) : syn w a 0 k = if k = a then 0 else INF := rfl
theorem syn_s (w : Nat → Nat → Nat) (a m k : Nat) : syn w a (m + 1) k = mnS w (syn w a m) k 8 := rfl
theorem syn_0I (w : Nat → Nat → Nat) (a k : Nat) : syn w a 0 k ≤ INF := by
  rw [syn_0]
  split
  · exact Nat.zero_le _
  · exact Nat.le_refl _
theorem mnS_le (w : Nat → Nat → Nat) (B : Nat → Nat) (k : Nat) : ∀ n, mnS w B k n ≤ B k ∧ ∀ i, i < n → mnS w B k n ≤ B i + w i k
  | 0 => ⟨Nat.le_refl _, fun i h => absurd h (Nat.not_lt_zero i)⟩
  | n + 1 => by
    obtain ⟨h1, h2⟩ := mnS_le w B k n
    unfold mnS
    refine ⟨by omega, fun i hi => ?_⟩
    by_cases h : i = n
    · rw [h]; omega
    · have := h2 i (by omega)
      omega
theorem mnS_ex (w : Nat → Nat → Nat) (B : Nat → Nat) (k : Nat) : ∀ n, mnS w B k n = B k ∨ ∃ i, i < n ∧ mnS w B k n = B i + w i k
  | 0 => Or.inl rfl
  | n + 1 => by
    unfold mnS
    by_cases h : mnS w B k n ≤ B n + w n k
    · rw [Nat.min_eq_left h]
      rcases mnS_ex w B k n with q | ⟨i, hi, q⟩
      · exact Or.inl q
      · exact Or.inr ⟨i, by omega, q⟩
    · rw [Nat.min_eq_right (by omega)]
      exact Or.inr ⟨n, by omega, rfl⟩
theorem syn_dec (w : Nat → Nat → Nat) (a m k : Nat) : syn w a (m + 1) k ≤ syn w a m k := (mnS_le w (syn w a m) k 8).1
theorem syn_mono (w : Nat → Nat → Nat) (a : Nat) {m n : Nat} (h : m ≤ n) (k : Nat) : syn w a n k ≤ syn w a m k := by
  induction n with
  | zero =>
    rw [show m = 0 by omega]
    exact Nat.le_refl _
  | succ n ih =>
    by_cases hq : m = n + 1
    · rw [hq]
      exact Nat.le_refl _
    · exact Nat.le_trans (syn_dec w a n k) (ih (by omega))
theorem cntB_le (f : Nat → Bool) : ∀ n, cntB f n ≤ n
  | 0 => Nat.le_refl 0
  | n + 1 => by
    have := cntB_le f n
    unfold cntB
    split <;> omega
theorem cntB_mono {f h : Nat → Bool} : ∀ n, (∀ i, i < n → f i = true → h i = true) → cntB f n ≤ cntB h n
  | 0, _ => Nat.le_refl 0
  | n + 1, hq => by
    have h1 := cntB_mono n (fun i hi => hq i (by omega))
    unfold cntB
    by_cases hf : f n = true
    · rw [if_pos hf, if_pos (hq n (by omega) hf)]
      omega
    · rw [if_neg hf]
      omega
theorem cntB_lt {f h : Nat → Bool} : ∀ n j, j < n → (∀ i, i < n → f i = true → h i = true) → f j = false → h j = true → cntB f n < cntB h n
  | 0, j, hj, _, _, _ => absurd hj (Nat.not_lt_zero j)
  | n + 1, j, hj, hq, hf, hh => by
    unfold cntB
    by_cases hjn : j = n
    · subst hjn
      have h1 := cntB_mono j (fun i hi => hq i (by omega))
      rw [if_neg (by rw [hf]; decide), if_pos hh]
      omega
    · have h1 := cntB_lt n j (by omega) (fun i hi => hq i (by omega)) hf hh
      by_cases hfn : f n = true
      · rw [if_pos hfn, if_pos (hq n (by omega) hfn)]
        omega
      · rw [if_neg hfn]
        omega
/-- a change in round m + 1 has m + 1 vertices below it -/
theorem syn_cnt0 {w : Nat → Nat → Nat} {a n : Nat} (hw1 : ∀ i j, 1 ≤ w i j) (hwn : ∀ i j, w i j < INF → i < n ∧ j < n) (k : Nat) (h : syn w a 1 k < syn w a 0 k) : k < n ∧ 1 ≤ cntB (fun x => decide (syn w a 0 x < syn w a 1 k)) n := by
  have h2 := syn_0I w a k
  rcases mnS_ex w (syn w a 0) k 8 with q | ⟨i, hi, q⟩
  · have q1 : syn w a 1 k = syn w a 0 k := (syn_s w a 0 k).trans q
    omega
  · have q1 : syn w a 1 k = syn w a 0 i + w i k := (syn_s w a 0 k).trans q
    have hwi : w i k < INF := by omega
    obtain ⟨hin, hkn⟩ := hwn i k hwi
    have hw := hw1 i k
    refine ⟨hkn, ?_⟩
    have h3 := cntB_lt (f := fun _ => false) (h := fun x => decide (syn w a 0 x < syn w a 1 k)) n i hin (fun _ _ e => by cases e) rfl (decide_eq_true (by omega))
    omega
theorem syn_cnt {w : Nat → Nat → Nat} {a n : Nat} (hw1 : ∀ i j, 1 ≤ w i j) (hwn : ∀ i j, w i j < INF → i < n ∧ j < n) (m : Nat) : ∀ k, syn w a (m + 1) k < syn w a m k → k < n ∧ m + 1 ≤ cntB (fun x => decide (syn w a m x < syn w a (m + 1) k)) n := by
  induction m with
  | zero => exact fun k h => syn_cnt0 hw1 hwn k h
  | succ m ih =>
    intro k h
    have h2 := Nat.le_trans (syn_mono w a (Nat.zero_le (m + 1)) k) (syn_0I w a k)
    rcases mnS_ex w (syn w a (m + 1)) k 8 with q | ⟨i, hi, q⟩
    · rw [← syn_s] at q
      omega
    · rw [← syn_s] at q
      have hwi : w i k < INF := by omega
      obtain ⟨hin, hkn⟩ := hwn i k hwi
      have hchg : syn w a (m + 1) i < syn w a m i := by
        have h4 := (mnS_le w (syn w a m) k 8).2 i hi
        rw [← syn_s] at h4
        have h6 := syn_dec w a m i
        omega
      obtain ⟨-, hc⟩ := ih i hchg
      refine ⟨hkn, ?_⟩
      have hwk := hw1 i k
      have h7 : cntB (fun x => decide (syn w a m x < syn w a (m + 1) i)) n < cntB (fun x => decide (syn w a (m + 1) x < syn w a (m + 1 + 1) k)) n := by
        refine cntB_lt n i hin (fun x _ hx => ?_) ?_ ?_
        · have hx2 := of_decide_eq_true hx
          have h8 := syn_dec w a m x
          exact decide_eq_true (by omega)
        · exact decide_eq_false (by omega)
        · exact decide_eq_true (by omega)
      omega
theorem syn_end {w : Nat → Nat → Nat} {a n : Nat} (hw1 : ∀ i j, 1 ≤ w i j) (hwn : ∀ i j, w i j < INF → i < n ∧ j < n) {m : Nat} (hm : n ≤ m + 1) (k : Nat) : syn w a (m + 1) k = syn w a m k := by
  have h1 := syn_dec w a m k
  by_cases hq : syn w a (m + 1) k < syn w a m k
  · exfalso
    obtain ⟨hk, hc⟩ := syn_cnt hw1 hwn m k hq
    have h2 := cntB_lt (f := fun x => decide (syn w a m x < syn w a (m + 1) k)) (h := fun _ => true) n k hk (fun _ _ _ => rfl) (decide_eq_false (by omega)) rfl
    have h3 := cntB_le (fun _ => true) n
    omega
  · omega
theorem syn_stay {w : Nat → Nat → Nat} {a n : Nat} (hw1 : ∀ i j, 1 ≤ w i j) (hwn : ∀ i j, w i j < INF → i < n ∧ j < n) {m : Nat} (hm : n ≤ m + 1) (k : Nat) : ∀ d, syn w a (m + d) k = syn w a m k
  | 0 => rfl
  | d + 1 => (syn_end hw1 hwn (m := m + d) (by omega) k).trans (syn_stay hw1 hwn hm k d)
theorem nst_le (w : Nat → Nat → Nat) (b : Nat → Nat) (i j k : Nat) : nst w b i j k ≤ b k := by
  unfold nst
  split
  · unfold f1
    split
    · rename_i h1 h2
      rw [h2]
      omega
    · exact Nat.le_refl _
  · exact Nat.le_refl _
theorem nst_at (w : Nat → Nat → Nat) (b : Nat → Nat) (i j : Nat) : nst w b i j j ≤ b i + w i j := by
  unfold nst
  split
  · rw [f1_s]
    exact Nat.le_refl _
  · omega
theorem nwy_dec (w : Nat → Nat → Nat) (a : Nat) : ∀ d s k, nwy w a (s + d) k ≤ nwy w a s k
  | 0, s, k => Nat.le_refl _
  | d + 1, s, k => Nat.le_trans (nst_le w (nwy w a (s + d)) _ _ k) (nwy_dec w a d s k)
/-- not below the search by rounds -/
theorem nwy_ge (w : Nat → Nat → Nat) (a : Nat) : ∀ s k, syn w a s k ≤ nwy w a s k
  | 0, k => Nat.le_refl _
  | s + 1, k => by
    have h1 := nwy_ge w a s k
    have h2 := syn_dec w a s k
    show _ ≤ nst w (nwy w a s) (s / 8 % 8) (s % 8) k
    unfold nst
    split
    · unfold f1
      split
      · rename_i h3 h4
        have h5 := nwy_ge w a s (s / 8 % 8)
        have h6 := (mnS_le w (syn w a s) k 8).2 (s / 8 % 8) (Nat.mod_lt _ (by decide))
        rw [← syn_s] at h6
        have h7 := h6
        rw [h4] at h7 ⊢
        omega
      · omega
    · omega
/-- not above the search by rounds, a round being 64 steps -/
theorem nwy_le (w : Nat → Nat → Nat) (a : Nat) : ∀ r k, k < 8 → nwy w a (64 * r) k ≤ syn w a r k
  | 0, k, _ => Nat.le_refl _
  | r + 1, k, hk => by
    have h0 := nwy_le w a r
    have hd := nwy_dec w a 64 (64 * r) k
    have e64 : 64 * (r + 1) = 64 * r + 64 := by omega
    rw [e64]
    rcases mnS_ex w (syn w a r) k 8 with q | ⟨i, hi, q⟩
    · have q1 := q
      rw [← syn_s] at q1
      have := h0 k hk
      omega
    · have q1 := q
      rw [← syn_s] at q1
      have h1 : nwy w a (64 * r + (8 * i + k) + 1) k ≤ nwy w a (64 * r + (8 * i + k)) i + w i k := by
        have h2 := nst_at w (nwy w a (64 * r + (8 * i + k))) i k
        show nst w (nwy w a (64 * r + (8 * i + k))) ((64 * r + (8 * i + k)) / 8 % 8) ((64 * r + (8 * i + k)) % 8) k ≤ _
        rw [show (64 * r + (8 * i + k)) / 8 % 8 = i by omega, show (64 * r + (8 * i + k)) % 8 = k by omega]
        exact h2
      have h3 := nwy_dec w a (8 * i + k) (64 * r) i
      have h4 := nwy_dec w a (64 - (8 * i + k) - 1) (64 * r + (8 * i + k) + 1) k
      rw [show 64 * r + (8 * i + k) + 1 + (64 - (8 * i + k) - 1) = 64 * r + 64 by omega] at h4
      have h5 := h0 i hi
      omega
theorem nwy_conv {w : Nat → Nat → Nat} {a n : Nat} (hn : n ≤ 8) (hw1 : ∀ i j, 1 ≤ w i j) (hwn : ∀ i j, w i j < INF → i < n ∧ j < n) (ha : a < n) {k : Nat} (hk : k < 8) : nwy w a (64 * (n - 1)) k = nwy w a 512 k := by
  have h1 := nwy_le w a (n - 1) k hk
  have h2 := nwy_ge w a 512 k
  have h3 := syn_stay (a := a) hw1 hwn (m := n - 1) (by omega) k (512 - (n - 1))
  rw [show n - 1 + (512 - (n - 1)) = 512 by omega] at h3
  have h4 := nwy_dec w a (512 - 64 * (n - 1)) (64 * (n - 1)) k
  rw [show 64 * (n - 1) + (512 - 64 * (n - 1)) = 512 by omega] at h4
  omega
/-- what the losses are: none, or 0 to 100 between two formats -/
def LI (σ : ST) : Prop := σ.fo ≤ 8 ∧ ∀ i j, i < 8 → j < 8 → σ.lo i j = -1 ∨ (i < σ.fo ∧ j < σ.fo ∧ ∃ l, l ≤ 100 ∧ σ.lo i j = nI l)
def wOf (σ : ST) (i j : Nat) : Nat := if i < 8 ∧ j < 8 ∧ ¬ σ.lo i j = -1 then 100 * tN (σ.lo i j) + 1 else INF
theorem nI_m1 (l : Nat) (h : l < 2 ^ 31) : ¬ nI l = -1 := oI_n h
theorem wOf_some {σ : ST} {i j l : Nat} (hi : i < 8) (hj : j < 8) (hl : l ≤ 100) (e : σ.lo i j = nI l) : wOf σ i j = 100 * l + 1 := by
  unfold wOf
  rw [e, if_pos ⟨hi, hj, nI_m1 l (by omega)⟩]
  have : tN (nI l) = l := nI_clamp (by omega)
  rw [this]
theorem wOf_1 (σ : ST) (i j : Nat) : 1 ≤ wOf σ i j := by
  have hI := INF_eq
  unfold wOf
  split <;> omega
theorem wOf_n {σ : ST} (h : LI σ) (i j : Nat) (hw : wOf σ i j < INF) : i < σ.fo ∧ j < σ.fo := by
  unfold wOf at hw
  split at hw
  · rename_i q
    rcases h.2 i j q.1 q.2.1 with e | ⟨h1, h2, -⟩
    · exact absurd e q.2.2
    · exact ⟨h1, h2⟩
  · omega
/-- the ints of a search over numbers -/
def enc (v : Nat) : Int32 := if v = INF then -1 else nI v
theorem wst_nst {σ : ST} (h : LI σ) {b : Nat → Int32} {v : Nat → Nat} {N : Nat} (hN : N ≤ 512) (hb : ∀ k, k < 8 → b k = enc (v k) ∧ (v k = INF ∨ v k ≤ N * 10001)) {i j : Nat} (hi : i < 8) (hj : j < 8) : ∀ k, k < 8 → wst σ b i j k = enc (nst (wOf σ) v i j k) ∧ (nst (wOf σ) v i j k = INF ∨ nst (wOf σ) v i j k ≤ (N + 1) * 10001) := by
  obtain ⟨hi1, hi2⟩ := hb i hi
  obtain ⟨hj1, hj2⟩ := hb j hj
  have hI := INF_eq
  have hjI : v j ≤ INF := by
    rcases hj2 with q | q
    · omega
    · omega
  have same : ∀ k, k < 8 → (b k = enc (v k) ∧ (v k = INF ∨ v k ≤ (N + 1) * 10001)) := fun k hk => by
    obtain ⟨h1, h2⟩ := hb k hk
    refine ⟨h1, ?_⟩
    rcases h2 with q | q
    · exact Or.inl q
    · exact Or.inr (Nat.le_trans q (Nat.mul_le_mul_right 10001 (Nat.le_succ N)))
  rcases h.2 i j hi hj with e | ⟨-, -, l, hl, e⟩
  · have hw : wOf σ i j = INF := by unfold wOf; rw [if_neg (fun q => q.2.2 e)]
    have hn : nst (wOf σ) v i j = v := by
      unfold nst
      rw [if_neg (by rw [hw]; omega)]
    have hs : wst σ b i j = b := by
      unfold wst
      rw [if_neg (fun q => q.1 e)]
    rw [hn, hs]
    exact same
  · have hw := wOf_some hi hj hl e
    by_cases hvi : v i = INF
    · have hn : nst (wOf σ) v i j = v := by
        unfold nst
        rw [if_neg (by rw [hvi]; omega)]
      have hs : wst σ b i j = b := by
        unfold wst
        rw [if_neg (fun q => q.2.1 (by rw [hi1]; unfold enc; rw [if_pos hvi]))]
      rw [hn, hs]
      exact same
    · have hvi2 : v i ≤ N * 10001 := hi2.resolve_left hvi
      have hbi : b i = nI (v i) := by rw [hi1]; unfold enc; rw [if_neg hvi]
      have hsum : b i + nI 100 * σ.lo i j + nI 1 = nI (v i + (100 * l + 1)) := by
        rw [hbi, e, pk_mul, nI_add, nI_add, Nat.add_assoc]
      have hcond : (b j = -1 ∨ nI (v i + (100 * l + 1)) < b j) ↔ v i + wOf σ i j < v j := by
        rw [hw, hj1]
        unfold enc
        by_cases hvj : v j = INF
        · rw [if_pos hvj, hvj]
          exact ⟨fun _ => by omega, fun _ => Or.inl rfl⟩
        · have hvj2 := hj2.resolve_left hvj
          rw [if_neg hvj]
          constructor
          · intro q
            rcases q with q | q
            · exact absurd q (nI_m1 _ (by omega))
            · exact (nI_ltI (by omega) (by omega)).mp q
          · intro q
            exact Or.inr ((nI_ltI (by omega) (by omega)).mpr q)
      by_cases hc : v i + wOf σ i j < v j
      · have hn : nst (wOf σ) v i j = f1 v j (v i + wOf σ i j) := by
          unfold nst
          rw [if_pos hc]
        have hs : wst σ b i j = f1 b j (nI (v i + (100 * l + 1))) := by
          unfold wst
          rw [hsum, if_pos ⟨by rw [e]; exact nI_m1 l (by omega), by rw [hbi]; exact nI_m1 _ (by omega), hcond.mpr hc⟩]
        rw [hn, hs]
        intro k hk
        unfold f1
        by_cases hkj : k = j
        · rw [if_pos hkj, if_pos hkj, hw]
          refine ⟨?_, Or.inr (by omega)⟩
          unfold enc
          rw [if_neg (by omega)]
        · rw [if_neg hkj, if_neg hkj]
          exact same k hk
      · have hn : nst (wOf σ) v i j = v := by
          unfold nst
          rw [if_neg hc]
        have hs : wst σ b i j = b := by
          unfold wst
          rw [hsum, if_neg (fun q => hc (hcond.mp q.2.2))]
        rw [hn, hs]
        exact same
theorem wayB_nwy {σ : ST} (h : LI σ) (a : Nat) : ∀ n, n ≤ 512 → ∀ k, k < 8 → wayB σ a n k = enc (nwy (wOf σ) a n k) ∧ (nwy (wOf σ) a n k = INF ∨ nwy (wOf σ) a n k ≤ n * 10001)
  | 0, _, k, _ => by
    show (if k = a then nI 0 else -1) = enc (if k = a then 0 else INF) ∧ _
    unfold enc
    by_cases hq : k = a
    · rw [if_pos hq, if_pos hq]
      exact ⟨rfl, Or.inr (by show (if k = a then 0 else INF) ≤ _; rw [if_pos hq]; exact Nat.zero_le _)⟩
    · rw [if_neg hq, if_neg hq]
      exact ⟨rfl, Or.inl (by show (if k = a then 0 else INF) = _; rw [if_neg hq])⟩
  | n + 1, hn, k, hk => wst_nst h (N := n) (by omega) (fun k hk => wayB_nwy h a n (by omega) k hk) (Nat.mod_lt _ (by decide)) (Nat.mod_lt _ (by decide)) k hk
/-- the search ends a round before there are as many rounds as formats -/
theorem way_conv {σ : ST} (h : LI σ) {a : Nat} (ha : a < σ.fo) {k : Nat} (hk : k < 8) : wayB σ a (64 * (σ.fo - 1)) k = way σ a k := by
  have h8 := h.1
  rw [(wayB_nwy h a _ (by omega) k hk).1]
  unfold way
  rw [(wayB_nwy h a 512 (by omega) k hk).1, nwy_conv h8 (wOf_1 σ) (wOf_n h) ha hk]
