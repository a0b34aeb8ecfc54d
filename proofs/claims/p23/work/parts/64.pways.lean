/-! best ways: what the law asks of them -/
theorem syn_aa (w : Nat → Nat → Nat) (a : Nat) : ∀ m, syn w a m a = 0
  | 0 => by rw [syn_0, if_pos rfl]
  | m + 1 => by
    have h1 := syn_dec w a m a
    have h2 := syn_aa w a m
    omega
theorem syn_pos {w : Nat → Nat → Nat} (hw1 : ∀ i j, 1 ≤ w i j) {a k : Nat} (h : k ≠ a) : ∀ m, 1 ≤ syn w a m k
  | 0 => by
    rw [syn_0, if_neg h]
    exact Nat.le_of_ble_eq_true rfl
  | m + 1 => by
    rw [syn_s]
    rcases mnS_ex w (syn w a m) k 8 with q | ⟨i, -, q⟩
    · rw [q]
      exact syn_pos hw1 h m
    · rw [q]
      have := hw1 i k
      omega
theorem syn_rem {w : Nat → Nat → Nat} (hw : ∀ i j, w i j < INF → ∃ l, w i j = 100 * l + 1) {a : Nat} : ∀ m k, syn w a m k < INF → ∃ L c, c ≤ m ∧ syn w a m k = 100 * L + c
  | 0, k, h => by
    rw [syn_0] at h ⊢
    by_cases hk : k = a
    · rw [if_pos hk]
      exact ⟨0, 0, Nat.le_refl _, rfl⟩
    · rw [if_neg hk] at h
      exact absurd h (Nat.lt_irrefl _)
  | m + 1, k, h => by
    rw [syn_s] at h ⊢
    rcases mnS_ex w (syn w a m) k 8 with q | ⟨i, -, q⟩
    · rw [q] at h ⊢
      obtain ⟨L, c, h1, h2⟩ := syn_rem hw m k h
      exact ⟨L, c, by omega, h2⟩
    · rw [q] at h ⊢
      obtain ⟨L, c, h1, h2⟩ := syn_rem hw (a := a) m i (by omega)
      obtain ⟨l, h3⟩ := hw i k (by omega)
      exact ⟨L + l, c + 1, by omega, by omega⟩
theorem syn_I (w : Nat → Nat → Nat) (a m k : Nat) : syn w a m k ≤ INF := Nat.le_trans (syn_mono w a (Nat.zero_le m) k) (syn_0I w a k)
theorem syn_tri {w : Nat → Nat → Nat} {a n : Nat} (hw1 : ∀ i j, 1 ≤ w i j) (hwn : ∀ i j, w i j < INF → i < n ∧ j < n) {m : Nat} (hm : n ≤ m + 1) (i : Nat) : ∀ r j, syn w a m j ≤ syn w a m i + syn w i r j
  | 0, j => by
    rw [syn_0]
    by_cases hj : j = i
    · rw [if_pos hj, hj]
      exact Nat.le_refl _
    · rw [if_neg hj]
      have := syn_I w a m j
      omega
  | r + 1, j => by
    rw [syn_s]
    rcases mnS_ex w (syn w i r) j 8 with q | ⟨l, hl, q⟩
    · rw [q]
      exact syn_tri (a := a) hw1 hwn hm i r j
    · rw [q]
      have h1 := syn_tri (a := a) hw1 hwn hm i r l
      have h2 := (mnS_le w (syn w a m) j 8).2 l hl
      rw [← syn_s, syn_end hw1 hwn hm j] at h2
      omega
abbrev dW (σ : ST) (a k : Nat) : Nat := nwy (wOf σ) a 512 k
theorem dW_syn {σ : ST} (h : LI σ) {a k : Nat} (hk : k < 8) : dW σ a k = syn (wOf σ) a (σ.fo - 1) k := by
  have h8 := h.1
  have h1 : nwy (wOf σ) a 512 k ≤ syn (wOf σ) a 8 k := nwy_le (wOf σ) a 8 k hk
  have h2 := nwy_ge (wOf σ) a 512 k
  have h3 := syn_stay (a := a) (wOf_1 σ) (wOf_n h) (m := σ.fo - 1) (by omega) k (512 - (σ.fo - 1))
  rw [show σ.fo - 1 + (512 - (σ.fo - 1)) = 512 by omega] at h3
  have h4 := syn_stay (a := a) (wOf_1 σ) (wOf_n h) (m := σ.fo - 1) (by omega) k (8 - (σ.fo - 1))
  rw [show σ.fo - 1 + (8 - (σ.fo - 1)) = 8 by omega] at h4
  show nwy (wOf σ) a 512 k = _
  omega
theorem way_dW {σ : ST} (h : LI σ) (a : Nat) {b : Nat} (hb : b < 8) : way σ a b = enc (dW σ a b) ∧ (dW σ a b = INF ∨ dW σ a b ≤ 512 * 10001) := wayB_nwy h a 512 (Nat.le_refl _) b hb
theorem wOf_100 {σ : ST} (h : LI σ) (i j : Nat) (hw : wOf σ i j < INF) : ∃ l, wOf σ i j = 100 * l + 1 := by
  unfold wOf at hw ⊢
  split at hw
  · rename_i q
    rw [if_pos q]
    exact ⟨_, rfl⟩
  · exact absurd hw (Nat.lt_irrefl _)
theorem enc_I : enc INF = -1 := if_pos rfl
theorem enc_n {v : Nat} (h : ¬ v = INF) : enc v = nI v := if_neg h
theorem way_aa {σ : ST} (h : LI σ) {a : Nat} (ha : a < 8) : way σ a a = 0 := by
  rw [(way_dW h a ha).1, dW_syn h ha, syn_aa]
  decide
/-- no way, or a number, its last two digits fewer than there are formats -/
theorem way_is {σ : ST} (h : LI σ) {a b : Nat} (ha : a < σ.fo) (hb : b < σ.fo) : way σ a b = -1 ∨ ∃ d, way σ a b = nI d ∧ d ≤ 5120512 ∧ d % 100 < σ.fo ∧ (a ≠ b → 1 ≤ d) := by
  have h8 := h.1
  have hI := INF_eq
  obtain ⟨h1, h2⟩ := way_dW h a (b := b) (by omega)
  by_cases hq : dW σ a b = INF
  · left
    rw [h1, hq, enc_I]
  · right
    have h3 := dW_syn h (a := a) (k := b) (by omega)
    refine ⟨dW σ a b, by rw [h1, enc_n hq], by omega, ?_, fun hne => ?_⟩
    · obtain ⟨L, c, h4, h5⟩ := syn_rem (wOf_100 h) (a := a) (σ.fo - 1) b (by omega)
      omega
    · have := syn_pos (wOf_1 σ) (a := a) (k := b) (fun e => hne e.symm) (σ.fo - 1)
      omega
theorem way_tri {σ : ST} (h : LI σ) {a i b d1 d2 : Nat} (hi : i < 8) (hb : b < 8) (h1 : way σ a i = nI d1) (h2 : way σ i b = nI d2) (l1 : d1 ≤ 5120512) (l2 : d2 ≤ 5120512) : ∃ d, way σ a b = nI d ∧ d ≤ d1 + d2 := by
  have hI := INF_eq
  have e1 : dW σ a i = d1 := by
    have k1 := way_dW h a hi
    by_cases hq : dW σ a i = INF
    · rw [k1.1, hq, enc_I] at h1
      exact absurd h1.symm (nI_m1 d1 (by omega))
    · rw [k1.1, enc_n hq] at h1
      exact (nI_eq (by omega) (by omega)).mp h1
  have e2 : dW σ i b = d2 := by
    have k1 := way_dW h i hb
    by_cases hq : dW σ i b = INF
    · rw [k1.1, hq, enc_I] at h2
      exact absurd h2.symm (nI_m1 d2 (by omega))
    · rw [k1.1, enc_n hq] at h2
      exact (nI_eq (by omega) (by omega)).mp h2
  have k := syn_tri (a := a) (wOf_1 σ) (wOf_n h) (m := σ.fo - 1) (by omega) i (σ.fo - 1) b
  rw [← dW_syn h hb, ← dW_syn h hi, ← dW_syn h hb] at k
  have k2 := way_dW h a hb
  refine ⟨dW σ a b, ?_, by omega⟩
  rw [k2.1, enc_n (by omega)]
/-- a conversion's loss is no less than the best way's -/
theorem way_edge {σ : ST} (h : LI σ) {a b l : Nat} (ha : a < 8) (hb : b < 8) (hl : l ≤ 100) (e : σ.lo a b = nI l) : ∃ d, way σ a b = nI d ∧ d ≤ 100 * l + 1 := by
  have hI := INF_eq
  have k := (mnS_le (wOf σ) (syn (wOf σ) a (σ.fo - 1)) b 8).2 a ha
  rw [← syn_s, syn_end (wOf_1 σ) (wOf_n h) (by omega) b, syn_aa, wOf_some ha hb hl e, ← dW_syn h hb] at k
  have k2 := way_dW h a hb
  exact ⟨dW σ a b, by rw [k2.1, enc_n (by omega)], by omega⟩
theorem wayB_lo {σ τ : ST} (h : σ.lo = τ.lo) (a : Nat) : ∀ n, wayB σ a n = wayB τ a n
  | 0 => rfl
  | n + 1 => by
    show wst σ (wayB σ a n) _ _ = wst τ (wayB τ a n) _ _
    rw [wayB_lo h a n]
    unfold wst
    rw [h]
theorem way_lo {σ τ : ST} (h : σ.lo = τ.lo) (a b : Nat) : way σ a b = way τ a b := congrFun (wayB_lo h a 512) b
