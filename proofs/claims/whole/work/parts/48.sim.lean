/-! what the reference reads of a state -/
/-- the same but for needs, loads, capacities, counts of changes, contents -/
def sim (σ τ : ST) : Prop := σ.1 = τ.1 ∧ (∀ k, k < 6 → σ.2.1 k = τ.2.1 k) ∧ (∀ k, k ≠ 4 → σ.2.2.1 k = τ.2.2.1 k) ∧ σ.2.2.2 = τ.2.2.2
theorem sim.refl (σ : ST) : sim σ σ := ⟨rfl, fun _ _ => rfl, fun _ _ => rfl, rfl⟩
theorem sim.symm {σ τ : ST} (h : sim σ τ) : sim τ σ := ⟨h.1.symm, fun k hk => (h.2.1 k hk).symm, fun k hk => (h.2.2.1 k hk).symm, h.2.2.2.symm⟩
theorem sim.trans {σ τ υ : ST} (h : sim σ τ) (k : sim τ υ) : sim σ υ := ⟨h.1.trans k.1, fun i hi => (h.2.1 i hi).trans (k.2.1 i hi), fun i hi => (h.2.2.1 i hi).trans (k.2.2.1 i hi), h.2.2.2.trans k.2.2.2⟩
/-- the reference's cells hold one state as well as the other -/
theorem W2.rswap {g : GG} {A : Nat → Nat → Nat} {σ ρ τ : ST} {x : XT} {M : Mem} (h : W2 g A σ ρ x M) (hs : sim ρ τ) : W2 g A σ τ x M := by
  have hn : ∀ i, ρ.n i = τ.n i := fun i => congrFun hs.1 i
  have ha0 : ρ.a 0 = τ.a 0 := hs.2.1 0 (by decide)
  have ha1 : ρ.a 1 = τ.a 1 := hs.2.1 1 (by decide)
  have ha2 : ρ.a 2 = τ.a 2 := hs.2.1 2 (by decide)
  have ha3 : ρ.a 3 = τ.a 3 := hs.2.1 3 (by decide)
  have ha5 : ρ.a 5 = τ.a 5 := hs.2.1 5 (by decide)
  have hi0 : ρ.i 0 = τ.i 0 := hs.2.2.1 0 (by decide)
  have hi2 : ρ.i 2 = τ.i 2 := hs.2.2.1 2 (by decide)
  have hb : ∀ k, ρ.b k = τ.b k := fun k => by show ρ.2.2.2.1 k = τ.2.2.2.1 k; rw [hs.2.2.2]
  have hh : ρ.hs = τ.hs := by show ρ.2.2.2.2.1 = τ.2.2.2.2.1; rw [hs.2.2.2]
  have hl : ρ.lo = τ.lo := by show ρ.2.2.2.2.2.1 = τ.2.2.2.2.2.1; rw [hs.2.2.2]
  have hc : ρ.cp = τ.cp := by show ρ.2.2.2.2.2.2 = τ.2.2.2.2.2.2; rw [hs.2.2.2]
  have h20 : ∀ i, wcell g A σ ρ x 20 i = wcell g A σ τ x 20 i := fun i => by
    show ob 7 [.int (nI (ρ.n 0)), .ref (A 21 1), .ref (A 21 2), .ref (A 21 3), .int (nI (ρ.n 1)), .ref (A 21 5), .ref (A 21 6), .ref (A 21 7), .ref (A 21 8), .ref (A 21 9), .ref (A 21 10), .int (nI (ρ.n 2)), .ref (A 21 12), .ref (A 21 13), .ref (A 21 14), .ref (A 21 15), .ref (A 21 16), .ref (A 21 17), .ref (A 21 18), .int (nI (ρ.n 3) - 1), .int x.thr] = _
    rw [hn 0, hn 1, hn 2, hn 3]
    rfl
  have h21 : ∀ i, i ∈ [1, 2, 3, 5, 6, 7, 8, 9, 10, 12, 13, 14, 15, 16, 17, 18] → wcell g A σ ρ x 21 i = wcell g A σ τ x 21 i := by
    intro i hm
    simp only [List.mem_cons, List.not_mem_nil, or_false] at hm
    rcases hm with rfl | rfl | rfl | rfl | rfl | rfl | rfl | rfl | rfl | rfl | rfl | rfl | rfl | rfl | rfl | rfl <;> simp only [wcell, ha0, ha1, ha2, ha3, ha5, hi0, hi2, hb, hh, hl, hc]
  have key : ∀ k' i', wdom σ k' i' → True → wcell g A σ ρ x k' i' = wcell g A σ τ x k' i' := by
    intro k' i' hd hne
    match k', hd, hne with
    | 0, hd, hne => exact rfl
    | 1, hd, hne => exact rfl
    | 2, hd, hne => exact rfl
    | 3, hd, hne => exact rfl
    | 4, hd, hne => exact rfl
    | 5, hd, hne => exact rfl
    | 6, hd, hne => exact rfl
    | 7, hd, hne => exact rfl
    | 8, hd, hne => exact rfl
    | 9, hd, hne => exact rfl
    | 10, hd, hne => exact rfl
    | 11, hd, hne => exact rfl
    | 12, hd, hne => exact rfl
    | 13, hd, hne => exact rfl
    | 14, hd, hne => exact rfl
    | 15, hd, hne => exact rfl
    | 16, hd, hne => exact rfl
    | 17, hd, hne => exact rfl
    | 18, hd, hne => exact rfl
    | 19, hd, hne => exact rfl
    | 20, hd, hne => exact h20 i'
    | 21, hd, hne => exact h21 i' hd
    | 22, hd, hne => exact rfl
    | n + 23, hd, hne => exact rfl
  exact ⟨fun k i hd => (h.1 k i hd).trans (congrArg some (key k i hd trivial)), h.2⟩
/-- which units there are is nothing that the class's cells hold -/
theorem W2.b1 {g : GG} {A : Nat → Nat → Nat} {σ ρ : ST} {x : XT} {M : Mem} (h : W2 g A σ ρ x M) (u : Nat) (b : Bool) : W2 g A (σ.sb 1 u b) ρ x M := by
  have key : ∀ k' i', wdom σ k' i' → True → wcell g A σ ρ x k' i' = wcell g A (σ.sb 1 u b) ρ x k' i' := by
    intro k' i' hd hne
    match k', hd, hne with
    | 0, hd, hne => exact rfl
    | 1, hd, hne => exact rfl
    | 2, hd, hne => exact rfl
    | 3, hd, hne => exact rfl
    | 4, hd, hne => exact rfl
    | 5, hd, hne => exact rfl
    | 6, hd, hne => exact rfl
    | 7, hd, hne => exact rfl
    | 8, hd, hne => exact rfl
    | 9, hd, hne => exact rfl
    | 10, hd, hne => exact rfl
    | 11, hd, hne => exact rfl
    | 12, hd, hne => exact rfl
    | 13, hd, hne => exact rfl
    | 14, hd, hne => exact rfl
    | 15, hd, hne => exact rfl
    | 16, hd, hne => exact rfl
    | 17, hd, hne => exact rfl
    | 18, hd, hne => exact rfl
    | 19, hd, hne => exact rfl
    | 20, hd, hne => exact rfl
    | 21, hd, hne => exact rfl
    | 22, hd, hne => exact rfl
    | n + 23, hd, hne => exact rfl
  exact ⟨fun k i hd => (h.1 k i hd).trans (congrArg some (key k i hd trivial)), h.2⟩
