/-! what the reference reads of a state -/
/-- the same but for needs, loads, capacities, counts of changes, contents -/
def sim (σ τ : ST) : Prop := σ.1 = τ.1 ∧ (∀ k, k < 6 → σ.2.1 k = τ.2.1 k) ∧ (∀ k, k ≠ 4 → σ.2.2.1 k = τ.2.2.1 k) ∧ σ.2.2.2 = τ.2.2.2
theorem sim.refl (σ : ST) : sim σ σ := ⟨rfl, fun _ _ => rfl, fun _ _ => rfl, rfl⟩
theorem sim.symm {σ τ : ST} (h : sim σ τ) : sim τ σ := ⟨h.1.symm, fun k hk => (h.2.1 k hk).symm, fun k hk => (h.2.2.1 k hk).symm, h.2.2.2.symm⟩
theorem sim.trans {σ τ υ : ST} (h : sim σ τ) (k : sim τ υ) : sim σ υ := ⟨h.1.trans k.1, fun i hi => (h.2.1 i hi).trans (k.2.1 i hi), fun i hi => (h.2.2.1 i hi).trans (k.2.2.1 i hi), h.2.2.2.trans k.2.2.2⟩
/-- which units there are is nothing that the class's cells hold -/
theorem W2.b1 {g : GG} {A : Nat → Nat → Nat} {σ ρ : ST} {x : XT} {M : Mem} (h : W2 g A σ ρ x M) (u : Nat) (b : Bool) : W2 g A (σ.sb 1 u b) ρ x M := by
  have key : ∀ k' i', wdom σ k' i' → True → wcell g A σ ρ x k' i' = wcell g A (σ.sb 1 u b) ρ x k' i' := by
    intro k' i' hd hne
    match k', hd, hne with
    | 0, hd, hne => exact rfl
    | 1, hd, hne => exact rfl
    | 2, hd, hne => exact rfl
    | 3, hd, hne => exact rfl
    | 4, hd, hne => exact rfl
    | 5, hd, hne => exact rfl
    | 6, hd, hne => exact rfl
    | 7, hd, hne => exact rfl
    | 8, hd, hne => exact rfl
    | 9, hd, hne => exact rfl
    | 10, hd, hne => exact rfl
    | 11, hd, hne => exact rfl
    | 12, hd, hne => exact rfl
    | 13, hd, hne => exact rfl
    | 14, hd, hne => exact rfl
    | 15, hd, hne => exact rfl
    | 16, hd, hne => exact rfl
    | 17, hd, hne => exact rfl
    | 18, hd, hne => exact rfl
    | 19, hd, hne => exact rfl
    | 20, hd, hne => exact rfl
    | 21, hd, hne => exact rfl
    | 22, hd, hne => exact rfl
    | n + 23, hd, hne => exact rfl
  exact ⟨fun k i hd => (h.1 k i hd).trans (congrArg some (key k i hd trivial)), h.2⟩
