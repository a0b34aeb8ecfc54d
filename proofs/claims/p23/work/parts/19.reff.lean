/-! deposits, versions, conversions, purges: the reference's part -/
theorem WF.wt {σ : ST} (h : WF σ) (j v : Nat) : WF (σ.sa 0 j v) := h
section REFF
variable (g : GG) {A : Nat → Nat → Nat} {σ ρ : ST} {x : XT} {M : Mem}
theorem bI_1 : bI true = nI 1 := rfl
theorem bI_0 : bI false = nI 0 := rfl
end REFF
