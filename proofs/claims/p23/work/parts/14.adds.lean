/-! a version comes -/
theorem plcs_same (u : Nat) (v : Int32) : ∀ (k : Nat) (σ : ST), (plcs u v k σ).1 = σ.1 ∧ (∀ i, i ≠ 7 → (plcs u v k σ).a i = σ.a i) ∧ (plcs u v k σ).2.2.1 = σ.2.2.1 ∧ (plcs u v k σ).2.2.2.1 = σ.2.2.2.1 ∧ (plcs u v k σ).2.2.2.2.2.1 = σ.2.2.2.2.2.1
  | 0, σ => ⟨rfl, fun _ _ => rfl, rfl, rfl, rfl⟩
  | k + 1, σ => by
    unfold plcs
    cases plc σ u 4 with
    | none => exact ⟨rfl, fun _ _ => rfl, rfl, rfl, rfl⟩
    | some s =>
      obtain ⟨h1, h2, h3, h4, h5⟩ := plcs_same u v k (((σ.sc u s true).sh u s v).sa 7 s (σ.a 7 s + 1))
      exact ⟨h1, fun i hi => (h2 i hi).trans (f2_a hi), h3, h4, h5⟩
/-- the unit that a version comes to have -/
def adF (σ : ST) (d : Bool) (v : Int32) : Nat := match ufn σ d v σ.un with
  | none => σ.un
  | some f => f
def adU (σ : ST) (d : Bool) (v : Int32) : ST := match ufn σ d v σ.un with
  | none => (((σ.sb 1 σ.un true).sb 2 σ.un d).si 2 σ.un v).sn 2 (σ.un + 1)
  | some _ => σ
def adS (σ : ST) (w : Nat) (d : Bool) (v : Int32) : ST := (adU σ d v).sa 5 (adF σ d v) (if w < (adU σ d v).a 5 (adF σ d v) then (adU σ d v).a 5 (adF σ d v) else w)
/-- the unit's copies are placed with a value -/
def plK (σ : ST) (u : Nat) (v : Int32) : ST := plcs u v (σ.a 5 u - cpc σ u 4) σ
def plG (σ : ST) (u : Nat) : ST := match good σ u with
  | none => σ
  | some s => plK σ u (σ.hs u s)
def adP (σ : ST) (w : Nat) (d : Bool) (v : Int32) : ST := match ufn σ d v σ.un with
  | none => plK (adS σ w d v) (adF σ d v) v
  | some _ => plG (adS σ w d v) (adF σ d v)
def adV (σ : ST) (o of f b : Nat) : ST := ((((σ.sb 0 (10 * o + σ.a 1 o) true).sa 2 (10 * o + σ.a 1 o) of).sa 3 (10 * o + σ.a 1 o) f).sa 4 (10 * o + σ.a 1 o) b).sa 1 o (σ.a 1 o + 1)
def adR (σ : ST) (o of b : Nat) (d : Bool) (v : Int32) : ST := adV (adP σ (σ.a 0 o) d v) o of (adF σ d v) b
section ADDS
variable (g : GG) {A : Nat → Nat → Nat} {σ ρ : ST} {x : XT} {M : Mem}
end ADDS
