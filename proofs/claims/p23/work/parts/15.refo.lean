/-! what each call answers and does: which exception (0 for none), the answer, the state behind it; the reference does so -/
abbrev OP : Type := Nat × Int32 × ST
def inK (a b : Nat) (x : Int32) : Bool := decide (nI a ≤ x ∧ x ≤ nI b)
def o_addFormat (σ : ST) (r : Int32) : OP := if inK 0 100 r = true then (if σ.fo = 8 then (2, nI 0, σ) else (0, nI σ.fo, (σ.si 0 σ.fo r).sn 0 (σ.fo + 1))) else (1, nI 0, σ)
def o_setRisk (σ : ST) (f r : Int32) : OP := if inK 0 100 r = true then (if inR σ.fo f = true then (0, σ.i 0 (tN f), σ.si 0 (tN f) r) else (2, nI 0, σ)) else (1, nI 0, σ)
/-- one step of the search for the best ways from a format -/
def wst (σ : ST) (b : Nat → Int32) (i j : Nat) : Nat → Int32 := if ¬ σ.lo i j = -1 ∧ ¬ b i = -1 ∧ (b j = -1 ∨ b i + nI 100 * σ.lo i j + nI 1 < b j) then f1 b j (b i + nI 100 * σ.lo i j + nI 1) else b
def w0 (a : Nat) : Nat → Int32 := fun k => if k = a then nI 0 else -1
def wayB (σ : ST) (a : Nat) : Nat → Nat → Int32
  | 0 => w0 a
  | n + 1 => wst σ (wayB σ a n) (n / 8 % 8) (n % 8)
def way (σ : ST) (a b : Nat) : Int32 := wayB σ a 512 b
def o_addConversion (σ : ST) (a b l : Int32) : OP := if inK 0 100 l = true ∧ ¬ a = b then (if inR σ.fo a = true ∧ inR σ.fo b = true then (0, way (σ.sl (tN a) (tN b) l) (tN a) (tN b) / nI 100, σ.sl (tN a) (tN b) l) else (2, nI 0, σ)) else (1, nI 0, σ)
def o_bestWay (σ : ST) (a b : Int32) : OP := if inR σ.fo a = true ∧ inR σ.fo b = true then (0, way σ (tN a) (tN b), σ) else (1, nI 0, σ)
theorem wst_eq {σ : ST} {b b' : Nat → Int32} (h : ∀ k, k < 8 → b k = b' k) {i j : Nat} (hi : i < 8) (hj : j < 8) : ∀ k, k < 8 → wst σ b i j k = wst σ b' i j k := by
  intro k hk
  unfold wst
  rw [h i hi, h j hj]
  split
  · unfold f1
    split
    · rfl
    · exact h k hk
  · exact h k hk
theorem nt {b : Bool} (h : bI b = 0) : ¬ b = true := by rw [bI_eq0.mp h]; decide
theorem yt {b : Bool} (h : ¬ bI b = 0) : b = true := bI_ne0.mp h
section REFO
variable (g : GG) {A : Nat → Nat → Nat} {σ ρ : ST} {x : XT} {M : Mem}
end REFO
