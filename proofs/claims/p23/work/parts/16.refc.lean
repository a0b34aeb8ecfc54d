/-! the calls on copies and sites, the reference's part -/
/-- how many units there are, of the first n -/
def unn (σ : ST) : Nat → Nat
  | 0 => 0
  | n + 1 => unn σ n + (if σ.b 1 n = true then 1 else 0)
theorem unn_le (σ : ST) : ∀ n, unn σ n ≤ n
  | 0 => Nat.le_refl 0
  | n + 1 => by
    have h := unn_le σ n
    unfold unn
    split <;> omega
def o_units (σ : ST) : OP := (0, nI (unn σ σ.un), σ)
/-- how many copies are lacking, of the first n units -/
def lkn (σ : ST) : Nat → Nat
  | 0 => 0
  | n + 1 => lkn σ n + (if σ.b 1 n = true then σ.a 5 n - cpc σ n 4 else 0)
def o_lacking (σ : ST) : OP := (0, nI (lkn σ σ.un), σ)
/-- a set of places, of the first n -/
def bset (f : Nat → Bool) : Nat → Int32
  | 0 => nI 0
  | n + 1 => bset f n ||| (if f n = true then nI 1 <<< (nI n &&& 31) else nI 0)
def isU (σ : ST) (u : Int32) : Bool := inR σ.un u && σ.b 1 (tN u)
def o_sites (σ : ST) (u : Int32) : OP := if isU σ u = true then (0, bset (σ.cp (tN u)) 4, σ) else (1, nI 0, σ)
/-- how many sound copies, of the first n sites -/
def snn (σ : ST) (u : Nat) : Nat → Nat
  | 0 => 0
  | n + 1 => snn σ u n + (if snd σ u n = true then 1 else 0)
def o_sound (σ : ST) (u : Int32) : OP := if isU σ u = true then (0, nI (snn σ (tN u) 4), σ) else (1, nI 0, σ)
def dmOk (s u c : Int32) : Bool := inK 0 3 s && (decide ((-1000) ≤ c ∧ c ≤ nI 1000) && !decide (c = 0))
def o_damage (σ : ST) (s u c : Int32) : OP := if dmOk s u c = true then (if (isU σ u && σ.cp (tN u) (tN s)) = true then (0, bI (snd (σ.sh (tN u) (tN s) (σ.hs (tN u) (tN s) + c)) (tN u) (tN s)), σ.sh (tN u) (tN s) (σ.hs (tN u) (tN s) + c)) else (2, nI 0, σ)) else (1, nI 0, σ)
/-- a site's copies are gone, of the first n units -/
def clS (s : Nat) : Nat → ST → ST
  | 0, σ => σ
  | n + 1, σ => (clS s n σ).sc n s false
def clN (σ : ST) (s : Nat) : Nat → Nat
  | 0 => 0
  | n + 1 => clN σ s n + (if σ.cp n s = true then 1 else 0)
def o_toggleSite (σ : ST) (s : Int32) : OP := if inK 0 3 s = true then (0, nI (clN σ (tN s) σ.un), clS (tN s) σ.un (σ.sb 4 (tN s) (!σ.b 4 (tN s)))) else (1, nI 0, σ)
/-- all units that have a good value, of the first n: their lacking copies are placed -/
def rpS (σ0 : ST) : Nat → ST
  | 0 => σ0
  | n + 1 => if (rpS σ0 n).b 1 n = true then plG (rpS σ0 n) n else rpS σ0 n
def plGn (σ : ST) (u : Nat) : Nat := match good σ u with
  | none => 0
  | some s => plcn u (σ.hs u s) (σ.a 5 u - cpc σ u 4) σ
def rpN (σ0 : ST) : Nat → Nat
  | 0 => 0
  | n + 1 => rpN σ0 n + (if (rpS σ0 n).b 1 n = true then plGn (rpS σ0 n) n else 0)
def o_replicate (σ : ST) : OP := (0, nI (rpN σ σ.un), rpS σ σ.un)
theorem plG_same (σ : ST) (u : Nat) : (plG σ u).1 = σ.1 ∧ (∀ i, i ≠ 7 → (plG σ u).a i = σ.a i) ∧ (plG σ u).2.2.1 = σ.2.2.1 ∧ (plG σ u).2.2.2.1 = σ.2.2.2.1 ∧ (plG σ u).2.2.2.2.2.1 = σ.2.2.2.2.2.1 := by
  unfold plG
  cases good σ u with
  | none => exact ⟨rfl, fun _ _ => rfl, rfl, rfl, rfl⟩
  | some s => exact plcs_same u _ _ σ
theorem rpS_same (σ : ST) : ∀ n, (rpS σ n).1 = σ.1 ∧ (∀ i, i ≠ 7 → (rpS σ n).a i = σ.a i) ∧ (rpS σ n).2.2.1 = σ.2.2.1 ∧ (rpS σ n).2.2.2.1 = σ.2.2.2.1 ∧ (rpS σ n).2.2.2.2.2.1 = σ.2.2.2.2.2.1
  | 0 => ⟨rfl, fun _ _ => rfl, rfl, rfl, rfl⟩
  | n + 1 => by
    obtain ⟨h1, h2, h3, h4, h5⟩ := rpS_same σ n
    unfold rpS
    split
    · obtain ⟨g1, g2, g3, g4, g5⟩ := plG_same (rpS σ n) n
      exact ⟨g1.trans h1, fun i hi => (g2 i hi).trans (h2 i hi), g3.trans h3, g4.trans h4, g5.trans h5⟩
    · exact ⟨h1, h2, h3, h4, h5⟩
section REFC
variable (g : GG) {A : Nat → Nat → Nat} {σ ρ : ST} {x : XT} {M : Mem}
end REFC
