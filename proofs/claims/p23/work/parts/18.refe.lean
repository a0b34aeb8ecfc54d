/-! the calls on objects and versions, the reference's part -/
def cont (σ : ST) (u : Nat) : Int32 := isum (fun w => σ.i 2 (σ.a 3 w)) 0 (chL σ u)
def rdv (σ : ST) (u : Nat) : Int32 := isum (fun w => gval σ (σ.a 3 w)) 0 (chL σ u)
def inC (c : Int32) : Bool := decide (nI 0 ≤ c ∧ c ≤ 999999)
def o_versions (σ : ST) (o : Int32) : OP := if inR σ.ob o = true then (0, bset (fun k => σ.b 0 (10 * tN o + k)) 10, σ) else (1, nI 0, σ)
def o_unitOf (σ : ST) (o v : Int32) : OP := if isV σ o v = true then (0, nI (σ.a 3 (10 * tN o + tN v)), σ) else (1, nI 0, σ)
def o_read (σ : ST) (o v : Int32) : OP := if isV σ o v = true then (if allG σ (chL σ (10 * tN o + tN v)) = true then (0, rdv σ (10 * tN o + tN v), σ) else (2, nI 0, σ)) else (1, nI 0, σ)
def riskB (σ : ST) (r : Int32) (o : Nat) : Bool := decide (r ≤ σ.i 0 (σ.a 2 (latn σ o 10)))
def o_atRisk (σ : ST) (r : Int32) : OP := if inK 0 100 r = true then (0, bset (riskB σ r) σ.ob, σ) else (1, nI 0, σ)
def o_deposit (σ : ST) (f c k : Int32) : OP := if (inC c && inK 1 3 k) = true then (if inR σ.fo f = true then (if σ.ob = 10 then (3, nI 0, σ) else (0, nI σ.ob, (adR (σ.sa 0 σ.ob (tN k)) σ.ob (tN f) 0 false c).sn 1 (σ.ob + 1))) else (2, nI 0, σ)) else (1, nI 0, σ)
def rvV (σ : ST) (u : Nat) (c : Int32) (d : Bool) : Int32 := if d = true then c - cont σ u else c
def o_revise (σ : ST) (o c : Int32) (d : Bool) : OP := if inC c = true then (if inR σ.ob o = true then (if σ.a 1 (tN o) = 10 then (3, nI 0, σ) else (0, nI (σ.a 1 (tN o)), adR σ (tN o) (σ.a 2 (latn σ (tN o) 10)) (latn σ (tN o) 10) d (rvV σ (latn σ (tN o) 10) c d))) else (2, nI 0, σ)) else (1, nI 0, σ)
def cvOk (σ : ST) (o f u : Nat) : Bool := !decide (σ.a 2 u = f) && (!decide (way σ (σ.a 2 u) f = -1) && (allG σ (chL σ u) && decide (σ.a 1 o < 10)))
def rem1k (s : Int32) : Int32 := if s - s / nI 1000 * nI 1000 < 0 then s - s / nI 1000 * nI 1000 + nI 1000 else s - s / nI 1000 * nI 1000
def cvC (s w : Int32) : Int32 := nI 1000 * rem1k s + (w / nI 100 - w / nI 100 / nI 1000 * nI 1000)
def o_convert (σ : ST) (o f : Int32) : OP := if (inR σ.ob o && inR σ.fo f) = true then (if cvOk σ (tN o) (tN f) (latn σ (tN o) 10) = true then (0, nI (σ.a 1 (tN o)), adR σ (tN o) (tN f) (latn σ (tN o) 10) false (cvC (rdv σ (latn σ (tN o) 10)) (way σ (σ.a 2 (latn σ (tN o) 10)) (tN f)))) else (2, nI 0, σ)) else (1, nI 0, σ)
def clC (u : Nat) : Nat → ST → ST
  | 0, σ => σ
  | n + 1, σ => (clC u n σ).sc u n false
def clU (σ : ST) (u : Nat) : ST := clC u 4 (σ.sb 1 u false)
/-- the units that nobody needs any more are removed, of the first n -/
def pgS (σ : ST) : Nat → ST
  | 0 => σ
  | n + 1 => if (pgS σ n).b 1 n = true ∧ ndd σ n 100 = false then clU (pgS σ n) n else pgS σ n
def pgN (σ : ST) : Nat → Nat
  | 0 => 0
  | n + 1 => pgN σ n + (if (pgS σ n).b 1 n = true ∧ ndd σ n 100 = false then 1 else 0)
def o_purge (σ : ST) (o v : Int32) : OP := if isV σ o v = true then (if many σ (tN o) 10 = 1 then (2, nI 0, σ) else (0, nI (pgN (σ.sb 0 (10 * tN o + tN v) false) σ.un), pgS (σ.sb 0 (10 * tN o + tN v) false) σ.un)) else (1, nI 0, σ)
/-- what the reference's calls rest on -/
def RI (σ : ST) : Prop := WF σ ∧ σ.fo ≤ 8 ∧ (∀ o, o < σ.ob → hasV σ o) ∧ (∀ u, u < 100 → σ.a 5 u < 2 ^ 30) ∧ (∀ o, o < 10 → σ.a 0 o < 2 ^ 30) ∧ (∀ v, vok σ v → σ.a 2 v < σ.fo) ∧ (∀ o, o < σ.ob → σ.a 1 o < 10 → σ.un < 100) ∧ (σ.ob < 10 → σ.un < 100 ∧ σ.a 1 σ.ob = 0) ∧ σ.la ≤ 400
theorem isV_of {σ : ST} (hw : WF σ) {o v : Int32} (h : isV σ o v = true) : (o = nI (tN o) ∧ tN o < σ.ob) ∧ (v = nI (tN v) ∧ tN v < 10) ∧ σ.b 0 (10 * tN o + tN v) = true ∧ vok σ (10 * tN o + tN v) := by
  unfold isV at h
  rw [Bool.and_eq_true, Bool.and_eq_true] at h
  have h1 := hw.1.1
  exact ⟨inR_of (by omega) h.1, inR_of (by omega) h.2.1, h.2.2, hw.2.2.2 _ h.2.2⟩
theorem adU_same (σ : ST) (d : Bool) (v : Int32) : (∀ i, i ≠ 2 → (adU σ d v).n i = σ.n i) ∧ (adU σ d v).2.1 = σ.2.1 := by
  unfold adU
  cases ufn σ d v σ.un with
  | none => exact ⟨fun i hi => f1_n hi, rfl⟩
  | some f => exact ⟨fun _ _ => rfl, rfl⟩
theorem adP_n (σ : ST) (w : Nat) (d : Bool) (v : Int32) (i : Nat) (hi : i ≠ 2) : (adP σ w d v).n i = σ.n i := by
  unfold adP
  cases ufn σ d v σ.un with
  | none => exact (congrFun (plcs_same _ _ _ _).1 i).trans ((adU_same σ d v).1 i hi)
  | some f => exact (congrFun (plG_same _ _).1 i).trans ((adU_same σ d v).1 i hi)
theorem adR_ob (σ : ST) (o of b : Nat) (d : Bool) (v : Int32) : (adR σ o of b d v).ob = σ.ob := adP_n σ (σ.a 0 o) d v 1 (by decide)
theorem chf_congr {σ τ : ST} (ha : τ.2.1 = σ.2.1) (hb : τ.b 2 = σ.b 2) : ∀ n v, chf τ n v = chf σ n v
  | 0, v => rfl
  | n + 1, v => by
    have h3 : τ.a 3 v = σ.a 3 v := by unfold ST.a; rw [ha]
    have h4 : τ.a 4 v = σ.a 4 v := by unfold ST.a; rw [ha]
    unfold chf
    rw [h3, h4, hb, chf_congr ha hb n]
theorem ndd_congr {σ τ : ST} (ha : τ.2.1 = σ.2.1) (hb : τ.b 2 = σ.b 2) (h0 : τ.b 0 = σ.b 0) (u : Nat) : ∀ n, ndd τ u n = ndd σ u n
  | 0 => rfl
  | n + 1 => by
    unfold ndd
    rw [ndd_congr ha hb h0 u n, h0, show chL τ n = chL σ n from chf_congr ha hb _ _]
    unfold ST.a
    rw [ha]
theorem clC_same (u : Nat) : ∀ (n : Nat) (σ : ST), (clC u n σ).1 = σ.1 ∧ (clC u n σ).2.1 = σ.2.1 ∧ (clC u n σ).2.2.1 = σ.2.2.1 ∧ (clC u n σ).2.2.2.1 = σ.2.2.2.1 ∧ (clC u n σ).2.2.2.2.1 = σ.2.2.2.2.1 ∧ (clC u n σ).2.2.2.2.2.1 = σ.2.2.2.2.2.1
  | 0, σ => ⟨rfl, rfl, rfl, rfl, rfl, rfl⟩
  | n + 1, σ => clC_same u n σ
theorem pgS_same (σ : ST) : ∀ n, (pgS σ n).1 = σ.1 ∧ (pgS σ n).2.1 = σ.2.1 ∧ (pgS σ n).2.2.1 = σ.2.2.1 ∧ (∀ i, i ≠ 1 → (pgS σ n).b i = σ.b i) ∧ (pgS σ n).2.2.2.2.1 = σ.2.2.2.2.1 ∧ (pgS σ n).2.2.2.2.2.1 = σ.2.2.2.2.2.1
  | 0 => ⟨rfl, rfl, rfl, fun _ _ => rfl, rfl, rfl⟩
  | n + 1 => by
    obtain ⟨h1, h2, h3, h4, h5, h6⟩ := pgS_same σ n
    unfold pgS
    split
    · obtain ⟨g1, g2, g3, g4, g5, g6⟩ := clC_same n 4 ((pgS σ n).sb 1 n false)
      refine ⟨g1.trans h1, g2.trans h2, g3.trans h3, fun i hi => ?_, g5.trans h5, g6.trans h6⟩
      have e : (clU (pgS σ n) n).b i = ((pgS σ n).sb 1 n false).b i := by unfold ST.b clU; rw [g4]
      rw [e]
      exact (f2_a hi).trans (h4 i hi)
    · exact ⟨h1, h2, h3, h4, h5, h6⟩
theorem WF.pb0 {σ : ST} (h : WF σ) (v : Nat) : WF (σ.sb 0 v false) := by
  refine ⟨h.1, h.2.1, h.2.2.1, fun w hw => h.2.2.2 w ?_⟩
  have e : f2 σ.2.2.2.1 0 v false 0 w = true := hw
  unfold f2 at e
  by_cases hq : w = v
  · rw [if_pos ⟨rfl, hq⟩] at e
    cases e
  · rw [if_neg (fun q => hq q.2)] at e
    exact e
section REFE
variable (g : GG) {A : Nat → Nat → Nat} {σ ρ : ST} {x : XT} {M : Mem}
end REFE
