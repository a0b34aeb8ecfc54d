/-! the reference: versions, chains, places -/
/-- a version that was ever made, by its place in the rows -/
def vok (σ : ST) (v : Nat) : Prop := v / 10 < σ.ob ∧ v % 10 < σ.a 1 (v / 10)
def WF (σ : ST) : Prop := (σ.ob ≤ 10 ∧ σ.un ≤ 100) ∧ (∀ o, o < σ.ob → σ.a 1 o ≤ 10) ∧ (∀ v, vok σ v → σ.a 3 v < σ.un ∧ (σ.b 2 (σ.a 3 v) = true → σ.a 4 v < v ∧ σ.a 4 v / 10 = v / 10)) ∧ (∀ v, σ.b 0 v = true → vok σ v)
theorem WF.lt {σ : ST} (h : WF σ) {v : Nat} (hv : vok σ v) : v < 100 := by
  have h1 := h.1.1
  have h2 := hv.1
  omega
theorem WF.un {σ : ST} (h : WF σ) {v : Nat} (hv : vok σ v) : σ.a 3 v < 100 := Nat.lt_of_lt_of_le (h.2.2.1 v hv).1 h.1.2
theorem WF.bas {σ : ST} (h : WF σ) {v : Nat} (hv : vok σ v) (hd : σ.b 2 (σ.a 3 v) = true) : σ.a 4 v < v ∧ vok σ (σ.a 4 v) := by
  obtain ⟨h1, h2⟩ := (h.2.2.1 v hv).2 hd
  refine ⟨h1, ?_, ?_⟩
  · rw [h2]; exact hv.1
  · rw [h2]
    have := hv.2
    omega
/-- the versions on the way over the bases -/
def chf (σ : ST) : Nat → Nat → List Nat
  | 0, _ => []
  | n + 1, v => v :: (if σ.b 2 (σ.a 3 v) = true then chf σ n (σ.a 4 v) else [])
def chL (σ : ST) (v : Nat) : List Nat := chf σ (v + 1) v
theorem chf_eq {σ : ST} (h : WF σ) : ∀ n m v, v < n → v < m → vok σ v → chf σ n v = chf σ m v
  | 0, _, v, h1, _, _ => absurd h1 (Nat.not_lt_zero v)
  | _ + 1, 0, v, _, h2, _ => absurd h2 (Nat.not_lt_zero v)
  | n + 1, m + 1, v, h1, h2, hv => by
    unfold chf
    by_cases hd : σ.b 2 (σ.a 3 v) = true
    · obtain ⟨h3, h4⟩ := h.bas hv hd
      rw [if_pos hd, if_pos hd, chf_eq h n m (σ.a 4 v) (by omega) (by omega) h4]
    · rw [if_neg hd, if_neg hd]
theorem chL_d {σ : ST} (h : WF σ) {v : Nat} (hv : vok σ v) (hd : σ.b 2 (σ.a 3 v) = true) : chL σ v = v :: chL σ (σ.a 4 v) := by
  obtain ⟨h3, h4⟩ := h.bas hv hd
  show chf σ (v + 1) v = _
  unfold chf
  rw [if_pos hd, chf_eq h v (σ.a 4 v + 1) (σ.a 4 v) h3 (by omega) h4]
  rfl
theorem chL_w {σ : ST} {v : Nat} (hd : σ.b 2 (σ.a 3 v) = false) : chL σ v = [v] := by
  show chf σ (v + 1) v = _
  unfold chf
  rw [if_neg (by rw [hd]; decide)]
theorem chL_ok {σ : ST} (h : WF σ) : ∀ n v, v < n → vok σ v → ∀ w ∈ chL σ v, vok σ w ∧ w ≤ v
  | 0, v, h1, _ => absurd h1 (Nat.not_lt_zero v)
  | n + 1, v, h1, hv => by
    intro w hw
    by_cases hd : σ.b 2 (σ.a 3 v) = true
    · rw [chL_d h hv hd] at hw
      obtain ⟨h3, h4⟩ := h.bas hv hd
      rcases List.mem_cons.mp hw with e | hw
      · rw [e]; exact ⟨hv, Nat.le_refl _⟩
      · have := chL_ok h n (σ.a 4 v) (by omega) h4 w hw
        exact ⟨this.1, by omega⟩
    · rw [chL_w (by simpa using hd)] at hw
      rw [List.mem_singleton.mp hw]
      exact ⟨hv, Nat.le_refl _⟩
def isum (f : Nat → Int32) : Int32 → List Nat → Int32
  | a, [] => a
  | a, v :: l => isum f (a + f v) l
/-- what a unit has: its good value, or 0 -/
def gval (σ : ST) (u : Nat) : Int32 := match good σ u with
  | none => 0
  | some s => σ.hs u s
def allG (σ : ST) (l : List Nat) : Bool := l.all (fun v => (good σ (σ.a 3 v)).isSome)
/-- a number from 0 to n - 1 -/
def inR (n : Nat) (f : Int32) : Bool := decide (0 ≤ f ∧ f ≤ nI n - 1)
abbrev tN (f : Int32) : Nat := f.toNatClampNeg
theorem inR_of {n : Nat} {f : Int32} (hn : n < 2 ^ 31) (h : inR n f = true) : f = nI (tN f) ∧ tN f < n := by
  obtain ⟨h1, h2⟩ := of_decide_eq_true h
  obtain ⟨j, hj, rfl⟩ := nI_of (Int32.not_lt.mpr h1)
  have hc : tN (nI j) = j := nI_clamp hj
  rw [hc]
  refine ⟨rfl, ?_⟩
  cases n with
  | zero =>
    have h3 : nI 0 - 1 = (-1 : Int32) := by decide
    rw [h3] at h2
    have h4 := Int32.le_trans h1 h2
    exact absurd h4 (by decide)
  | succ n =>
    rw [nI_pred] at h2
    have := (nI_leI hj (by omega)).mp h2
    omega
theorem inR_nI {n j : Nat} (hn : n < 2 ^ 31) (hj : j < n) : inR n (nI j) = true := by
  refine decide_eq_true ⟨nI_pos' (by omega), ?_⟩
  cases n with
  | zero => omega
  | succ n =>
    rw [nI_pred]
    exact nI_le (by omega) (by omega)
def isV (σ : ST) (o v : Int32) : Bool := inR σ.ob o && (inR 10 v && σ.b 0 (10 * tN o + tN v))
/-- the latest version that is there, of the first n -/
def latn (σ : ST) (o : Nat) : Nat → Nat
  | 0 => 10 * o
  | n + 1 => if σ.b 0 (10 * o + n) = true then 10 * o + n else latn σ o n
def hasV (σ : ST) (o : Nat) : Prop := ∃ k, k < 10 ∧ σ.b 0 (10 * o + k) = true
/-- the last unit of a kind and value, of the first n -/
def ufn (σ : ST) (d : Bool) (v : Int32) : Nat → Option Nat
  | 0 => none
  | n + 1 => if σ.b 1 n = true ∧ σ.b 2 n = d ∧ σ.i 2 n = v then some n else ufn σ d v n
theorem ufn_lt (σ : ST) (d : Bool) (v : Int32) : ∀ n f, ufn σ d v n = some f → f < n
  | 0, f, h => by cases h
  | n + 1, f, h => by
    unfold ufn at h
    split at h
    · cases h
      omega
    · have := ufn_lt σ d v n f h
      omega
/-- how many versions of an object are there, of its first n -/
def many (σ : ST) (o : Nat) : Nat → Nat
  | 0 => 0
  | n + 1 => many σ o n + (if σ.b 0 (10 * o + n) = true then 1 else 0)
theorem many_le (σ : ST) (o : Nat) : ∀ n, many σ o n ≤ n
  | 0 => Nat.le_refl 0
  | n + 1 => by
    have h := many_le σ o n
    unfold many
    split <;> omega
/-- is a unit needed by a version that is there, of the first n -/
def ndd (σ : ST) (u : Nat) : Nat → Bool
  | 0 => false
  | n + 1 => ndd σ u n || (σ.b 0 n && (chL σ n).any (fun v => σ.a 3 v == u))
/-- the unit's lacking copies are placed, at most k -/
def plcs (u : Nat) (v : Int32) : Nat → ST → ST
  | 0, σ => σ
  | k + 1, σ => match plc σ u 4 with
    | none => σ
    | some s => plcs u v k (((σ.sc u s true).sh u s v).sa 7 s (σ.a 7 s + 1))
def plcn (u : Nat) (v : Int32) : Nat → ST → Nat
  | 0, _ => 0
  | k + 1, σ => match plc σ u 4 with
    | none => 0
    | some s => plcn u v k (((σ.sc u s true).sh u s v).sa 7 s (σ.a 7 s + 1)) + 1
theorem plc_some (σ : ST) (u : Nat) : ∀ n f, plc σ u n = some f → σ.cp u f = false ∧ σ.b 4 f = false
  | 0, f, h => by cases h
  | n + 1, f, h => by
    unfold plc at h
    split at h
    · rename_i hq
      cases h
      exact ⟨hq.2.1, hq.1⟩
    · exact plc_some σ u n f h
theorem cpc_set (σ : ST) (u s : Nat) (hs : σ.cp u s = false) : ∀ n, cpc (σ.sc u s true) u n = cpc σ u n + (if s < n then 1 else 0)
  | 0 => rfl
  | n + 1 => by
    unfold cpc
    rw [cpc_set σ u s hs n]
    have e : (σ.sc u s true).cp u n = if n = s then true else σ.cp u n := by
      show f2 σ.cp u s true u n = _
      unfold f2
      by_cases h : n = s
      · simp [h]
      · simp [h]
    rw [e]
    by_cases h : n = s
    · subst h
      simp [hs]
    · by_cases h2 : s < n
      · simp [h, h2, Nat.lt_succ_of_lt h2]
        omega
      · have h3 : ¬ s < n + 1 := by omega
        simp [h, h2, h3]
section REF2
variable (g : GG) {A : Nat → Nat → Nat} {σ ρ : ST} {x : XT} {M : Mem}
theorem latn_lt {σ : ST} {o : Nat} : ∀ n, (∃ k, k < n ∧ σ.b 0 (10 * o + k) = true) → 10 * o ≤ latn σ o n ∧ latn σ o n < 10 * o + n ∧ σ.b 0 (latn σ o n) = true
  | 0, h => by obtain ⟨k, h1, _⟩ := h; omega
  | n + 1, h => by
    unfold latn
    by_cases hq : σ.b 0 (10 * o + n) = true
    · rw [if_pos hq]
      exact ⟨by omega, by omega, hq⟩
    · rw [if_neg hq]
      obtain ⟨k, h1, h2⟩ := h
      have hk : k ≠ n := fun e => hq (by rw [← e]; exact h2)
      have := latn_lt n ⟨k, by omega, h2⟩
      exact ⟨this.1, by omega, this.2.2⟩
end REF2
