/-! the calls on copies and sites, on: closing, audits, replication -/
theorem clS_same (s : Nat) : ∀ (n : Nat) (σ : ST), (clS s n σ).1 = σ.1 ∧ (clS s n σ).2.1 = σ.2.1 ∧ (clS s n σ).2.2.1 = σ.2.2.1 ∧ (clS s n σ).2.2.2.1 = σ.2.2.2.1 ∧ (clS s n σ).2.2.2.2.1 = σ.2.2.2.2.1 ∧ (clS s n σ).2.2.2.2.2.1 = σ.2.2.2.2.2.1
  | 0, σ => ⟨rfl, rfl, rfl, rfl, rfl, rfl⟩
  | n + 1, σ => clS_same s n σ
theorem clS_cp (s : Nat) (σ : ST) : ∀ (n u t : Nat), (clS s n σ).cp u t = if u < n ∧ t = s then false else σ.cp u t
  | 0, u, t => by rw [if_neg (by omega)]; rfl
  | n + 1, u, t => by
    show f2 (clS s n σ).cp n s false u t = _
    unfold f2
    by_cases h : u = n ∧ t = s
    · rw [if_pos h, if_pos ⟨by omega, h.2⟩]
    · rw [if_neg h, clS_cp s σ n u t]
      by_cases h2 : u < n ∧ t = s
      · rw [if_pos h2, if_pos ⟨by omega, h2.2⟩]
      · rw [if_neg h2, if_neg (fun q => ?_)]
        by_cases h3 : u = n
        · exact h ⟨h3, q.2⟩
        · exact h2 ⟨by omega, q.2⟩
theorem clN_le (σ : ST) (s : Nat) : ∀ n, clN σ s n ≤ n
  | 0 => Nat.le_refl 0
  | n + 1 => by
    have h := clN_le σ s n
    unfold clN
    split <;> omega
/-- the next copy in turn from the place i behind the last one -/
def nxf (σ : ST) : Nat → Nat → Option Nat
  | 0, _ => none
  | n + 1, i => if σ.cp ((σ.la + i) % 400 / 4) ((σ.la + i) % 400 % 4) = true then some ((σ.la + i) % 400) else nxf σ n (i + 1)
def nxt (σ : ST) : Option Nat := nxf σ 400 0
theorem nxf_some (σ : ST) : ∀ n i m, nxf σ n i = some m → m < 400 ∧ σ.cp (m / 4) (m % 4) = true
  | 0, i, m, h => by cases h
  | n + 1, i, m, h => by
    unfold nxf at h
    split at h
    · rename_i hq
      cases h
      exact ⟨Nat.mod_lt _ (by decide), hq⟩
    · exact nxf_some σ n (i + 1) m h
theorem nxf_none (σ : ST) : ∀ n i, nxf σ n i = none → ∀ j, j < n → σ.cp ((σ.la + (i + j)) % 400 / 4) ((σ.la + (i + j)) % 400 % 4) = false
  | 0, i, h, j, hj => absurd hj (Nat.not_lt_zero j)
  | n + 1, i, h, j, hj => by
    unfold nxf at h
    split at h
    · cases h
    · rename_i hq
      cases j with
      | zero => simpa using hq
      | succ j =>
        have := nxf_none σ n (i + 1) h j (by omega)
        rw [show i + (j + 1) = i + 1 + j by omega]
        exact this
theorem nxt_ex {σ : ST} {m : Nat} (hm : m < 400) (hc : σ.cp (m / 4) (m % 4) = true) : ∃ k, nxt σ = some k := by
  cases h : nxt σ with
  | some k => exact ⟨k, rfl⟩
  | none =>
    exfalso
    have h1 := nxf_none σ 400 0 h ((m + 400 - σ.la % 400) % 400) (Nat.mod_lt _ (by decide))
    have e : (σ.la + (0 + (m + 400 - σ.la % 400) % 400)) % 400 = m := by omega
    rw [e, hc] at h1
    cases h1
/-- one copy is audited -/
def au1 (σ : ST) : ST := match nxt σ with
  | none => σ
  | some m => match good (σ.sn 3 (m + 1)) (m / 4) with
    | none => σ.sn 3 (m + 1)
    | some f => if σ.hs (m / 4) (m % 4) = σ.hs (m / 4) f then σ.sn 3 (m + 1) else (σ.sn 3 (m + 1)).sh (m / 4) (m % 4) (σ.hs (m / 4) f)
def au1n (σ : ST) : Nat := match nxt σ with
  | none => 0
  | some m => match good (σ.sn 3 (m + 1)) (m / 4) with
    | none => 0
    | some f => if σ.hs (m / 4) (m % 4) = σ.hs (m / 4) f then 0 else 1
def auS : Nat → ST → ST
  | 0, σ => σ
  | n + 1, σ => auS n (au1 σ)
def auN : Nat → ST → Nat
  | 0, _ => 0
  | n + 1, σ => au1n σ + auN n (au1 σ)
def o_audit (σ : ST) (k : Int32) : OP := if inK 1 100 k = true then (if (nxt σ).isSome = true then (0, nI (auN (tN k) σ), auS (tN k) σ) else (2, nI 0, σ)) else (1, nI 0, σ)
theorem au1_same (σ : ST) : (∀ i, i ≠ 3 → (au1 σ).n i = σ.n i) ∧ (au1 σ).2.1 = σ.2.1 ∧ (au1 σ).2.2.1 = σ.2.2.1 ∧ (au1 σ).2.2.2.1 = σ.2.2.2.1 ∧ (au1 σ).lo = σ.lo ∧ (au1 σ).cp = σ.cp := by
  have h3 : ∀ m i, i ≠ 3 → (σ.sn 3 m).n i = σ.n i := fun m i hi => f1_n hi
  unfold au1
  cases nxt σ with
  | none => exact ⟨fun _ _ => rfl, rfl, rfl, rfl, rfl, rfl⟩
  | some m =>
    simp only []
    cases good (σ.sn 3 (m + 1)) (m / 4) with
    | none => exact ⟨h3 _, rfl, rfl, rfl, rfl, rfl⟩
    | some f =>
      simp only []
      split
      · exact ⟨h3 _, rfl, rfl, rfl, rfl, rfl⟩
      · exact ⟨h3 _, rfl, rfl, rfl, rfl, rfl⟩
theorem au1_la {σ : ST} (h : σ.la ≤ 400) : (au1 σ).la ≤ 400 := by
  unfold au1
  cases hm : nxt σ with
  | none => exact h
  | some m =>
    have hm4 := (nxf_some σ 400 0 m hm).1
    have h3 : (σ.sn 3 (m + 1)).la ≤ 400 := by
      show f1 σ.1 3 (m + 1) 3 ≤ 400
      rw [f1_s]
      omega
    simp only []
    cases good (σ.sn 3 (m + 1)) (m / 4) with
    | none => exact h3
    | some f =>
      simp only []
      split
      · exact h3
      · exact h3
theorem la_ix (a b : Nat) : nI a - 1 + nI (b + 1) = nI (a + b) := by
  rw [nI_succ b, Int32.add_comm (nI b) 1, ← Int32.add_assoc, Int32.sub_add_cancel, nI_add]
section REFD
variable (g : GG) {A : Nat → Nat → Nat} {σ ρ : ST} {x : XT} {M : Mem}
end REFD
