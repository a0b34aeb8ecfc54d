/-! what is given back is what the reference removes -/
theorem cntB_eq {f h : Nat → Bool} : ∀ n, (∀ i, i < n → f i = h i) → cntB f n = cntB h n
  | 0, _ => rfl
  | n + 1, hq => by
    unfold cntB
    rw [cntB_eq n (fun i hi => hq i (by omega)), hq n (by omega)]
theorem cntB_0 : ∀ n, cntB (fun _ => false) n = 0
  | 0 => rfl
  | n + 1 => by
    unfold cntB
    rw [cntB_0 n, if_neg (by decide)]
theorem cntB_one {f h : Nat → Bool} {u : Nat} (hf : f u = true) (hh : h u = false) (hq : ∀ i, i ≠ u → f i = h i) : ∀ n, u < n → cntB f n = cntB h n + 1
  | 0, hu => absurd hu (Nat.not_lt_zero u)
  | n + 1, hu => by
    unfold cntB
    by_cases hn : u = n
    · rw [cntB_eq n (fun i hi => hq i (by omega)), ← hn, hf, hh, if_pos rfl, if_neg (by decide)]
    · rw [cntB_one hf hh hq n (by omega), hq n (fun e => hn e.symm)]
      omega
theorem sa6_at (τ : ST) (u0 v u : Nat) : (τ.sa 6 u0 v).a 6 u = if u = u0 then v else τ.a 6 u := by
  show f2 τ.2.1 6 u0 v 6 u = _
  by_cases hq : u = u0
  · rw [hq, f2_s, if_pos rfl]
  · rw [f2_n (fun z => hq z.2), if_neg hq]
    rfl
theorem relN_cnt {σ : ST} {N : Nat} : ∀ (l : List Nat) (τ : ST), agr σ τ → (∀ u, cnL σ u l ≤ τ.a 6 u) → (∀ w, w ∈ l → σ.a 3 w < N) → relN l τ = cntB (fun u => decide (0 < cnL σ u l ∧ τ.a 6 u = cnL σ u l)) N
  | [], τ, _, _, _ => by
    show 0 = _
    rw [cntB_eq N (h := fun _ => false) (fun i _ => decide_eq_false (fun q => absurd q.1 (Nat.lt_irrefl 0))), cntB_0]
  | w :: l, τ, ha, hg, hN => by
    have hu0 := hN w List.mem_cons_self
    have e6 := sa6_at τ (σ.a 3 w) (τ.a 6 (σ.a 3 w) - 1)
    have hc : ∀ u, cnL σ u (w :: l) = cnL σ u l + (if σ.a 3 w = u then 1 else 0) := fun _ => rfl
    have hc0 : cnL σ (σ.a 3 w) (w :: l) = cnL σ (σ.a 3 w) l + 1 := by rw [hc, if_pos rfl]
    have hcn : ∀ u, u ≠ σ.a 3 w → cnL σ u (w :: l) = cnL σ u l := fun u hu => by rw [hc, if_neg (fun e => hu e.symm), Nat.add_zero]
    have h0 := hg (σ.a 3 w)
    rw [hc0] at h0
    have ha2 := ha.trans (agr.sa6 τ (σ.a 3 w) (τ.a 6 (σ.a 3 w) - 1))
    have hg2 : ∀ u, cnL σ u l ≤ (τ.sa 6 (σ.a 3 w) (τ.a 6 (σ.a 3 w) - 1)).a 6 u := fun u => by
      rw [e6]
      by_cases hq : u = σ.a 3 w
      · rw [if_pos hq, hq]
        omega
      · rw [if_neg hq, ← hcn u hq]
        exact hg u
    have hN2 : ∀ w', w' ∈ l → σ.a 3 w' < N := fun w' h => hN w' (List.mem_cons_of_mem _ h)
    have en : relN (w :: l) τ = if τ.a 6 (σ.a 3 w) - 1 = 0 then relN l (drA (τ.sa 6 (σ.a 3 w) (τ.a 6 (σ.a 3 w) - 1)) (σ.a 3 w) 4) + 1 else relN l (τ.sa 6 (σ.a 3 w) (τ.a 6 (σ.a 3 w) - 1)) := by rw [← ha.a3 w]; rfl
    rw [en]
    by_cases hz : τ.a 6 (σ.a 3 w) - 1 = 0
    · have e63 : (drA (τ.sa 6 (σ.a 3 w) (τ.a 6 (σ.a 3 w) - 1)) (σ.a 3 w) 4).a 6 = (τ.sa 6 (σ.a 3 w) (τ.a 6 (σ.a 3 w) - 1)).a 6 := (drA_same _ _ 4).2.1 6 (by decide)
      rw [if_pos hz, relN_cnt l _ (ha2.trans (agr.drA _ _ 4)) (fun u => by rw [e63]; exact hg2 u) hN2]
      refine (cntB_one (u := σ.a 3 w) ?_ ?_ (fun i hi => ?_) N hu0).symm
      · exact decide_eq_true ⟨by omega, by omega⟩
      · refine decide_eq_false (fun q => ?_)
        have k := q.2
        rw [e63, e6, if_pos rfl] at k
        omega
      · show decide _ = decide _
        rw [e63, e6, if_neg hi, hcn i hi]
    · rw [if_neg hz, relN_cnt l _ ha2 hg2 hN2]
      refine cntB_eq N (fun i _ => ?_)
      show decide _ = decide _
      rw [e6]
      by_cases hi : i = σ.a 3 w
      · rw [if_pos hi, hi, hc0]
        refine decide_eq_decide.mpr ⟨fun q => ⟨by omega, by omega⟩, fun q => ⟨by omega, by omega⟩⟩
      · rw [if_neg hi, hcn i hi]
theorem pgS_b1 {σ : ST} : ∀ n k, n ≤ k → (pgS σ n).b 1 k = σ.b 1 k
  | 0, _, _ => rfl
  | n + 1, k, hk => by
    have ih := pgS_b1 (σ := σ) n k (by omega)
    unfold pgS
    split
    · have h4 := (clC_same n 4 ((pgS σ n).sb 1 n false)).2.2.2.1
      have e : (clU (pgS σ n) n).b 1 k = ((pgS σ n).sb 1 n false).b 1 k := congrFun (congrFun h4 1) k
      rw [e]
      show f2 (pgS σ n).2.2.2.1 1 n false 1 k = _
      rw [f2_n (fun z => by have := z.2; omega)]
      exact ih
    · exact ih
theorem pgN_cnt {σ : ST} : ∀ n, pgN σ n = cntB (fun u => σ.b 1 u && !ndd σ u 100) n
  | 0 => rfl
  | n + 1 => by
    unfold pgN cntB
    rw [pgN_cnt n, pgS_b1 n n (Nat.le_refl n)]
    refine congrArg (fun z => cntB (fun u => σ.b 1 u && !ndd σ u 100) n + z) ?_
    cases σ.b 1 n <;> cases ndd σ n 100 <;> rfl
