/-! the class: a version is made -/
theorem ufn_alk (σ : ST) (d : Bool) (v : Int32) : ∀ n f, ufn σ d v n = some f → σ.b 1 f = true ∧ σ.b 2 f = d ∧ σ.i 2 f = v
  | 0, f, h => by cases h
  | n + 1, f, h => by
    unfold ufn at h
    split at h
    · rename_i hq
      cases h
      exact hq
    · exact ufn_alk σ d v n f h
theorem chf_old {σ τ : ST} (hw : WF σ) (h3 : τ.a 3 = σ.a 3) (h4 : τ.a 4 = σ.a 4) (h2 : ∀ u, u < σ.un → τ.b 2 u = σ.b 2 u) : ∀ n v, vok σ v → chf τ n v = chf σ n v
  | 0, _, _ => rfl
  | n + 1, v, hv => by
    have e3 : τ.a 3 v = σ.a 3 v := congrFun h3 v
    have e4 : τ.a 4 v = σ.a 4 v := congrFun h4 v
    unfold chf
    rw [e3, e4, h2 _ (hw.2.2.1 v hv).1]
    by_cases hd : σ.b 2 (σ.a 3 v) = true
    · rw [if_pos hd, if_pos hd, chf_old hw h3 h4 h2 n _ (hw.bas hv hd).2]
    · rw [if_neg hd, if_neg hd]
theorem chL_old {σ τ : ST} (hw : WF σ) (h3 : τ.a 3 = σ.a 3) (h4 : τ.a 4 = σ.a 4) (h2 : ∀ u, u < σ.un → τ.b 2 u = σ.b 2 u) {v : Nat} (hv : vok σ v) : chL τ v = chL σ v := chf_old hw h3 h4 h2 _ v hv
/-- what obtain leaves alone -/
theorem obS_old (σ : ST) (w : Nat) (d : Bool) (v : Int32) (cap : Nat) : (∀ i, i ≠ 2 → (obS σ w d v cap).n i = σ.n i) ∧ (∀ k, k < 5 → (obS σ w d v cap).a k = σ.a k) ∧ (σ.un ≤ (obS σ w d v cap).un ∧ (obS σ w d v cap).un ≤ σ.un + 1 ∧ adF σ d v < (obS σ w d v cap).un) ∧ (obS σ w d v cap).i 4 = σ.i 4 ∧ (∀ u, u < σ.un → (obS σ w d v cap).b 2 u = σ.b 2 u) ∧ (obS σ w d v cap).b 0 = σ.b 0 ∧ (ufn σ d v σ.un = none → (obS σ w d v cap).un = σ.un + 1 ∧ adF σ d v = σ.un) ∧ (obS σ w d v cap).b 2 (adF σ d v) = d := by
  unfold obS adF
  cases hu : ufn σ d v σ.un with
  | none =>
    obtain ⟨h1, h2, h3, h4, h5⟩ := plcs_same σ.un v ((nuS σ d v w cap).a 5 σ.un - cpc (nuS σ d v w cap) σ.un 4) (nuS σ d v w cap)
    have e1 : ∀ i, (plK (nuS σ d v w cap) σ.un v).n i = (nuS σ d v w cap).n i := congrFun h1
    have eun : (nuS σ d v w cap).un = σ.un + 1 := by simp [nuS, ST.n, ST.sn, ST.sa, ST.sb, ST.si, f1]
    have en : (plK (nuS σ d v w cap) σ.un v).un = σ.un + 1 := (e1 2).trans eun
    refine ⟨fun i hi => (e1 i).trans (by simp [nuS, ST.n, ST.sn, ST.sa, ST.sb, ST.si, f1, hi]), fun k hk => (h2 k (by omega)).trans ?_, ⟨?_, ?_, ?_⟩, ?_, fun u hu' => ?_, ?_, fun _ => ⟨en, rfl⟩, ?_⟩
    · funext j
      have k5 : k ≠ 5 := by omega
      have k6 : k ≠ 6 := by omega
      have k8 : k ≠ 8 := by omega
      have k9 : k ≠ 9 := by omega
      simp [nuS, ST.a, ST.sn, ST.sa, ST.sb, ST.si, f2, k5, k6, k8, k9]
    · show σ.un ≤ (plK (nuS σ d v w cap) σ.un v).un
      omega
    · show (plK (nuS σ d v w cap) σ.un v).un ≤ σ.un + 1
      omega
    · show σ.un < (plK (nuS σ d v w cap) σ.un v).un
      omega
    · exact (congrFun h3 4).trans (funext fun j => by simp [nuS, ST.sn, ST.sa, ST.sb, ST.si, f2, ST.i])
    · refine (congrFun (congrFun h4 2) u).trans ?_
      have : u ≠ σ.un := by omega
      simp [nuS, ST.sn, ST.sa, ST.sb, ST.si, f2, ST.b, this]
    · exact (congrFun h4 0).trans (funext fun j => by simp [nuS, ST.sn, ST.sa, ST.sb, ST.si, f2, ST.b])
    · exact (congrFun (congrFun h4 2) σ.un).trans (by simp [nuS, ST.sn, ST.sa, ST.sb, ST.si, f2])
  | some f =>
    obtain ⟨h1, h2, h3, h4, h5⟩ := plG_same (σ.sa 5 f (if w < σ.a 5 f then σ.a 5 f else w)) f
    have hf := ufn_lt σ d v σ.un f hu
    have en : (plG (σ.sa 5 f (if w < σ.a 5 f then σ.a 5 f else w)) f).un = σ.un := congrFun h1 2
    refine ⟨fun i _ => congrFun h1 i, fun k hk => (h2 k (by omega)).trans (f2_a (by omega)), ⟨?_, ?_, ?_⟩, congrFun h3 4, fun u _ => congrFun (congrFun h4 2) u, congrFun h4 0, (fun q => by cases q), ?_⟩
    · show σ.un ≤ (plG (σ.sa 5 f (if w < σ.a 5 f then σ.a 5 f else w)) f).un
      omega
    · show (plG (σ.sa 5 f (if w < σ.a 5 f then σ.a 5 f else w)) f).un ≤ σ.un + 1
      omega
    · show f < (plG (σ.sa 5 f (if w < σ.a 5 f then σ.a 5 f else w)) f).un
      omega
    · refine (congrFun (congrFun h4 2) f).trans ?_
      exact (ufn_alk σ d v σ.un f hu).2.1
