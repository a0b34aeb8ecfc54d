/-! the lists' room behind makeVersion -/
theorem obS_a8 (σ : ST) (w : Nat) (d : Bool) (v : Int32) (cap : Nat) : (ufn σ d v σ.un = none ∧ (∀ i, (obS σ w d v cap).a 8 i = if i = 0 then cap else σ.a 8 i)) ∨ ((obS σ w d v cap).un = σ.un ∧ ∀ i, (obS σ w d v cap).a 8 i = σ.a 8 i) := by
  unfold obS
  cases hu : ufn σ d v σ.un with
  | none =>
    left
    refine ⟨rfl, fun i => ?_⟩
    have h2 := (plcs_same σ.un v ((nuS σ d v w cap).a 5 σ.un - cpc (nuS σ d v w cap) σ.un 4) (nuS σ d v w cap)).2.1 8 (by decide)
    refine (congrFun h2 i).trans ?_
    simp [nuS, ST.a, ST.sn, ST.sa, ST.sb, ST.si, f2]
  | some f =>
    right
    obtain ⟨h1, h2, -⟩ := plG_same (σ.sa 5 f (if w < σ.a 5 f then σ.a 5 f else w)) f
    exact ⟨congrFun h1 2, fun i => (congrFun (h2 8 (by decide)) i).trans (show f2 σ.2.1 5 f (if w < σ.a 5 f then σ.a 5 f else w) 8 i = σ.2.1 8 i from f2_n (fun z => absurd z.1 (by decide)))⟩
theorem obS_CAP {σ : ST} (hC : CAP σ) (w : Nat) (d : Bool) (v : Int32) {cap : Nat} (h1 : σ.un + 1 ≤ cap) (h2 : cap ≤ 150) : CAP (obS σ w d v cap) := by
  obtain ⟨t1, t2, t3, -⟩ := obS_old σ w d v cap
  have eo : (obS σ w d v cap).ob = σ.ob := t1 1 (by decide)
  have e1 : ∀ o, (obS σ w d v cap).a 1 o = σ.a 1 o := congrFun (t2 1 (by decide))
  obtain ⟨c1, c2, c3, c4, c5⟩ := hC
  rcases obS_a8 σ w d v cap with ⟨-, h8⟩ | ⟨eu, h8⟩
  · refine ⟨Or.inl ?_, ?_, ?_, ?_, fun o ho => ?_⟩
    · rw [h8, if_pos rfl]
      omega
    · rw [h8, if_pos rfl]
      exact h2
    · rw [eo, h8, if_neg (by decide)]
      exact c3
    · rw [h8, if_neg (by decide)]
      exact c4
    · rw [e1, h8, if_neg (by omega)]
      exact c5 o (by rw [← eo]; exact ho)
  · refine ⟨?_, ?_, ?_, ?_, fun o ho => ?_⟩
    · rw [eu, h8]
      exact c1
    · rw [h8]
      exact c2
    · rw [eo, h8]
      exact c3
    · rw [h8]
      exact c4
    · rw [e1, h8]
      exact c5 o (by rw [← eo]; exact ho)
theorem agr.CAP {σ τ : ST} (h : agr σ τ) (hC : CAP σ) : CAP τ := CAP.eq hC h.1 (h.2.1 1 (by decide) (by decide)) (h.2.1 8 (by decide) (by decide))
theorem agr.WF {σ τ : ST} (h : agr σ τ) (hw : WF σ) : WF τ := by
  have e1 : ∀ o, τ.a 1 o = σ.a 1 o := congrFun (h.2.1 1 (by decide) (by decide))
  have e3 : ∀ o, τ.a 3 o = σ.a 3 o := congrFun (h.2.1 3 (by decide) (by decide))
  have e4 : ∀ o, τ.a 4 o = σ.a 4 o := congrFun (h.2.1 4 (by decide) (by decide))
  have b1 : ∀ i o, τ.b i o = σ.b i o := fun i o => by rw [h.2.2.2.1]
  unfold Jvm.Pilot.CFixityhallLaw_law_r7320_c6f90e.WF Jvm.Pilot.CFixityhallLaw_law_r7320_c6f90e.vok at hw ⊢
  simp only [h.un, h.ob, e1, e3, e4, b1]
  exact hw
