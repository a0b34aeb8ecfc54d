/-! the class: what versions claim, and what is given back -/
/-- the same but for needs, loads and copies -/
def agr (σ τ : ST) : Prop := τ.1 = σ.1 ∧ (∀ k, k ≠ 6 → k ≠ 7 → τ.a k = σ.a k) ∧ τ.2.2.1 = σ.2.2.1 ∧ τ.b = σ.b ∧ τ.hs = σ.hs ∧ τ.lo = σ.lo
theorem agr.refl (σ : ST) : agr σ σ := ⟨rfl, fun _ _ _ => rfl, rfl, rfl, rfl, rfl⟩
theorem agr.trans {σ τ υ : ST} (h : agr σ τ) (k : agr τ υ) : agr σ υ := ⟨k.1.trans h.1, fun i h6 h7 => (k.2.1 i h6 h7).trans (h.2.1 i h6 h7), k.2.2.1.trans h.2.2.1, k.2.2.2.1.trans h.2.2.2.1, k.2.2.2.2.1.trans h.2.2.2.2.1, k.2.2.2.2.2.trans h.2.2.2.2.2⟩
theorem agr.sa6 (σ : ST) (u v : Nat) : agr σ (σ.sa 6 u v) := ⟨rfl, fun i h6 _ => f2_a h6, rfl, rfl, rfl, rfl⟩
theorem agr.drA (σ : ST) (u n : Nat) : agr σ (drA σ u n) := by
  obtain ⟨h1, h2, h3, h4, h5, h6, -⟩ := drA_same σ u n
  exact ⟨h1, fun i _ h7 => h2 i h7, h3, h4, h5, h6⟩
theorem agr.un {σ τ : ST} (h : agr σ τ) : τ.un = σ.un := congrFun h.1 2
theorem agr.ob {σ τ : ST} (h : agr σ τ) : τ.ob = σ.ob := congrFun h.1 1
theorem agr.a3 {σ τ : ST} (h : agr σ τ) (w : Nat) : τ.a 3 w = σ.a 3 w := congrFun (h.2.1 3 (by decide) (by decide)) w
theorem agr.vok {σ τ : ST} (h : agr σ τ) {v : Nat} (hv : vok σ v) : vok τ v := by
  have e1 : ∀ o, τ.a 1 o = σ.a 1 o := congrFun (h.2.1 1 (by decide) (by decide))
  unfold Jvm.Pilot.CFixityhallLaw_law_r7320_c6f90e.vok at hv ⊢
  rw [h.ob, e1]
  exact hv
theorem agr.nx {σ τ : ST} (h : agr σ τ) (A : Nat → Nat → Nat) (w : Nat) : nx A τ w = nx A σ w := by
  have e4 : ∀ o, τ.a 4 o = σ.a 4 o := congrFun (h.2.1 4 (by decide) (by decide))
  have e2 : ∀ o, τ.b 2 o = σ.b 2 o := fun o => congrFun (congrFun h.2.2.2.1 2) o
  unfold Jvm.Pilot.CFixityhallLaw_law_r7320_c6f90e.nx
  rw [e2, h.a3, e4]
/-- a version's cell, its base told -/
theorem W2.vern {g : GG} {A : Nat → Nat → Nat} {σ τ ρ : ST} {x : XT} {M : Mem} (h : W2 g A τ ρ x M) (ha : agr σ τ) {w : Nat} (hv : vok σ w) : M (A 19 w) = some (ob 5 [.ref (A 13 (σ.a 3 w)), nx A σ w, .int (nI (τ.a 2 w)), .int (τ.i 4 w), .int (bI (τ.b 0 w))]) := by
  have k := h.ver (ha.vok hv)
  have e : (if τ.b 2 (τ.a 3 w) = true then Value.ref (A 19 (τ.a 4 w)) else Value.null) = nx A σ w := ha.nx A w
  rw [e, ha.a3] at k
  exact k
/-- the units on a way are needed once more each -/
def clm : List Nat → ST → ST
  | [], τ => τ
  | w :: l, τ => clm l (τ.sa 6 (τ.a 3 w) (τ.a 6 (τ.a 3 w) + 1))
/-- the units on a way are needed once less each; who is not needed is dropped -/
def relS : List Nat → ST → ST
  | [], τ => τ
  | w :: l, τ => if τ.a 6 (τ.a 3 w) - 1 = 0 then relS l (drA (τ.sa 6 (τ.a 3 w) (τ.a 6 (τ.a 3 w) - 1)) (τ.a 3 w) 4) else relS l (τ.sa 6 (τ.a 3 w) (τ.a 6 (τ.a 3 w) - 1))
def relN : List Nat → ST → Nat
  | [], _ => 0
  | w :: l, τ => if τ.a 6 (τ.a 3 w) - 1 = 0 then relN l (drA (τ.sa 6 (τ.a 3 w) (τ.a 6 (τ.a 3 w) - 1)) (τ.a 3 w) 4) + 1 else relN l (τ.sa 6 (τ.a 3 w) (τ.a 6 (τ.a 3 w) - 1))
/-- how often a unit stands on a way -/
def cnL (σ : ST) (u : Nat) : List Nat → Nat
  | [] => 0
  | w :: l => cnL σ u l + (if σ.a 3 w = u then 1 else 0)
section NEEDS
variable (g : GG) {A : Nat → Nat → Nat} {σ ρ : ST} {x : XT} {M : Mem}
theorem c_X4_claimUnits {F : Mem → Prop} (hW : W2 g A σ ρ x M) (hw : WF σ) {r u : Nat} {B : Value} {vs : List Value} (hu : u < σ.un) (hF : ∀ M1 e w, w < σ.un → F M1 → F (mset M1 (A 13 w) e)) (hM : F M) (hr : ∀ M1, F M1 → M1 r = some (ob 5 (.ref (A 13 u) :: B :: vs))) {l : List Nat} (hB : (B = .null ∧ l = []) ∨ ∃ b, vok σ b ∧ B = .ref (A 19 b) ∧ l = chL σ b) : con g mX4_claimUnits 0 0 [.ref r] M (rQ none (fun M' => W2 g A (clm l (σ.sa 6 u (σ.a 6 u + 1))) ρ x M' ∧ F M')) := by
  refine con_i ?_ (by decide) rfl rfl (by simp [lv_args, Value.category]) (by simp [lv_args, lnd, Value.category])
  have hnil : ∀ (τ : ST) (M' : Mem), W2 g A τ ρ x M' → F M' → tri g mX4_claimUnits 0 0 (rQ none (fun M' => W2 g A (clm [] τ) ρ x M' ∧ F M')) M' 2 [(0, .ref r), (1, .null)] [] := by
    intro τ M' h hr'
    refine z_aload_n dX4_claimUnits_2 rfl rfl ?_
    refine z_ifnull (tgt := 27) rfl dX4_claimUnits_3 (by decide) (fun h3 => ?_) (fun h3 => ?_)
    · refine z_return dX4_claimUnits_27 rfl ?_
      exact rQ_of ⟨h, hr'⟩
    · exact absurd rfl h3
  have loop : ∀ n w, w < n → vok σ w → ∀ (τ : ST) (M' : Mem), W2 g A τ ρ x M' → agr σ τ → F M' → tri g mX4_claimUnits 0 0 (rQ none (fun M' => W2 g A (clm (chL σ w) τ) ρ x M' ∧ F M')) M' 2 [(0, .ref r), (1, .ref (A 19 w))] [] := by
    refine way_ind (A := A) hw (fun p l => ∀ (τ : ST) (M' : Mem), W2 g A τ ρ x M' → agr σ τ → F M' → tri g mX4_claimUnits 0 0 (rQ none (fun M' => W2 g A (clm l τ) ρ x M' ∧ F M')) M' 2 [(0, .ref r), (1, p)] []) ?_ ?_
    · intro τ M' h _ hr'
      exact hnil τ M' h hr'
    · intro w l hw' hT τ M' h ha hr'
      have hver := h.vern ha hw'
      have hu := (hw.2.2.1 w hw').1
      have hun := h.unit (i := σ.a 3 w) (by rw [ha.un]; exact hu)
      have h2 := h.cneeds (σ.a 3 w) (by rw [ha.un]; exact hu) (τ.a 6 (σ.a 3 w) + 1)
      have ha2 := ha.trans (agr.sa6 τ (σ.a 3 w) (τ.a 6 (σ.a 3 w) + 1))
      have hver2 := h2.vern ha2 hw'
      have ec : clm (w :: l) τ = clm l (τ.sa 6 (σ.a 3 w) (τ.a 6 (σ.a 3 w) + 1)) := by rw [← ha.a3 w]; rfl
      rw [ec]
      refine z_aload_n dX4_claimUnits_2 rfl rfl ?_
      refine z_ifnull (tgt := 27) rfl dX4_claimUnits_3 (by decide) (fun h3 => ?_) (fun h3 => ?_)
      · cases h3
      · refine z_aload_n dX4_claimUnits_6 rfl rfl ?_
        refine z_getfield dX4_claimUnits_7 fg_RX4_15 (by assumption) rfl ?_
        refine z_dup dX4_claimUnits_10 rfl ?_
        refine z_getfield dX4_claimUnits_11 fg_RX4_30 (by assumption) rfl ?_
        refine z_ic ki_1 dX4_claimUnits_14 ?_
        refine z_iadd dX4_claimUnits_15 ?_
        rw [nI_add]
        refine z_putfield dX4_claimUnits_16 (fp_RX4_30 _) (by assumption) (Nat.le_of_ble_eq_true rfl) rfl rfl ?_
        refine z_aload_n dX4_claimUnits_19 rfl rfl ?_
        refine z_getfield dX4_claimUnits_20 fg_RX4_19 hver2 rfl ?_
        refine z_astore_n dX4_claimUnits_23 (by decide) nx_ref ?_
        refine z_goto (tgt := 2) dX4_claimUnits_24 (by decide) ?_
        exact hT _ _ h2 ha2 (hF _ _ _ hu hr')
  have hun := hW.unit hu
  have h2 := hW.cneeds u hu (σ.a 6 u + 1)
  have ha2 := agr.sa6 σ u (σ.a 6 u + 1)
  have hM2 := hF M (ob 4 [.int (nI u), .int (bI (σ.b 2 u)), .int (σ.i 2 u), .int (dig (σ.i 2 u)), .ref (A 14 u), .ref (A 15 u), .int (nI (σ.a 5 u)), .int (nI (σ.a 6 u + 1))]) u hu hM
  have hr1 := hr _ hM
  have hr2 := hr _ hM2
  have hBr : B.isRef = true := by
    rcases hB with ⟨rfl, -⟩ | ⟨b, -, rfl, -⟩ <;> rfl
  refine z_aload_n dX4_claimUnits_0 rfl rfl ?_
  refine z_astore_n dX4_claimUnits_1 (by decide) rfl ?_
  refine z_aload_n dX4_claimUnits_2 rfl rfl ?_
  refine z_ifnull (tgt := 27) rfl dX4_claimUnits_3 (by decide) (fun h3 => ?_) (fun h3 => ?_)
  · cases h3
  · refine z_aload_n dX4_claimUnits_6 rfl rfl ?_
    refine z_getfield dX4_claimUnits_7 fg_RX4_15 (by assumption) rfl ?_
    refine z_dup dX4_claimUnits_10 rfl ?_
    refine z_getfield dX4_claimUnits_11 fg_RX4_30 (by assumption) rfl ?_
    refine z_ic ki_1 dX4_claimUnits_14 ?_
    refine z_iadd dX4_claimUnits_15 ?_
    rw [nI_add]
    refine z_putfield dX4_claimUnits_16 (fp_RX4_30 _) (by assumption) (Nat.le_of_ble_eq_true rfl) rfl rfl ?_
    refine z_aload_n dX4_claimUnits_19 rfl rfl ?_
    refine z_getfield dX4_claimUnits_20 fg_RX4_19 hr2 rfl ?_
    refine z_astore_n dX4_claimUnits_23 (by decide) hBr ?_
    refine z_goto (tgt := 2) dX4_claimUnits_24 (by decide) ?_
    rcases hB with ⟨rfl, rfl⟩ | ⟨b, hb, rfl, rfl⟩
    · exact hnil _ _ h2 hM2
    · exact loop (b + 1) b (by omega) hb _ _ h2 ha2 hM2
theorem c_X2_release (hW : W2 g A σ ρ x M) (hw : WF σ) (hL : LD σ) {v : Nat} (hv : vok σ v) (h30 : ∀ u, u < σ.un → σ.a 6 u < 2 ^ 30) (hge : ∀ u, cnL σ u (chL σ v) ≤ σ.a 6 u) : con g mX2_release 0 0 [.ref (A 6 0), .ref (A 19 v)] M (rQ (some (.int (nI (relN (chL σ v) σ)))) (W2 g A (relS (chL σ v) σ) ρ x)) := by
  refine con_i ?_ (by decide) rfl rfl (by simp [lv_args, Value.category]) (by simp [lv_args, lnd, Value.category])
  have h100 := hw.1.2
  have loop : ∀ n w, w < n → vok σ w → ∀ (τ : ST) (M' : Mem) (c : Nat), W2 g A τ ρ x M' → agr σ τ → LD τ → (∀ u, u < σ.un → τ.a 6 u < 2 ^ 30) → (∀ u, cnL σ u (chL σ w) ≤ τ.a 6 u) → tri g mX2_release 0 0 (rQ (some (.int (nI (c + relN (chL σ w) τ)))) (W2 g A (relS (chL σ w) τ) ρ x)) M' 4 [(0, .ref (A 6 0)), (1, .ref (A 19 v)), (2, .int (nI c)), (3, .ref (A 19 w))] [] := by
    refine way_ind (A := A) hw (fun p l => ∀ (τ : ST) (M' : Mem) (c : Nat), W2 g A τ ρ x M' → agr σ τ → LD τ → (∀ u, u < σ.un → τ.a 6 u < 2 ^ 30) → (∀ u, cnL σ u l ≤ τ.a 6 u) → tri g mX2_release 0 0 (rQ (some (.int (nI (c + relN l τ)))) (W2 g A (relS l τ) ρ x)) M' 4 [(0, .ref (A 6 0)), (1, .ref (A 19 v)), (2, .int (nI c)), (3, p)] []) ?_ ?_
    · intro τ M' c h ha hl h6 hg
      refine z_aload_n dX2_release_4 rfl rfl ?_
      refine z_ifnull (tgt := 50) rfl dX2_release_5 (by decide) (fun h5 => ?_) (fun h5 => ?_)
      · refine z_iload_n dX2_release_50 rfl ?_
        refine z_ireturn dX2_release_51 rfl (by first | rfl | exact bI_nar _) ?_
        exact rQ_of h
      · exact absurd rfl h5
    · intro w l hw' hT τ M' c h ha hl h6 hg
      have hver := h.vern ha hw'
      have hu := (hw.2.2.1 w hw').1
      have huτ : σ.a 3 w < τ.un := by rw [ha.un]; exact hu
      have hun := h.unit huτ
      have h1 : 1 ≤ τ.a 6 (σ.a 3 w) := by
        have k := hg (σ.a 3 w)
        unfold cnL at k
        rw [if_pos rfl] at k
        omega
      have em : nI (τ.a 6 (σ.a 3 w)) - nI 1 = nI (τ.a 6 (σ.a 3 w) - 1) := pk_sub h1
      have h2 := h.cneeds (σ.a 3 w) huτ (τ.a 6 (σ.a 3 w) - 1)
      have ha2 := ha.trans (agr.sa6 τ (σ.a 3 w) (τ.a 6 (σ.a 3 w) - 1))
      have hver2 := h2.vern ha2 hw'
      have hun2 := h2.unit (i := σ.a 3 w) huτ
      have hS2 := h2.store
      have hl2 : LD (τ.sa 6 (σ.a 3 w) (τ.a 6 (σ.a 3 w) - 1)) := fun t ht => (hl t ht).trans (ldn_cp (σ := τ) (τ := τ.sa 6 (σ.a 3 w) (τ.a 6 (σ.a 3 w) - 1)) 100 (fun _ _ => rfl)).symm
      have e6 : ∀ u, (τ.sa 6 (σ.a 3 w) (τ.a 6 (σ.a 3 w) - 1)).a 6 u = if u = σ.a 3 w then τ.a 6 (σ.a 3 w) - 1 else τ.a 6 u := fun u => by
        show f2 τ.2.1 6 (σ.a 3 w) (τ.a 6 (σ.a 3 w) - 1) 6 u = _
        by_cases hq : u = σ.a 3 w
        · rw [hq, f2_s, if_pos rfl]
        · rw [f2_n (fun z => hq z.2), if_neg hq]
          rfl
      have h62 : ∀ u, u < σ.un → (τ.sa 6 (σ.a 3 w) (τ.a 6 (σ.a 3 w) - 1)).a 6 u < 2 ^ 30 := fun u hu' => by
        rw [e6]
        have k1 := h6 u hu'
        have k2 := h6 _ hu
        split <;> omega
      have hg2 : ∀ u, cnL σ u l ≤ (τ.sa 6 (σ.a 3 w) (τ.a 6 (σ.a 3 w) - 1)).a 6 u := fun u => by
        have k := hg u
        unfold cnL at k
        rw [e6]
        by_cases hq : u = σ.a 3 w
        · rw [if_pos hq, ← hq]
          rw [if_pos hq.symm] at k
          omega
        · rw [if_neg hq]
          omega
      have hnd := c_X3_isNeeded g h2 (u := σ.a 3 w) huτ (h62 _ hu)
      have es : relS (w :: l) τ = if τ.a 6 (σ.a 3 w) - 1 = 0 then relS l (drA (τ.sa 6 (σ.a 3 w) (τ.a 6 (σ.a 3 w) - 1)) (σ.a 3 w) 4) else relS l (τ.sa 6 (σ.a 3 w) (τ.a 6 (σ.a 3 w) - 1)) := by rw [← ha.a3 w]; rfl
      have en : relN (w :: l) τ = if τ.a 6 (σ.a 3 w) - 1 = 0 then relN l (drA (τ.sa 6 (σ.a 3 w) (τ.a 6 (σ.a 3 w) - 1)) (σ.a 3 w) 4) + 1 else relN l (τ.sa 6 (σ.a 3 w) (τ.a 6 (σ.a 3 w) - 1)) := by rw [← ha.a3 w]; rfl
      have e6w : (τ.sa 6 (σ.a 3 w) (τ.a 6 (σ.a 3 w) - 1)).a 6 (σ.a 3 w) = τ.a 6 (σ.a 3 w) - 1 := by rw [e6, if_pos rfl]
      rw [e6w] at hnd
      refine z_aload_n dX2_release_4 rfl rfl ?_
      refine z_ifnull (tgt := 50) rfl dX2_release_5 (by decide) (fun h5 => ?_) (fun h5 => ?_)
      · cases h5
      · refine z_aload_n dX2_release_8 rfl rfl ?_
        refine z_getfield dX2_release_9 fg_RX2_97 (by assumption) rfl ?_
        refine z_dup dX2_release_12 rfl ?_
        refine z_getfield dX2_release_13 fg_RX2_103 (by assumption) rfl ?_
        refine z_ic ki_1 dX2_release_16 ?_
        refine z_isub dX2_release_17 ?_
        rw [em]
        refine z_putfield dX2_release_18 (fp_RX2_103 _) (by assumption) (Nat.le_of_ble_eq_true rfl) rfl rfl ?_
        refine z_aload_n dX2_release_21 rfl rfl ?_
        refine z_getfield dX2_release_22 fg_RX2_97 hver2 rfl ?_
        refine z_ivI dX2_release_25 cv_RX2_40 hun2 (hnd) ⟨⟨by decide, by decide⟩, (by first | exact Nat.zero_le _ | decide | omega), (by first | exact Nat.zero_le _ | decide | omega)⟩ rfl rfl (Nat.le_of_ble_eq_true rfl) ?_
        refine z_if_ne (tgt := 42) dX2_release_28 (by decide) (fun h28 => ?_) (fun h28 => ?_)
        · have hnz : ¬ τ.a 6 (σ.a 3 w) - 1 = 0 := by
            have := of_decide_eq_true (yt h28)
            omega
          rw [es, en, if_neg hnz, if_neg hnz]
          refine z_aload_n dX2_release_42 rfl rfl ?_
          refine z_getfield dX2_release_43 fg_RX2_110 hver2 rfl ?_
          refine z_astore_n dX2_release_46 (by decide) nx_ref ?_
          refine z_goto (tgt := 4) dX2_release_47 (by decide) ?_
          exact hT _ _ c h2 ha2 hl2 h62 hg2
        · refine z_aload_n dX2_release_31 rfl rfl ?_
          refine z_aload_n dX2_release_32 rfl rfl ?_
          refine z_getfield dX2_release_33 fg_RX2_97 hver2 rfl ?_
          refine z_ivQ dX2_release_36 cv_RX2_106 hS2 (c_X2_dropAllOf g h2 hl2 (u := σ.a 3 w) huτ (by omega)) ⟨⟨by decide, by decide⟩, (by first | exact Nat.zero_le _ | decide | omega), (by first | exact Nat.zero_le _ | decide | omega)⟩ rfl rfl (Nat.le_of_ble_eq_true rfl) (fun M36 hQ36 => ?_)
          refine z_inc ki_1 dX2_release_39 rfl (by decide) ?_
          have hz : τ.a 6 (σ.a 3 w) - 1 = 0 := by
            have : ¬ 0 < τ.a 6 (σ.a 3 w) - 1 := of_decide_eq_false (by cases hb : decide (0 < τ.a 6 (σ.a 3 w) - 1) with | true => rw [hb] at h28; exact absurd h28 (by decide) | false => rfl)
            omega
          have had := agr.drA (τ.sa 6 (σ.a 3 w) (τ.a 6 (σ.a 3 w) - 1)) (σ.a 3 w) 4
          have ha3 := ha2.trans had
          have hver3 := hQ36.vern ha3 hw'
          have e63 : (drA (τ.sa 6 (σ.a 3 w) (τ.a 6 (σ.a 3 w) - 1)) (σ.a 3 w) 4).a 6 = (τ.sa 6 (σ.a 3 w) (τ.a 6 (σ.a 3 w) - 1)).a 6 := (drA_same _ _ 4).2.1 6 (by decide)
          rw [es, en, if_pos hz, if_pos hz]
          refine z_aload_n dX2_release_42 rfl rfl ?_
          refine z_getfield dX2_release_43 fg_RX2_110 hver3 rfl ?_
          refine z_astore_n dX2_release_46 (by decide) nx_ref ?_
          refine z_goto (tgt := 4) dX2_release_47 (by decide) ?_
          have k := hT _ _ (c + 1) hQ36 ha3 (hl2.drA (by omega) 4 (Nat.le_refl _)) (fun u hu' => by rw [e63]; exact h62 u hu') (fun u => by rw [e63]; exact hg2 u)
          rw [show c + 1 + relN l (drA (τ.sa 6 (σ.a 3 w) (τ.a 6 (σ.a 3 w) - 1)) (σ.a 3 w) 4) = c + (relN l (drA (τ.sa 6 (σ.a 3 w) (τ.a 6 (σ.a 3 w) - 1)) (σ.a 3 w) 4) + 1) by omega, ← nI_add c 1] at k
          exact k
  refine z_ic ki_0 dX2_release_0 ?_
  refine z_istore_n dX2_release_1 (by decide) ?_
  refine z_aload_n dX2_release_2 rfl rfl ?_
  refine z_astore_n dX2_release_3 (by decide) rfl ?_
  have k := loop (v + 1) v (by omega) hv σ M 0 hW (agr.refl σ) hL h30 hge
  rw [Nat.zero_add] at k
  exact k
end NEEDS
