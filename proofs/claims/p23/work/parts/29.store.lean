/-! the class: the store, what it reads -/
/-- what the counts of needs say -/
def ND (σ : ST) : Prop := ∀ u, u < σ.un → σ.a 6 u < 2 ^ 30 ∧ σ.b 1 u = decide (0 < σ.a 6 u)
/-- no two units that are there are alike -/
def UQ (σ : ST) : Prop := ∀ u w, u < σ.un → w < σ.un → σ.b 1 u = true → σ.b 1 w = true → σ.b 2 u = σ.b 2 w → σ.i 2 u = σ.i 2 w → u = w
/-- what the sites' loads say -/
def LD (σ : ST) : Prop := ∀ s, s < 4 → σ.a 7 s = ldn σ s 100
theorem ufn_none {σ : ST} {d : Bool} {v : Int32} : ∀ n, (∀ u, u < n → ¬ (σ.b 1 u = true ∧ σ.b 2 u = d ∧ σ.i 2 u = v)) → ufn σ d v n = none
  | 0, _ => rfl
  | n + 1, h => by
    unfold ufn
    rw [if_neg (h n (by omega))]
    exact ufn_none n (fun u hu => h u (by omega))
theorem ufn_is {σ : ST} {d : Bool} {v : Int32} (hq : UQ σ) {u : Nat} (h : σ.b 1 u = true ∧ σ.b 2 u = d ∧ σ.i 2 u = v) : ∀ n, n ≤ σ.un → u < n → ufn σ d v n = some u
  | 0, _, hu => absurd hu (Nat.not_lt_zero u)
  | n + 1, hn, hu => by
    unfold ufn
    by_cases hc : σ.b 1 n = true ∧ σ.b 2 n = d ∧ σ.i 2 n = v
    · rw [if_pos hc, hq n u (by omega) (by omega) hc.1 h.1 (hc.2.1.trans h.2.1.symm) (hc.2.2.trans h.2.2.symm)]
    · rw [if_neg hc]
      by_cases hun : u = n
      · exact absurd (hun ▸ h) hc
      · exact ufn_is hq h n (by omega) (by omega)
/-- a unit, or null -/
def uV (A : Nat → Nat → Nat) (o : Option Nat) : Value := match o with
  | none => .null
  | some u => .ref (A 13 u)
theorem uV_ref {A : Nat → Nat → Nat} {o : Option Nat} : (uV A o).isRef = true := by cases o <;> rfl
section STORE
variable (g : GG) {A : Nat → Nat → Nat} {σ ρ : ST} {x : XT} {M : Mem}
theorem c_need (hW : W2 g A σ ρ x M) (hN : ND σ) {u : Nat} (hu : u < σ.un) : con g mX3_isNeeded 0 0 [.ref (A 13 u)] M (rI (bI (σ.b 1 u)) M) := by
  rw [(hN u hu).2]
  exact c_X3_isNeeded g hW hu (hN u hu).1
def fuO (σ : ST) (v : Int32) : Option Nat := if isU σ v = true then some (tN v) else none
theorem c_X2_find (hW : W2 g A σ ρ x M) (hw : WF σ) (hC : CAP σ) (hN : ND σ) (v : Int32) : con g mX2_find 0 0 [.ref (A 6 0), .int v] M (rA (uV A (fuO σ v)) M) := by
  refine con_i ?_ (by decide) rfl rfl (by simp [lv_args, Value.category]) (by simp [lv_args, lnd, Value.category])
  have hS := hW.store
  have hL := hW.ulst
  have h100 := hw.1.2
  refine z_iload_n dX2_find_0 rfl ?_
  refine z_if_lt (tgt := 15) dX2_find_1 (by decide) (fun h1 => ?_) (fun h1 => ?_)
  · refine z_aconst_null dX2_find_15 ?_
    refine z_areturn dX2_find_16 rfl rfl (by first | exact Or.inl ⟨_, rfl⟩ | exact Or.inr ⟨_, rfl⟩) ?_
    have e : fuO σ v = none := by
      unfold fuO isU
      rw [if_neg (fun q => ?_)]
      rw [Bool.and_eq_true] at q
      exact ((inR_iff (by omega)).mp q.1).1 h1
    rw [e]
    exact rA_of rfl
  · refine z_iload_n dX2_find_4 rfl ?_
    refine z_aload_n dX2_find_5 rfl rfl ?_
    refine z_getfield dX2_find_6 fg_RX2_12 (by assumption) rfl ?_
    refine z_ivI dX2_find_9 cv_RX2_30 hL (c_ul_size hW) ⟨⟨by decide, by decide⟩, (by first | exact Nat.zero_le _ | decide | omega), (by first | exact Nat.zero_le _ | decide | omega)⟩ rfl rfl (Nat.le_of_ble_eq_true rfl) ?_
    refine z_icmp_lt (tgt := 17) dX2_find_12 (by decide) (fun h12 => ?_) (fun h12 => ?_)
    · obtain ⟨j, hj, ej⟩ := nI_of h1
      subst ej
      have hjn := (nI_ltI hj (by omega)).mp h12
      have etn : tN (nI j) = j := nI_clamp hj
      have hun := hW.unit hjn
      refine z_aload_n dX2_find_17 rfl rfl ?_
      refine z_getfield dX2_find_18 fg_RX2_12 (by assumption) rfl ?_
      refine z_iload_n dX2_find_21 rfl ?_
      refine z_ivA dX2_find_22 cv_RX2_34 hL (c_ul_get hW hC hjn) ⟨⟨by decide, by decide⟩, (by first | exact Nat.zero_le _ | decide | omega), (by first | exact Nat.zero_le _ | decide | omega)⟩ rfl rfl (Nat.le_of_ble_eq_true rfl) ?_
      refine z_cast dX2_find_25 hun rfl (gt_in 154 (by decide +kernel) rfl) ?_
      refine z_astore_n dX2_find_28 (by decide) rfl ?_
      refine z_aload_n dX2_find_29 rfl rfl ?_
      refine z_ivI dX2_find_30 cv_RX2_40 hun (c_need g hW hN hjn) ⟨⟨by decide, by decide⟩, (by first | exact Nat.zero_le _ | decide | omega), (by first | exact Nat.zero_le _ | decide | omega)⟩ rfl rfl (Nat.le_of_ble_eq_true rfl) ?_
      refine z_if_eq (tgt := 40) dX2_find_33 (by decide) (fun h33 => ?_) (fun h33 => ?_)
      · refine z_aconst_null dX2_find_40 ?_
        refine z_areturn dX2_find_41 rfl rfl (by first | exact Or.inl ⟨_, rfl⟩ | exact Or.inr ⟨_, rfl⟩) ?_
        have e : fuO σ (nI j) = none := by
          unfold fuO isU
          rw [etn, if_neg (fun q => ?_)]
          rw [Bool.and_eq_true] at q
          exact nt h33 q.2
        rw [e]
        exact rA_of rfl
      · refine z_aload_n dX2_find_36 rfl rfl ?_
        refine z_goto (tgt := 41) dX2_find_37 (by decide) ?_
        refine z_areturn dX2_find_41 rfl rfl (by first | exact Or.inl ⟨_, rfl⟩ | exact Or.inr ⟨_, rfl⟩) ?_
        have e : fuO σ (nI j) = some j := by
          unfold fuO isU
          rw [etn, inR_nI (by omega) hjn, yt h33]
          rfl
        rw [e]
        exact rA_of rfl
    · refine z_aconst_null dX2_find_15 ?_
      refine z_areturn dX2_find_16 rfl rfl (by first | exact Or.inl ⟨_, rfl⟩ | exact Or.inr ⟨_, rfl⟩) ?_
      have e : fuO σ v = none := by
        unfold fuO isU
        rw [if_neg (fun q => ?_)]
        rw [Bool.and_eq_true] at q
        exact h12 ((inR_iff (by omega)).mp q.1).2
      rw [e]
      exact rA_of rfl
theorem c_X2_findAlike (hW : W2 g A σ ρ x M) (hw : WF σ) (hC : CAP σ) (hN : ND σ) (hq : UQ σ) (d : Bool) (v : Int32) : con g mX2_findAlike 0 0 [.ref (A 6 0), .int (bI d), .int v] M (rA (uV A (ufn σ d v σ.un)) M) := by
  refine con_i ?_ (by decide) rfl rfl (by simp [lv_args, Value.category]) (by simp [lv_args, lnd, Value.category])
  have hS := hW.store
  have hL := hW.ulst
  have h100 := hw.1.2
  have loop : ∀ j, j ≤ σ.un → ∀ x3 y, (∀ u, u < j → ¬ (σ.b 1 u = true ∧ σ.b 2 u = d ∧ σ.i 2 u = v)) → x3 = nI j → (y = [] ∨ ∃ z, y = [(4, Value.ref z)]) → tri g mX2_findAlike 0 0 (rA (uV A (ufn σ d v σ.un)) M) M 2 ((0, .ref (A 6 0)) :: (1, .int (bI d)) :: (2, .int v) :: (3, .int x3) :: y) [] := by
    refine lp_up σ.un ?_ ?_
    · intro x3 y hno e3 hy
      subst e3
      refine z_iload_n dX2_findAlike_2 rfl ?_
      refine z_aload_n dX2_findAlike_3 rfl rfl ?_
      refine z_getfield dX2_findAlike_4 fg_RX2_12 (by assumption) rfl ?_
      refine z_ivI dX2_findAlike_7 cv_RX2_30 hL (c_ul_size hW) ⟨⟨by decide, by decide⟩, (by first | exact Nat.zero_le _ | decide | omega), (by first | exact Nat.zero_le _ | decide | omega)⟩ rfl rfl (Nat.le_of_ble_eq_true rfl) ?_
      refine z_icmp_ge (tgt := 53) dX2_findAlike_10 (by decide) (fun h10 => ?_) (fun h10 => absurd (nI_le (by omega) (by omega)) h10)
      refine z_aconst_null dX2_findAlike_53 ?_
      refine z_areturn dX2_findAlike_54 rfl rfl (by first | exact Or.inl ⟨_, rfl⟩ | exact Or.inr ⟨_, rfl⟩) ?_
      rw [ufn_none σ.un hno]
      exact rA_of rfl
    · intro j hj ih x3 y hno e3 hy
      subst e3
      have hun := hW.unit hj
      have stp : ¬ (σ.b 1 j = true ∧ σ.b 2 j = d ∧ σ.i 2 j = v) → ∀ u, u < j + 1 → ¬ (σ.b 1 u = true ∧ σ.b 2 u = d ∧ σ.i 2 u = v) := fun hn u hu => by
        by_cases huj : u = j
        · rw [huj]; exact hn
        · exact hno u (by omega)
      rcases hy with rfl | ⟨z, rfl⟩
      · skip
        refine z_iload_n dX2_findAlike_2 rfl ?_
        refine z_aload_n dX2_findAlike_3 rfl rfl ?_
        refine z_getfield dX2_findAlike_4 fg_RX2_12 (by assumption) rfl ?_
        refine z_ivI dX2_findAlike_7 cv_RX2_30 hL (c_ul_size hW) ⟨⟨by decide, by decide⟩, (by first | exact Nat.zero_le _ | decide | omega), (by first | exact Nat.zero_le _ | decide | omega)⟩ rfl rfl (Nat.le_of_ble_eq_true rfl) ?_
        refine z_icmp_ge (tgt := 53) dX2_findAlike_10 (by decide) (fun h10 => absurd h10 (nI_ge hj (by omega))) (fun h10 => ?_)
        refine z_aload_n dX2_findAlike_13 rfl rfl ?_
        refine z_getfield dX2_findAlike_14 fg_RX2_12 (by assumption) rfl ?_
        refine z_iload_n dX2_findAlike_17 rfl ?_
        refine z_ivA dX2_findAlike_18 cv_RX2_34 hL (c_ul_get hW hC hj) ⟨⟨by decide, by decide⟩, (by first | exact Nat.zero_le _ | decide | omega), (by first | exact Nat.zero_le _ | decide | omega)⟩ rfl rfl (Nat.le_of_ble_eq_true rfl) ?_
        refine z_cast dX2_findAlike_21 hun rfl (gt_in 154 (by decide +kernel) rfl) ?_
        refine z_astore dX2_findAlike_24 (by decide) rfl ?_
        refine z_aload dX2_findAlike_26 rfl rfl ?_
        refine z_ivI dX2_findAlike_28 cv_RX2_40 hun (c_need g hW hN hj) ⟨⟨by decide, by decide⟩, (by first | exact Nat.zero_le _ | decide | omega), (by first | exact Nat.zero_le _ | decide | omega)⟩ rfl rfl (Nat.le_of_ble_eq_true rfl) ?_
        refine z_if_eq (tgt := 47) dX2_findAlike_31 (by decide) (fun h31 => ?_) (fun h31 => ?_)
        · refine z_inc ki_1 dX2_findAlike_47 rfl (by decide) ?_
          refine z_goto (tgt := 2) dX2_findAlike_50 (by decide) ?_
          exact ih _ _ (stp (fun q => nt h31 q.1)) (nI_add j 1) (Or.inr ⟨_, rfl⟩)
        · refine z_aload dX2_findAlike_34 rfl rfl ?_
          refine z_iload_n dX2_findAlike_36 rfl ?_
          refine z_iload_n dX2_findAlike_37 rfl ?_
          refine z_ivI dX2_findAlike_38 cv_RX2_72 hun (c_X3_isAlike g hW hj d v) ⟨⟨by decide, by decide⟩, (by first | exact Nat.zero_le _ | decide | omega), (by first | exact Nat.zero_le _ | decide | omega)⟩ rfl rfl (Nat.le_of_ble_eq_true rfl) ?_
          refine z_if_eq (tgt := 47) dX2_findAlike_41 (by decide) (fun h41 => ?_) (fun h41 => ?_)
          · refine z_inc ki_1 dX2_findAlike_47 rfl (by decide) ?_
            refine z_goto (tgt := 2) dX2_findAlike_50 (by decide) ?_
            exact ih _ _ (stp (fun q => of_decide_eq_false (Bool.eq_false_iff.mpr (nt h41)) q.2)) (nI_add j 1) (Or.inr ⟨_, rfl⟩)
          · refine z_aload dX2_findAlike_44 rfl rfl ?_
            refine z_areturn dX2_findAlike_46 rfl rfl (by first | exact Or.inl ⟨_, rfl⟩ | exact Or.inr ⟨_, rfl⟩) ?_
            rw [ufn_is hq ⟨yt h31, of_decide_eq_true (yt h41)⟩ σ.un (Nat.le_refl _) hj]
            exact rA_of rfl
      · skip
        refine z_iload_n dX2_findAlike_2 rfl ?_
        refine z_aload_n dX2_findAlike_3 rfl rfl ?_
        refine z_getfield dX2_findAlike_4 fg_RX2_12 (by assumption) rfl ?_
        refine z_ivI dX2_findAlike_7 cv_RX2_30 hL (c_ul_size hW) ⟨⟨by decide, by decide⟩, (by first | exact Nat.zero_le _ | decide | omega), (by first | exact Nat.zero_le _ | decide | omega)⟩ rfl rfl (Nat.le_of_ble_eq_true rfl) ?_
        refine z_icmp_ge (tgt := 53) dX2_findAlike_10 (by decide) (fun h10 => absurd h10 (nI_ge hj (by omega))) (fun h10 => ?_)
        refine z_aload_n dX2_findAlike_13 rfl rfl ?_
        refine z_getfield dX2_findAlike_14 fg_RX2_12 (by assumption) rfl ?_
        refine z_iload_n dX2_findAlike_17 rfl ?_
        refine z_ivA dX2_findAlike_18 cv_RX2_34 hL (c_ul_get hW hC hj) ⟨⟨by decide, by decide⟩, (by first | exact Nat.zero_le _ | decide | omega), (by first | exact Nat.zero_le _ | decide | omega)⟩ rfl rfl (Nat.le_of_ble_eq_true rfl) ?_
        refine z_cast dX2_findAlike_21 hun rfl (gt_in 154 (by decide +kernel) rfl) ?_
        refine z_astore dX2_findAlike_24 (by decide) rfl ?_
        refine z_aload dX2_findAlike_26 rfl rfl ?_
        refine z_ivI dX2_findAlike_28 cv_RX2_40 hun (c_need g hW hN hj) ⟨⟨by decide, by decide⟩, (by first | exact Nat.zero_le _ | decide | omega), (by first | exact Nat.zero_le _ | decide | omega)⟩ rfl rfl (Nat.le_of_ble_eq_true rfl) ?_
        refine z_if_eq (tgt := 47) dX2_findAlike_31 (by decide) (fun h31 => ?_) (fun h31 => ?_)
        · refine z_inc ki_1 dX2_findAlike_47 rfl (by decide) ?_
          refine z_goto (tgt := 2) dX2_findAlike_50 (by decide) ?_
          exact ih _ _ (stp (fun q => nt h31 q.1)) (nI_add j 1) (Or.inr ⟨_, rfl⟩)
        · refine z_aload dX2_findAlike_34 rfl rfl ?_
          refine z_iload_n dX2_findAlike_36 rfl ?_
          refine z_iload_n dX2_findAlike_37 rfl ?_
          refine z_ivI dX2_findAlike_38 cv_RX2_72 hun (c_X3_isAlike g hW hj d v) ⟨⟨by decide, by decide⟩, (by first | exact Nat.zero_le _ | decide | omega), (by first | exact Nat.zero_le _ | decide | omega)⟩ rfl rfl (Nat.le_of_ble_eq_true rfl) ?_
          refine z_if_eq (tgt := 47) dX2_findAlike_41 (by decide) (fun h41 => ?_) (fun h41 => ?_)
          · refine z_inc ki_1 dX2_findAlike_47 rfl (by decide) ?_
            refine z_goto (tgt := 2) dX2_findAlike_50 (by decide) ?_
            exact ih _ _ (stp (fun q => of_decide_eq_false (Bool.eq_false_iff.mpr (nt h41)) q.2)) (nI_add j 1) (Or.inr ⟨_, rfl⟩)
          · refine z_aload dX2_findAlike_44 rfl rfl ?_
            refine z_areturn dX2_findAlike_46 rfl rfl (by first | exact Or.inl ⟨_, rfl⟩ | exact Or.inr ⟨_, rfl⟩) ?_
            rw [ufn_is hq ⟨yt h31, of_decide_eq_true (yt h41)⟩ σ.un (Nat.le_refl _) hj]
            exact rA_of rfl
  refine z_ic ki_0 dX2_findAlike_0 ?_
  refine z_istore_n dX2_findAlike_1 (by decide) ?_
  exact loop 0 (by omega) _ _ (fun u hu => absurd hu (Nat.not_lt_zero u)) rfl (Or.inl rfl)
theorem c_X2_countUnits (hW : W2 g A σ ρ x M) (hw : WF σ) (hC : CAP σ) (hN : ND σ) : con g mX2_countUnits 0 0 [.ref (A 6 0)] M (rI (nI (unn σ σ.un)) M) := by
  refine con_i ?_ (by decide) rfl rfl (by simp [lv_args, Value.category]) (by simp [lv_args, lnd, Value.category])
  have hS := hW.store
  have hL := hW.ulst
  have h100 := hw.1.2
  have loop : ∀ j, j ≤ σ.un → ∀ x1 x2, x1 = nI (unn σ j) → x2 = nI j → tri g mX2_countUnits 0 0 (rI (nI (unn σ σ.un)) M) M 4 [(0, .ref (A 6 0)), (1, .int x1), (2, .int x2)] [] := by
    refine lp_up σ.un ?_ ?_
    · intro x1 x2 e1 e2
      subst e1 e2
      refine z_iload_n dX2_countUnits_4 rfl ?_
      refine z_aload_n dX2_countUnits_5 rfl rfl ?_
      refine z_getfield dX2_countUnits_6 fg_RX2_12 (by assumption) rfl ?_
      refine z_ivI dX2_countUnits_9 cv_RX2_30 hL (c_ul_size hW) ⟨⟨by decide, by decide⟩, (by first | exact Nat.zero_le _ | decide | omega), (by first | exact Nat.zero_le _ | decide | omega)⟩ rfl rfl (Nat.le_of_ble_eq_true rfl) ?_
      refine z_icmp_ge (tgt := 41) dX2_countUnits_12 (by decide) (fun h12 => ?_) (fun h12 => absurd (nI_le (by omega) (by omega)) h12)
      refine z_iload_n dX2_countUnits_41 rfl ?_
      refine z_ireturn dX2_countUnits_42 rfl (by first | rfl | exact bI_nar _) ?_
      exact rI_of (by first | rfl | assumption | simp_all)
    · intro j hj ih x1 x2 e1 e2
      subst e1 e2
      have hun := hW.unit hj
      refine z_iload_n dX2_countUnits_4 rfl ?_
      refine z_aload_n dX2_countUnits_5 rfl rfl ?_
      refine z_getfield dX2_countUnits_6 fg_RX2_12 (by assumption) rfl ?_
      refine z_ivI dX2_countUnits_9 cv_RX2_30 hL (c_ul_size hW) ⟨⟨by decide, by decide⟩, (by first | exact Nat.zero_le _ | decide | omega), (by first | exact Nat.zero_le _ | decide | omega)⟩ rfl rfl (Nat.le_of_ble_eq_true rfl) ?_
      refine z_icmp_ge (tgt := 41) dX2_countUnits_12 (by decide) (fun h12 => absurd h12 (nI_ge hj (by omega))) (fun h12 => ?_)
      refine z_aload_n dX2_countUnits_15 rfl rfl ?_
      refine z_getfield dX2_countUnits_16 fg_RX2_12 (by assumption) rfl ?_
      refine z_iload_n dX2_countUnits_19 rfl ?_
      refine z_ivA dX2_countUnits_20 cv_RX2_34 hL (c_ul_get hW hC hj) ⟨⟨by decide, by decide⟩, (by first | exact Nat.zero_le _ | decide | omega), (by first | exact Nat.zero_le _ | decide | omega)⟩ rfl rfl (Nat.le_of_ble_eq_true rfl) ?_
      refine z_cast dX2_countUnits_23 hun rfl (gt_in 154 (by decide +kernel) rfl) ?_
      refine z_ivI dX2_countUnits_26 cv_RX2_40 hun (c_need g hW hN hj) ⟨⟨by decide, by decide⟩, (by first | exact Nat.zero_le _ | decide | omega), (by first | exact Nat.zero_le _ | decide | omega)⟩ rfl rfl (Nat.le_of_ble_eq_true rfl) ?_
      refine z_if_eq (tgt := 35) dX2_countUnits_29 (by decide) (fun h29 => ?_) (fun h29 => ?_)
      · refine z_inc ki_1 dX2_countUnits_35 rfl (by decide) ?_
        refine z_goto (tgt := 4) dX2_countUnits_38 (by decide) ?_
        exact ih _ _ (by rw [unn, if_neg (nt h29), Nat.add_zero]) (nI_add j 1)
      · refine z_inc ki_1 dX2_countUnits_32 rfl (by decide) ?_
        refine z_inc ki_1 dX2_countUnits_35 rfl (by decide) ?_
        refine z_goto (tgt := 4) dX2_countUnits_38 (by decide) ?_
        exact ih _ _ (by rw [unn, if_pos (yt h29)]; exact nI_add _ 1) (nI_add j 1)
  refine z_ic ki_0 dX2_countUnits_0 ?_
  refine z_istore_n dX2_countUnits_1 (by decide) ?_
  refine z_ic ki_0 dX2_countUnits_2 ?_
  refine z_istore_n dX2_countUnits_3 (by decide) ?_
  exact loop 0 (by omega) _ _ rfl rfl
theorem c_X2_countLacking (hW : W2 g A σ ρ x M) (hw : WF σ) (hC : CAP σ) (hN : ND σ) (h5 : ∀ u, u < σ.un → σ.a 5 u < 2 ^ 30) : con g mX2_countLacking 0 0 [.ref (A 6 0)] M (rI (nI (lkn σ σ.un)) M) := by
  refine con_i ?_ (by decide) rfl rfl (by simp [lv_args, Value.category]) (by simp [lv_args, lnd, Value.category])
  have hS := hW.store
  have hL := hW.ulst
  have h100 := hw.1.2
  have loop : ∀ j, j ≤ σ.un → ∀ x1 x2 y, x1 = nI (lkn σ j) → x2 = nI j → (y = [] ∨ ∃ z, y = [(3, Value.ref z)]) → tri g mX2_countLacking 0 0 (rI (nI (lkn σ σ.un)) M) M 4 ((0, .ref (A 6 0)) :: (1, .int x1) :: (2, .int x2) :: y) [] := by
    refine lp_up σ.un ?_ ?_
    · intro x1 x2 y e1 e2 hy
      subst e1 e2
      refine z_iload_n dX2_countLacking_4 rfl ?_
      refine z_aload_n dX2_countLacking_5 rfl rfl ?_
      refine z_getfield dX2_countLacking_6 fg_RX2_12 (by assumption) rfl ?_
      refine z_ivI dX2_countLacking_9 cv_RX2_30 hL (c_ul_size hW) ⟨⟨by decide, by decide⟩, (by first | exact Nat.zero_le _ | decide | omega), (by first | exact Nat.zero_le _ | decide | omega)⟩ rfl rfl (Nat.le_of_ble_eq_true rfl) ?_
      refine z_icmp_ge (tgt := 47) dX2_countLacking_12 (by decide) (fun h12 => ?_) (fun h12 => absurd (nI_le (by omega) (by omega)) h12)
      refine z_iload_n dX2_countLacking_47 rfl ?_
      refine z_ireturn dX2_countLacking_48 rfl (by first | rfl | exact bI_nar _) ?_
      exact rI_of (by first | rfl | assumption | simp_all)
    · intro j hj ih x1 x2 y e1 e2 hy
      subst e1 e2
      have hun := hW.unit hj
      rcases hy with rfl | ⟨z, rfl⟩
      · skip
        refine z_iload_n dX2_countLacking_4 rfl ?_
        refine z_aload_n dX2_countLacking_5 rfl rfl ?_
        refine z_getfield dX2_countLacking_6 fg_RX2_12 (by assumption) rfl ?_
        refine z_ivI dX2_countLacking_9 cv_RX2_30 hL (c_ul_size hW) ⟨⟨by decide, by decide⟩, (by first | exact Nat.zero_le _ | decide | omega), (by first | exact Nat.zero_le _ | decide | omega)⟩ rfl rfl (Nat.le_of_ble_eq_true rfl) ?_
        refine z_icmp_ge (tgt := 47) dX2_countLacking_12 (by decide) (fun h12 => absurd h12 (nI_ge hj (by omega))) (fun h12 => ?_)
        refine z_aload_n dX2_countLacking_15 rfl rfl ?_
        refine z_getfield dX2_countLacking_16 fg_RX2_12 (by assumption) rfl ?_
        refine z_iload_n dX2_countLacking_19 rfl ?_
        refine z_ivA dX2_countLacking_20 cv_RX2_34 hL (c_ul_get hW hC hj) ⟨⟨by decide, by decide⟩, (by first | exact Nat.zero_le _ | decide | omega), (by first | exact Nat.zero_le _ | decide | omega)⟩ rfl rfl (Nat.le_of_ble_eq_true rfl) ?_
        refine z_cast dX2_countLacking_23 hun rfl (gt_in 154 (by decide +kernel) rfl) ?_
        refine z_astore_n dX2_countLacking_26 (by decide) rfl ?_
        refine z_aload_n dX2_countLacking_27 rfl rfl ?_
        refine z_ivI dX2_countLacking_28 cv_RX2_40 hun (c_need g hW hN hj) ⟨⟨by decide, by decide⟩, (by first | exact Nat.zero_le _ | decide | omega), (by first | exact Nat.zero_le _ | decide | omega)⟩ rfl rfl (Nat.le_of_ble_eq_true rfl) ?_
        refine z_if_eq (tgt := 41) dX2_countLacking_31 (by decide) (fun h31 => ?_) (fun h31 => ?_)
        · refine z_inc ki_1 dX2_countLacking_41 rfl (by decide) ?_
          refine z_goto (tgt := 4) dX2_countLacking_44 (by decide) ?_
          exact ih _ _ _ (by rw [lkn, if_neg (nt h31), Nat.add_zero]) (nI_add j 1) (Or.inr ⟨_, rfl⟩)
        · refine z_iload_n dX2_countLacking_34 rfl ?_
          refine z_aload_n dX2_countLacking_35 rfl rfl ?_
          refine z_ivI dX2_countLacking_36 cv_RX2_83 hun (c_X3_countLacking g hW hj (h5 j hj)) ⟨⟨by decide, by decide⟩, (by first | exact Nat.zero_le _ | decide | omega), (by first | exact Nat.zero_le _ | decide | omega)⟩ rfl rfl (Nat.le_of_ble_eq_true rfl) ?_
          refine z_iadd dX2_countLacking_39 ?_
          refine z_istore_n dX2_countLacking_40 (by decide) ?_
          refine z_inc ki_1 dX2_countLacking_41 rfl (by decide) ?_
          refine z_goto (tgt := 4) dX2_countLacking_44 (by decide) ?_
          exact ih _ _ _ (by rw [lkn, if_pos (yt h31)]; exact nI_add _ _) (nI_add j 1) (Or.inr ⟨_, rfl⟩)
      · skip
        refine z_iload_n dX2_countLacking_4 rfl ?_
        refine z_aload_n dX2_countLacking_5 rfl rfl ?_
        refine z_getfield dX2_countLacking_6 fg_RX2_12 (by assumption) rfl ?_
        refine z_ivI dX2_countLacking_9 cv_RX2_30 hL (c_ul_size hW) ⟨⟨by decide, by decide⟩, (by first | exact Nat.zero_le _ | decide | omega), (by first | exact Nat.zero_le _ | decide | omega)⟩ rfl rfl (Nat.le_of_ble_eq_true rfl) ?_
        refine z_icmp_ge (tgt := 47) dX2_countLacking_12 (by decide) (fun h12 => absurd h12 (nI_ge hj (by omega))) (fun h12 => ?_)
        refine z_aload_n dX2_countLacking_15 rfl rfl ?_
        refine z_getfield dX2_countLacking_16 fg_RX2_12 (by assumption) rfl ?_
        refine z_iload_n dX2_countLacking_19 rfl ?_
        refine z_ivA dX2_countLacking_20 cv_RX2_34 hL (c_ul_get hW hC hj) ⟨⟨by decide, by decide⟩, (by first | exact Nat.zero_le _ | decide | omega), (by first | exact Nat.zero_le _ | decide | omega)⟩ rfl rfl (Nat.le_of_ble_eq_true rfl) ?_
        refine z_cast dX2_countLacking_23 hun rfl (gt_in 154 (by decide +kernel) rfl) ?_
        refine z_astore_n dX2_countLacking_26 (by decide) rfl ?_
        refine z_aload_n dX2_countLacking_27 rfl rfl ?_
        refine z_ivI dX2_countLacking_28 cv_RX2_40 hun (c_need g hW hN hj) ⟨⟨by decide, by decide⟩, (by first | exact Nat.zero_le _ | decide | omega), (by first | exact Nat.zero_le _ | decide | omega)⟩ rfl rfl (Nat.le_of_ble_eq_true rfl) ?_
        refine z_if_eq (tgt := 41) dX2_countLacking_31 (by decide) (fun h31 => ?_) (fun h31 => ?_)
        · refine z_inc ki_1 dX2_countLacking_41 rfl (by decide) ?_
          refine z_goto (tgt := 4) dX2_countLacking_44 (by decide) ?_
          exact ih _ _ _ (by rw [lkn, if_neg (nt h31), Nat.add_zero]) (nI_add j 1) (Or.inr ⟨_, rfl⟩)
        · refine z_iload_n dX2_countLacking_34 rfl ?_
          refine z_aload_n dX2_countLacking_35 rfl rfl ?_
          refine z_ivI dX2_countLacking_36 cv_RX2_83 hun (c_X3_countLacking g hW hj (h5 j hj)) ⟨⟨by decide, by decide⟩, (by first | exact Nat.zero_le _ | decide | omega), (by first | exact Nat.zero_le _ | decide | omega)⟩ rfl rfl (Nat.le_of_ble_eq_true rfl) ?_
          refine z_iadd dX2_countLacking_39 ?_
          refine z_istore_n dX2_countLacking_40 (by decide) ?_
          refine z_inc ki_1 dX2_countLacking_41 rfl (by decide) ?_
          refine z_goto (tgt := 4) dX2_countLacking_44 (by decide) ?_
          exact ih _ _ _ (by rw [lkn, if_pos (yt h31)]; exact nI_add _ _) (nI_add j 1) (Or.inr ⟨_, rfl⟩)
  refine z_ic ki_0 dX2_countLacking_0 ?_
  refine z_istore_n dX2_countLacking_1 (by decide) ?_
  refine z_ic ki_0 dX2_countLacking_2 ?_
  refine z_istore_n dX2_countLacking_3 (by decide) ?_
  exact loop 0 (by omega) _ _ _ rfl rfl (Or.inl rfl)
/-- has one of the first n sites a copy -/
def hcL (σ : ST) : Nat → Bool
  | 0 => false
  | n + 1 => hcL σ n || decide (0 < ldn σ n 100)
theorem ldn_sm (σ : ST) (s : Nat) : ldn σ s 100 < 2 ^ 30 := by
  have := ldn_le σ s 100
  omega
theorem c_X2_hasCopies (hW : W2 g A σ ρ x M) (hL : LD σ) : con g mX2_hasCopies 0 0 [.ref (A 6 0)] M (rI (bI (hcL σ 4)) M) := by
  refine con_i ?_ (by decide) rfl rfl (by simp [lv_args, Value.category]) (by simp [lv_args, lnd, Value.category])
  have hS := hW.store
  have hld := hW.loads
  have loop : ∀ j, j ≤ 4 → ∀ x1, hcL σ j = false → x1 = nI j → tri g mX2_hasCopies 0 0 (rI (bI (hcL σ 4)) M) M 2 [(0, .ref (A 6 0)), (1, .int x1)] [] := by
    refine lp_up 4 ?_ ?_
    · intro x1 e1 e2
      subst e2
      refine z_iload_n dX2_hasCopies_2 rfl ?_
      refine z_ic ki_4 dX2_hasCopies_3 ?_
      refine z_icmp_ge (tgt := 24) dX2_hasCopies_4 (by decide) (fun h4 => ?_) (fun h4 => absurd (nI_le (by omega) (by omega)) h4)
      refine z_ic ki_0 dX2_hasCopies_24 ?_
      refine z_ireturn dX2_hasCopies_25 rfl (by first | rfl | exact bI_nar _) ?_
      exact rI_of (by rw [e1]; rfl)
    · intro j hj ih x1 e1 e2
      subst e2
      have hs := ldn_sm σ j
      refine z_iload_n dX2_hasCopies_2 rfl ?_
      refine z_ic ki_4 dX2_hasCopies_3 ?_
      refine z_icmp_ge (tgt := 24) dX2_hasCopies_4 (by decide) (fun h4 => absurd h4 (nI_ge hj (by omega))) (fun h4 => ?_)
      refine z_aload_n dX2_hasCopies_7 rfl rfl ?_
      refine z_getfield dX2_hasCopies_8 fg_RX2_22 (by assumption) rfl ?_
      refine z_iload_n dX2_hasCopies_11 rfl ?_
      refine z_iaload dX2_hasCopies_12 hld rfl hj (by decide) ?_
      rw [hL j hj]
      refine z_if_le (tgt := 18) dX2_hasCopies_13 (by decide) (fun h13 => ?_) (fun h13 => ?_)
      · refine z_inc ki_1 dX2_hasCopies_18 rfl (by decide) ?_
        refine z_goto (tgt := 2) dX2_hasCopies_21 (by decide) ?_
        refine ih _ ?_ (nI_add j 1)
        unfold hcL
        rw [e1, decide_eq_false (fun q => absurd h13 (Int32.not_le.mpr ((nI_ltI (a := 0) (by decide) (by omega)).mpr q)))]
        rfl
      · refine z_ic ki_1 dX2_hasCopies_16 ?_
        refine z_ireturn dX2_hasCopies_17 rfl (by first | rfl | exact bI_nar _) ?_
        refine rI_of ?_
        have h0 : 0 < ldn σ j 100 := (nI_ltI (a := 0) (by decide) (by omega)).mp (Int32.not_le.mp h13)
        have e : ∀ d, hcL σ (j + 1 + d) = true := by
          intro d
          induction d with
          | zero =>
            show (hcL σ j || decide (0 < ldn σ j 100)) = true
            rw [decide_eq_true h0, Bool.or_true]
          | succ d ih => 
            show (hcL σ (j + 1 + d) || _) = true
            rw [ih, Bool.true_or]
        have e4 := e (4 - (j + 1))
        rw [show j + 1 + (4 - (j + 1)) = 4 by omega] at e4
        rw [e4]
        rfl
  refine z_ic ki_0 dX2_hasCopies_0 ?_
  refine z_istore_n dX2_hasCopies_1 (by decide) ?_
  exact loop 0 (by omega) _ rfl rfl
theorem plc_s (σ : ST) (u n : Nat) : plc σ u (n + 1) = if σ.b 4 n = false ∧ σ.cp u n = false ∧ pok σ n (plc σ u n) = true then some n else plc σ u n := rfl
theorem c_X2_freestSite (hW : W2 g A σ ρ x M) (hL : LD σ) {u : Nat} (hu : u < σ.un) : con g mX2_freestSite 0 0 [.ref (A 6 0), .ref (A 13 u)] M (rI (oI (plc σ u 4)) M) := by
  refine con_i ?_ (by decide) rfl rfl (by simp [lv_args, Value.category]) (by simp [lv_args, lnd, Value.category])
  have hS := hW.store
  have hcl := hW.closed
  have hld := hW.loads
  have hun := hW.unit hu
  have hlt : ∀ s, ldn σ s 100 < 2 ^ 30 := fun s => by
    have := ldn_le σ s 100
    omega
  have loop : ∀ j, j ≤ 4 → ∀ x2 x3 x4, x2 = oI (plc σ u j) → (∀ f, plc σ u j = some f → x3 = nI (ldn σ f 100)) → x4 = nI j → tri g mX2_freestSite 0 0 (rI (oI (plc σ u 4)) M) M 7 [(0, .ref (A 6 0)), (1, .ref (A 13 u)), (2, .int x2), (3, .int x3), (4, .int x4)] [] := by
    refine lp_up 4 ?_ ?_
    · intro x2 x3 x4 e2 e3 e4
      subst e2 e4
      refine z_iload dX2_freestSite_7 rfl ?_
      refine z_ic ki_4 dX2_freestSite_9 ?_
      refine z_icmp_ge (tgt := 68) dX2_freestSite_10 (by decide) (fun h10 => ?_) (fun h10 => absurd (nI_le (by omega) (by omega)) h10)
      refine z_iload_n dX2_freestSite_68 rfl ?_
      refine z_ireturn dX2_freestSite_69 rfl (by first | rfl | exact bI_nar _) ?_
      exact rI_of (by first | rfl | assumption | simp_all)
    · intro j hj ih x2 x3 x4 e2 e3 e4
      subst e2 e4
      have elj : nI (σ.a 7 j) = nI (ldn σ j 100) := by rw [hL j hj]
      refine z_iload dX2_freestSite_7 rfl ?_
      refine z_ic ki_4 dX2_freestSite_9 ?_
      refine z_icmp_ge (tgt := 68) dX2_freestSite_10 (by decide) (fun h10 => absurd h10 (nI_ge hj (by omega))) (fun h10 => ?_)
      refine z_aload_n dX2_freestSite_13 rfl rfl ?_
      refine z_getfield dX2_freestSite_14 fg_RX2_18 (by assumption) rfl ?_
      refine z_iload dX2_freestSite_17 rfl ?_
      refine z_zaload dX2_freestSite_19 hcl rfl hj (by decide) ?_
      refine z_if_ne (tgt := 62) dX2_freestSite_20 (by decide) (fun h20 => ?_) (fun h20 => ?_)
      · refine z_inc ki_1 dX2_freestSite_62 rfl (by decide) ?_
        refine z_goto (tgt := 7) dX2_freestSite_65 (by decide) ?_
        have e : plc σ u (j + 1) = plc σ u j := by rw [plc_s, if_neg (fun q => by rw [q.1] at h20; exact h20 rfl)]
        exact ih _ _ _ (by rw [e]) (fun f hf => e3 f (by rw [← e]; exact hf)) (nI_add j 1)
      · refine z_aload_n dX2_freestSite_23 rfl rfl ?_
        refine z_iload dX2_freestSite_24 rfl ?_
        refine z_ivI dX2_freestSite_26 cv_RX2_93 hun (c_X3_hasCopyAt g hW hu hj) ⟨⟨by decide, by decide⟩, (by first | exact Nat.zero_le _ | decide | omega), (by first | exact Nat.zero_le _ | decide | omega)⟩ rfl rfl (Nat.le_of_ble_eq_true rfl) ?_
        refine z_if_eq (tgt := 35) dX2_freestSite_29 (by decide) (fun h29 => ?_) (fun h29 => ?_)
        · refine z_iload_n dX2_freestSite_35 rfl ?_
          refine z_ic ki_m1 dX2_freestSite_36 ?_
          refine z_icmp_eq (tgt := 51) dX2_freestSite_37 (by decide) (fun h37 => ?_) (fun h37 => ?_)
          · refine z_iload dX2_freestSite_51 rfl ?_
            refine z_istore_n dX2_freestSite_53 (by decide) ?_
            refine z_aload_n dX2_freestSite_54 rfl rfl ?_
            refine z_getfield dX2_freestSite_55 fg_RX2_22 (by assumption) rfl ?_
            refine z_iload dX2_freestSite_58 rfl ?_
            refine z_iaload dX2_freestSite_60 hld rfl hj (by decide) ?_
            refine z_istore_n dX2_freestSite_61 (by decide) ?_
            refine z_inc ki_1 dX2_freestSite_62 rfl (by decide) ?_
            refine z_goto (tgt := 7) dX2_freestSite_65 (by decide) ?_
            have hnone : plc σ u j = none := by
              cases hp : plc σ u j with
              | none => rfl
              | some f =>
                rw [hp] at h37
                exact absurd h37 (nI_m1 f (by have := plc_lt σ u j f hp; omega))
            have e : plc σ u (j + 1) = some j := by
              rw [plc_s, if_pos ⟨bI_eq0.mp h20, bI_eq0.mp h29, by rw [hnone]; rfl⟩]
            refine ih _ _ _ (by rw [e]; rfl) (fun f hf => ?_) (nI_add j 1)
            rw [e] at hf
            cases hf
            exact elj
          · refine z_aload_n dX2_freestSite_40 rfl rfl ?_
            refine z_getfield dX2_freestSite_41 fg_RX2_22 (by assumption) rfl ?_
            refine z_iload dX2_freestSite_44 rfl ?_
            refine z_iaload dX2_freestSite_46 hld rfl hj (by decide) ?_
            refine z_iload_n dX2_freestSite_47 rfl ?_
            refine z_icmp_ge (tgt := 62) dX2_freestSite_48 (by decide) (fun h48 => ?_) (fun h48 => ?_)
            · refine z_inc ki_1 dX2_freestSite_62 rfl (by decide) ?_
              refine z_goto (tgt := 7) dX2_freestSite_65 (by decide) ?_
              have hsome : ∃ f, plc σ u j = some f := by
                cases hp : plc σ u j with
                | none => rw [hp] at h37; exact absurd rfl h37
                | some f => exact ⟨f, rfl⟩
              obtain ⟨f, hf⟩ := hsome
              have e : plc σ u (j + 1) = plc σ u j := by
                rw [plc_s, if_neg (fun q => ?_)]
                have q3 := q.2.2
                rw [hf] at q3
                have q4 : ldn σ j 100 < ldn σ f 100 := of_decide_eq_true q3
                rw [e3 f hf, elj] at h48
                exact absurd (nI_lt q4 (by have := hlt f; omega)) (Int32.not_lt.mpr h48)
              exact ih _ _ _ (by rw [e]) (fun f hf => e3 f (by rw [← e]; exact hf)) (nI_add j 1)
            · refine z_iload dX2_freestSite_51 rfl ?_
              refine z_istore_n dX2_freestSite_53 (by decide) ?_
              refine z_aload_n dX2_freestSite_54 rfl rfl ?_
              refine z_getfield dX2_freestSite_55 fg_RX2_22 (by assumption) rfl ?_
              refine z_iload dX2_freestSite_58 rfl ?_
              refine z_iaload dX2_freestSite_60 hld rfl hj (by decide) ?_
              refine z_istore_n dX2_freestSite_61 (by decide) ?_
              refine z_inc ki_1 dX2_freestSite_62 rfl (by decide) ?_
              refine z_goto (tgt := 7) dX2_freestSite_65 (by decide) ?_
              have hsome : ∃ f, plc σ u j = some f := by
                cases hp : plc σ u j with
                | none => rw [hp] at h37; exact absurd rfl h37
                | some f => exact ⟨f, rfl⟩
              obtain ⟨f, hf⟩ := hsome
              have hpk : pok σ j (plc σ u j) = true := by
                rw [hf]
                rw [e3 f hf, elj] at h48
                have h1 := hlt f
                have h2 := hlt j
                exact decide_eq_true ((nI_ltI (by omega) (by omega)).mp (Int32.not_le.mp h48))
              have e : plc σ u (j + 1) = some j := by
                rw [plc_s, if_pos ⟨bI_eq0.mp h20, bI_eq0.mp h29, hpk⟩]
              refine ih _ _ _ (by rw [e]; rfl) (fun f hf => ?_) (nI_add j 1)
              rw [e] at hf
              cases hf
              exact elj
        · refine z_goto (tgt := 62) dX2_freestSite_32 (by decide) ?_
          refine z_inc ki_1 dX2_freestSite_62 rfl (by decide) ?_
          refine z_goto (tgt := 7) dX2_freestSite_65 (by decide) ?_
          have e : plc σ u (j + 1) = plc σ u j := by rw [plc_s, if_neg (fun q => by rw [q.2.1] at h29; exact h29 rfl)]
          exact ih _ _ _ (by rw [e]) (fun f hf => e3 f (by rw [← e]; exact hf)) (nI_add j 1)
  refine z_ic ki_m1 dX2_freestSite_0 ?_
  refine z_istore_n dX2_freestSite_1 (by decide) ?_
  refine z_ic ki_0 dX2_freestSite_2 ?_
  refine z_istore_n dX2_freestSite_3 (by decide) ?_
  refine z_ic ki_0 dX2_freestSite_4 ?_
  refine z_istore dX2_freestSite_5 (by decide) ?_
  exact loop 0 (by omega) _ _ _ rfl (fun f hf => by cases hf) rfl
end STORE
