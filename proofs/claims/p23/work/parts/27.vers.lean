/-! the class: lists' views of the world, and versions -/
/-- the lists' rows have room for what they hold -/
def CAP (σ : ST) : Prop := (σ.un ≤ σ.a 8 0 ∨ σ.un = 0) ∧ σ.a 8 0 ≤ 150 ∧ (σ.ob ≤ σ.a 8 1 ∨ σ.ob = 0) ∧ σ.a 8 1 ≤ 150 ∧ ∀ o, o < σ.ob → 1 ≤ σ.a 1 o ∧ σ.a 1 o ≤ σ.a 8 (2 + o) ∧ σ.a 8 (2 + o) ≤ 150
theorem lrow_lrw (A : Nat → Nat → Nat) (k o n cap : Nat) : lrow A k o n cap = lrw (fun j => A k (o + j)) n cap := rfl
theorem ite_ref {c : Prop} [Decidable c] (a b : Nat) : (if c then Value.ref a else Value.ref b) = Value.ref (if c then a else b) := by
  split <;> rfl
section VIEWS
variable {g : GG} {A : Nat → Nat → Nat} {σ ρ : ST} {x : XT} {M : Mem}
theorem W2.ulst (hW : W2 g A σ ρ x M) : M (A 7 0) = some (lst (nI (σ.a 9 0)) (if σ.un = 0 then g.E else A 8 0) σ.un) := by rw [hW.ulist, ite_ref]
theorem W2.olst (hW : W2 g A σ ρ x M) : M (A 11 0) = some (lst (nI (σ.a 9 1)) (if σ.ob = 0 then g.E else A 12 0) σ.ob) := by rw [hW.olist, ite_ref]
theorem c_ul_size (hW : W2 g A σ ρ x M) : con g mJx4a65c_size_8abf5 0 0 [.ref (A 7 0)] M (rI (nI σ.un) M) := c_L_size g hW.ulst
theorem c_ol_size (hW : W2 g A σ ρ x M) : con g mJx4a65c_size_8abf5 0 0 [.ref (A 11 0)] M (rI (nI σ.ob) M) := c_L_size g hW.olst
theorem c_vl_size (hW : W2 g A σ ρ x M) {o : Nat} (ho : o < σ.ob) : con g mJx4a65c_size_8abf5 0 0 [.ref (A 17 o)] M (rI (nI (σ.a 1 o)) M) := c_L_size g (hW.vlist ho)
theorem c_ul_get (hW : W2 g A σ ρ x M) (hC : CAP σ) {j : Nat} (hj : j < σ.un) : con g mJx4a65c_get_915e3 0 0 [.ref (A 7 0), .int (nI j)] M (rA (.ref (A 13 j)) M) := by
  have h0 : 0 < σ.un := by omega
  have h1 := hC.1
  have h2 := hC.2.1
  have hL := hW.ulst
  rw [if_neg (by omega)] at hL
  have k := c_L_get (j := j) g hL (hW.udata h0) (by omega) (by omega) hj
  simp only [Nat.zero_add] at k
  exact k
theorem c_ol_get (hW : W2 g A σ ρ x M) (hC : CAP σ) {j : Nat} (hj : j < σ.ob) : con g mJx4a65c_get_915e3 0 0 [.ref (A 11 0), .int (nI j)] M (rA (.ref (A 16 j)) M) := by
  have h0 : 0 < σ.ob := by omega
  have h1 := hC.2.2.1
  have h2 := hC.2.2.2.1
  have hL := hW.olst
  rw [if_neg (by omega)] at hL
  have k := c_L_get (j := j) g hL (hW.odata h0) (by omega) (by omega) hj
  simp only [Nat.zero_add] at k
  exact k
theorem c_vl_get (hW : W2 g A σ ρ x M) (hC : CAP σ) {o j : Nat} (ho : o < σ.ob) (hj : j < σ.a 1 o) : con g mJx4a65c_get_915e3 0 0 [.ref (A 17 o), .int (nI j)] M (rA (.ref (A 19 (10 * o + j))) M) := by
  have h1 := hC.2.2.2.2 o ho
  exact c_L_get (j := j) g (hW.vlist ho) (hW.vdata ho) h1.2.1 (by omega) hj
end VIEWS
theorem cvO_1 : cvO 1 := ⟨_, rfl, gt_in 814 (by decide +kernel) rfl⟩
theorem cvO_4 : cvO 4 := ⟨_, rfl, gt_in 815 (by decide +kernel) rfl⟩
theorem cvO_5 : cvO 5 := ⟨_, rfl, gt_in 816 (by decide +kernel) rfl⟩
/-- where a version's base stands -/
abbrev nx (A : Nat → Nat → Nat) (σ : ST) (v : Nat) : Value := if σ.b 2 (σ.a 3 v) = true then .ref (A 19 (σ.a 4 v)) else .null
theorem nx_ref {A : Nat → Nat → Nat} {σ : ST} {v : Nat} : (nx A σ v).isRef = true := by
  unfold nx
  split <;> rfl
section VERS
variable (g : GG) {A : Nat → Nat → Nat} {σ ρ : ST} {x : XT} {M : Mem}
/-- what holds at the loop's head for the way's end and for each version holds for the way -/
theorem way_ind (hw : WF σ) (T : Value → List Nat → Prop) (h0 : T .null []) (h1 : ∀ v l, vok σ v → T (nx A σ v) l → T (.ref (A 19 v)) (v :: l)) : ∀ n v, v < n → vok σ v → T (.ref (A 19 v)) (chL σ v)
  | 0, v, h, _ => absurd h (Nat.not_lt_zero v)
  | n + 1, v, h, hv => by
    by_cases hd : σ.b 2 (σ.a 3 v) = true
    · obtain ⟨h3, h4⟩ := hw.bas hv hd
      rw [chL_d hw hv hd]
      refine h1 v _ hv ?_
      unfold nx
      rw [if_pos hd]
      exact way_ind hw T h0 h1 n _ (by omega) h4
    · rw [chL_w (by simpa using hd)]
      refine h1 v _ hv ?_
      unfold nx
      rw [if_neg hd]
      exact h0
theorem allG_c {v : Nat} {l : List Nat} : allG σ (v :: l) = ((good σ (σ.a 3 v)).isSome && allG σ l) := rfl
theorem good_yes {u : Nat} (e : ¬ oI (good σ u) = -1) : (good σ u).isSome = true := by
  obtain ⟨f, hf⟩ := oI_some e
  rw [hf]
  rfl
theorem good_no {u : Nat} (e : oI (good σ u) = -1) : good σ u = none := oI_none e (fun n hn => Nat.lt_trans (good_lt 4 n hn) (by decide))
theorem c_X4_isReadable (hW : W2 g A σ ρ x M) (hw : WF σ) {v : Nat} (hv : vok σ v) : con g mX4_isReadable 0 0 [.ref (A 19 v)] M (rI (bI (allG σ (chL σ v))) M) := by
  refine con_i ?_ (by decide) rfl rfl (by simp [lv_args, Value.category]) (by simp [lv_args, lnd, Value.category])
  have loop : ∀ n w, w < n → vok σ w → tri g mX4_isReadable 0 0 (rI (bI (allG σ (chL σ w))) M) M 2 [(0, .ref (A 19 v)), (1, .ref (A 19 w))] [] := by
    refine way_ind (A := A) hw (fun p l => tri g mX4_isReadable 0 0 (rI (bI (allG σ l)) M) M 2 [(0, .ref (A 19 v)), (1, p)] []) ?_ ?_
    · skip
      refine z_aload_n dX4_isReadable_2 rfl rfl ?_
      refine z_ifnull (tgt := 27) rfl dX4_isReadable_3 (by decide) (fun h3 => ?_) (fun h3 => ?_)
      · refine z_ic ki_1 dX4_isReadable_27 ?_
        refine z_ireturn dX4_isReadable_28 rfl (by first | rfl | exact bI_nar _) ?_
        exact rI_of rfl
      · exact absurd rfl h3
    · intro w l hw' hT
      have hver := hW.ver hw'
      have hu := (hw.2.2.1 w hw').1
      have hun := hW.unit hu
      refine z_aload_n dX4_isReadable_2 rfl rfl ?_
      refine z_ifnull (tgt := 27) rfl dX4_isReadable_3 (by decide) (fun h3 => ?_) (fun h3 => ?_)
      · cases h3
      · refine z_aload_n dX4_isReadable_6 rfl rfl ?_
        refine z_getfield dX4_isReadable_7 fg_RX4_15 (by assumption) rfl ?_
        refine z_ivI dX4_isReadable_10 cv_RX4_35 hun (c_X3_goodSite g hW hu) ⟨⟨by decide, by decide⟩, (by first | exact Nat.zero_le _ | decide | omega), (by first | exact Nat.zero_le _ | decide | omega)⟩ rfl rfl (Nat.le_of_ble_eq_true rfl) ?_
        refine z_ic ki_m1 dX4_isReadable_13 ?_
        refine z_icmp_ne (tgt := 19) dX4_isReadable_14 (by decide) (fun h14 => ?_) (fun h14 => ?_)
        · refine z_aload_n dX4_isReadable_19 rfl rfl ?_
          refine z_getfield dX4_isReadable_20 fg_RX4_19 (by assumption) rfl ?_
          refine z_astore_n dX4_isReadable_23 (by decide) nx_ref ?_
          refine z_goto (tgt := 2) dX4_isReadable_24 (by decide) ?_
          rw [allG_c, good_yes h14, Bool.true_and]
          exact hT
        · refine z_ic ki_0 dX4_isReadable_17 ?_
          refine z_ireturn dX4_isReadable_18 rfl (by first | rfl | exact bI_nar _) ?_
          exact rI_of (by rw [allG_c, good_no h14]; rfl)
  refine z_aload_n dX4_isReadable_0 rfl rfl ?_
  refine z_astore_n dX4_isReadable_1 (by decide) rfl ?_
  exact loop (v + 1) v (by omega) hv
theorem isum_nil (f : Nat → Int32) (a : Int32) : isum f a [] = a := rfl
theorem isum_cons (f : Nat → Int32) (a : Int32) (v : Nat) (l : List Nat) : isum f a (v :: l) = isum f (a + f v) l := rfl
theorem gvC_gval {u : Nat} (h : (good σ u).isSome = true) : gvC σ u = gval σ u := by
  unfold gvC gvO gval
  cases hg : good σ u with
  | none => rw [hg] at h; cases h
  | some f => rfl
theorem c_X4_sumOfGoodValues (hW : W2 g A σ ρ x M) (hw : WF σ) {v : Nat} (hv : vok σ v) (hG : allG σ (chL σ v) = true) : con g mX4_sumOfGoodValues 0 0 [.ref (A 19 v)] M (rI (rdv σ v) M) := by
  refine con_i ?_ (by decide) rfl rfl (by simp [lv_args, Value.category]) (by simp [lv_args, lnd, Value.category])
  have loop : ∀ n w, w < n → vok σ w → allG σ (chL σ w) = true → ∀ s : Int32, tri g mX4_sumOfGoodValues 0 0 (rI (isum (fun w => gval σ (σ.a 3 w)) s (chL σ w)) M) M 4 [(0, .ref (A 19 v)), (1, .int s), (2, .ref (A 19 w))] [] := by
    refine way_ind (A := A) hw (fun p l => allG σ l = true → ∀ s : Int32, tri g mX4_sumOfGoodValues 0 0 (rI (isum (fun w => gval σ (σ.a 3 w)) s l) M) M 4 [(0, .ref (A 19 v)), (1, .int s), (2, p)] []) ?_ ?_
    · intro _ s
      refine z_aload_n dX4_sumOfGoodValues_4 rfl rfl ?_
      refine z_ifnull (tgt := 26) rfl dX4_sumOfGoodValues_5 (by decide) (fun h5 => ?_) (fun h5 => ?_)
      · refine z_iload_n dX4_sumOfGoodValues_26 rfl ?_
        refine z_ireturn dX4_sumOfGoodValues_27 rfl (by first | rfl | exact bI_nar _) ?_
        exact rI_of rfl
      · exact absurd rfl h5
    · intro w l hw' hT hall s
      rw [allG_c, Bool.and_eq_true] at hall
      have hver := hW.ver hw'
      have hu := (hw.2.2.1 w hw').1
      have hun := hW.unit hu
      refine z_aload_n dX4_sumOfGoodValues_4 rfl rfl ?_
      refine z_ifnull (tgt := 26) rfl dX4_sumOfGoodValues_5 (by decide) (fun h5 => ?_) (fun h5 => ?_)
      · cases h5
      · refine z_iload_n dX4_sumOfGoodValues_8 rfl ?_
        refine z_aload_n dX4_sumOfGoodValues_9 rfl rfl ?_
        refine z_getfield dX4_sumOfGoodValues_10 fg_RX4_15 (by assumption) rfl ?_
        refine z_ivI dX4_sumOfGoodValues_13 cv_RX4_39 hun (c_X3_goodValue g hW hu) ⟨⟨by decide, by decide⟩, (by first | exact Nat.zero_le _ | decide | omega), (by first | exact Nat.zero_le _ | decide | omega)⟩ rfl rfl (Nat.le_of_ble_eq_true rfl) ?_
        refine z_iadd dX4_sumOfGoodValues_16 ?_
        refine z_istore_n dX4_sumOfGoodValues_17 (by decide) ?_
        refine z_aload_n dX4_sumOfGoodValues_18 rfl rfl ?_
        refine z_getfield dX4_sumOfGoodValues_19 fg_RX4_19 (by assumption) rfl ?_
        refine z_astore_n dX4_sumOfGoodValues_22 (by decide) nx_ref ?_
        refine z_goto (tgt := 4) dX4_sumOfGoodValues_23 (by decide) ?_
        rw [isum_cons, ← gvC_gval hall.1]
        exact hT hall.2 _
  refine z_ic ki_0 dX4_sumOfGoodValues_0 ?_
  refine z_istore_n dX4_sumOfGoodValues_1 (by decide) ?_
  refine z_aload_n dX4_sumOfGoodValues_2 rfl rfl ?_
  refine z_astore_n dX4_sumOfGoodValues_3 (by decide) rfl ?_
  exact loop (v + 1) v (by omega) hv hG _
end VERS
