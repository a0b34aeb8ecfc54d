/-! the class: objects' methods; what versions claim -/
theorem bset_cut {f : Nat → Bool} {n : Nat} (h : ∀ k, n ≤ k → f k = false) : ∀ d, bset f (n + d) = bset f n
  | 0 => rfl
  | d + 1 => by
    show bset f (n + d) ||| (if f (n + d) = true then nI 1 <<< (nI (n + d) &&& 31) else nI 0) = _
    rw [h (n + d) (by omega), if_neg (by decide), or_nI0, bset_cut h d]
theorem there_no {σ : ST} (hw : WF σ) {o k : Nat} (h : σ.a 1 o ≤ k) (hk : k < 10) : σ.b 0 (10 * o + k) = false := by
  refine Bool.eq_false_iff.mpr fun q => ?_
  have h1 := (hw.2.2.2 _ q).2
  rw [show (10 * o + k) / 10 = o by omega, show (10 * o + k) % 10 = k by omega] at h1
  omega
theorem vok_at {σ : ST} {o k : Nat} (ho : o < σ.ob) (hk : k < σ.a 1 o) (h10 : σ.a 1 o ≤ 10) : vok σ (10 * o + k) := by
  unfold vok
  rw [show (10 * o + k) / 10 = o by omega, show (10 * o + k) % 10 = k by omega]
  exact ⟨ho, hk⟩
section OBJS
variable (g : GG) {A : Nat → Nat → Nat} {σ ρ : ST} {x : XT} {M : Mem}
theorem c_X0_isFull (hW : W2 g A σ ρ x M) (hw : WF σ) {o : Nat} (ho : o < σ.ob) : con g mX0_isFull 0 0 [.ref (A 16 o)] M (rI (bI (decide (σ.a 1 o = 10))) M) := by
  refine con_i ?_ (by decide) rfl rfl (by simp [lv_args, Value.category]) (by simp [lv_args, lnd, Value.category])
  have hD := hW.dob ho
  have hL := hW.vlist ho
  have h10 := hw.2.1 o ho
  refine z_aload_n dX0_isFull_0 rfl rfl ?_
  refine z_getfield dX0_isFull_1 fg_RX0_12 (by assumption) rfl ?_
  refine z_ivI dX0_isFull_4 cv_RX0_30 hL (c_vl_size hW ho) ⟨⟨by decide, by decide⟩, (by first | exact Nat.zero_le _ | decide | omega), (by first | exact Nat.zero_le _ | decide | omega)⟩ rfl rfl (Nat.le_of_ble_eq_true rfl) ?_
  refine z_bi kb_10 dX0_isFull_7 ?_
  refine z_icmp_lt (tgt := 16) dX0_isFull_9 (by decide) (fun h9 => ?_) (fun h9 => ?_)
  · refine z_ic ki_0 dX0_isFull_16 ?_
    refine z_ireturn dX0_isFull_17 rfl (by first | rfl | exact bI_nar _) ?_
    have h7 := (nI_ltI (by omega) (by decide)).mp h9
    exact rI_of (by rw [decide_eq_false (by omega)]; rfl)
  · refine z_ic ki_1 dX0_isFull_12 ?_
    refine z_goto (tgt := 17) dX0_isFull_13 (by decide) ?_
    refine z_ireturn dX0_isFull_17 rfl (by first | rfl | exact bI_nar _) ?_
    have h7 : ¬ σ.a 1 o < 10 := fun q => h9 ((nI_ltI (by omega) (by decide)).mpr q)
    exact rI_of (by rw [decide_eq_true (by omega)]; rfl)
/-- what find answers -/
def fnV (A : Nat → Nat → Nat) (σ : ST) (o : Nat) (v : Int32) : Value := if (inR 10 v && σ.b 0 (10 * o + tN v)) = true then .ref (A 19 (10 * o + tN v)) else .null
theorem c_X0_find (hW : W2 g A σ ρ x M) (hw : WF σ) (hC : CAP σ) {o : Nat} (ho : o < σ.ob) (v : Int32) : con g mX0_find 0 0 [.ref (A 16 o), .int v] M (rA (fnV A σ o v) M) := by
  refine con_i ?_ (by decide) rfl rfl (by simp [lv_args, Value.category]) (by simp [lv_args, lnd, Value.category])
  have hD := hW.dob ho
  have hL := hW.vlist ho
  have h10 := hw.2.1 o ho
  refine z_iload_n dX0_find_0 rfl ?_
  refine z_if_lt (tgt := 15) dX0_find_1 (by decide) (fun h1 => ?_) (fun h1 => ?_)
  · refine z_aconst_null dX0_find_15 ?_
    refine z_areturn dX0_find_16 rfl rfl (by first | exact Or.inl ⟨_, rfl⟩ | exact Or.inr ⟨_, rfl⟩) ?_
    have e : fnV A σ o v = .null := by
      unfold fnV
      rw [if_neg (fun q => ?_)]
      rw [Bool.and_eq_true] at q
      exact ((inR_iff (by decide)).mp q.1).1 h1
    exact rA_of e.symm
  · refine z_iload_n dX0_find_4 rfl ?_
    refine z_aload_n dX0_find_5 rfl rfl ?_
    refine z_getfield dX0_find_6 fg_RX0_12 (by assumption) rfl ?_
    refine z_ivI dX0_find_9 cv_RX0_30 hL (c_vl_size hW ho) ⟨⟨by decide, by decide⟩, (by first | exact Nat.zero_le _ | decide | omega), (by first | exact Nat.zero_le _ | decide | omega)⟩ rfl rfl (Nat.le_of_ble_eq_true rfl) ?_
    refine z_icmp_lt (tgt := 17) dX0_find_12 (by decide) (fun h12 => ?_) (fun h12 => ?_)
    · obtain ⟨j, hj, ej⟩ := nI_of h1
      subst ej
      have hjn := (nI_ltI hj (by omega)).mp h12
      have etn : tN (nI j) = j := nI_clamp hj
      have hvk := vok_at ho hjn h10
      have hver := hW.ver hvk
      refine z_aload_n dX0_find_17 rfl rfl ?_
      refine z_getfield dX0_find_18 fg_RX0_12 (by assumption) rfl ?_
      refine z_iload_n dX0_find_21 rfl ?_
      refine z_ivA dX0_find_22 cv_RX0_34 hL (c_vl_get hW hC ho hjn) ⟨⟨by decide, by decide⟩, (by first | exact Nat.zero_le _ | decide | omega), (by first | exact Nat.zero_le _ | decide | omega)⟩ rfl rfl (Nat.le_of_ble_eq_true rfl) ?_
      refine z_cast dX0_find_25 hver rfl (gt_in 405 (by decide +kernel) rfl) ?_
      refine z_astore_n dX0_find_28 (by decide) rfl ?_
      refine z_aload_n dX0_find_29 rfl rfl ?_
      refine z_getfield dX0_find_30 fg_RX0_40 (by assumption) rfl ?_
      refine z_if_eq (tgt := 40) dX0_find_33 (by decide) (fun h33 => ?_) (fun h33 => ?_)
      · refine z_aconst_null dX0_find_40 ?_
        refine z_areturn dX0_find_41 rfl rfl (by first | exact Or.inl ⟨_, rfl⟩ | exact Or.inr ⟨_, rfl⟩) ?_
        have e : fnV A σ o (nI j) = .null := by
          unfold fnV
          rw [etn, if_neg (fun q => ?_)]
          rw [Bool.and_eq_true] at q
          exact nt h33 q.2
        exact rA_of e.symm
      · refine z_aload_n dX0_find_36 rfl rfl ?_
        refine z_goto (tgt := 41) dX0_find_37 (by decide) ?_
        refine z_areturn dX0_find_41 rfl rfl (by first | exact Or.inl ⟨_, rfl⟩ | exact Or.inr ⟨_, rfl⟩) ?_
        have e : fnV A σ o (nI j) = .ref (A 19 (10 * o + j)) := by
          unfold fnV
          rw [etn, inR_nI (by decide) (by omega), yt h33]
          rfl
        exact rA_of e.symm
    · refine z_aconst_null dX0_find_15 ?_
      refine z_areturn dX0_find_16 rfl rfl (by first | exact Or.inl ⟨_, rfl⟩ | exact Or.inr ⟨_, rfl⟩) ?_
      have e : fnV A σ o v = .null := by
        unfold fnV
        rw [if_neg (fun q => ?_)]
        rw [Bool.and_eq_true] at q
        obtain ⟨ej, hj⟩ := inR_of (by decide) q.1
        rw [there_no hw (by
          have h13 : ¬ tN v < σ.a 1 o := fun z => h12 (by rw [ej]; exact (nI_ltI (by omega) (by omega)).mpr z)
          omega) hj] at q
        cases q.2
      exact rA_of e.symm
theorem c_X0_latest (hW : W2 g A σ ρ x M) (hw : WF σ) (hC : CAP σ) {o : Nat} (ho : o < σ.ob) : con g mX0_latest 0 0 [.ref (A 16 o)] M (rA (.ref (A 19 (latn σ o 10))) M) := by
  refine con_i ?_ (by decide) rfl rfl (by simp [lv_args, Value.category]) (by simp [lv_args, lnd, Value.category])
  have hD := hW.dob ho
  have hL := hW.vlist ho
  have h10 := hw.2.1 o ho
  have cut : ∀ d, σ.a 1 o + d ≤ 10 → latn σ o (σ.a 1 o + d) = latn σ o (σ.a 1 o) := by
    intro d
    induction d with
    | zero => exact fun _ => rfl
    | succ d ih =>
      intro hd
      show (if σ.b 0 (10 * o + (σ.a 1 o + d)) = true then 10 * o + (σ.a 1 o + d) else latn σ o (σ.a 1 o + d)) = _
      rw [there_no hw (by omega) (by omega), if_neg (by decide), ih (by omega)]
  have ecut : latn σ o 10 = latn σ o (σ.a 1 o) := by
    have := cut (10 - σ.a 1 o) (by omega)
    rw [show σ.a 1 o + (10 - σ.a 1 o) = 10 by omega] at this
    exact this
  rw [ecut]
  have loop : ∀ j, j ≤ σ.a 1 o → ∀ p x2 y, p = latn σ o j → x2 = nI j → (y = [] ∨ ∃ z, y = [(3, Value.ref z)]) → tri g mX0_latest 0 0 (rA (.ref (A 19 (latn σ o (σ.a 1 o)))) M) M 7 ((0, .ref (A 16 o)) :: (1, .ref (A 19 p)) :: (2, .int x2) :: y) [] := by
    refine lp_up (σ.a 1 o) ?_ ?_
    · intro p x2 y ep e2 hy
      subst e2 ep
      refine z_iload_n dX0_latest_7 rfl ?_
      refine z_aload_n dX0_latest_8 rfl rfl ?_
      refine z_getfield dX0_latest_9 fg_RX0_12 (by assumption) rfl ?_
      refine z_ivI dX0_latest_12 cv_RX0_30 hL (c_vl_size hW ho) ⟨⟨by decide, by decide⟩, (by first | exact Nat.zero_le _ | decide | omega), (by first | exact Nat.zero_le _ | decide | omega)⟩ rfl rfl (Nat.le_of_ble_eq_true rfl) ?_
      refine z_icmp_ge (tgt := 45) dX0_latest_15 (by decide) (fun h15 => ?_) (fun h15 => absurd (nI_le (by omega) (by omega)) h15)
      refine z_aload_n dX0_latest_45 rfl rfl ?_
      refine z_areturn dX0_latest_46 rfl rfl (by first | exact Or.inl ⟨_, rfl⟩ | exact Or.inr ⟨_, rfl⟩) ?_
      exact rA_of (by first | rfl | assumption)
    · intro j hj ih p x2 y ep e2 hy
      subst e2 ep
      have hvk := vok_at ho hj h10
      have hver := hW.ver hvk
      rcases hy with rfl | ⟨z, rfl⟩
      · skip
        refine z_iload_n dX0_latest_7 rfl ?_
        refine z_aload_n dX0_latest_8 rfl rfl ?_
        refine z_getfield dX0_latest_9 fg_RX0_12 (by assumption) rfl ?_
        refine z_ivI dX0_latest_12 cv_RX0_30 hL (c_vl_size hW ho) ⟨⟨by decide, by decide⟩, (by first | exact Nat.zero_le _ | decide | omega), (by first | exact Nat.zero_le _ | decide | omega)⟩ rfl rfl (Nat.le_of_ble_eq_true rfl) ?_
        refine z_icmp_ge (tgt := 45) dX0_latest_15 (by decide) (fun h15 => absurd h15 (nI_ge hj (by omega))) (fun h15 => ?_)
        refine z_aload_n dX0_latest_18 rfl rfl ?_
        refine z_getfield dX0_latest_19 fg_RX0_12 (by assumption) rfl ?_
        refine z_iload_n dX0_latest_22 rfl ?_
        refine z_ivA dX0_latest_23 cv_RX0_34 hL (c_vl_get hW hC ho hj) ⟨⟨by decide, by decide⟩, (by first | exact Nat.zero_le _ | decide | omega), (by first | exact Nat.zero_le _ | decide | omega)⟩ rfl rfl (Nat.le_of_ble_eq_true rfl) ?_
        refine z_cast dX0_latest_26 hver rfl (gt_in 405 (by decide +kernel) rfl) ?_
        refine z_astore_n dX0_latest_29 (by decide) rfl ?_
        refine z_aload_n dX0_latest_30 rfl rfl ?_
        refine z_getfield dX0_latest_31 fg_RX0_40 (by assumption) rfl ?_
        refine z_if_eq (tgt := 39) dX0_latest_34 (by decide) (fun h34 => ?_) (fun h34 => ?_)
        · refine z_inc ki_1 dX0_latest_39 rfl (by decide) ?_
          refine z_goto (tgt := 7) dX0_latest_42 (by decide) ?_
          exact ih _ _ _ (by rw [latn, if_neg (nt h34)]) (nI_add j 1) (Or.inr ⟨_, rfl⟩)
        · refine z_aload_n dX0_latest_37 rfl rfl ?_
          refine z_astore_n dX0_latest_38 (by decide) rfl ?_
          refine z_inc ki_1 dX0_latest_39 rfl (by decide) ?_
          refine z_goto (tgt := 7) dX0_latest_42 (by decide) ?_
          exact ih _ _ _ (by rw [latn, if_pos (yt h34)]) (nI_add j 1) (Or.inr ⟨_, rfl⟩)
      · skip
        refine z_iload_n dX0_latest_7 rfl ?_
        refine z_aload_n dX0_latest_8 rfl rfl ?_
        refine z_getfield dX0_latest_9 fg_RX0_12 (by assumption) rfl ?_
        refine z_ivI dX0_latest_12 cv_RX0_30 hL (c_vl_size hW ho) ⟨⟨by decide, by decide⟩, (by first | exact Nat.zero_le _ | decide | omega), (by first | exact Nat.zero_le _ | decide | omega)⟩ rfl rfl (Nat.le_of_ble_eq_true rfl) ?_
        refine z_icmp_ge (tgt := 45) dX0_latest_15 (by decide) (fun h15 => absurd h15 (nI_ge hj (by omega))) (fun h15 => ?_)
        refine z_aload_n dX0_latest_18 rfl rfl ?_
        refine z_getfield dX0_latest_19 fg_RX0_12 (by assumption) rfl ?_
        refine z_iload_n dX0_latest_22 rfl ?_
        refine z_ivA dX0_latest_23 cv_RX0_34 hL (c_vl_get hW hC ho hj) ⟨⟨by decide, by decide⟩, (by first | exact Nat.zero_le _ | decide | omega), (by first | exact Nat.zero_le _ | decide | omega)⟩ rfl rfl (Nat.le_of_ble_eq_true rfl) ?_
        refine z_cast dX0_latest_26 hver rfl (gt_in 405 (by decide +kernel) rfl) ?_
        refine z_astore_n dX0_latest_29 (by decide) rfl ?_
        refine z_aload_n dX0_latest_30 rfl rfl ?_
        refine z_getfield dX0_latest_31 fg_RX0_40 (by assumption) rfl ?_
        refine z_if_eq (tgt := 39) dX0_latest_34 (by decide) (fun h34 => ?_) (fun h34 => ?_)
        · refine z_inc ki_1 dX0_latest_39 rfl (by decide) ?_
          refine z_goto (tgt := 7) dX0_latest_42 (by decide) ?_
          exact ih _ _ _ (by rw [latn, if_neg (nt h34)]) (nI_add j 1) (Or.inr ⟨_, rfl⟩)
        · refine z_aload_n dX0_latest_37 rfl rfl ?_
          refine z_astore_n dX0_latest_38 (by decide) rfl ?_
          refine z_inc ki_1 dX0_latest_39 rfl (by decide) ?_
          refine z_goto (tgt := 7) dX0_latest_42 (by decide) ?_
          exact ih _ _ _ (by rw [latn, if_pos (yt h34)]) (nI_add j 1) (Or.inr ⟨_, rfl⟩)
  refine z_aload_n dX0_latest_0 rfl rfl ?_
  refine z_getfield dX0_latest_1 fg_RX0_22 (by assumption) rfl ?_
  refine z_astore_n dX0_latest_4 (by decide) rfl ?_
  refine z_ic ki_0 dX0_latest_5 ?_
  refine z_istore_n dX0_latest_6 (by decide) ?_
  exact loop 0 (by omega) _ _ _ rfl rfl (Or.inl rfl)
theorem c_X0_versionSet (hW : W2 g A σ ρ x M) (hw : WF σ) (hC : CAP σ) {o : Nat} (ho : o < σ.ob) : con g mX0_versionSet 0 0 [.ref (A 16 o)] M (rI (bset (fun k => σ.b 0 (10 * o + k)) 10) M) := by
  refine con_i ?_ (by decide) rfl rfl (by simp [lv_args, Value.category]) (by simp [lv_args, lnd, Value.category])
  have hD := hW.dob ho
  have hL := hW.vlist ho
  have h10 := hw.2.1 o ho
  have cut : ∀ d, σ.a 1 o + d ≤ 10 → bset (fun k => σ.b 0 (10 * o + k)) (σ.a 1 o + d) = bset (fun k => σ.b 0 (10 * o + k)) (σ.a 1 o) := by
    intro d
    induction d with
    | zero => exact fun _ => rfl
    | succ d ih =>
      intro hd
      show bset (fun k => σ.b 0 (10 * o + k)) (σ.a 1 o + d) ||| (if σ.b 0 (10 * o + (σ.a 1 o + d)) = true then nI 1 <<< (nI (σ.a 1 o + d) &&& 31) else nI 0) = _
      rw [there_no hw (by omega) (by omega), if_neg (by decide), or_nI0, ih (by omega)]
  have ecut : bset (fun k => σ.b 0 (10 * o + k)) 10 = bset (fun k => σ.b 0 (10 * o + k)) (σ.a 1 o) := by
    have := cut (10 - σ.a 1 o) (by omega)
    rw [show σ.a 1 o + (10 - σ.a 1 o) = 10 by omega] at this
    exact this
  rw [ecut]
  have loop : ∀ j, j ≤ σ.a 1 o → ∀ x1 x2, x1 = bset (fun k => σ.b 0 (10 * o + k)) j → x2 = nI j → tri g mX0_versionSet 0 0 (rI (bset (fun k => σ.b 0 (10 * o + k)) (σ.a 1 o)) M) M 4 [(0, .ref (A 16 o)), (1, .int x1), (2, .int x2)] [] := by
    refine lp_up (σ.a 1 o) ?_ ?_
    · intro x1 x2 e1 e2
      subst e2
      refine z_iload_n dX0_versionSet_4 rfl ?_
      refine z_aload_n dX0_versionSet_5 rfl rfl ?_
      refine z_getfield dX0_versionSet_6 fg_RX0_12 (by assumption) rfl ?_
      refine z_ivI dX0_versionSet_9 cv_RX0_30 hL (c_vl_size hW ho) ⟨⟨by decide, by decide⟩, (by first | exact Nat.zero_le _ | decide | omega), (by first | exact Nat.zero_le _ | decide | omega)⟩ rfl rfl (Nat.le_of_ble_eq_true rfl) ?_
      refine z_icmp_ge (tgt := 44) dX0_versionSet_12 (by decide) (fun h12 => ?_) (fun h12 => absurd (nI_le (by omega) (by omega)) h12)
      refine z_iload_n dX0_versionSet_44 rfl ?_
      refine z_ireturn dX0_versionSet_45 rfl (by first | rfl | exact bI_nar _) ?_
      exact rI_of (by first | rfl | assumption | simp_all)
    · intro j hj ih x1 x2 e1 e2
      subst e2
      have hvk := vok_at ho hj h10
      have hver := hW.ver hvk
      refine z_iload_n dX0_versionSet_4 rfl ?_
      refine z_aload_n dX0_versionSet_5 rfl rfl ?_
      refine z_getfield dX0_versionSet_6 fg_RX0_12 (by assumption) rfl ?_
      refine z_ivI dX0_versionSet_9 cv_RX0_30 hL (c_vl_size hW ho) ⟨⟨by decide, by decide⟩, (by first | exact Nat.zero_le _ | decide | omega), (by first | exact Nat.zero_le _ | decide | omega)⟩ rfl rfl (Nat.le_of_ble_eq_true rfl) ?_
      refine z_icmp_ge (tgt := 44) dX0_versionSet_12 (by decide) (fun h12 => absurd h12 (nI_ge hj (by omega))) (fun h12 => ?_)
      refine z_aload_n dX0_versionSet_15 rfl rfl ?_
      refine z_getfield dX0_versionSet_16 fg_RX0_12 (by assumption) rfl ?_
      refine z_iload_n dX0_versionSet_19 rfl ?_
      refine z_ivA dX0_versionSet_20 cv_RX0_34 hL (c_vl_get hW hC ho hj) ⟨⟨by decide, by decide⟩, (by first | exact Nat.zero_le _ | decide | omega), (by first | exact Nat.zero_le _ | decide | omega)⟩ rfl rfl (Nat.le_of_ble_eq_true rfl) ?_
      refine z_cast dX0_versionSet_23 hver rfl (gt_in 405 (by decide +kernel) rfl) ?_
      refine z_getfield dX0_versionSet_26 fg_RX0_40 (by assumption) rfl ?_
      refine z_if_eq (tgt := 38) dX0_versionSet_29 (by decide) (fun h29 => ?_) (fun h29 => ?_)
      · refine z_inc ki_1 dX0_versionSet_38 rfl (by decide) ?_
        refine z_goto (tgt := 4) dX0_versionSet_41 (by decide) ?_
        exact ih _ _ (by rw [e1, bset, if_neg (nt h29), or_nI0]) (nI_add j 1)
      · refine z_iload_n dX0_versionSet_32 rfl ?_
        refine z_ic ki_1 dX0_versionSet_33 ?_
        refine z_iload_n dX0_versionSet_34 rfl ?_
        refine z_ishl dX0_versionSet_35 ?_
        refine z_ior dX0_versionSet_36 ?_
        refine z_istore_n dX0_versionSet_37 (by decide) ?_
        refine z_inc ki_1 dX0_versionSet_38 rfl (by decide) ?_
        refine z_goto (tgt := 4) dX0_versionSet_41 (by decide) ?_
        exact ih _ _ (by rw [e1, bset, if_pos (yt h29)]) (nI_add j 1)
  refine z_ic ki_0 dX0_versionSet_0 ?_
  refine z_istore_n dX0_versionSet_1 (by decide) ?_
  refine z_ic ki_0 dX0_versionSet_2 ?_
  refine z_istore_n dX0_versionSet_3 (by decide) ?_
  exact loop 0 (by omega) _ _ rfl rfl
theorem c_X0_countThere (hW : W2 g A σ ρ x M) (hw : WF σ) (hC : CAP σ) {o : Nat} (ho : o < σ.ob) : con g mX0_countThere 0 0 [.ref (A 16 o)] M (rI (nI (many σ o 10)) M) := by
  refine con_i ?_ (by decide) rfl rfl (by simp [lv_args, Value.category]) (by simp [lv_args, lnd, Value.category])
  have hD := hW.dob ho
  refine z_aload_n dX0_countThere_0 rfl rfl ?_
  refine z_ivI dX0_countThere_1 cv_RX0_44 hD (c_X0_versionSet g hW hw hC ho) ⟨⟨by decide, by decide⟩, (by first | exact Nat.zero_le _ | decide | omega), (by first | exact Nat.zero_le _ | decide | omega)⟩ rfl rfl (Nat.le_of_ble_eq_true rfl) ?_
  refine z_isI dX0_countThere_4 cs_RX0_47 (c_J6_bitCount g M _) ⟨⟨by decide, by decide⟩, (by first | exact Nat.zero_le _ | decide | omega), (by first | exact Nat.zero_le _ | decide | omega)⟩ rfl rfl (Nat.le_of_ble_eq_true rfl) ?_
  refine z_ireturn dX0_countThere_7 rfl (by first | rfl | exact bI_nar _) ?_
  exact rI_of (by rw [bct10, cntB_many])
theorem c_X4_init {a u b : Nat} {B : Value} (hB : B.isRef = true) (f c : Int32) (hM : M a = some (ob 5 [.null, .null, .int 0, .int 0, .int 0])) : con g mX4_init 0 0 [.ref a, .ref u, B, .int f, .int c] M (rQ none (fun M' => M' a = some (ob 5 [.ref u, B, .int f, .int c, .int (bI true)]) ∧ ∀ p, p ≠ a → M' p = M p)) := by
  have hgo : tri g mX4_init 0 0 (rQ none (fun M' => M' a = some (ob 5 [.ref u, B, .int f, .int c, .int (bI true)]) ∧ ∀ p, p ≠ a → M' p = M p)) M 0 [(0, .ref a), (1, .ref u), (2, B), (3, .int f), (4, .int c)] [] := by
   skip
   refine z_aload_n dX4_init_0 rfl rfl ?_
   refine z_objInit dX4_init_1 ⟨gt_in 532 (by decide +kernel) rfl, gt_in 46 (by decide +kernel) rfl, gt_in 47 (by decide +kernel) rfl⟩ ⟨by decide, by decide⟩ (by decide) ?_
   refine z_aload_n dX4_init_4 rfl rfl ?_
   refine z_ic ki_1 dX4_init_5 ?_
   refine z_putfield dX4_init_6 (fpi_RX4_9 _) hM (Nat.le_of_ble_eq_true rfl) rfl rfl ?_
   refine z_aload_n dX4_init_9 rfl rfl ?_
   refine z_aload_n dX4_init_10 rfl rfl ?_
   refine z_putfield dX4_init_11 (fpi_RX4_15) mset_eq (Nat.le_of_ble_eq_true rfl) rfl rfl ?_
   refine z_aload_n dX4_init_14 rfl rfl ?_
   refine z_aload_n dX4_init_15 rfl hB ?_
   refine z_putfield dX4_init_16 fpi_RX4_19 mset_eq (Nat.le_of_ble_eq_true rfl) (by first | rfl | (cases B <;> first | rfl | cases hB)) (by first | rfl | (cases B <;> first | rfl | cases hB)) ?_
   refine z_aload_n dX4_init_19 rfl rfl ?_
   refine z_iload_n dX4_init_20 rfl ?_
   refine z_putfield dX4_init_21 (fpi_RX4_23) mset_eq (Nat.le_of_ble_eq_true rfl) rfl rfl ?_
   refine z_aload_n dX4_init_24 rfl rfl ?_
   refine z_iload dX4_init_25 rfl ?_
   refine z_putfield dX4_init_27 (fpi_RX4_27) mset_eq (Nat.le_of_ble_eq_true rfl) rfl rfl ?_
   refine z_return dX4_init_30 rfl ?_
   exact rQ_of ⟨mset_eq, fun p hp => by rw [mset_ne hp, mset_ne hp, mset_ne hp, mset_ne hp, mset_ne hp]⟩
  cases B with
  | null => exact con_i hgo (by decide) rfl rfl (by simp [lv_args, Value.category]) (by simp [lv_args, lnd, Value.category])
  | ref b => exact con_i hgo (by decide) rfl rfl (by simp [lv_args, Value.category]) (by simp [lv_args, lnd, Value.category])
  | _ => cases hB
end OBJS
