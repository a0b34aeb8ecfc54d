/-! the class: the objects at risk, purges -/
theorem latn_vok {σ : ST} (hw : WF σ) (hC : CAP σ) {o : Nat} (ho : o < σ.ob) : ∀ n, vok σ (latn σ o n)
  | 0 => by
    have h1 := hC.2.2.2.2 o ho
    have k := vok_at (k := 0) ho (by omega) (hw.2.1 o ho)
    rw [Nat.add_zero] at k
    exact k
  | n + 1 => by
    unfold latn
    split
    · rename_i h
      exact hw.2.2.2 _ h
    · exact latn_vok hw hC ho n
theorem many_pos {σ : ST} {o k : Nat} (h : σ.b 0 (10 * o + k) = true) : ∀ n, k < n → 1 ≤ many σ o n
  | 0, hk => absurd hk (Nat.not_lt_zero k)
  | n + 1, hk => by
    unfold many
    by_cases hn : k = n
    · rw [← hn, if_pos h]
      omega
    · have := many_pos h n (by omega)
      omega
/-- what purge leaves in the class -/
def puS (σ : ST) (o v : Int32) : ST := if isV σ o v = true ∧ ¬ many σ (tN o) 10 = 1 then relS (chL (σ.sb 0 (10 * tN o + tN v) false) (10 * tN o + tN v)) (σ.sb 0 (10 * tN o + tN v) false) else σ
section OPS4
variable (g : GG) {A : Nat → Nat → Nat} {σ ρ : ST} {x : XT} {M : Mem}
theorem c_X5_atRisk (hW : W2 g A σ ρ x M) (hw : WF σ) (hC : CAP σ) (hf : σ.fo ≤ 8) (h2 : ∀ v, vok σ v → σ.a 2 v < σ.fo) (r : Int32) : con g mX5_atRisk 1 6 [.ref (A 0 0), .int r] M (rO (o_atRisk σ r) (eX xIA xIA xIA) (W2 g A (o_atRisk σ r).2.2 ρ x)) := by
  refine con_i ?_ (by decide) rfl rfl (by simp [lv_args, Value.category]) (by simp [lv_args, lnd, Value.category])
  have hA := hW.hall
  have hm := hW.fmts
  have hl := hW.olst
  have h10 := hw.1.1
  have loop : inK 0 100 r = true → ∀ j, j ≤ σ.ob → ∀ x2 x3, x2 = bset (riskB σ r) j → x3 = nI j → tri g mX5_atRisk 0 0 (rO (o_atRisk σ r) (eX xIA xIA xIA) (W2 g A (o_atRisk σ r).2.2 ρ x)) M 8 [(0, .ref (A 0 0)), (1, .int r), (2, .int x2), (3, .int x3)] [] := by
    intro hk
    have eo : o_atRisk σ r = (0, bset (riskB σ r) σ.ob, σ) := by unfold o_atRisk; rw [if_pos hk]
    rw [eo]
    refine lp_up σ.ob ?_ ?_
    · intro x2 x3 e2 e3
      subst e2 e3
      refine z_iload_n dX5_atRisk_8 rfl ?_
      refine z_aload_n dX5_atRisk_9 rfl rfl ?_
      refine z_getfield dX5_atRisk_10 fg_RX5_26 (by assumption) rfl ?_
      refine z_ivI dX5_atRisk_13 cv_RX5_82 hl (c_ol_size hW) ⟨⟨by decide, by decide⟩, (by first | exact Nat.zero_le _ | decide | omega), (by first | exact Nat.zero_le _ | decide | omega)⟩ rfl rfl (Nat.le_of_ble_eq_true rfl) ?_
      refine z_icmp_ge (tgt := 59) dX5_atRisk_16 (by decide) (fun h16 => ?_) (fun h16 => absurd (nI_le (by omega) (by omega)) h16)
      refine z_iload_n dX5_atRisk_59 rfl ?_
      refine z_ireturn dX5_atRisk_60 rfl (by first | rfl | exact bI_nar _) ?_
      exact rO_y hW rfl rfl
    · intro j hj ih x2 x3 e2 e3
      subst e2 e3
      have hD := hW.dob hj
      have hvk := latn_vok hw hC hj 10
      have hver := hW.ver hvk
      have hfm := h2 _ hvk
      have hrk : rsk σ (nI (σ.a 2 (latn σ j 10))) = σ.i 0 (σ.a 2 (latn σ j 10)) := by
        unfold rsk
        rw [if_pos (inR_nI (by omega) hfm), show tN (nI (σ.a 2 (latn σ j 10))) = σ.a 2 (latn σ j 10) from nI_clamp (by omega)]
      have hri := c_X1_riskOf g hW hf (nI (σ.a 2 (latn σ j 10)))
      rw [hrk] at hri
      refine z_iload_n dX5_atRisk_8 rfl ?_
      refine z_aload_n dX5_atRisk_9 rfl rfl ?_
      refine z_getfield dX5_atRisk_10 fg_RX5_26 (by assumption) rfl ?_
      refine z_ivI dX5_atRisk_13 cv_RX5_82 hl (c_ol_size hW) ⟨⟨by decide, by decide⟩, (by first | exact Nat.zero_le _ | decide | omega), (by first | exact Nat.zero_le _ | decide | omega)⟩ rfl rfl (Nat.le_of_ble_eq_true rfl) ?_
      refine z_icmp_ge (tgt := 59) dX5_atRisk_16 (by decide) (fun h16 => absurd h16 (nI_ge hj (by omega))) (fun h16 => ?_)
      refine z_aload_n dX5_atRisk_19 rfl rfl ?_
      refine z_getfield dX5_atRisk_20 fg_RX5_10 (by assumption) rfl ?_
      refine z_aload_n dX5_atRisk_23 rfl rfl ?_
      refine z_getfield dX5_atRisk_24 fg_RX5_26 (by assumption) rfl ?_
      refine z_iload_n dX5_atRisk_27 rfl ?_
      refine z_ivA dX5_atRisk_28 cv_RX5_166 hl (c_ol_get hW hC hj) ⟨⟨by decide, by decide⟩, (by first | exact Nat.zero_le _ | decide | omega), (by first | exact Nat.zero_le _ | decide | omega)⟩ rfl rfl (Nat.le_of_ble_eq_true rfl) ?_
      refine z_cast dX5_atRisk_31 hD rfl (gt_in 398 (by decide +kernel) rfl) ?_
      refine z_ivA dX5_atRisk_34 cv_RX5_108 hD (c_X0_latest g hW hw hC hj) ⟨⟨by decide, by decide⟩, (by first | exact Nat.zero_le _ | decide | omega), (by first | exact Nat.zero_le _ | decide | omega)⟩ rfl rfl (Nat.le_of_ble_eq_true rfl) ?_
      refine z_getfield dX5_atRisk_37 fg_RX5_112 hver rfl ?_
      refine z_ivI dX5_atRisk_40 cv_RX5_170 hm (hri) ⟨⟨by decide, by decide⟩, (by first | exact Nat.zero_le _ | decide | omega), (by first | exact Nat.zero_le _ | decide | omega)⟩ rfl rfl (Nat.le_of_ble_eq_true rfl) ?_
      refine z_iload_n dX5_atRisk_43 rfl ?_
      refine z_icmp_lt (tgt := 53) dX5_atRisk_44 (by decide) (fun h44 => ?_) (fun h44 => ?_)
      · refine z_inc ki_1 dX5_atRisk_53 rfl (by decide) ?_
        refine z_goto (tgt := 8) dX5_atRisk_56 (by decide) ?_
        exact ih _ _ (by rw [bset, if_neg (by unfold riskB; rw [decide_eq_false (Int32.not_le.mpr h44)]; decide), or_nI0]) (nI_add j 1)
      · refine z_iload_n dX5_atRisk_47 rfl ?_
        refine z_ic ki_1 dX5_atRisk_48 ?_
        refine z_iload_n dX5_atRisk_49 rfl ?_
        refine z_ishl dX5_atRisk_50 ?_
        refine z_ior dX5_atRisk_51 ?_
        refine z_istore_n dX5_atRisk_52 (by decide) ?_
        refine z_inc ki_1 dX5_atRisk_53 rfl (by decide) ?_
        refine z_goto (tgt := 8) dX5_atRisk_56 (by decide) ?_
        exact ih _ _ (by rw [bset, if_pos (by unfold riskB; exact decide_eq_true (Int32.not_lt.mp h44))]) (nI_add j 1)
  refine z_iload_n dX5_atRisk_0 rfl ?_
  refine z_isB dX5_atRisk_1 cs_RX5_30 (c_X5_requireRisk g r) ⟨⟨by decide, by decide⟩, (by first | exact Nat.zero_le _ | decide | omega), (by first | exact Nat.zero_le _ | decide | omega)⟩ rfl rfl (Nat.le_of_ble_eq_true rfl) rfl (fun h1 => ?_) (fun h1 => by unfold o_atRisk; rw [if_neg (by rw [h1]; decide)]; exact rO_n hW (Nat.one_ne_zero) rfl)
  refine z_ic ki_0 dX5_atRisk_4 ?_
  refine z_istore_n dX5_atRisk_5 (by decide) ?_
  refine z_ic ki_0 dX5_atRisk_6 ?_
  refine z_istore_n dX5_atRisk_7 (by decide) ?_
  exact loop h1 0 (by omega) _ _ rfl rfl
theorem c_X5_purge (hW : W2 g A σ ρ x M) (hw : WF σ) (hC : CAP σ) (hL : LD σ) (h6 : ∀ u, u < σ.un → σ.a 6 u < 2 ^ 30) (o v : Int32) (hge : isV σ o v = true → ∀ u, cnL σ u (chL σ (10 * tN o + tN v)) ≤ σ.a 6 u) (hpg : isV σ o v = true → ¬ many σ (tN o) 10 = 1 → relN (chL (σ.sb 0 (10 * tN o + tN v) false) (10 * tN o + tN v)) (σ.sb 0 (10 * tN o + tN v) false) = pgN (σ.sb 0 (10 * tN o + tN v) false) σ.un) : con g mX5_purge 3 18 [.ref (A 0 0), .int o, .int v] M (rO (o_purge σ o v) (eX xIO xIS xIS) (W2 g A (puS σ o v) ρ x)) := by
  refine con_i ?_ (by decide) rfl rfl (by simp [lv_args, Value.category]) (by simp [lv_args, lnd, Value.category])
  have hA := hW.hall
  have h10 := hw.1.1
  have en : ¬ isV σ o v = true → o_purge σ o v = (1, nI 0, σ) ∧ puS σ o v = σ := fun h => ⟨by unfold o_purge; rw [if_neg h], by unfold puS; rw [if_neg (fun q => h q.1)]⟩
  refine z_aload_n dX5_purge_0 rfl rfl ?_
  refine z_iload_n dX5_purge_1 rfl ?_
  refine z_ivB dX5_purge_2 cv_RX5_100 hA (c_X5_objectAt g hW hw hC o) ⟨⟨by decide, by decide⟩, (by first | exact Nat.zero_le _ | decide | omega), (by first | exact Nat.zero_le _ | decide | omega)⟩ rfl rfl (Nat.le_of_ble_eq_true rfl) rfl (fun h2 => ?_) (fun h2 => by obtain ⟨a1, a2⟩ := en (fun q => by unfold isV at q; rw [h2] at q; cases q); rw [a1, a2]; exact rO_n hW (Nat.one_ne_zero) rfl)
  have lo := (inR_of (by omega) h2).2
  refine z_astore_n dX5_purge_5 (by decide) rfl ?_
  refine z_aload_n dX5_purge_6 rfl rfl ?_
  refine z_iload_n dX5_purge_7 rfl ?_
  refine z_isB dX5_purge_8 cs_RX5_138 (c_X5_versionAt g hW hw hC lo v) ⟨⟨by decide, by decide⟩, (by first | exact Nat.zero_le _ | decide | omega), (by first | exact Nat.zero_le _ | decide | omega)⟩ rfl rfl (Nat.le_of_ble_eq_true rfl) rfl (fun h8 => ?_) (fun h8 => by obtain ⟨a1, a2⟩ := en (fun q => by unfold isV at q; rw [h2, h8] at q; cases q); rw [a1, a2]; exact rO_n hW (Nat.one_ne_zero) rfl)
  have hV : isV σ o v = true := by unfold isV; rw [h2, h8]; rfl
  obtain ⟨-, ⟨-, lv⟩, hb0, hvk⟩ := isV_of hw hV
  have hmp := many_pos hb0 10 lv
  have hm10 := many_le σ (tN o) 10
  refine z_astore dX5_purge_11 (by decide) rfl ?_
  refine z_aload_n dX5_purge_13 rfl rfl ?_
  refine z_ivI dX5_purge_14 cv_RX5_142 (hW.dob lo) (c_X0_countThere g hW hw hC lo) ⟨⟨by decide, by decide⟩, (by first | exact Nat.zero_le _ | decide | omega), (by first | exact Nat.zero_le _ | decide | omega)⟩ rfl rfl (Nat.le_of_ble_eq_true rfl) ?_
  refine z_ic ki_1 dX5_purge_17 ?_
  refine z_icmp_gt (tgt := 31) dX5_purge_18 (by decide) (fun h18 => ?_) (fun h18 => ?_)
  · have hm1 : ¬ many σ (tN o) 10 = 1 := fun q => by rw [q] at h18; exact absurd h18 (by decide)
    have hW2 := hW.cthere _ hvk false
    have hw2 := hw.pb0 (10 * tN o + tN v)
    have hL2 : LD (σ.sb 0 (10 * tN o + tN v) false) := fun t ht => (hL t ht).trans (ldn_cp (σ := σ) (τ := σ.sb 0 (10 * tN o + tN v) false) 100 (fun _ _ => rfl)).symm
    have ech : chL (σ.sb 0 (10 * tN o + tN v) false) (10 * tN o + tN v) = chL σ (10 * tN o + tN v) := chf_congr (σ := σ) (τ := σ.sb 0 (10 * tN o + tN v) false) rfl (show f2 σ.2.2.2.1 0 (10 * tN o + tN v) false 2 = σ.2.2.2.1 2 from f2_a (by decide)) _ _
    have ecn : ∀ u l, cnL (σ.sb 0 (10 * tN o + tN v) false) u l = cnL σ u l := fun u l => by
      induction l with
      | nil => rfl
      | cons w l ih => unfold cnL; rw [ih]; rfl
    have hrel := c_X2_release g hW2 hw2 hL2 (v := 10 * tN o + tN v) hvk h6 (fun u => by rw [ech, ecn]; exact hge hV u)
    refine z_aload dX5_purge_31 rfl rfl ?_
    refine z_ic ki_0 dX5_purge_33 ?_
    refine z_putfield dX5_purge_34 (fp_RX5_147 _) (hW.ver hvk) (Nat.le_of_ble_eq_true rfl) rfl rfl ?_
    refine z_aload_n dX5_purge_37 rfl rfl ?_
    refine z_getfield dX5_purge_38 fg_RX5_19 hW2.hall rfl ?_
    refine z_aload dX5_purge_41 rfl rfl ?_
    refine z_ivQ dX5_purge_43 cv_RX5_151 hW2.store (hrel) ⟨⟨by decide, by decide⟩, (by first | exact Nat.zero_le _ | decide | omega), (by first | exact Nat.zero_le _ | decide | omega)⟩ rfl rfl (Nat.le_of_ble_eq_true rfl) (fun M43 hQ43 => ?_)
    refine z_ireturn dX5_purge_46 rfl (by first | rfl | exact bI_nar _) ?_
    have e : o_purge σ o v = (0, nI (pgN (σ.sb 0 (10 * tN o + tN v) false) σ.un), pgS (σ.sb 0 (10 * tN o + tN v) false) σ.un) := by unfold o_purge; rw [if_pos hV, if_neg hm1]
    have e2 : puS σ o v = relS (chL (σ.sb 0 (10 * tN o + tN v) false) (10 * tN o + tN v)) (σ.sb 0 (10 * tN o + tN v) false) := by unfold puS; rw [if_pos ⟨hV, hm1⟩]
    rw [e, e2]
    exact rO_y hQ43 rfl (by rw [hpg hV hm1])
  · have hm1 : many σ (tN o) 10 = 1 := by
      have := mt (fun q => (nI_ltI (a := 1) (by decide) (by omega)).mpr q) h18
      omega
    have e : o_purge σ o v = (2, nI 0, σ) := by unfold o_purge; rw [if_pos hV, if_pos hm1]
    have e2 : puS σ o v = σ := by unfold puS; rw [if_neg (fun q => q.2 hm1)]
    rw [e, e2]
    exact z_throw (thk_IS (is := 145) (text := "the only version that is there") (List.mem_of_getElem? (i := 7) rfl)) dX5_purge_21 dX5_purge_24 dX5_purge_25 dX5_purge_27 dX5_purge_30 rfl ⟨by decide, by decide, by first | decide | omega, by first | decide | omega⟩ (Nat.le_of_ble_eq_true rfl) (rO_n hW (Nat.succ_ne_zero 1) rfl)
end OPS4
