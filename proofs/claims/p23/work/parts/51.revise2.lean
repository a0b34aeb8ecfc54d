/-! the class: revise -/
def rvB (σ : ST) (o : Int32) (d : Bool) : Option Nat := if d = true then some (latn σ (tN o) 10) else none
/-- what revise leaves in the class -/
def rvS (σ : ST) (o c : Int32) (d : Bool) (cap cap2 : Nat) : ST := if inC c = true ∧ inR σ.ob o = true ∧ ¬ σ.a 1 (tN o) = 10 then nvS (mkS σ (σ.a 0 (tN o)) (rvB σ o d) c cap) (tN o) (σ.a 2 (latn σ (tN o) 10)) (adF σ (rvB σ o d).isSome (bsV σ (rvB σ o d) c)) (latn σ (tN o) 10) c cap2 else σ
theorem mkS_ob (σ : ST) (w : Nat) (o : Option Nat) (c : Int32) (cap : Nat) : (mkS σ w o c cap).ob = σ.ob := (mkS_agr σ w o c cap).ob.trans ((obS_old σ w o.isSome (bsV σ o c) cap).1 1 (by decide))
section REVISE
variable (g : GG) {A : Nat → Nat → Nat} {σ ρ : ST} {x : XT} {M : Mem}
theorem c_X5_revise {B : Nat} (hW : W2 g A σ ρ x M) (hw : WF σ) (hC : CAP σ) (hN : ND σ) (hq : UQ σ) (hL : LD σ) (hH : HB B σ) (hB : B < 2147483648) (h5 : ∀ u, u < σ.un → σ.a 5 u < 2 ^ 30) (h0 : ∀ o, o < σ.ob → σ.a 0 o < 2 ^ 30) (hun : ∀ o, o < σ.ob → σ.a 1 o < 10 → σ.un < 100) (zc : ∀ s, σ.cp σ.un s = false) (zh : ∀ s, σ.hs σ.un s = 0) (o c : Int32) (d : Bool) : con g mX5_revise 9 339 [.ref (A 0 0), .int o, .int c, .int (bI d)] M (rO (o_revise σ o c d) (eX xIA xIO xIS) (fun M' => ∃ A2 cap cap2, (σ.un + 1 ≤ cap ∧ cap ≤ 150) ∧ (σ.a 1 (tN o) + 1 ≤ cap2 ∨ ¬ inR σ.ob o = true) ∧ cap2 ≤ 150 ∧ AK A A2 ∧ W2 g A2 (rvS σ o c d cap cap2) ρ x M')) := by
  refine con_i ?_ (by decide) rfl rfl (by simp [lv_args, Value.category]) (by simp [lv_args, lnd, Value.category])
  have hA := hW.hall
  have h10 := hw.1.1
  have h100 := hw.1.2
  have bad : ¬ (inC c = true ∧ inR σ.ob o = true ∧ ¬ σ.a 1 (tN o) = 10) → ∃ A2 cap cap2, (σ.un + 1 ≤ cap ∧ cap ≤ 150) ∧ (σ.a 1 (tN o) + 1 ≤ cap2 ∨ ¬ inR σ.ob o = true) ∧ cap2 ≤ 150 ∧ AK A A2 ∧ W2 g A2 (rvS σ o c d cap cap2) ρ x M := fun h => by
    refine ⟨A, 150, 150, ⟨by omega, by omega⟩, ?_, by omega, fun _ _ _ => rfl, by unfold rvS; rw [if_neg h]; exact hW⟩
    by_cases hi : inR σ.ob o = true
    · left
      have := hw.2.1 (tN o) (inR_of (by omega) hi).2
      omega
    · exact Or.inr hi
  refine z_iload_n dX5_revise_0 rfl ?_
  refine z_isB dX5_revise_1 cs_RX5_77 (c_X5_requireContent g c) ⟨⟨by decide, by decide⟩, (by first | exact Nat.zero_le _ | decide | omega), (by first | exact Nat.zero_le _ | decide | omega)⟩ rfl rfl (Nat.le_of_ble_eq_true rfl) rfl (fun h1 => ?_) (fun h1 => by rw [show o_revise σ o c d = (1, nI 0, σ) by unfold o_revise; rw [if_neg (by rw [h1]; decide)]]; exact rO_n (bad (fun q => by rw [h1] at q; cases q.1)) (Nat.one_ne_zero) rfl)
  refine z_aload_n dX5_revise_4 rfl rfl ?_
  refine z_iload_n dX5_revise_5 rfl ?_
  refine z_ivB dX5_revise_6 cv_RX5_100 hA (c_X5_objectAt g hW hw hC o) ⟨⟨by decide, by decide⟩, (by first | exact Nat.zero_le _ | decide | omega), (by first | exact Nat.zero_le _ | decide | omega)⟩ rfl rfl (Nat.le_of_ble_eq_true rfl) rfl (fun h6 => ?_) (fun h6 => by rw [show o_revise σ o c d = (2, nI 0, σ) by unfold o_revise; rw [if_pos h1, if_neg (by rw [h6]; decide)]]; exact rO_n (bad (fun q => by rw [h6] at q; cases q.2.1)) (Nat.succ_ne_zero 1) rfl)
  have lo := (inR_of (by omega) h6).2
  refine z_astore dX5_revise_9 (by decide) rfl ?_
  refine z_aload dX5_revise_11 rfl rfl ?_
  refine z_isB dX5_revise_13 cs_RX5_104 (c_X5_requireRoom g hW hw lo) ⟨⟨by decide, by decide⟩, (by first | exact Nat.zero_le _ | decide | omega), (by first | exact Nat.zero_le _ | decide | omega)⟩ rfl rfl (Nat.le_of_ble_eq_true rfl) rfl (fun h13 => ?_) (fun h13 => by have hf : σ.a 1 (tN o) = 10 := by { have := h13; simpa using this }; rw [show o_revise σ o c d = (3, nI 0, σ) by unfold o_revise; rw [if_pos h1, if_pos h6, if_pos hf]]; exact rO_n (bad (fun q => q.2.2 hf)) (Nat.succ_ne_zero 2) rfl)
  have hne : ¬ σ.a 1 (tN o) = 10 := by simpa using h13
  have hlt : σ.a 1 (tN o) < 10 := by have := hw.2.1 (tN o) lo; omega
  have hun' := hun (tN o) lo hlt
  have hD := hW.dob lo
  have hvk := latn_vok hw hC lo 10
  have hver := hW.ver hvk
  have eo : o_revise σ o c d = (0, nI (σ.a 1 (tN o)), adR σ (tN o) (σ.a 2 (latn σ (tN o) 10)) (latn σ (tN o) 10) d (rvV σ (latn σ (tN o) 10) c d)) := by unfold o_revise; rw [if_pos h1, if_pos h6, if_neg hne]
  rw [eo]
  refine z_aload dX5_revise_16 rfl rfl ?_
  refine z_ivA dX5_revise_18 cv_RX5_108 hD (c_X0_latest g hW hw hC lo) ⟨⟨by decide, by decide⟩, (by first | exact Nat.zero_le _ | decide | omega), (by first | exact Nat.zero_le _ | decide | omega)⟩ rfl rfl (Nat.le_of_ble_eq_true rfl) ?_
  refine z_astore dX5_revise_21 (by decide) rfl ?_
  refine z_iload_n dX5_revise_23 rfl ?_
  refine z_if_eq (tgt := 32) dX5_revise_24 (by decide) (fun h24 => ?_) (fun h24 => ?_)
  · refine z_aconst_null dX5_revise_32 ?_
    refine z_astore dX5_revise_33 (by decide) rfl ?_
    refine z_aload dX5_revise_35 rfl rfl ?_
    refine z_aload_n dX5_revise_37 rfl rfl ?_
    refine z_aload dX5_revise_38 rfl rfl ?_
    refine z_aload dX5_revise_40 rfl rfl ?_
    refine z_getfield dX5_revise_42 fg_RX5_112 hver rfl ?_
    refine z_iload_n dX5_revise_45 rfl ?_
    refine z_aload dX5_revise_46 rfl rfl ?_
    refine z_getfield dX5_revise_48 fg_RX5_118 hD rfl ?_
    have hb : rvB σ o d = none := by unfold rvB; rw [if_neg (nt h24)]
    have hmk := c_X5_makeVersion g hW hw hC hN hq hL hH hB h5 hun' zc zh (h0 _ lo) none (fun b h => by cases h) (nI (σ.a 2 (latn σ (tN o) 10))) c
    refine z_ivN dX5_revise_51 cv_RX5_90 hA (hmk) ⟨⟨by decide, by decide⟩, (by first | exact Nat.zero_le _ | decide | omega), (by first | exact Nat.zero_le _ | decide | omega)⟩ rfl rfl (Nat.le_of_ble_eq_true rfl) (fun q51 M51 hQ51 => ?_)
    obtain ⟨A', cap, hcap, hW1, hq', hdq, hkeep, hKP, hOD⟩ := hQ51
    have e16 := hkeep 16 _ lo (by decide)
    have hpre := addv_pre g (b := latn σ (tN o) 10) hw hun' hC lo rfl hlt (fun y h => by cases h) hcap hW1 hq' hdq
    have hO' := hW1.dob (i := tN o) (by rw [mkS_ob]; exact lo)
    rw [e16] at hpre hO'
    refine z_ivQ dX5_revise_54 cv_RX5_121 hO' (hpre) ⟨⟨by decide, by decide⟩, (by first | exact Nat.zero_le _ | decide | omega), (by first | exact Nat.zero_le _ | decide | omega)⟩ rfl rfl (Nat.le_of_ble_eq_true rfl) (fun M54 hQ54 => ?_)
    refine z_ireturn dX5_revise_57 rfl (by first | rfl | exact bI_nar _) ?_
    obtain ⟨A2, cap2, hc2, hA2, hW2⟩ := addv_W2 g (b := latn σ (tN o) 10) hw hun' hC lo rfl hlt (fun y h => by cases h) hcap hW1 hq' hdq hQ54
    refine rO_y ⟨A2, cap, cap2, hcap, Or.inl hc2.1, hc2.2, AK.of hkeep (fun kk i h => hA2 kk i (by omega) (by omega)), ?_⟩ rfl rfl
    unfold rvS
    rw [if_pos ⟨h1, h6, hne⟩, hb]
    exact hW2
  · refine z_aload dX5_revise_27 rfl rfl ?_
    refine z_goto (tgt := 33) dX5_revise_29 (by decide) ?_
    refine z_astore dX5_revise_33 (by decide) rfl ?_
    refine z_aload dX5_revise_35 rfl rfl ?_
    refine z_aload_n dX5_revise_37 rfl rfl ?_
    refine z_aload dX5_revise_38 rfl rfl ?_
    refine z_aload dX5_revise_40 rfl rfl ?_
    refine z_getfield dX5_revise_42 fg_RX5_112 hver rfl ?_
    refine z_iload_n dX5_revise_45 rfl ?_
    refine z_aload dX5_revise_46 rfl rfl ?_
    refine z_getfield dX5_revise_48 fg_RX5_118 hD rfl ?_
    have hb : rvB σ o d = some (latn σ (tN o) 10) := by unfold rvB; rw [if_pos (yt h24)]
    have hmk := c_X5_makeVersion g hW hw hC hN hq hL hH hB h5 hun' zc zh (h0 _ lo) (some (latn σ (tN o) 10)) (fun b h => by cases h; exact hvk) (nI (σ.a 2 (latn σ (tN o) 10))) c
    refine z_ivN dX5_revise_51 cv_RX5_90 hA (hmk) ⟨⟨by decide, by decide⟩, (by first | exact Nat.zero_le _ | decide | omega), (by first | exact Nat.zero_le _ | decide | omega)⟩ rfl rfl (Nat.le_of_ble_eq_true rfl) (fun q51 M51 hQ51 => ?_)
    obtain ⟨A', cap, hcap, hW1, hq', hdq, hkeep, hKP, hOD⟩ := hQ51
    have e16 := hkeep 16 _ lo (by decide)
    have hpre := addv_pre g (b := latn σ (tN o) 10) hw hun' hC lo rfl hlt (fun y h => by cases h; exact ⟨hvk, rfl⟩) hcap hW1 hq' hdq
    have hO' := hW1.dob (i := tN o) (by rw [mkS_ob]; exact lo)
    rw [e16] at hpre hO'
    refine z_ivQ dX5_revise_54 cv_RX5_121 hO' (hpre) ⟨⟨by decide, by decide⟩, (by first | exact Nat.zero_le _ | decide | omega), (by first | exact Nat.zero_le _ | decide | omega)⟩ rfl rfl (Nat.le_of_ble_eq_true rfl) (fun M54 hQ54 => ?_)
    refine z_ireturn dX5_revise_57 rfl (by first | rfl | exact bI_nar _) ?_
    obtain ⟨A2, cap2, hc2, hA2, hW2⟩ := addv_W2 g (b := latn σ (tN o) 10) hw hun' hC lo rfl hlt (fun y h => by cases h; exact ⟨hvk, rfl⟩) hcap hW1 hq' hdq hQ54
    refine rO_y ⟨A2, cap, cap2, hcap, Or.inl hc2.1, hc2.2, AK.of hkeep (fun kk i h => hA2 kk i (by omega) (by omega)), ?_⟩ rfl rfl
    unfold rvS
    rw [if_pos ⟨h1, h6, hne⟩, hb]
    exact hW2
end REVISE
