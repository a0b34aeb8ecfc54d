/-! the class: convert -/
/-- what convert leaves in the class -/
def cvK (σ : ST) (o f : Int32) : Bool := (inR σ.ob o && inR σ.fo f) && cvOk σ (tN o) (tN f) (latn σ (tN o) 10)
def cvN (σ : ST) (o f : Int32) : Int32 := cvC (rdv σ (latn σ (tN o) 10)) (way σ (σ.a 2 (latn σ (tN o) 10)) (tN f))
def cvS (σ : ST) (o f : Int32) (cap cap2 : Nat) : ST := if cvK σ o f = true then nvS (mkS σ (σ.a 0 (tN o)) none (cvN σ o f) cap) (tN o) (tN f) (adF σ false (cvN σ o f)) (latn σ (tN o) 10) (cvN σ o f) cap2 else σ
section CONVERT
variable (g : GG) {A : Nat → Nat → Nat} {σ ρ : ST} {x : XT} {M : Mem}
theorem c_X5_convert {B : Nat} (hW : W2 g A σ ρ x M) (hw : WF σ) (hLI : LI σ) (hC : CAP σ) (hN : ND σ) (hq : UQ σ) (hL : LD σ) (hH : HB B σ) (hB : B < 2147483648) (h5 : ∀ u, u < σ.un → σ.a 5 u < 2 ^ 30) (h0 : ∀ o, o < σ.ob → σ.a 0 o < 2 ^ 30) (hfm : ∀ v, vok σ v → σ.a 2 v < σ.fo) (hun : ∀ o, o < σ.ob → σ.a 1 o < 10 → σ.un < 100) (zc : ∀ s, σ.cp σ.un s = false) (zh : ∀ s, σ.hs σ.un s = 0) (o f : Int32) : con g mX5_convert 10 345 [.ref (A 0 0), .int o, .int f] M (rO (o_convert σ o f) (eX xIO xIS xIS) (fun M' => ∃ A2 cap cap2 fr, (σ.un + 1 ≤ cap ∧ cap ≤ 150) ∧ cap2 ≤ 150 ∧ (cvK σ o f = true → σ.a 1 (tN o) + 1 ≤ cap2) ∧ AK A A2 ∧ W2 g A2 (cvS σ o f cap cap2) ρ (x.srch fr) M')) := by
  refine con_i ?_ (by decide) rfl rfl (by simp [lv_args, Value.category]) (by simp [lv_args, lnd, Value.category])
  have hA := hW.hall
  have hf8 := hLI.1
  have h10 := hw.1.1
  have h100 := hw.1.2
  have bad : ∀ (fr : Nat → Int32) (M1 : Mem), W2 g A σ ρ (x.srch fr) M1 → σ.un + 1 ≤ 150 → ¬ cvK σ o f = true → ∃ A2 cap cap2 fr, (σ.un + 1 ≤ cap ∧ cap ≤ 150) ∧ cap2 ≤ 150 ∧ (cvK σ o f = true → σ.a 1 (tN o) + 1 ≤ cap2) ∧ AK A A2 ∧ W2 g A2 (cvS σ o f cap cap2) ρ (x.srch fr) M1 := fun fr M1 h hu hk => ⟨A, 150, 150, fr, ⟨hu, Nat.le_refl _⟩, Nat.le_refl _, fun h' => absurd h' hk, fun _ _ _ => rfl, by unfold cvS; rw [if_neg hk]; exact h⟩
  have hW0 : W2 g A σ ρ (x.srch x.rch) M := hW
  have e1 : ¬ (inR σ.ob o && inR σ.fo f) = true → o_convert σ o f = (1, nI 0, σ) := fun h => by unfold o_convert; rw [if_neg h]
  have e2 : (inR σ.ob o && inR σ.fo f) = true → ¬ cvOk σ (tN o) (tN f) (latn σ (tN o) 10) = true → o_convert σ o f = (2, nI 0, σ) := fun h h' => by unfold o_convert; rw [if_pos h, if_neg h']
  have k1 : ¬ (inR σ.ob o && inR σ.fo f) = true → ¬ cvK σ o f = true := fun h q => by unfold cvK at q; rw [Bool.and_eq_true] at q; exact h q.1
  have k2 : ¬ cvOk σ (tN o) (tN f) (latn σ (tN o) 10) = true → ¬ cvK σ o f = true := fun h q => by unfold cvK at q; rw [Bool.and_eq_true] at q; exact h q.2
  refine z_aload_n dX5_convert_0 rfl rfl ?_
  refine z_iload_n dX5_convert_1 rfl ?_
  refine z_ivB dX5_convert_2 cv_RX5_100 hA (c_X5_objectAt g hW hw hC o) ⟨⟨by decide, by decide⟩, (by first | exact Nat.zero_le _ | decide | omega), (by first | exact Nat.zero_le _ | decide | omega)⟩ rfl rfl (Nat.le_of_ble_eq_true rfl) rfl (fun h2 => ?_) (fun h2 => by have hn : ¬ (inR σ.ob o && inR σ.fo f) = true := (by rw [h2, Bool.false_and]; decide); rw [e1 hn]; exact rO_n (bad _ _ hW0 (by omega) (k1 hn)) (Nat.one_ne_zero) rfl)
  refine z_astore_n dX5_convert_5 (by decide) rfl ?_
  refine z_aload_n dX5_convert_6 rfl rfl ?_
  refine z_iload_n dX5_convert_7 rfl ?_
  refine z_ivB dX5_convert_8 cv_RX5_49 hA (c_X5_requireFormat g hW hf8 f) ⟨⟨by decide, by decide⟩, (by first | exact Nat.zero_le _ | decide | omega), (by first | exact Nat.zero_le _ | decide | omega)⟩ rfl rfl (Nat.le_of_ble_eq_true rfl) rfl (fun h8 => ?_) (fun h8 => by have hn : ¬ (inR σ.ob o && inR σ.fo f) = true := (by rw [h8, Bool.and_false]; decide); rw [e1 hn]; exact rO_n (bad _ _ hW0 (by omega) (k1 hn)) (Nat.one_ne_zero) rfl)
  have hin : (inR σ.ob o && inR σ.fo f) = true := by rw [h2, h8]; rfl
  have lo := (inR_of (by omega) h2).2
  obtain ⟨ef, lf⟩ := inR_of (by omega) h8
  refine z_aload_n dX5_convert_11 rfl rfl ?_
  refine z_isB dX5_convert_12 cs_RX5_104 (c_X5_requireRoom g hW hw lo) ⟨⟨by decide, by decide⟩, (by first | exact Nat.zero_le _ | decide | omega), (by first | exact Nat.zero_le _ | decide | omega)⟩ rfl rfl (Nat.le_of_ble_eq_true rfl) rfl (fun h12 => ?_) (fun h12 => by have hx : σ.a 1 (tN o) = 10 := by { simpa using h12 }; have hn : ¬ cvOk σ (tN o) (tN f) (latn σ (tN o) 10) = true := (by unfold cvOk; rw [hx]; simp); rw [e2 hin hn]; exact rO_n (bad _ _ hW0 (by omega) (k2 hn)) (Nat.succ_ne_zero 1) rfl)
  have hne10 : ¬ σ.a 1 (tN o) = 10 := by simpa using h12
  have hlt : σ.a 1 (tN o) < 10 := by have := hw.2.1 (tN o) lo; omega
  have hun' := hun (tN o) lo hlt
  have hD := hW.dob lo
  have hvk := latn_vok hw hC lo 10
  have hver := hW.ver hvk
  have hfl := hfm _ hvk
  refine z_aload_n dX5_convert_15 rfl rfl ?_
  refine z_ivA dX5_convert_16 cv_RX5_108 hD (c_X0_latest g hW hw hC lo) ⟨⟨by decide, by decide⟩, (by first | exact Nat.zero_le _ | decide | omega), (by first | exact Nat.zero_le _ | decide | omega)⟩ rfl rfl (Nat.le_of_ble_eq_true rfl) ?_
  refine z_astore dX5_convert_19 (by decide) rfl ?_
  refine z_aload dX5_convert_21 rfl rfl ?_
  refine z_getfield dX5_convert_23 fg_RX5_112 hver rfl ?_
  refine z_iload_n dX5_convert_26 rfl ?_
  refine z_icmp_ne (tgt := 40) dX5_convert_27 (by decide) (fun h27 => ?_) (fun h27 => ?_)
  · have hff : ¬ σ.a 2 (latn σ (tN o) 10) = tN f := fun e => h27 (by rw [e]; exact ef.symm)
    have ebc : bstC σ (nI (σ.a 2 (latn σ (tN o) 10))) f = way σ (σ.a 2 (latn σ (tN o) 10)) (tN f) := by
      unfold bstC
      rw [if_pos ⟨inR_nI (by omega) hfl, h8⟩, show tN (nI (σ.a 2 (latn σ (tN o) 10))) = σ.a 2 (latn σ (tN o) 10) from nI_clamp (by omega)]
    have hbc := c_X1_bestCost g hLI hW (nI (σ.a 2 (latn σ (tN o) 10))) f
    rw [ebc] at hbc
    refine z_aload_n dX5_convert_40 rfl rfl ?_
    refine z_getfield dX5_convert_41 fg_RX5_10 (by assumption) rfl ?_
    refine z_aload dX5_convert_44 rfl rfl ?_
    refine z_getfield dX5_convert_46 fg_RX5_112 hver rfl ?_
    refine z_iload_n dX5_convert_49 rfl ?_
    refine z_ivQ dX5_convert_50 cv_RX5_71 hW.fmts (hbc) ⟨⟨by decide, by decide⟩, (by first | exact Nat.zero_le _ | decide | omega), (by first | exact Nat.zero_le _ | decide | omega)⟩ rfl rfl (Nat.le_of_ble_eq_true rfl) (fun M50 hQ50 => ?_)
    obtain ⟨fr, hW3⟩ := hQ50
    have hD3 := hW3.dob lo
    have hA3 := hW3.hall
    have hver3 := hW3.ver hvk
    refine z_istore dX5_convert_53 (by decide) ?_
    refine z_iload dX5_convert_55 rfl ?_
    refine z_ic ki_m1 dX5_convert_57 ?_
    refine z_icmp_ne (tgt := 71) dX5_convert_58 (by decide) (fun h58 => ?_) (fun h58 => ?_)
    · refine z_aload dX5_convert_71 rfl rfl ?_
      refine z_isB dX5_convert_73 cs_RX5_128 (c_X5_requireReadable g hW3 hw hvk) ⟨⟨by decide, by decide⟩, (by first | exact Nat.zero_le _ | decide | omega), (by first | exact Nat.zero_le _ | decide | omega)⟩ rfl rfl (Nat.le_of_ble_eq_true rfl) rfl (fun h73 => ?_) (fun h73 => by have hn : ¬ cvOk σ (tN o) (tN f) (latn σ (tN o) 10) = true := (by unfold cvOk; rw [h73]; simp); rw [e2 hin hn]; exact rO_n (bad _ _ hW3 (by omega) (k2 hn)) (Nat.succ_ne_zero 1) rfl)
      refine z_aload dX5_convert_76 rfl rfl ?_
      refine z_ivI dX5_convert_78 cv_RX5_132 hver3 (c_X4_sumOfGoodValues g hW3 hw hvk h73) ⟨⟨by decide, by decide⟩, (by first | exact Nat.zero_le _ | decide | omega), (by first | exact Nat.zero_le _ | decide | omega)⟩ rfl rfl (Nat.le_of_ble_eq_true rfl) ?_
      refine z_iload dX5_convert_81 rfl ?_
      refine z_isI dX5_convert_83 cs_RX5_74 (c_X1_lossOf g _) ⟨⟨by decide, by decide⟩, (by first | exact Nat.zero_le _ | decide | omega), (by first | exact Nat.zero_le _ | decide | omega)⟩ rfl rfl (Nat.le_of_ble_eq_true rfl) ?_
      refine z_isI dX5_convert_86 cs_RX5_135 (c_X5_convertedContent g _ _) ⟨⟨by decide, by decide⟩, (by first | exact Nat.zero_le _ | decide | omega), (by first | exact Nat.zero_le _ | decide | omega)⟩ rfl rfl (Nat.le_of_ble_eq_true rfl) ?_
      rw [fmod1k]
      have hok : cvOk σ (tN o) (tN f) (latn σ (tN o) 10) = true := by unfold cvOk; rw [h73, decide_eq_false hff, decide_eq_false h58, decide_eq_true hlt]; rfl
      have hck : cvK σ o f = true := by unfold cvK; rw [hin, hok]; rfl
      have eo : o_convert σ o f = (0, nI (σ.a 1 (tN o)), adR σ (tN o) (tN f) (latn σ (tN o) 10) false (cvC (rdv σ (latn σ (tN o) 10)) (way σ (σ.a 2 (latn σ (tN o) 10)) (tN f)))) := by unfold o_convert; rw [if_pos hin, if_pos hok]
      rw [eo]
      have hmk := c_X5_makeVersion g hW3 hw hC hN hq hL hH hB h5 hun' zc zh (h0 _ lo) none (fun b h => by cases h) f (cvN σ o f)
      refine z_istore dX5_convert_89 (by decide) ?_
      refine z_aload_n dX5_convert_91 rfl rfl ?_
      refine z_aload_n dX5_convert_92 rfl rfl ?_
      refine z_aconst_null dX5_convert_93 ?_
      refine z_iload_n dX5_convert_94 rfl ?_
      refine z_iload dX5_convert_95 rfl ?_
      refine z_aload_n dX5_convert_97 rfl rfl ?_
      refine z_getfield dX5_convert_98 fg_RX5_118 hD3 rfl ?_
      refine z_ivN dX5_convert_101 cv_RX5_90 hA3 (hmk) ⟨⟨by decide, by decide⟩, (by first | exact Nat.zero_le _ | decide | omega), (by first | exact Nat.zero_le _ | decide | omega)⟩ rfl rfl (Nat.le_of_ble_eq_true rfl) (fun q101 M101 hQ101 => ?_)
      obtain ⟨A', cap, hcap, hW1, hq', hdq, hkeep, hKP, hOD⟩ := hQ101
      rw [show Value.int f = Value.int (nI (tN f)) from congrArg Value.int ef] at hq'
      have e16 := hkeep 16 _ lo (by decide)
      have hpre := addv_pre g (b := latn σ (tN o) 10) hw hun' hC lo rfl hlt (fun y h => by cases h) hcap hW1 hq' hdq
      have hO' := hW1.dob (i := tN o) (by rw [mkS_ob]; exact lo)
      rw [e16] at hpre hO'
      refine z_ivQ dX5_convert_104 cv_RX5_121 hO' (hpre) ⟨⟨by decide, by decide⟩, (by first | exact Nat.zero_le _ | decide | omega), (by first | exact Nat.zero_le _ | decide | omega)⟩ rfl rfl (Nat.le_of_ble_eq_true rfl) (fun M104 hQ104 => ?_)
      refine z_ireturn dX5_convert_107 rfl (by first | rfl | exact bI_nar _) ?_
      obtain ⟨A2, cap2, hc2, hA2, hW2⟩ := addv_W2 g (b := latn σ (tN o) 10) hw hun' hC lo rfl hlt (fun y h => by cases h) hcap hW1 hq' hdq hQ104
      refine rO_y ⟨A2, cap, cap2, fr, hcap, hc2.2, fun _ => hc2.1, AK.of hkeep (fun kk i h => hA2 kk i (by omega) (by omega)), ?_⟩ rfl rfl
      unfold cvS
      rw [if_pos hck]
      exact hW2
    · have hn : ¬ cvOk σ (tN o) (tN f) (latn σ (tN o) 10) = true := by unfold cvOk; rw [h58]; simp
      rw [e2 hin hn]
      exact z_throw (thk_IS (is := 126) (text := "no way to this format") (List.mem_of_getElem? (i := 6) rfl)) dX5_convert_61 dX5_convert_64 dX5_convert_65 dX5_convert_67 dX5_convert_70 rfl ⟨by decide, by decide, by first | decide | omega, by first | decide | omega⟩ (Nat.le_of_ble_eq_true rfl) (rO_n (bad _ _ hW3 (by omega) (k2 hn)) (Nat.succ_ne_zero 1) rfl)
  · have hn : ¬ cvOk σ (tN o) (tN f) (latn σ (tN o) 10) = true := by
      have e : σ.a 2 (latn σ (tN o) 10) = tN f := by
        have := congrArg tN h27
        rw [show tN (nI (σ.a 2 (latn σ (tN o) 10))) = σ.a 2 (latn σ (tN o) 10) from nI_clamp (by omega)] at this
        exact this
      unfold cvOk
      rw [e]
      simp
    rw [e2 hin hn]
    exact z_throw (thk_IS (is := 124) (text := "the latest version has this format") (List.mem_of_getElem? (i := 5) rfl)) dX5_convert_30 dX5_convert_33 dX5_convert_34 dX5_convert_36 dX5_convert_39 rfl ⟨by decide, by decide, by first | decide | omega, by first | decide | omega⟩ (Nat.le_of_ble_eq_true rfl) (rO_n (bad _ _ hW0 (by omega) (k2 hn)) (Nat.succ_ne_zero 1) rfl)
end CONVERT
