/-! deposits, versions, conversions, purges: the reference's part -/
theorem WF.wt {σ : ST} (h : WF σ) (j v : Nat) : WF (σ.sa 0 j v) := h
section REFF
variable (g : GG) {A : Nat → Nat → Nat} {σ ρ : ST} {x : XT} {M : Mem}
theorem c_X6_deposit (hW : W2 g A σ ρ x M) (hi : RI ρ) (f c k : Int32) : con g mX6_deposit 0 0 [.ref (A 20 0), .int f, .int c, .int k] M (rQ (some (.int (o_deposit ρ f c k).2.1)) (fun M' => ∃ b, ((o_deposit ρ f c k).1 = 0 → b = f1 x.rb (10 * ρ.ob + ρ.a 1 ρ.ob) (-1)) ∧ ((o_deposit ρ f c k).1 ≠ 0 → b = x.rb) ∧ W2 g A σ (o_deposit ρ f c k).2.2 ((x.sthr (nI (o_deposit ρ f c k).1)).srb b) M')) := by
  refine con_i ?_ (by decide) rfl rfl (by simp [lv_args, Value.category]) (by simp [lv_args, lnd, Value.category])
  have hm := hW.m
  have hw := hi.1
  have hob := hw.1.1
  have hfo := hi.2.1
  refine z_iload_n dX6_deposit_0 rfl ?_
  refine z_ic ki_0 dX6_deposit_1 ?_
  refine z_ldc dX6_deposit_2 lc_RX6_126 ?_
  refine z_isI dX6_deposit_4 cs_RX6_69 (c_X6_isIn g M _ _ _) ⟨⟨by decide, by decide⟩, (by first | exact Nat.zero_le _ | decide | omega), (by first | exact Nat.zero_le _ | decide | omega)⟩ rfl rfl (Nat.le_of_ble_eq_true rfl) ?_
  refine z_if_eq (tgt := 23) dX6_deposit_7 (by decide) (fun h7 => ?_) (fun h7 => ?_)
  · refine z_ic ki_0 dX6_deposit_23 ?_
    refine z_istore dX6_deposit_24 (by decide) ?_
    refine z_aload_n dX6_deposit_26 rfl rfl ?_
    refine z_iload dX6_deposit_27 rfl ?_
    refine z_if_ne (tgt := 36) dX6_deposit_29 (by decide) (fun h29 => absurd h29 (by decide)) (fun h29 => ?_)
    refine z_ic ki_1 dX6_deposit_32 ?_
    refine z_goto (tgt := 62) dX6_deposit_33 (by decide) ?_
    refine z_ivQ dX6_deposit_62 cv_RX6_73 hm (c_X6_fails g hW _) ⟨⟨by decide, by decide⟩, (by first | exact Nat.zero_le _ | decide | omega), (by first | exact Nat.zero_le _ | decide | omega)⟩ rfl rfl (Nat.le_of_ble_eq_true rfl) (fun M62 hQ62 => ?_)
    refine z_if_eq (tgt := 70) dX6_deposit_65 (by decide) (fun h65 => absurd h65 (by decide)) (fun h65 => ?_)
    refine z_ic ki_0 dX6_deposit_68 ?_
    refine z_ireturn dX6_deposit_69 rfl (by first | rfl | exact bI_nar _) ?_
    have e : o_deposit ρ f c k = (1, nI 0, ρ) := by
      unfold o_deposit
      rw [if_neg (fun q => by rw [Bool.and_eq_true] at q; exact (nt h7 : ¬ inC c = true) q.1)]
    rw [e]
    exact rQ_of ⟨x.rb, fun h => absurd h (Nat.succ_ne_zero _), fun _ => rfl, hQ62⟩
  · refine z_iload_n dX6_deposit_10 rfl ?_
    refine z_ic ki_1 dX6_deposit_11 ?_
    refine z_ic ki_3 dX6_deposit_12 ?_
    refine z_isI dX6_deposit_13 cs_RX6_69 (c_X6_isIn g M _ _ _) ⟨⟨by decide, by decide⟩, (by first | exact Nat.zero_le _ | decide | omega), (by first | exact Nat.zero_le _ | decide | omega)⟩ rfl rfl (Nat.le_of_ble_eq_true rfl) ?_
    refine z_if_eq (tgt := 23) dX6_deposit_16 (by decide) (fun h16 => ?_) (fun h16 => ?_)
    · refine z_ic ki_0 dX6_deposit_23 ?_
      refine z_istore dX6_deposit_24 (by decide) ?_
      refine z_aload_n dX6_deposit_26 rfl rfl ?_
      refine z_iload dX6_deposit_27 rfl ?_
      refine z_if_ne (tgt := 36) dX6_deposit_29 (by decide) (fun h29 => absurd h29 (by decide)) (fun h29 => ?_)
      refine z_ic ki_1 dX6_deposit_32 ?_
      refine z_goto (tgt := 62) dX6_deposit_33 (by decide) ?_
      refine z_ivQ dX6_deposit_62 cv_RX6_73 hm (c_X6_fails g hW _) ⟨⟨by decide, by decide⟩, (by first | exact Nat.zero_le _ | decide | omega), (by first | exact Nat.zero_le _ | decide | omega)⟩ rfl rfl (Nat.le_of_ble_eq_true rfl) (fun M62 hQ62 => ?_)
      refine z_if_eq (tgt := 70) dX6_deposit_65 (by decide) (fun h65 => absurd h65 (by decide)) (fun h65 => ?_)
      refine z_ic ki_0 dX6_deposit_68 ?_
      refine z_ireturn dX6_deposit_69 rfl (by first | rfl | exact bI_nar _) ?_
      have e : o_deposit ρ f c k = (1, nI 0, ρ) := by
        unfold o_deposit
        rw [if_neg (fun q => by rw [Bool.and_eq_true] at q; exact (nt h16 : ¬ inK 1 3 k = true) q.2)]
      rw [e]
      exact rQ_of ⟨x.rb, fun h => absurd h (Nat.succ_ne_zero _), fun _ => rfl, hQ62⟩
    · refine z_ic ki_1 dX6_deposit_19 ?_
      refine z_goto (tgt := 24) dX6_deposit_20 (by decide) ?_
      refine z_istore dX6_deposit_24 (by decide) ?_
      refine z_aload_n dX6_deposit_26 rfl rfl ?_
      refine z_iload dX6_deposit_27 rfl ?_
      refine z_if_ne (tgt := 36) dX6_deposit_29 (by decide) (fun h29 => ?_) (fun h29 => absurd h29 (by decide))
      have hck : (inC c && inK 1 3 k) = true := by rw [show inC c = true from yt h7, show inK 1 3 k = true from yt h16]; rfl
      obtain ⟨ek, lk⟩ := inR_of (n := 4) (f := k) (by decide) (by
        have h9 := of_decide_eq_true (yt h16 : decide (nI 1 ≤ k ∧ k ≤ nI 3) = true)
        exact decide_eq_true ⟨Int32.le_trans (by decide) h9.1, h9.2⟩)
      refine z_aload_n dX6_deposit_36 rfl rfl ?_
      refine z_iload_n dX6_deposit_37 rfl ?_
      refine z_ivI dX6_deposit_38 cv_RX6_77 (by assumption) (c_X6_isFormat g hW f) ⟨⟨by decide, by decide⟩, (by first | exact Nat.zero_le _ | decide | omega), (by first | exact Nat.zero_le _ | decide | omega)⟩ rfl rfl (Nat.le_of_ble_eq_true rfl) ?_
      refine z_if_ne (tgt := 48) dX6_deposit_41 (by decide) (fun h41 => ?_) (fun h41 => ?_)
      · refine z_aload_n dX6_deposit_48 rfl rfl ?_
        refine z_getfield dX6_deposit_49 fg_RX6_107 (by assumption) rfl ?_
        refine z_bi kb_10 dX6_deposit_52 ?_
        refine z_icmp_ne (tgt := 61) dX6_deposit_54 (by decide) (fun h54 => ?_) (fun h54 => ?_)
        · refine z_ic ki_0 dX6_deposit_61 ?_
          refine z_ivQ dX6_deposit_62 cv_RX6_73 hm (c_X6_fails g hW _) ⟨⟨by decide, by decide⟩, (by first | exact Nat.zero_le _ | decide | omega), (by first | exact Nat.zero_le _ | decide | omega)⟩ rfl rfl (Nat.le_of_ble_eq_true rfl) (fun M62 hQ62 => ?_)
          refine z_if_eq (tgt := 70) dX6_deposit_65 (by decide) (fun h65 => ?_) (fun h65 => absurd rfl h65)
          have hm1 := hQ62.m
          have w5 := hQ62.r5
          have hne : ¬ ρ.ob = 10 := fun e => h54 (by rw [e])
          obtain ⟨ef, lf⟩ := inR_of (by omega) (yt h41 : inR ρ.fo f = true)
          obtain ⟨hu100, hz⟩ := hi.2.2.2.2.2.2.2.1 (by omega)
          have e : o_deposit ρ f c k = (0, nI ρ.ob, (adR (ρ.sa 0 ρ.ob (tN k)) ρ.ob (tN f) 0 false c).sn 1 (ρ.ob + 1)) := by
            unfold o_deposit
            rw [if_pos hck, if_pos (yt h41 : inR ρ.fo f = true), if_neg hne]
          rw [e]
          refine z_aload_n dX6_deposit_70 rfl rfl ?_
          refine z_getfield dX6_deposit_71 fg_RX6_19 hm1 rfl ?_
          refine z_aload_n dX6_deposit_74 rfl rfl ?_
          refine z_getfield dX6_deposit_75 fg_RX6_107 hm1 rfl ?_
          refine z_iload_n dX6_deposit_78 rfl ?_
          refine z_iastore dX6_deposit_79 w5 rfl (by omega) (by decide) ?_
          have hW2 := hQ62.pwanted ρ.ob (tN k)
          rw [← ek] at hW2
          have hm2 := hW2.m
          have hcon := c_X6_adds g hW2 (hw.wt ρ.ob (tN k)) (o := ρ.ob) (of := tN f) 0 (by omega) (by show ρ.a 1 ρ.ob < 10; omega) false c (-1) (fun _ => hu100) hi.2.2.2.1 (by show f2 ρ.2.1 0 ρ.ob (tN k) 0 ρ.ob < _; rw [f2_s]; omega)
          rw [← ef] at hcon
          refine z_aload_n dX6_deposit_80 rfl rfl ?_
          refine z_aload_n dX6_deposit_81 rfl rfl ?_
          refine z_getfield dX6_deposit_82 fg_RX6_107 hm2 rfl ?_
          refine z_iload_n dX6_deposit_85 rfl ?_
          refine z_ic ki_0 dX6_deposit_86 ?_
          refine z_iload_n dX6_deposit_87 rfl ?_
          refine z_ic ki_m1 dX6_deposit_88 ?_
          refine z_ivQ dX6_deposit_89 cv_RX6_127 hm2 (hcon) ⟨⟨by decide, by decide⟩, (by first | exact Nat.zero_le _ | decide | omega), (by first | exact Nat.zero_le _ | decide | omega)⟩ rfl rfl (Nat.le_of_ble_eq_true rfl) (fun M89 hQ89 => ?_)
          refine z_pop dX6_deposit_92 rfl ?_
          have hm3 := hQ89.m
          have eob : (adR (ρ.sa 0 ρ.ob (tN k)) ρ.ob (tN f) 0 false c).ob = ρ.ob := adR_ob _ _ _ _ _ _
          refine z_aload_n dX6_deposit_93 rfl rfl ?_
          refine z_dup dX6_deposit_94 rfl ?_
          refine z_getfield dX6_deposit_95 fg_RX6_107 hm3 rfl ?_
          refine z_ic ki_1 dX6_deposit_98 ?_
          refine z_iadd dX6_deposit_99 ?_
          rw [eob, nI_add]
          have hW4 := hQ89.pob (ρ.ob + 1)
          have hm4 := hW4.m
          refine z_putfield dX6_deposit_100 (fp_RX6_107 _) hm3 (Nat.le_of_ble_eq_true rfl) rfl rfl ?_
          refine z_aload_n dX6_deposit_103 rfl rfl ?_
          refine z_getfield dX6_deposit_104 fg_RX6_107 hm4 rfl ?_
          refine z_ic ki_1 dX6_deposit_107 ?_
          refine z_isub dX6_deposit_108 ?_
          refine z_ireturn dX6_deposit_109 rfl (by first | rfl | exact bI_nar _) ?_
          rw [show nI (((adR (ρ.sa 0 ρ.ob (tN k)) ρ.ob (tN f) 0 false c).sn 1 (ρ.ob + 1)).ob) - nI 1 = nI ρ.ob from nI_pred _]
          exact rQ_of ⟨_, fun _ => rfl, fun h => absurd rfl h, hW4⟩
        · refine z_ic ki_3 dX6_deposit_57 ?_
          refine z_goto (tgt := 62) dX6_deposit_58 (by decide) ?_
          refine z_ivQ dX6_deposit_62 cv_RX6_73 hm (c_X6_fails g hW _) ⟨⟨by decide, by decide⟩, (by first | exact Nat.zero_le _ | decide | omega), (by first | exact Nat.zero_le _ | decide | omega)⟩ rfl rfl (Nat.le_of_ble_eq_true rfl) (fun M62 hQ62 => ?_)
          refine z_if_eq (tgt := 70) dX6_deposit_65 (by decide) (fun h65 => absurd h65 (by decide)) (fun h65 => ?_)
          refine z_ic ki_0 dX6_deposit_68 ?_
          refine z_ireturn dX6_deposit_69 rfl (by first | rfl | exact bI_nar _) ?_
          have e : o_deposit ρ f c k = (3, nI 0, ρ) := by
            unfold o_deposit
            rw [if_pos hck, if_pos (yt h41 : inR ρ.fo f = true), if_pos ((nI_eq (by omega) (by decide)).mp h54)]
          rw [e]
          exact rQ_of ⟨x.rb, fun h => absurd h (Nat.succ_ne_zero _), fun _ => rfl, hQ62⟩
      · refine z_ic ki_2 dX6_deposit_44 ?_
        refine z_goto (tgt := 62) dX6_deposit_45 (by decide) ?_
        refine z_ivQ dX6_deposit_62 cv_RX6_73 hm (c_X6_fails g hW _) ⟨⟨by decide, by decide⟩, (by first | exact Nat.zero_le _ | decide | omega), (by first | exact Nat.zero_le _ | decide | omega)⟩ rfl rfl (Nat.le_of_ble_eq_true rfl) (fun M62 hQ62 => ?_)
        refine z_if_eq (tgt := 70) dX6_deposit_65 (by decide) (fun h65 => absurd h65 (by decide)) (fun h65 => ?_)
        refine z_ic ki_0 dX6_deposit_68 ?_
        refine z_ireturn dX6_deposit_69 rfl (by first | rfl | exact bI_nar _) ?_
        have e : o_deposit ρ f c k = (2, nI 0, ρ) := by
          unfold o_deposit
          rw [if_pos hck, if_neg (nt h41 : ¬ inR ρ.fo f = true)]
        rw [e]
        exact rQ_of ⟨x.rb, fun h => absurd h (Nat.succ_ne_zero _), fun _ => rfl, hQ62⟩
theorem c_X6_revise (hW : W2 g A σ ρ x M) (hi : RI ρ) (hb : rbok ρ x) (o c : Int32) (d : Bool) : con g mX6_revise 0 0 [.ref (A 20 0), .int o, .int c, .int (bI d)] M (rQ (some (.int (o_revise ρ o c d).2.1)) (fun M' => ∃ b, ((o_revise ρ o c d).1 = 0 → b = f1 x.rb (10 * tN o + ρ.a 1 (tN o)) (nI (latn ρ (tN o) 10))) ∧ ((o_revise ρ o c d).1 ≠ 0 → b = x.rb) ∧ W2 g A σ (o_revise ρ o c d).2.2 ((x.sthr (nI (o_revise ρ o c d).1)).srb b) M')) := by
  refine con_i ?_ (by decide) rfl rfl (by simp [lv_args, Value.category]) (by simp [lv_args, lnd, Value.category])
  have hm := hW.m
  have w6 := hW.r6
  have hw := hi.1
  have hob := hw.1.1
  refine z_aload_n dX6_revise_0 rfl rfl ?_
  refine z_iload_n dX6_revise_1 rfl ?_
  refine z_ic ki_0 dX6_revise_2 ?_
  refine z_ldc dX6_revise_3 lc_RX6_126 ?_
  refine z_isI dX6_revise_5 cs_RX6_69 (c_X6_isIn g M _ _ _) ⟨⟨by decide, by decide⟩, (by first | exact Nat.zero_le _ | decide | omega), (by first | exact Nat.zero_le _ | decide | omega)⟩ rfl rfl (Nat.le_of_ble_eq_true rfl) ?_
  refine z_if_ne (tgt := 15) dX6_revise_8 (by decide) (fun h8 => ?_) (fun h8 => ?_)
  · refine z_aload_n dX6_revise_15 rfl rfl ?_
    refine z_iload_n dX6_revise_16 rfl ?_
    refine z_ivI dX6_revise_17 cv_RX6_110 (by assumption) (c_X6_isObject g hW o) ⟨⟨by decide, by decide⟩, (by first | exact Nat.zero_le _ | decide | omega), (by first | exact Nat.zero_le _ | decide | omega)⟩ rfl rfl (Nat.le_of_ble_eq_true rfl) ?_
    refine z_if_ne (tgt := 27) dX6_revise_20 (by decide) (fun h20 => ?_) (fun h20 => ?_)
    · obtain ⟨eo, lo⟩ := inR_of (by omega) (yt h20 : inR ρ.ob o = true)
      have hh10 := hw.2.1 _ lo
      refine z_aload_n dX6_revise_27 rfl rfl ?_
      refine z_getfield dX6_revise_28 fg_RX6_22 (by assumption) rfl ?_
      refine z_iload_n dX6_revise_31 rfl ?_
      refine z_iaload dX6_revise_32 w6 eo (by omega) (by decide) ?_
      refine z_bi kb_10 dX6_revise_33 ?_
      refine z_icmp_ne (tgt := 42) dX6_revise_35 (by decide) (fun h35 => ?_) (fun h35 => ?_)
      · refine z_ic ki_0 dX6_revise_42 ?_
        refine z_ivQ dX6_revise_43 cv_RX6_73 hm (c_X6_fails g hW _) ⟨⟨by decide, by decide⟩, (by first | exact Nat.zero_le _ | decide | omega), (by first | exact Nat.zero_le _ | decide | omega)⟩ rfl rfl (Nat.le_of_ble_eq_true rfl) (fun M43 hQ43 => ?_)
        refine z_if_eq (tgt := 51) dX6_revise_46 (by decide) (fun h46 => ?_) (fun h46 => absurd rfl h46)
        have hm1 := hQ43.m
        have w8 := hQ43.r8
        have hne : ¬ ρ.a 1 (tN o) = 10 := fun e => h35 (by rw [e])
        have hu100 := hi.2.2.2.2.2.2.1 _ lo (by omega)
        have hvv := hi.2.2.1 _ lo
        obtain ⟨l1, l2, l3⟩ := latn_lt 10 hvv
        have hk := hw.2.2.2 _ l3
        have hk100 := hw.lt hk
        have e : o_revise ρ o c d = (0, nI (ρ.a 1 (tN o)), adR ρ (tN o) (ρ.a 2 (latn ρ (tN o) 10)) (latn ρ (tN o) 10) d (rvV ρ (latn ρ (tN o) 10) c d)) := by
          unfold o_revise
          rw [if_pos (yt h8 : inC c = true), if_pos (yt h20 : inR ρ.ob o = true), if_neg hne]
        have hlat := c_X6_latest g hQ43 (o := tN o) (by omega) hvv
        rw [← eo] at hlat
        rw [e]
        have hadds : ∀ v, con g mX6_adds 0 0 [.ref (A 20 0), .int o, .int (nI (ρ.a 2 (latn ρ (tN o) 10))), .int (bI d), .int v, .int (nI (latn ρ (tN o) 10))] M43 (rQ (some (.int (nI (ρ.a 1 (tN o))))) (W2 g A σ (adR ρ (tN o) (ρ.a 2 (latn ρ (tN o) 10)) (latn ρ (tN o) 10) d v) ((x.sthr (nI 0)).srb (f1 x.rb (10 * tN o + ρ.a 1 (tN o)) (nI (latn ρ (tN o) 10)))))) := fun v => by
          have h9 := c_X6_adds g hQ43 hw (o := tN o) (of := ρ.a 2 (latn ρ (tN o) 10)) (latn ρ (tN o) 10) (by omega) (by omega) d v (nI (latn ρ (tN o) 10)) (fun _ => hu100) hi.2.2.2.1 (hi.2.2.2.2.1 _ (by omega))
          rw [← eo] at h9
          exact h9
        refine z_aload_n dX6_revise_51 rfl rfl ?_
        refine z_iload_n dX6_revise_52 rfl ?_
        refine z_ivI dX6_revise_53 cv_RX6_131 hm1 (hlat) ⟨⟨by decide, by decide⟩, (by first | exact Nat.zero_le _ | decide | omega), (by first | exact Nat.zero_le _ | decide | omega)⟩ rfl rfl (Nat.le_of_ble_eq_true rfl) ?_
        refine z_istore dX6_revise_56 (by decide) ?_
        refine z_aload_n dX6_revise_58 rfl rfl ?_
        refine z_iload_n dX6_revise_59 rfl ?_
        refine z_aload_n dX6_revise_60 rfl rfl ?_
        refine z_getfield dX6_revise_61 fg_RX6_29 hm1 rfl ?_
        refine z_iload dX6_revise_64 rfl ?_
        refine z_iaload dX6_revise_66 w8 rfl (by omega) (by decide) ?_
        refine z_iload_n dX6_revise_67 rfl ?_
        refine z_iload_n dX6_revise_68 rfl ?_
        refine z_if_eq (tgt := 83) dX6_revise_69 (by decide) (fun h69 => ?_) (fun h69 => ?_)
        · refine z_iload_n dX6_revise_83 rfl ?_
          refine z_iload dX6_revise_84 rfl ?_
          refine z_ivQ dX6_revise_86 cv_RX6_127 hm1 (hadds _) ⟨⟨by decide, by decide⟩, (by first | exact Nat.zero_le _ | decide | omega), (by first | exact Nat.zero_le _ | decide | omega)⟩ rfl rfl (Nat.le_of_ble_eq_true rfl) (fun M86 hQ86 => ?_)
          refine z_ireturn dX6_revise_89 rfl (by first | rfl | exact bI_nar _) ?_
          have hd := bI_eq0.mp h69
          subst hd
          exact rQ_of ⟨_, fun _ => rfl, fun h => absurd rfl h, hQ86⟩
        · refine z_iload_n dX6_revise_72 rfl ?_
          refine z_aload_n dX6_revise_73 rfl rfl ?_
          refine z_iload dX6_revise_74 rfl ?_
          refine z_ivI dX6_revise_76 cv_RX6_134 hm1 (c_X6_content g hQ43 hw hb hk) ⟨⟨by decide, by decide⟩, (by first | exact Nat.zero_le _ | decide | omega), (by first | exact Nat.zero_le _ | decide | omega)⟩ rfl rfl (Nat.le_of_ble_eq_true rfl) ?_
          refine z_isub dX6_revise_79 ?_
          refine z_goto (tgt := 84) dX6_revise_80 (by decide) ?_
          refine z_iload dX6_revise_84 rfl ?_
          refine z_ivQ dX6_revise_86 cv_RX6_127 hm1 (hadds _) ⟨⟨by decide, by decide⟩, (by first | exact Nat.zero_le _ | decide | omega), (by first | exact Nat.zero_le _ | decide | omega)⟩ rfl rfl (Nat.le_of_ble_eq_true rfl) (fun M86 hQ86 => ?_)
          refine z_ireturn dX6_revise_89 rfl (by first | rfl | exact bI_nar _) ?_
          have hd := bI_ne0.mp h69
          subst hd
          exact rQ_of ⟨_, fun _ => rfl, fun h => absurd rfl h, hQ86⟩
      · refine z_ic ki_3 dX6_revise_38 ?_
        refine z_goto (tgt := 43) dX6_revise_39 (by decide) ?_
        refine z_ivQ dX6_revise_43 cv_RX6_73 hm (c_X6_fails g hW _) ⟨⟨by decide, by decide⟩, (by first | exact Nat.zero_le _ | decide | omega), (by first | exact Nat.zero_le _ | decide | omega)⟩ rfl rfl (Nat.le_of_ble_eq_true rfl) (fun M43 hQ43 => ?_)
        refine z_if_eq (tgt := 51) dX6_revise_46 (by decide) (fun h46 => absurd h46 (by decide)) (fun h46 => ?_)
        refine z_ic ki_0 dX6_revise_49 ?_
        refine z_ireturn dX6_revise_50 rfl (by first | rfl | exact bI_nar _) ?_
        have e : o_revise ρ o c d = (3, nI 0, ρ) := by
          unfold o_revise
          rw [if_pos (yt h8 : inC c = true), if_pos (yt h20 : inR ρ.ob o = true), if_pos ((nI_eq (by omega) (by decide)).mp h35)]
        rw [e]
        exact rQ_of ⟨x.rb, fun h => absurd h (show ¬ 3 = 0 by decide), fun _ => rfl, hQ43⟩
    · refine z_ic ki_2 dX6_revise_23 ?_
      refine z_goto (tgt := 43) dX6_revise_24 (by decide) ?_
      refine z_ivQ dX6_revise_43 cv_RX6_73 hm (c_X6_fails g hW _) ⟨⟨by decide, by decide⟩, (by first | exact Nat.zero_le _ | decide | omega), (by first | exact Nat.zero_le _ | decide | omega)⟩ rfl rfl (Nat.le_of_ble_eq_true rfl) (fun M43 hQ43 => ?_)
      refine z_if_eq (tgt := 51) dX6_revise_46 (by decide) (fun h46 => absurd h46 (by decide)) (fun h46 => ?_)
      refine z_ic ki_0 dX6_revise_49 ?_
      refine z_ireturn dX6_revise_50 rfl (by first | rfl | exact bI_nar _) ?_
      have e : o_revise ρ o c d = (2, nI 0, ρ) := by
        unfold o_revise
        rw [if_pos (yt h8 : inC c = true), if_neg (nt h20 : ¬ inR ρ.ob o = true)]
      rw [e]
      exact rQ_of ⟨x.rb, fun h => absurd h (show ¬ 2 = 0 by decide), fun _ => rfl, hQ43⟩
  · refine z_ic ki_1 dX6_revise_11 ?_
    refine z_goto (tgt := 43) dX6_revise_12 (by decide) ?_
    refine z_ivQ dX6_revise_43 cv_RX6_73 hm (c_X6_fails g hW _) ⟨⟨by decide, by decide⟩, (by first | exact Nat.zero_le _ | decide | omega), (by first | exact Nat.zero_le _ | decide | omega)⟩ rfl rfl (Nat.le_of_ble_eq_true rfl) (fun M43 hQ43 => ?_)
    refine z_if_eq (tgt := 51) dX6_revise_46 (by decide) (fun h46 => absurd h46 (by decide)) (fun h46 => ?_)
    refine z_ic ki_0 dX6_revise_49 ?_
    refine z_ireturn dX6_revise_50 rfl (by first | rfl | exact bI_nar _) ?_
    have e : o_revise ρ o c d = (1, nI 0, ρ) := by
      unfold o_revise
      rw [if_neg (nt h8 : ¬ inC c = true)]
    rw [e]
    exact rQ_of ⟨x.rb, fun h => absurd h (show ¬ 1 = 0 by decide), fun _ => rfl, hQ43⟩
theorem c_X6_purge (hW : W2 g A σ ρ x M) (hi : RI ρ) (hb : rbok ρ x) (o v : Int32) : con g mX6_purge 0 0 [.ref (A 20 0), .int o, .int v] M (rQ (some (.int (o_purge ρ o v).2.1)) (W2 g A σ (o_purge ρ o v).2.2 (x.sthr (nI (o_purge ρ o v).1)))) := by
  refine con_i ?_ (by decide) rfl rfl (by simp [lv_args, Value.category]) (by simp [lv_args, lnd, Value.category])
  have hm := hW.m
  have hw := hi.1
  have hob := hw.1.1
  have hun := hw.1.2
  have clr : ∀ {o v : Int32} {x : XT} {k c : Nat} {τ : ST} {x3 x4 : Int32} {P : PO}, k < 100 → x4 = nI k → (∀ M', W2 g A σ (clU τ k) x M' → tri g mX6_purge 0 0 P M' 117 [(0, .ref (A 20 0)), (1, .int o), (2, .int v), (3, .int x3), (4, .int x4)] []) →
      ∀ j, j ≤ 4 → ∀ (M' : Mem) x5, W2 g A σ (clC k j (τ.sb 1 k false)) x M' → x5 = nI j → tri g mX6_purge 0 0 P M' 92 [(0, .ref (A 20 0)), (1, .int o), (2, .int v), (3, .int x3), (4, .int x4), (5, .int x5)] [] := by
    intro o v x k c τ x3 x4 P hk e4 hP
    refine lp_up 4 ?_ ?_
    · intro M' x5 h e5
      subst e5
      refine z_iload dX6_purge_92 rfl ?_
      refine z_ic ki_4 dX6_purge_94 ?_
      refine z_icmp_ge (tgt := 117) dX6_purge_95 (by decide) (fun h95 => ?_) (fun h95 => absurd (nI_le (by omega) (by omega)) h95)
      refine tri.take 5 ?_
      exact hP M' h
    · intro j hj ih M' x5 h e5
      subst e5
      subst e4
      have hm' := h.m
      have w16 := h.r16
      refine z_iload dX6_purge_92 rfl ?_
      refine z_ic ki_4 dX6_purge_94 ?_
      refine z_icmp_ge (tgt := 117) dX6_purge_95 (by decide) (fun h95 => absurd h95 (nI_ge hj (by omega))) (fun h95 => ?_)
      refine z_aload_n dX6_purge_98 rfl rfl ?_
      refine z_getfield dX6_purge_99 fg_RX6_50 (by assumption) rfl ?_
      refine z_ic ki_4 dX6_purge_102 ?_
      refine z_iload dX6_purge_103 rfl ?_
      refine z_imul dX6_purge_105 ?_
      refine z_iload dX6_purge_106 rfl ?_
      refine z_iadd dX6_purge_108 ?_
      refine z_ic ki_0 dX6_purge_109 ?_
      refine z_zastore dX6_purge_110 w16 (ix4 k j) (by omega) (by decide) ?_
      refine z_inc ki_1 dX6_purge_111 rfl (by decide) ?_
      refine z_goto (tgt := 92) dX6_purge_114 (by decide) ?_
      exact ih _ _ (h.pcopy k j hj false) (nI_add j 1)
  have loop : ∀ {o v : Int32} {x : XT} {τ : ST}, WF τ → rbok τ x → τ.un = ρ.un → ∀ j, j ≤ ρ.un → ∀ (M' : Mem) x3 x4, W2 g A σ (pgS τ j) x M' → x3 = nI (pgN τ j) → x4 = nI j → tri g mX6_purge 0 0 (rQ (some (.int (nI (pgN τ ρ.un)))) (W2 g A σ (pgS τ ρ.un) x)) M' 53 [(0, .ref (A 20 0)), (1, .int o), (2, .int v), (3, .int x3), (4, .int x4)] [] := by
    intro o v x τ hwτ hbτ eu
    refine lp_up ρ.un ?_ ?_
    · intro M' x3 x4 h e3 e4
      subst e4
      have hm' := h.m
      have eu2 : (pgS τ ρ.un).un = ρ.un := (congrFun (pgS_same τ ρ.un).1 2).trans eu
      refine z_iload dX6_purge_53 rfl ?_
      refine z_aload_n dX6_purge_55 rfl rfl ?_
      refine z_getfield dX6_purge_56 fg_RX6_113 (by assumption) rfl ?_
      refine z_icmp_ge (tgt := 126) dX6_purge_59 (by decide) (fun h59 => ?_) (fun h59 => absurd (by rw [eu2]; exact nI_le (by omega) (by omega)) h59)
      refine z_iload_n dX6_purge_126 rfl ?_
      refine z_ireturn dX6_purge_127 rfl (by first | rfl | exact bI_nar _) ?_
      rw [e3]
      exact rQ_of h
    · intro j hj ih M' x3 x4 h e3 e4
      subst e4
      have hm' := h.m
      have w12 := h.r12
      obtain ⟨s1, s2, s3, s4, s5, s6⟩ := pgS_same τ j
      have eu2 : (pgS τ j).un = ρ.un := (congrFun s1 2).trans eu
      have ea : ∀ i k, (pgS τ j).a i k = τ.a i k := fun i k => by unfold ST.a; rw [s2]
      have en : ∀ i, (pgS τ j).n i = τ.n i := fun i => by unfold ST.n; rw [s1]
      have hb0 := s4 0 (by decide)
      have hb2 := s4 2 (by decide)
      have hvo : ∀ v, vok (pgS τ j) v ↔ vok τ v := fun v => by unfold vok; rw [ea]; unfold ST.ob; rw [en]
      have hwj : WF (pgS τ j) := by
        refine ⟨?_, fun o ho => ?_, fun v hv => ?_, fun v hv => ?_⟩
        · unfold ST.ob ST.un
          rw [en, en]
          exact hwτ.1
        · rw [ea]
          unfold ST.ob at ho
          rw [en] at ho
          exact hwτ.2.1 o ho
        · have := hwτ.2.2.1 v ((hvo v).mp hv)
          unfold ST.un
          rw [ea, ea, en, hb2]
          exact this
        · rw [hb0] at hv
          exact (hvo v).mpr (hwτ.2.2.2 v hv)
      have hbj : rbok (pgS τ j) x := fun v hv hd => by
        rw [ea, hb2] at hd
        rw [ea]
        exact hbτ v ((hvo v).mp hv) hd
      have hnd : ndd (pgS τ j) j 100 = ndd τ j 100 := ndd_congr s2 hb2 hb0 j 100
      have hj100 : j < 100 := by omega
      have j117 : ∀ M9, W2 g A σ (pgS τ (j + 1)) x M9 → ((pgS τ j).b 1 j = true ∧ ndd τ j 100 = false) → tri g mX6_purge 0 0 (rQ (some (.int (nI (pgN τ ρ.un)))) (W2 g A σ (pgS τ ρ.un) x)) M9 117 [(0, .ref (A 20 0)), (1, .int o), (2, .int v), (3, .int x3), (4, .int (nI j))] [] := by
        intro M9 h8 hcond
        refine z_inc ki_1 dX6_purge_117 rfl (by decide) ?_
        refine z_inc ki_1 dX6_purge_120 rfl (by decide) ?_
        refine z_goto (tgt := 53) dX6_purge_123 (by decide) ?_
        refine ih _ _ _ h8 ?_ (nI_add j 1)
        rw [e3, pgN, if_pos hcond]
        exact nI_add _ 1
      refine z_iload dX6_purge_53 rfl ?_
      refine z_aload_n dX6_purge_55 rfl rfl ?_
      refine z_getfield dX6_purge_56 fg_RX6_113 (by assumption) rfl ?_
      refine z_icmp_ge (tgt := 126) dX6_purge_59 (by decide) (fun h59 => absurd h59 (by rw [eu2]; exact nI_ge hj (by omega))) (fun h59 => ?_)
      refine z_aload_n dX6_purge_62 rfl rfl ?_
      refine z_getfield dX6_purge_63 fg_RX6_38 (by assumption) rfl ?_
      refine z_iload dX6_purge_66 rfl ?_
      refine z_zaload dX6_purge_68 w12 rfl (by omega) (by decide) ?_
      refine z_if_eq (tgt := 120) dX6_purge_69 (by decide) (fun h69 => ?_) (fun h69 => ?_)
      · refine z_inc ki_1 dX6_purge_120 rfl (by decide) ?_
        refine z_goto (tgt := 53) dX6_purge_123 (by decide) ?_
        refine ih _ _ _ ?_ ?_ (nI_add j 1)
        · rw [pgS, if_neg (fun q => (nt h69) q.1)]
          exact h
        · rw [e3, pgN, if_neg (fun q => (nt h69) q.1)]
          rfl
      · refine z_aload_n dX6_purge_72 rfl rfl ?_
        refine z_iload dX6_purge_73 rfl ?_
        refine z_ivI dX6_purge_75 cv_RX6_149 hm' (c_X6_isNeeded g h hwj hbj hj100) ⟨⟨by decide, by decide⟩, (by first | exact Nat.zero_le _ | decide | omega), (by first | exact Nat.zero_le _ | decide | omega)⟩ rfl rfl (Nat.le_of_ble_eq_true rfl) ?_
        refine z_if_ne (tgt := 120) dX6_purge_78 (by decide) (fun h78 => ?_) (fun h78 => ?_)
        · refine z_inc ki_1 dX6_purge_120 rfl (by decide) ?_
          refine z_goto (tgt := 53) dX6_purge_123 (by decide) ?_
          have hnn := yt h78
          rw [hnd] at hnn
          refine ih _ _ _ ?_ ?_ (nI_add j 1)
          · rw [pgS, if_neg (fun q => by rw [hnn] at q; exact absurd q.2 (by decide))]
            exact h
          · rw [e3, pgN, if_neg (fun q => by rw [hnn] at q; exact absurd q.2 (by decide))]
            rfl
        · refine z_aload_n dX6_purge_81 rfl rfl ?_
          refine z_getfield dX6_purge_82 fg_RX6_38 (by assumption) rfl ?_
          refine z_iload dX6_purge_85 rfl ?_
          refine z_ic ki_0 dX6_purge_87 ?_
          refine z_zastore dX6_purge_88 w12 rfl (by omega) (by decide) ?_
          refine z_ic ki_0 dX6_purge_89 ?_
          refine z_istore dX6_purge_90 (by decide) ?_
          have hcond : (pgS τ j).b 1 j = true ∧ ndd τ j 100 = false := ⟨yt h69, by rw [← hnd]; exact bI_eq0.mp h78⟩
          refine clr (c := 0) (τ := pgS τ j) hj100 rfl (fun M9 h9 => ?_) 0 (by omega) _ _ (h.pisunit j false) rfl
          have h8 : W2 g A σ (pgS τ (j + 1)) x M9 := by
            rw [pgS, if_pos hcond]
            exact h9
          exact j117 M9 h8 hcond
  refine z_aload_n dX6_purge_0 rfl rfl ?_
  refine z_aload_n dX6_purge_1 rfl rfl ?_
  refine z_iload_n dX6_purge_2 rfl ?_
  refine z_iload_n dX6_purge_3 rfl ?_
  refine z_ivI dX6_purge_4 cv_RX6_143 (by assumption) (c_X6_isVersion g hW hw o v) ⟨⟨by decide, by decide⟩, (by first | exact Nat.zero_le _ | decide | omega), (by first | exact Nat.zero_le _ | decide | omega)⟩ rfl rfl (Nat.le_of_ble_eq_true rfl) ?_
  refine z_if_ne (tgt := 14) dX6_purge_7 (by decide) (fun h7 => ?_) (fun h7 => ?_)
  · obtain ⟨⟨eo, lo⟩, ⟨ev, lv⟩, hb0, hv⟩ := isV_of hw (yt h7)
    have hmn := c_X6_many g hW (o := tN o) (by omega)
    rw [← eo] at hmn
    have hml := many_le ρ (tN o) 10
    refine z_aload_n dX6_purge_14 rfl rfl ?_
    refine z_iload_n dX6_purge_15 rfl ?_
    refine z_ivI dX6_purge_16 cv_RX6_146 hm (hmn) ⟨⟨by decide, by decide⟩, (by first | exact Nat.zero_le _ | decide | omega), (by first | exact Nat.zero_le _ | decide | omega)⟩ rfl rfl (Nat.le_of_ble_eq_true rfl) ?_
    refine z_ic ki_1 dX6_purge_19 ?_
    refine z_icmp_ne (tgt := 27) dX6_purge_20 (by decide) (fun h20 => ?_) (fun h20 => ?_)
    · refine z_ic ki_0 dX6_purge_27 ?_
      refine z_ivQ dX6_purge_28 cv_RX6_73 hm (c_X6_fails g hW _) ⟨⟨by decide, by decide⟩, (by first | exact Nat.zero_le _ | decide | omega), (by first | exact Nat.zero_le _ | decide | omega)⟩ rfl rfl (Nat.le_of_ble_eq_true rfl) (fun M28 hQ28 => ?_)
      refine z_if_eq (tgt := 36) dX6_purge_31 (by decide) (fun h31 => ?_) (fun h31 => absurd rfl h31)
      have hm1 := hQ28.m
      have w7 := hQ28.r7
      have ix := ix10 (tN o) (tN v)
      rw [← eo, ← ev] at ix
      have e : o_purge ρ o v = (0, nI (pgN (ρ.sb 0 (10 * tN o + tN v) false) ρ.un), pgS (ρ.sb 0 (10 * tN o + tN v) false) ρ.un) := by
        unfold o_purge
        rw [if_pos (yt h7), if_neg (fun q => h20 (by rw [q]))]
      rw [e]
      refine z_aload_n dX6_purge_36 rfl rfl ?_
      refine z_getfield dX6_purge_37 fg_RX6_25 hm1 rfl ?_
      refine z_bi kb_10 dX6_purge_40 ?_
      refine z_iload_n dX6_purge_42 rfl ?_
      refine z_imul dX6_purge_43 ?_
      refine z_iload_n dX6_purge_44 rfl ?_
      refine z_iadd dX6_purge_45 ?_
      refine z_ic ki_0 dX6_purge_46 ?_
      refine z_zastore dX6_purge_47 w7 ix (by omega) (by decide) ?_
      refine z_ic ki_0 dX6_purge_48 ?_
      refine z_istore_n dX6_purge_49 (by decide) ?_
      refine z_ic ki_0 dX6_purge_50 ?_
      refine z_istore dX6_purge_51 (by decide) ?_
      exact loop (x := x.sthr (nI 0)) (τ := ρ.sb 0 (10 * tN o + tN v) false) (hw.pb0 _) hb rfl 0 (by omega) _ _ _ (hQ28.pthere _ false) rfl rfl
    · refine z_ic ki_2 dX6_purge_23 ?_
      refine z_goto (tgt := 28) dX6_purge_24 (by decide) ?_
      refine z_ivQ dX6_purge_28 cv_RX6_73 hm (c_X6_fails g hW _) ⟨⟨by decide, by decide⟩, (by first | exact Nat.zero_le _ | decide | omega), (by first | exact Nat.zero_le _ | decide | omega)⟩ rfl rfl (Nat.le_of_ble_eq_true rfl) (fun M28 hQ28 => ?_)
      refine z_if_eq (tgt := 36) dX6_purge_31 (by decide) (fun h31 => absurd h31 (by decide)) (fun h31 => ?_)
      refine z_ic ki_0 dX6_purge_34 ?_
      refine z_ireturn dX6_purge_35 rfl (by first | rfl | exact bI_nar _) ?_
      have e : o_purge ρ o v = (2, nI 0, ρ) := by
        unfold o_purge
        rw [if_pos (yt h7), if_pos ((nI_eq (by omega) (by decide)).mp h20)]
      rw [e]
      exact rQ_of hQ28
  · refine z_ic ki_1 dX6_purge_10 ?_
    refine z_goto (tgt := 28) dX6_purge_11 (by decide) ?_
    refine z_ivQ dX6_purge_28 cv_RX6_73 hm (c_X6_fails g hW _) ⟨⟨by decide, by decide⟩, (by first | exact Nat.zero_le _ | decide | omega), (by first | exact Nat.zero_le _ | decide | omega)⟩ rfl rfl (Nat.le_of_ble_eq_true rfl) (fun M28 hQ28 => ?_)
    refine z_if_eq (tgt := 36) dX6_purge_31 (by decide) (fun h31 => absurd h31 (by decide)) (fun h31 => ?_)
    refine z_ic ki_0 dX6_purge_34 ?_
    refine z_ireturn dX6_purge_35 rfl (by first | rfl | exact bI_nar _) ?_
    have e : o_purge ρ o v = (1, nI 0, ρ) := by
      unfold o_purge
      rw [if_neg (nt h7)]
    rw [e]
    exact rQ_of hQ28
theorem bI_1 : bI true = nI 1 := rfl
theorem bI_0 : bI false = nI 0 := rfl
theorem c_X6_convert (hW : W2 g A σ ρ x M) (hi : RI ρ) (hb : rbok ρ x) (o f : Int32) : con g mX6_convert 0 0 [.ref (A 20 0), .int o, .int f] M (rQ (some (.int (o_convert ρ o f).2.1)) (fun M' => ∃ b s, ((o_convert ρ o f).1 = 0 → b = f1 x.rb (10 * tN o + ρ.a 1 (tN o)) (nI (latn ρ (tN o) 10))) ∧ ((o_convert ρ o f).1 ≠ 0 → b = x.rb) ∧ W2 g A σ (o_convert ρ o f).2.2 (((x.sthr (nI (o_convert ρ o f).1)).srb b).sbst s) M')) := by
  refine con_i ?_ (by decide) rfl rfl (by simp [lv_args, Value.category]) (by simp [lv_args, lnd, Value.category])
  have hw := hi.1
  have hob := hw.1.1
  have hfo8 := hi.2.1
  -- behind the two tests
  have j95 : ∀ (s : Nat → Int32) (M' : Mem) (is can : Bool) (u4 : Int32), W2 g A σ ρ (x.sbst s) M' → is = (inR ρ.ob o && inR ρ.fo f) → (is = true → u4 = nI (latn ρ (tN o) 10) ∧ can = cvOk ρ (tN o) (tN f) (latn ρ (tN o) 10)) →
      tri g mX6_convert 0 0 (rQ (some (.int (o_convert ρ o f).2.1)) (fun M' => ∃ b s, ((o_convert ρ o f).1 = 0 → b = f1 x.rb (10 * tN o + ρ.a 1 (tN o)) (nI (latn ρ (tN o) 10))) ∧ ((o_convert ρ o f).1 ≠ 0 → b = x.rb) ∧ W2 g A σ (o_convert ρ o f).2.2 (((x.sthr (nI (o_convert ρ o f).1)).srb b).sbst s) M')) M' 95 [(0, .ref (A 20 0)), (1, .int o), (2, .int f), (3, .int (bI is)), (4, .int u4), (5, .int (bI can))] [] := by
    intro s M' is can u4 h eis ecan
    have hm := h.m
    refine z_aload_n dX6_convert_95 rfl rfl ?_
    refine z_iload_n dX6_convert_96 rfl ?_
    refine z_if_ne (tgt := 104) dX6_convert_97 (by decide) (fun h97 => ?_) (fun h97 => ?_)
    · refine z_iload dX6_convert_104 rfl ?_
      refine z_if_eq (tgt := 113) dX6_convert_106 (by decide) (fun h106 => ?_) (fun h106 => ?_)
      · refine z_ic ki_2 dX6_convert_113 ?_
        refine z_ivQ dX6_convert_114 cv_RX6_73 hm (c_X6_fails g h _) ⟨⟨by decide, by decide⟩, (by first | exact Nat.zero_le _ | decide | omega), (by first | exact Nat.zero_le _ | decide | omega)⟩ rfl rfl (Nat.le_of_ble_eq_true rfl) (fun M114 hQ114 => ?_)
        refine z_if_eq (tgt := 122) dX6_convert_117 (by decide) (fun h117 => absurd h117 (by decide)) (fun h117 => ?_)
        refine z_ic ki_0 dX6_convert_120 ?_
        refine z_ireturn dX6_convert_121 rfl (by first | rfl | exact bI_nar _) ?_
        have e : o_convert ρ o f = (2, nI 0, ρ) := by
          unfold o_convert
          rw [if_pos (by rw [← eis]; exact yt h97), if_neg (by rw [← (ecan (yt h97)).2]; exact nt h106)]
        rw [e]
        exact rQ_of ⟨x.rb, _, fun h => absurd h (show ¬ 2 = 0 by decide), fun _ => rfl, hQ114⟩
      · refine z_ic ki_0 dX6_convert_109 ?_
        refine z_goto (tgt := 114) dX6_convert_110 (by decide) ?_
        refine z_ivQ dX6_convert_114 cv_RX6_73 hm (c_X6_fails g h _) ⟨⟨by decide, by decide⟩, (by first | exact Nat.zero_le _ | decide | omega), (by first | exact Nat.zero_le _ | decide | omega)⟩ rfl rfl (Nat.le_of_ble_eq_true rfl) (fun M114 hQ114 => ?_)
        refine z_if_eq (tgt := 122) dX6_convert_117 (by decide) (fun h117 => ?_) (fun h117 => absurd rfl h117)
        have his : (inR ρ.ob o && inR ρ.fo f) = true := by rw [← eis]; exact yt h97
        have his2 := his
        rw [Bool.and_eq_true] at his2
        obtain ⟨eo, lo⟩ := inR_of (by omega) his2.1
        obtain ⟨ef, lf⟩ := inR_of (by omega) his2.2
        obtain ⟨e4, ec⟩ := ecan (yt h97)
        have hok : cvOk ρ (tN o) (tN f) (latn ρ (tN o) 10) = true := by rw [← ec]; exact yt h106
        have hok2 := hok
        unfold cvOk at hok2
        rw [Bool.and_eq_true, Bool.and_eq_true, Bool.and_eq_true] at hok2
        obtain ⟨k1, k2, k3, k4⟩ := hok2
        have hh10 := of_decide_eq_true k4
        have hvv := hi.2.2.1 _ lo
        obtain ⟨l1, l2, l3⟩ := latn_lt 10 hvv
        have hk := hw.2.2.2 _ l3
        have hk100 := hw.lt hk
        have hu100 := hi.2.2.2.2.2.2.1 _ lo hh10
        have hm1 := hQ114.m
        have w8 := hQ114.r8
        have hff := hi.2.2.2.2.2.1 _ hk
        subst e4
        have e : o_convert ρ o f = (0, nI (ρ.a 1 (tN o)), adR ρ (tN o) (tN f) (latn ρ (tN o) 10) false (cvC (rdv ρ (latn ρ (tN o) 10)) (way ρ (ρ.a 2 (latn ρ (tN o) 10)) (tN f)))) := by
          unfold o_convert
          rw [if_pos his, if_pos hok]
        rw [e]
        have hway := c_X6_way g hQ114 (a := ρ.a 2 (latn ρ (tN o) 10)) (b := tN f) (by omega) (by omega)
        rw [← ef] at hway
        have hfin : ∀ (s2 : Nat → Int32) (M2 : Mem) (v : Int32), W2 g A σ ρ ((x.sthr (nI 0)).sbst s2) M2 → v = cvC (rdv ρ (latn ρ (tN o) 10)) (way ρ (ρ.a 2 (latn ρ (tN o) 10)) (tN f)) → con g mX6_adds 0 0 [.ref (A 20 0), .int o, .int f, .int (bI false), .int v, .int (nI (latn ρ (tN o) 10))] M2 (rQ (some (.int (nI (ρ.a 1 (tN o))))) (W2 g A σ (adR ρ (tN o) (tN f) (latn ρ (tN o) 10) false (cvC (rdv ρ (latn ρ (tN o) 10)) (way ρ (ρ.a 2 (latn ρ (tN o) 10)) (tN f)))) (((x.sthr (nI 0)).sbst s2).srb (f1 x.rb (10 * tN o + ρ.a 1 (tN o)) (nI (latn ρ (tN o) 10)))))) := fun s2 M2 v h2 ev => by
          have h9 := c_X6_adds g h2 hw (o := tN o) (of := tN f) (latn ρ (tN o) 10) (by omega) (by omega) false v (nI (latn ρ (tN o) 10)) (fun _ => hu100) hi.2.2.2.1 (hi.2.2.2.2.1 _ (by omega))
          rw [← eo, ← ef] at h9
          rw [← ev]
          exact h9
        refine z_aload_n dX6_convert_122 rfl rfl ?_
        refine z_iload dX6_convert_123 rfl ?_
        refine z_ivI dX6_convert_125 cv_RX6_140 hm1 (show con g mX6_reads 0 0 _ _ (rI (rdv ρ (latn ρ (tN o) 10)) M114) from c_X6_reads g hQ114 hw hb hk k3) ⟨⟨by decide, by decide⟩, (by first | exact Nat.zero_le _ | decide | omega), (by first | exact Nat.zero_le _ | decide | omega)⟩ rfl rfl (Nat.le_of_ble_eq_true rfl) ?_
        refine z_si ks_1000 dX6_convert_128 ?_
        refine z_irem dX6_convert_131 (by decide) ?_
        refine z_istore dX6_convert_132 (by decide) ?_
        refine z_aload_n dX6_convert_134 rfl rfl ?_
        refine z_iload_n dX6_convert_135 rfl ?_
        refine z_iload_n dX6_convert_136 rfl ?_
        refine z_ic ki_0 dX6_convert_137 ?_
        refine z_si ks_1000 dX6_convert_138 ?_
        refine z_iload dX6_convert_141 rfl ?_
        refine z_if_ge (tgt := 155) dX6_convert_143 (by decide) (fun h143 => ?_) (fun h143 => ?_)
        · refine z_iload dX6_convert_155 rfl ?_
          refine z_imul dX6_convert_157 ?_
          refine z_aload_n dX6_convert_158 rfl rfl ?_
          refine z_aload_n dX6_convert_159 rfl rfl ?_
          refine z_getfield dX6_convert_160 fg_RX6_29 hm1 rfl ?_
          refine z_iload dX6_convert_163 rfl ?_
          refine z_iaload dX6_convert_165 w8 rfl (by omega) (by decide) ?_
          refine z_iload_n dX6_convert_166 rfl ?_
          refine z_ivQ dX6_convert_167 cv_RX6_80 hm1 (hway) ⟨⟨by decide, by decide⟩, (by first | exact Nat.zero_le _ | decide | omega), (by first | exact Nat.zero_le _ | decide | omega)⟩ rfl rfl (Nat.le_of_ble_eq_true rfl) (fun M167 hQ167 => ?_)
          obtain ⟨s2, h2⟩ := hQ167
          have hm2 := h2.m
          refine z_bi kb_100 dX6_convert_170 ?_
          refine z_idiv dX6_convert_172 (by decide) ?_
          refine z_si ks_1000 dX6_convert_173 ?_
          refine z_irem dX6_convert_176 (by decide) ?_
          refine z_iadd dX6_convert_177 ?_
          refine z_iload dX6_convert_178 rfl ?_
          refine z_ivQ dX6_convert_180 cv_RX6_127 hm2 (hfin s2 _ _ h2 (by unfold cvC rem1k; rw [if_neg (Int32.not_lt.mpr h143)])) ⟨⟨by decide, by decide⟩, (by first | exact Nat.zero_le _ | decide | omega), (by first | exact Nat.zero_le _ | decide | omega)⟩ rfl rfl (Nat.le_of_ble_eq_true rfl) (fun M180 hQ180 => ?_)
          refine z_ireturn dX6_convert_183 rfl (by first | rfl | exact bI_nar _) ?_
          exact rQ_of ⟨_, _, fun _ => rfl, fun h => absurd rfl h, hQ180⟩
        · refine z_iload dX6_convert_146 rfl ?_
          refine z_si ks_1000 dX6_convert_148 ?_
          refine z_iadd dX6_convert_151 ?_
          refine z_goto (tgt := 157) dX6_convert_152 (by decide) ?_
          refine z_imul dX6_convert_157 ?_
          refine z_aload_n dX6_convert_158 rfl rfl ?_
          refine z_aload_n dX6_convert_159 rfl rfl ?_
          refine z_getfield dX6_convert_160 fg_RX6_29 hm1 rfl ?_
          refine z_iload dX6_convert_163 rfl ?_
          refine z_iaload dX6_convert_165 w8 rfl (by omega) (by decide) ?_
          refine z_iload_n dX6_convert_166 rfl ?_
          refine z_ivQ dX6_convert_167 cv_RX6_80 hm1 (hway) ⟨⟨by decide, by decide⟩, (by first | exact Nat.zero_le _ | decide | omega), (by first | exact Nat.zero_le _ | decide | omega)⟩ rfl rfl (Nat.le_of_ble_eq_true rfl) (fun M167 hQ167 => ?_)
          obtain ⟨s2, h2⟩ := hQ167
          have hm2 := h2.m
          refine z_bi kb_100 dX6_convert_170 ?_
          refine z_idiv dX6_convert_172 (by decide) ?_
          refine z_si ks_1000 dX6_convert_173 ?_
          refine z_irem dX6_convert_176 (by decide) ?_
          refine z_iadd dX6_convert_177 ?_
          refine z_iload dX6_convert_178 rfl ?_
          refine z_ivQ dX6_convert_180 cv_RX6_127 hm2 (hfin s2 _ _ h2 (by unfold cvC rem1k; rw [if_pos (Int32.not_le.mp h143)])) ⟨⟨by decide, by decide⟩, (by first | exact Nat.zero_le _ | decide | omega), (by first | exact Nat.zero_le _ | decide | omega)⟩ rfl rfl (Nat.le_of_ble_eq_true rfl) (fun M180 hQ180 => ?_)
          refine z_ireturn dX6_convert_183 rfl (by first | rfl | exact bI_nar _) ?_
          exact rQ_of ⟨_, _, fun _ => rfl, fun h => absurd rfl h, hQ180⟩
    · refine z_ic ki_1 dX6_convert_100 ?_
      refine z_goto (tgt := 114) dX6_convert_101 (by decide) ?_
      refine z_ivQ dX6_convert_114 cv_RX6_73 hm (c_X6_fails g h _) ⟨⟨by decide, by decide⟩, (by first | exact Nat.zero_le _ | decide | omega), (by first | exact Nat.zero_le _ | decide | omega)⟩ rfl rfl (Nat.le_of_ble_eq_true rfl) (fun M114 hQ114 => ?_)
      refine z_if_eq (tgt := 122) dX6_convert_117 (by decide) (fun h117 => absurd h117 (by decide)) (fun h117 => ?_)
      refine z_ic ki_0 dX6_convert_120 ?_
      refine z_ireturn dX6_convert_121 rfl (by first | rfl | exact bI_nar _) ?_
      have e : o_convert ρ o f = (1, nI 0, ρ) := by
        unfold o_convert
        rw [if_neg (by rw [← eis]; exact nt h97)]
      rw [e]
      exact rQ_of ⟨x.rb, _, fun h => absurd h (show ¬ 1 = 0 by decide), fun _ => rfl, hQ114⟩
  have hm := hW.m
  refine z_aload_n dX6_convert_0 rfl rfl ?_
  refine z_iload_n dX6_convert_1 rfl ?_
  refine z_ivI dX6_convert_2 cv_RX6_110 (by assumption) (c_X6_isObject g hW o) ⟨⟨by decide, by decide⟩, (by first | exact Nat.zero_le _ | decide | omega), (by first | exact Nat.zero_le _ | decide | omega)⟩ rfl rfl (Nat.le_of_ble_eq_true rfl) ?_
  refine z_if_eq (tgt := 20) dX6_convert_5 (by decide) (fun h5 => ?_) (fun h5 => ?_)
  · refine z_ic ki_0 dX6_convert_20 ?_
    refine z_istore_n dX6_convert_21 (by decide) ?_
    refine z_iload_n dX6_convert_22 rfl ?_
    refine z_if_eq (tgt := 34) dX6_convert_23 (by decide) (fun h23 => ?_) (fun h23 => absurd rfl h23)
    refine z_ic ki_0 dX6_convert_34 ?_
    refine z_istore dX6_convert_35 (by decide) ?_
    refine z_iload_n dX6_convert_37 rfl ?_
    refine z_if_eq (tgt := 92) dX6_convert_38 (by decide) (fun h38 => ?_) (fun h38 => absurd rfl h38)
    refine z_ic ki_0 dX6_convert_92 ?_
    refine z_istore dX6_convert_93 (by decide) ?_
    exact j95 x.bst M false false (nI 0) hW (by rw [show inR ρ.ob o = false from bI_eq0.mp h5]; rfl) (fun h => by cases h)
  · refine z_aload_n dX6_convert_8 rfl rfl ?_
    refine z_iload_n dX6_convert_9 rfl ?_
    refine z_ivI dX6_convert_10 cv_RX6_77 (by assumption) (c_X6_isFormat g hW f) ⟨⟨by decide, by decide⟩, (by first | exact Nat.zero_le _ | decide | omega), (by first | exact Nat.zero_le _ | decide | omega)⟩ rfl rfl (Nat.le_of_ble_eq_true rfl) ?_
    refine z_if_eq (tgt := 20) dX6_convert_13 (by decide) (fun h13 => ?_) (fun h13 => ?_)
    · refine z_ic ki_0 dX6_convert_20 ?_
      refine z_istore_n dX6_convert_21 (by decide) ?_
      refine z_iload_n dX6_convert_22 rfl ?_
      refine z_if_eq (tgt := 34) dX6_convert_23 (by decide) (fun h23 => ?_) (fun h23 => absurd rfl h23)
      refine z_ic ki_0 dX6_convert_34 ?_
      refine z_istore dX6_convert_35 (by decide) ?_
      refine z_iload_n dX6_convert_37 rfl ?_
      refine z_if_eq (tgt := 92) dX6_convert_38 (by decide) (fun h38 => ?_) (fun h38 => absurd rfl h38)
      refine z_ic ki_0 dX6_convert_92 ?_
      refine z_istore dX6_convert_93 (by decide) ?_
      exact j95 x.bst M false false (nI 0) hW (by rw [show inR ρ.fo f = false from bI_eq0.mp h13, Bool.and_false]) (fun h => by cases h)
    · refine z_ic ki_1 dX6_convert_16 ?_
      refine z_goto (tgt := 21) dX6_convert_17 (by decide) ?_
      refine z_istore_n dX6_convert_21 (by decide) ?_
      refine z_iload_n dX6_convert_22 rfl ?_
      refine z_if_eq (tgt := 34) dX6_convert_23 (by decide) (fun h23 => absurd h23 (by decide)) (fun h23 => ?_)
      obtain ⟨eo, lo⟩ := inR_of (by omega) (yt h5 : inR ρ.ob o = true)
      obtain ⟨ef, lf⟩ := inR_of (by omega) (yt h13 : inR ρ.fo f = true)
      have hvv := hi.2.2.1 _ lo
      obtain ⟨l1, l2, l3⟩ := latn_lt 10 hvv
      have hk := hw.2.2.2 _ l3
      have hk100 := hw.lt hk
      have hff := hi.2.2.2.2.2.1 _ hk
      have w8 := hW.r8
      have hlat := c_X6_latest g hW (o := tN o) (by omega) hvv
      rw [← eo] at hlat
      have hway := c_X6_way g hW (a := ρ.a 2 (latn ρ (tN o) 10)) (b := tN f) (by omega) (by omega)
      rw [← ef] at hway
      have his : true = (inR ρ.ob o && inR ρ.fo f) := by rw [show inR ρ.ob o = true from yt h5, show inR ρ.fo f = true from yt h13]; rfl
      have e49 : nI (ρ.a 2 (latn ρ (tN o) 10)) = f ↔ ρ.a 2 (latn ρ (tN o) 10) = tN f := ⟨fun q => (nI_eq (by omega) (by omega)).mp (q.trans ef), fun q => by rw [q, ← ef]⟩
      refine z_aload_n dX6_convert_26 rfl rfl ?_
      refine z_iload_n dX6_convert_27 rfl ?_
      refine z_ivI dX6_convert_28 cv_RX6_131 hm (hlat) ⟨⟨by decide, by decide⟩, (by first | exact Nat.zero_le _ | decide | omega), (by first | exact Nat.zero_le _ | decide | omega)⟩ rfl rfl (Nat.le_of_ble_eq_true rfl) ?_
      refine z_goto (tgt := 35) dX6_convert_31 (by decide) ?_
      refine z_istore dX6_convert_35 (by decide) ?_
      refine z_iload_n dX6_convert_37 rfl ?_
      refine z_if_eq (tgt := 92) dX6_convert_38 (by decide) (fun h38 => absurd h38 (by decide)) (fun h38 => ?_)
      refine z_aload_n dX6_convert_41 rfl rfl ?_
      refine z_getfield dX6_convert_42 fg_RX6_29 (by assumption) rfl ?_
      refine z_iload dX6_convert_45 rfl ?_
      refine z_iaload dX6_convert_47 w8 rfl (by omega) (by decide) ?_
      refine z_iload_n dX6_convert_48 rfl ?_
      refine z_icmp_eq (tgt := 92) dX6_convert_49 (by decide) (fun h49 => ?_) (fun h49 => ?_)
      · refine z_ic ki_0 dX6_convert_92 ?_
        refine z_istore dX6_convert_93 (by decide) ?_
        exact j95 x.bst M true false _ hW his (fun _ => ⟨rfl, by unfold cvOk; rw [decide_eq_true (e49.mp h49)]; rfl⟩)
      · refine z_aload_n dX6_convert_52 rfl rfl ?_
        refine z_aload_n dX6_convert_53 rfl rfl ?_
        refine z_getfield dX6_convert_54 fg_RX6_29 (by assumption) rfl ?_
        refine z_iload dX6_convert_57 rfl ?_
        refine z_iaload dX6_convert_59 w8 rfl (by omega) (by decide) ?_
        refine z_iload_n dX6_convert_60 rfl ?_
        refine z_ivQ dX6_convert_61 cv_RX6_80 hm (hway) ⟨⟨by decide, by decide⟩, (by first | exact Nat.zero_le _ | decide | omega), (by first | exact Nat.zero_le _ | decide | omega)⟩ rfl rfl (Nat.le_of_ble_eq_true rfl) (fun M61 hQ61 => ?_)
        obtain ⟨s2, h2⟩ := hQ61
        have hm2 := h2.m
        have w6 := h2.r6
        refine z_ic ki_m1 dX6_convert_64 ?_
        refine z_icmp_eq (tgt := 92) dX6_convert_65 (by decide) (fun h65 => ?_) (fun h65 => ?_)
        · refine z_ic ki_0 dX6_convert_92 ?_
          refine z_istore dX6_convert_93 (by decide) ?_
          exact j95 s2 M61 true false _ h2 his (fun _ => ⟨rfl, by unfold cvOk; rw [decide_eq_true h65]; simp⟩)
        · refine z_aload_n dX6_convert_68 rfl rfl ?_
          refine z_iload dX6_convert_69 rfl ?_
          refine z_ivI dX6_convert_71 cv_RX6_137 hm2 (c_X6_canRead g h2 hw hb hk) ⟨⟨by decide, by decide⟩, (by first | exact Nat.zero_le _ | decide | omega), (by first | exact Nat.zero_le _ | decide | omega)⟩ rfl rfl (Nat.le_of_ble_eq_true rfl) ?_
          refine z_if_eq (tgt := 92) dX6_convert_74 (by decide) (fun h74 => ?_) (fun h74 => ?_)
          · refine z_ic ki_0 dX6_convert_92 ?_
            refine z_istore dX6_convert_93 (by decide) ?_
            exact j95 s2 M61 true false _ h2 his (fun _ => ⟨rfl, by unfold cvOk; rw [bI_eq0.mp h74]; simp⟩)
          · refine z_aload_n dX6_convert_77 rfl rfl ?_
            refine z_getfield dX6_convert_78 fg_RX6_22 (by assumption) rfl ?_
            refine z_iload_n dX6_convert_81 rfl ?_
            refine z_iaload dX6_convert_82 w6 eo (by omega) (by decide) ?_
            refine z_bi kb_10 dX6_convert_83 ?_
            refine z_icmp_ge (tgt := 92) dX6_convert_85 (by decide) (fun h85 => ?_) (fun h85 => ?_)
            · refine z_ic ki_0 dX6_convert_92 ?_
              refine z_istore dX6_convert_93 (by decide) ?_
              have hc : ¬ ρ.a 1 (tN o) < 10 := fun q => absurd h85 (nI_ge q (by omega))
              exact j95 s2 M61 true false _ h2 his (fun _ => ⟨rfl, by unfold cvOk; rw [decide_eq_false hc]; simp⟩)
            · refine z_ic ki_1 dX6_convert_88 ?_
              refine z_goto (tgt := 93) dX6_convert_89 (by decide) ?_
              refine z_istore dX6_convert_93 (by decide) ?_
              have hh10 := hw.2.1 _ lo
              have hc : ρ.a 1 (tN o) < 10 := Nat.lt_of_not_le (fun q => h85 (nI_le q (by omega)))
              exact j95 s2 M61 true true _ h2 his (fun _ => ⟨rfl, by unfold cvOk; rw [decide_eq_true hc, yt h74, decide_eq_false h65, decide_eq_false (fun q => h49 (e49.mpr q))]; rfl⟩)
end REFF
