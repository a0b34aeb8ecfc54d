/-! the class: deposit -/
def dpK (σ : ST) (f c k : Int32) : Bool := (inC c && inK 1 3 k) && (inR σ.fo f && !decide (σ.ob = 10))
/-- what deposit leaves in the class -/
def dpS (σ : ST) (f c k : Int32) (cap cap2 cap3 : Nat) : ST := if dpK σ f c k = true then noS (mkS σ (tN k) none c cap) σ.ob (tN k) (tN f) (adF σ false c) 0 c cap2 cap3 else σ
theorem W2.odata0 {g : GG} {A : Nat → Nat → Nat} {σ ρ : ST} {x : XT} {M : Mem} (h : W2 g A σ ρ x M) (hi : 0 < σ.ob) : M (A 12 0) = some (lrw (fun j => A 16 j) σ.ob (σ.a 8 1)) := by
  rw [h.odata hi]
  refine congrArg some (congrArg (aQ tO (σ.a 8 1)) (funext fun j => ?_))
  rw [Nat.zero_add]
section DEPOSIT
variable (g : GG) {A : Nat → Nat → Nat} {σ ρ : ST} {x : XT} {M : Mem}
theorem c_X5_deposit {B : Nat} (hW : W2 g A σ ρ x M) (hw : WF σ) (hf8 : σ.fo ≤ 8) (hC : CAP σ) (hN : ND σ) (hq : UQ σ) (hL : LD σ) (hH : HB B σ) (hB : B < 2147483648) (h5 : ∀ u, u < σ.un → σ.a 5 u < 2 ^ 30) (hun : σ.ob < 10 → σ.un < 100) (zc : ∀ s, σ.cp σ.un s = false) (zh : ∀ s, σ.hs σ.un s = 0) (f c k : Int32) : con g mX5_deposit 11 500 [.ref (A 0 0), .int f, .int c, .int k] M (rO (o_deposit σ f c k) (eX xIA xIO xIS) (fun M' => ∃ A2 cap cap2 cap3, (σ.un + 1 ≤ cap ∧ cap ≤ 150) ∧ (1 ≤ cap2 ∧ cap2 ≤ 150) ∧ (σ.ob + 1 ≤ cap3 ∧ cap3 ≤ 150) ∧ AK A A2 ∧ W2 g A2 (dpS σ f c k cap cap2 cap3) ρ x M')) := by
  refine con_i ?_ (by decide) rfl rfl (by simp [lv_args, Value.category]) (by simp [lv_args, lnd, Value.category])
  have hA := hW.hall
  have hob10 := hw.1.1
  have h100 := hw.1.2
  have bad : ¬ dpK σ f c k = true → ∃ A2 cap cap2 cap3, (σ.un + 1 ≤ cap ∧ cap ≤ 150) ∧ (1 ≤ cap2 ∧ cap2 ≤ 150) ∧ (σ.ob + 1 ≤ cap3 ∧ cap3 ≤ 150) ∧ AK A A2 ∧ W2 g A2 (dpS σ f c k cap cap2 cap3) ρ x M := fun h => ⟨A, 150, 150, 150, by omega, by omega, by omega, fun _ _ _ => rfl, by unfold dpS; rw [if_neg h]; exact hW⟩
  have e1 : ¬ (inC c && inK 1 3 k) = true → o_deposit σ f c k = (1, nI 0, σ) ∧ ¬ dpK σ f c k = true := fun h => ⟨by unfold o_deposit; rw [if_neg h], fun q => by unfold dpK at q; rw [Bool.and_eq_true] at q; exact h q.1⟩
  have e2 : (inC c && inK 1 3 k) = true → ¬ inR σ.fo f = true → o_deposit σ f c k = (2, nI 0, σ) ∧ ¬ dpK σ f c k = true := fun h h' => ⟨by unfold o_deposit; rw [if_pos h, if_neg h'], fun q => by unfold dpK at q; rw [Bool.and_eq_true] at q; have q2 := q.2; rw [Bool.and_eq_true] at q2; exact h' q2.1⟩
  have e3 : (inC c && inK 1 3 k) = true → inR σ.fo f = true → σ.ob = 10 → o_deposit σ f c k = (3, nI 0, σ) ∧ ¬ dpK σ f c k = true := fun h h' h3 => ⟨by unfold o_deposit; rw [if_pos h, if_pos h', if_pos h3], fun q => by unfold dpK at q; rw [h3] at q; simp at q⟩
  refine z_iload_n dX5_deposit_0 rfl ?_
  refine z_isB dX5_deposit_1 cs_RX5_77 (c_X5_requireContent g c) ⟨⟨by decide, by decide⟩, (by first | exact Nat.zero_le _ | decide | omega), (by first | exact Nat.zero_le _ | decide | omega)⟩ rfl rfl (Nat.le_of_ble_eq_true rfl) rfl (fun h1 => ?_) (fun h1 => by obtain ⟨a1, a2⟩ := e1 (by rw [h1, Bool.false_and]; decide); rw [a1]; exact rO_n (bad a2) (Nat.one_ne_zero) rfl)
  refine z_iload_n dX5_deposit_4 rfl ?_
  refine z_ic ki_1 dX5_deposit_5 ?_
  refine z_ic ki_3 dX5_deposit_6 ?_
  refine z_isI dX5_deposit_7 cs_RX5_56 (c_X5_isWithin g M _ _ _) ⟨⟨by decide, by decide⟩, (by first | exact Nat.zero_le _ | decide | omega), (by first | exact Nat.zero_le _ | decide | omega)⟩ rfl rfl (Nat.le_of_ble_eq_true rfl) ?_
  refine z_if_ne (tgt := 23) dX5_deposit_10 (by decide) (fun h10 => ?_) (fun h10 => ?_)
  · have hck : (inC c && inK 1 3 k) = true := by rw [h1, show inK 1 3 k = true from yt h10]; rfl
    refine z_aload_n dX5_deposit_23 rfl rfl ?_
    refine z_iload_n dX5_deposit_24 rfl ?_
    refine z_ivB dX5_deposit_25 cv_RX5_49 hA (c_X5_requireFormat g hW hf8 f) ⟨⟨by decide, by decide⟩, (by first | exact Nat.zero_le _ | decide | omega), (by first | exact Nat.zero_le _ | decide | omega)⟩ rfl rfl (Nat.le_of_ble_eq_true rfl) rfl (fun h25 => ?_) (fun h25 => by obtain ⟨a1, a2⟩ := e2 hck (by rw [h25]; decide); rw [a1]; exact rO_n (bad a2) (Nat.succ_ne_zero 1) rfl)
    refine z_aload_n dX5_deposit_28 rfl rfl ?_
    refine z_getfield dX5_deposit_29 fg_RX5_26 (by assumption) rfl ?_
    refine z_ivI dX5_deposit_32 cv_RX5_82 hW.olst (c_ol_size hW) ⟨⟨by decide, by decide⟩, (by first | exact Nat.zero_le _ | decide | omega), (by first | exact Nat.zero_le _ | decide | omega)⟩ rfl rfl (Nat.le_of_ble_eq_true rfl) ?_
    refine z_bi kb_10 dX5_deposit_35 ?_
    refine z_icmp_lt (tgt := 50) dX5_deposit_37 (by decide) (fun h37 => ?_) (fun h37 => ?_)
    · have hlt : σ.ob < 10 := (nI_ltI (by omega) (by decide)).mp h37
      have hun' := hun hlt
      obtain ⟨ef, lf⟩ := inR_of (by omega) h25
      have hkb : k = nI (tN k) ∧ tN k < 4 := by
        have h9 := of_decide_eq_true (yt h10 : decide (nI 1 ≤ k ∧ k ≤ nI 3) = true)
        exact inK_3 (decide_eq_true ⟨Int32.le_trans (by decide) h9.1, h9.2⟩)
      have eo : o_deposit σ f c k = (0, nI σ.ob, (adR (σ.sa 0 σ.ob (tN k)) σ.ob (tN f) 0 false c).sn 1 (σ.ob + 1)) := by
        unfold o_deposit
        rw [if_pos hck, if_pos h25, if_neg (by omega)]
      have hdk : dpK σ f c k = true := by unfold dpK; rw [hck, h25, decide_eq_false (by omega)]; rfl
      rw [eo]
      refine z_aload_n dX5_deposit_50 rfl rfl ?_
      refine z_getfield dX5_deposit_51 fg_RX5_26 (by assumption) rfl ?_
      refine z_new dX5_deposit_54 nw_RX5_88 (by decide) (by decide) (fun a fa => ?_)
      refine z_dup dX5_deposit_57 rfl ?_
      have hWa := hW.out (mset_fresh (e := ob 1 [.int 0, .null, .null]) fa)
      have hAa := hWa.hall
      have hmk := c_X5_makeVersion g hWa hw hC hN hq hL hH hB h5 hun' zc zh (w := tN k) (by omega) none (fun b h => by cases h) f c
      rw [← hkb.1] at hmk
      refine z_iload_n dX5_deposit_58 rfl ?_
      refine z_aload_n dX5_deposit_59 rfl rfl ?_
      refine z_aconst_null dX5_deposit_60 ?_
      refine z_iload_n dX5_deposit_61 rfl ?_
      refine z_iload_n dX5_deposit_62 rfl ?_
      refine z_iload_n dX5_deposit_63 rfl ?_
      refine z_ivN dX5_deposit_64 cv_RX5_90 hAa (hmk) ⟨⟨by decide, by decide⟩, (by first | exact Nat.zero_le _ | decide | omega), (by first | exact Nat.zero_le _ | decide | omega)⟩ rfl rfl (Nat.le_of_ble_eq_true rfl) (fun q64 M64 hQ64 => ?_)
      obtain ⟨A', cap, hcap, hW1, hq', hdq, hkeep, hKP, hOD⟩ := hQ64
      have hao : ∀ k i, wdom σ k i → A k i ≠ a := fun k i hd e => by have := hW.1 k i hd; rw [e, fa] at this; cases this
      have hna : mset M a (ob 1 [.int 0, .null, .null]) a ≠ none := by rw [mset_eq]; exact fun e => by cases e
      have ha64 : M64 a = some (ob 1 [.int 0, .null, .null]) := (hKP a hna hao).trans mset_eq
      have hda : ∀ kk i, wdom (mkS σ (tN k) none c cap) kk i → A' kk i ≠ a := hOD a hna hao
      have hini := c_X0_init g (w := tN k) ha64 hq'
      rw [← hkb.1] at hini
      refine z_ipQ dX5_deposit_67 ci_RX5_94 (hini) ⟨⟨by decide, by decide⟩, (by first | exact Nat.zero_le _ | decide | omega), (by first | exact Nat.zero_le _ | decide | omega)⟩ rfl rfl (Nat.le_of_ble_eq_true rfl) (fun M67 hQ67 => ?_)
      obtain ⟨l, r, cap2, ⟨fl, fr⟩, ⟨hlr, hla, hra, hlq, hrq⟩, hc2, ga, gl, gr, gs⟩ := hQ67
      have hqa : q64 ≠ a := fun e => by rw [e, ha64] at hq'; cases hq'
      have hdl : ∀ kk i, wdom (mkS σ (tN k) none c cap) kk i → A' kk i ≠ l := fun kk i hd e => by have := hW1.1 kk i hd; rw [e, fl] at this; cases this
      have hdr : ∀ kk i, wdom (mkS σ (tN k) none c cap) kk i → A' kk i ≠ r := fun kk i hd e => by have := hW1.1 kk i hd; rw [e, fr] at this; cases this
      have hW67 : W2 g A' (mkS σ (tN k) none c cap) ρ x M67 := ⟨fun kk i hd => by rw [gs _ (hda kk i hd) (hdl kk i hd) (hdr kk i hd)]; exact hW1.1 kk i hd, hW1.2⟩
      have hag := mkS_agr σ (tN k) none c cap
      have eob : (mkS σ (tN k) none c cap).ob = σ.ob := mkS_ob σ (tN k) none c cap
      have hwm : WF (mkS σ (tN k) none c cap) := hag.WF (obS_WF hw hun' _ _ _ cap)
      have hCm : CAP (mkS σ (tN k) none c cap) := hag.CAP (obS_CAP hC _ _ _ hcap.1 hcap.2)
      have e11 := hkeep 11 0 ⟨by decide, rfl⟩ (by decide)
      have e00 := hkeep 0 0 ⟨by decide, rfl⟩ (by decide)
      have hol := hW67.olst
      rw [eob] at hol
      have hIn : LIn g M67 (if σ.ob = 0 then g.E else A' 12 0) σ.ob ((mkS σ (tN k) none c cap).a 8 1) (fun j => A' 16 j) 1 := by
        by_cases hz : σ.ob = 0
        · exact Or.inl ⟨if_pos hz, hz⟩
        · rw [if_neg hz]
          have c3 := hCm.2.2.1
          rw [eob] at c3
          have hod := hW67.odata0 (by rw [eob]; omega)
          rw [eob] at hod
          exact Or.inr ⟨hod, by omega, by omega, hCm.2.2.2.1, fun j hj => ⟨_, hW67.dob (by rw [eob]; exact hj)⟩⟩
      have hadd := c_L_add g hol ga (by decide) (by omega) cvO_1 hIn
      rw [e11] at hadd hol
      refine z_ivQ dX5_deposit_70 cv_RX5_97 hol (hadd) ⟨⟨by decide, by decide⟩, (by first | exact Nat.zero_le _ | decide | omega), (by first | exact Nat.zero_le _ | decide | omega)⟩ rfl rfl (Nat.le_of_ble_eq_true rfl) (fun M70 hQ70 => ?_)
      refine z_pop dX5_deposit_73 rfl ?_
      obtain ⟨rr, cap3, g1, g2, g3, g4, g5, g6, g7⟩ := hQ70
      have hrn : ∀ z, M67 z ≠ none → (∀ kk i, wdom (mkS σ (tN k) none c cap) kk i → A' kk i ≠ z) → rr ≠ z := fun z hz ho e => by
        rcases g1 with g1 | ⟨g1, g1'⟩
        · exact hz (by rw [← e]; exact g1)
        · rw [if_neg (by omega)] at g1
          exact ho 12 0 ⟨rfl, by rw [eob]; exact g1'⟩ (g1.symm.trans e)
      have xa : rr ≠ a := hrn a (by rw [ga]; exact fun e => by cases e) hda
      have xl : rr ≠ l := hrn l (by rw [gl]; exact fun e => by cases e) hdl
      have xr : rr ≠ r := hrn r (by rw [gr]; exact fun e => by cases e) hdr
      have hq67 : M67 q64 = some (ob 5 [.ref (A' 13 (adF σ false c)), .null, .int f, .int c, .int (bI true)]) := by rw [gs q64 hqa (Ne.symm hlq) (Ne.symm hrq)]; exact hq'
      have xq : rr ≠ q64 := hrn q64 (by rw [hq67]; exact fun e => by cases e) hdq
      have hno : ∀ z, (∀ kk i, wdom (mkS σ (tN k) none c cap) kk i → A' kk i ≠ z) → z ≠ A 11 0 := fun z ho e => ho 11 0 ⟨by decide, rfl⟩ (by rw [e]; exact e11)
      have hrr0 : rr ≠ A 0 0 := fun e => by
        have hh := hW67.hall
        rw [e00, ← e] at hh
        rcases g1 with g1 | ⟨g1, g1'⟩
        · rw [g1] at hh; cases hh
        · rw [if_neg (by omega)] at g1
          have hod := hW67.odata0 (by rw [eob]; omega)
          rw [← g1, hh] at hod
          cases hod
      have h00 : A 0 0 ≠ A 11 0 := fun e => absurd (hW.2 0 0 11 0 ⟨by decide, rfl⟩ ⟨by decide, rfl⟩ e).1 (by decide)
      have hA70 : M70 (A 0 0) = some (ob 6 [.ref (A 1 0), .ref (A 6 0), .ref (A 11 0)]) := by
        have hh := hW67.hall
        rw [e00, hkeep 1 0 ⟨by decide, rfl⟩ (by decide), hkeep 6 0 ⟨by decide, rfl⟩ (by decide), e11] at hh
        exact (g7 _ h00 (Ne.symm hrr0)).trans hh
      refine z_aload_n dX5_deposit_74 rfl rfl ?_
      refine z_getfield dX5_deposit_75 fg_RX5_26 hA70 rfl ?_
      refine z_ivI dX5_deposit_78 cv_RX5_82 g5 (c_L_size g g5) ⟨⟨by decide, by decide⟩, (by first | exact Nat.zero_le _ | decide | omega), (by first | exact Nat.zero_le _ | decide | omega)⟩ rfl rfl (Nat.le_of_ble_eq_true rfl) ?_
      refine z_ic ki_1 dX5_deposit_81 ?_
      refine z_isub dX5_deposit_82 ?_
      refine z_ireturn dX5_deposit_83 rfl (by first | rfl | exact bI_nar _) ?_
      have hWc := hW67.cut
      have cN : ∀ z, (∀ kk i, wdom (mkS σ (tN k) none c cap) kk i → A' kk i ≠ z) → cutM A' (mkS σ (tN k) none c cap) M67 z = none := fun z h => cutM_out h
      have hfu : adF σ false c < (mkS σ (tN k) none c cap).un := by rw [hag.un]; exact (obS_old σ (tN k) false c cap).2.2.1.2.2
      have hb2 : (mkS σ (tN k) none c cap).b 2 (adF σ false c) = false := (congrFun (congrFun hag.2.2.2.1 2) _).trans (obS_old σ (tN k) false c cap).2.2.2.2.2.2.2
      have e9 : nI ((mkS σ (tN k) none c cap).a 9 1) + nI 1 = nI ((mkS σ (tN k) none c cap).a 9 1 + 1) := nI_add _ 1
      have hfr : cutM A' (mkS σ (tN k) none c cap) M67 rr = none ∨ (rr = A' 12 0 ∧ 1 ≤ σ.ob) := by
        rcases g1 with g1 | ⟨g1, g1'⟩
        · exact Or.inl (cutM_none g1)
        · rw [if_neg (by omega)] at g1
          exact Or.inr ⟨g1, g1'⟩
      have hfin := hWc.newObject (M' := M70) (n := σ.ob) (w := tN k) (fm := tN f) (f := adF σ false c) (b := 0) (c := c) (cap := cap2) (cap2 := cap3) hwm eob hlt hfu hb2 (cN a hda) (cN l hdl) (cN r hdr) (cN q64 hdq) hfr (Ne.symm hla) (Ne.symm hra) (Ne.symm hqa) hlr hlq hrq xa xl xr xq (by rw [e11, g5, e9]) g6 (by rw [g7 a (hno a hda) (Ne.symm xa)]; exact ga) (by rw [g7 l (hno l hdl) (Ne.symm xl)]; exact gl) (by rw [g7 r (hno r hdr) (Ne.symm xr)]; exact gr) (by rw [g7 q64 (hno q64 hdq) (Ne.symm xq), ← ef]; exact hq67) (fun z e hz z1 z2 z3 z4 z5 z6 => by rw [e11] at z1; rw [g7 z z1 z2]; exact cutM_some hz)
      rw [show nI (σ.ob + 1) - nI 1 = nI σ.ob from nI_pred σ.ob]
      refine rO_y ⟨noA A' σ.ob a l r q64 rr, cap, cap2, cap3, hcap, hc2, ⟨g3, g4⟩, AK.of hkeep (fun kk i h => by rcases h with ⟨rfl, rfl⟩ | ⟨rfl, -⟩ <;> rfl), ?_⟩ rfl rfl
      unfold dpS
      rw [if_pos hdk]
      exact hfin
    · have h3 : σ.ob = 10 := by
        have := mt (fun q => (nI_ltI (a := σ.ob) (b := 10) (by omega) (by decide)).mpr q) h37
        omega
      obtain ⟨a1, a2⟩ := e3 hck h25 h3
      rw [a1]
      exact z_throw (thk_IS (is := 86) (text := "no room for another object") (List.mem_of_getElem? (i := 4) rfl)) dX5_deposit_40 dX5_deposit_43 dX5_deposit_44 dX5_deposit_46 dX5_deposit_49 rfl ⟨by decide, by decide, by first | decide | omega, by first | decide | omega⟩ (Nat.le_of_ble_eq_true rfl) (rO_n (bad a2) (Nat.succ_ne_zero 2) rfl)
  · obtain ⟨a1, a2⟩ := e1 (by rw [show inK 1 3 k = false from nf h10, Bool.and_false]; decide)
    rw [a1]
    exact z_throw (thk_IA (is := 80) (text := "number of copies out of range") (List.mem_of_getElem? (i := 3) rfl)) dX5_deposit_13 dX5_deposit_16 dX5_deposit_17 dX5_deposit_19 dX5_deposit_22 rfl ⟨by decide, by decide, by first | decide | omega, by first | decide | omega⟩ (Nat.le_of_ble_eq_true rfl) (rO_n (bad a2) (Nat.one_ne_zero) rfl)
end DEPOSIT
