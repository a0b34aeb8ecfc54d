/-! the class: the store, all lacking copies; copies are dropped -/
theorem CAP.eq {σ τ : ST} (h : CAP σ) (h1 : τ.1 = σ.1) (ha : τ.a 1 = σ.a 1) (hb : τ.a 8 = σ.a 8) : CAP τ := by
  have hn : ∀ i, τ.n i = σ.n i := fun i => congrFun h1 i
  have e1 : ∀ o, τ.a 1 o = σ.a 1 o := fun o => congrFun ha o
  have e8 : ∀ o, τ.a 8 o = σ.a 8 o := fun o => congrFun hb o
  unfold CAP ST.un ST.ob at h ⊢
  simp only [hn, e1, e8]
  exact h
theorem ND.eq {σ τ : ST} (h : ND σ) (h1 : τ.1 = σ.1) (ha : τ.a 6 = σ.a 6) (hb : τ.b 1 = σ.b 1) : ND τ := by
  have hn : ∀ i, τ.n i = σ.n i := fun i => congrFun h1 i
  have e6 : ∀ o, τ.a 6 o = σ.a 6 o := fun o => congrFun ha o
  have e1 : ∀ o, τ.b 1 o = σ.b 1 o := fun o => congrFun hb o
  unfold ND ST.un at h ⊢
  simp only [hn, e1, e6]
  exact h
/-- copies are not far from their values -/
def HB (B : Nat) (σ : ST) : Prop := ∀ u s, σ.cp u s = true → -(B : Int) ≤ (σ.hs u s).toInt ∧ (σ.hs u s).toInt ≤ B
theorem HB.plS {B : Nat} {σ : ST} (h : HB B σ) {v : Int32} (hv : -(B : Int) ≤ v.toInt ∧ v.toInt ≤ B) (u s : Nat) : HB B (plS σ u s v) := by
  intro k t hk
  show -(B : Int) ≤ (f2 σ.hs u s v k t).toInt ∧ (f2 σ.hs u s v k t).toInt ≤ B
  by_cases hq : k = u ∧ t = s
  · rw [hq.1, hq.2, f2_s]
    exact hv
  · rw [f2_n hq]
    rw [plS_cp, if_neg hq] at hk
    exact h k t hk
theorem HB.plcs {B : Nat} {v : Int32} (hv : -(B : Int) ≤ v.toInt ∧ v.toInt ≤ B) (u : Nat) : ∀ k {σ : ST}, HB B σ → HB B (plcs u v k σ)
  | 0, _, h => h
  | k + 1, σ, h => by
    cases hp : plc σ u 4 with
    | none => rw [(plcs_none v hp (k + 1)).1]; exact h
    | some s =>
      rw [(plcs_some hp k).1]
      exact HB.plcs hv u k (h.plS hv u s)
theorem HB.plG {B : Nat} {σ : ST} (h : HB B σ) (u : Nat) : HB B (plG σ u) := by
  unfold Jvm.Pilot.CFixityhallLaw_law_r7320_c6f90e.plG
  cases hg : good σ u with
  | none => exact h
  | some f => exact HB.plcs (h u f (good_cp 4 f hg)) u _ h
theorem LD.plG {σ : ST} (h : LD σ) {u : Nat} (hu : u < 100) : LD (plG σ u) := by
  unfold Jvm.Pilot.CFixityhallLaw_law_r7320_c6f90e.plG
  cases hg : good σ u with
  | none => exact h
  | some f => exact LD_plcs hu _ _ h
theorem rpS_s (σ : ST) (n : Nat) : rpS σ (n + 1) = if (rpS σ n).b 1 n = true then plG (rpS σ n) n else rpS σ n := rfl
theorem rpS_LH {B : Nat} {σ : ST} (h : LD σ) (hB : HB B σ) : ∀ n, n ≤ 100 → LD (rpS σ n) ∧ HB B (rpS σ n)
  | 0, _ => ⟨h, hB⟩
  | n + 1, hn => by
    obtain ⟨h1, h2⟩ := rpS_LH h hB n (by omega)
    rw [rpS_s]
    split
    · exact ⟨h1.plG (by omega), h2.plG n⟩
    · exact ⟨h1, h2⟩
section DROP
variable (g : GG) {A : Nat → Nat → Nat} {σ ρ : ST} {x : XT} {M : Mem}
theorem c_X2_placeAllLacking {B : Nat} (hW : W2 g A σ ρ x M) (hw : WF σ) (hC : CAP σ) (hN : ND σ) (hL : LD σ) (hH : HB B σ) (hB : B < 2147483648) (h5 : ∀ u, u < σ.un → σ.a 5 u < 2 ^ 30) : con g mX2_placeAllLacking 0 0 [.ref (A 6 0)] M (rQ (some (.int (nI (rpN σ σ.un)))) (W2 g A (rpS σ σ.un) ρ x)) := by
  refine con_i ?_ (by decide) rfl rfl (by simp [lv_args, Value.category]) (by simp [lv_args, lnd, Value.category])
  have h100 := hw.1.2
  have loop : ∀ j, j ≤ σ.un → ∀ (M' : Mem) x1 x2 y, W2 g A (rpS σ j) ρ x M' → x1 = nI (rpN σ j) → x2 = nI j → (y = [] ∨ ∃ z, y = [(3, Value.ref z)]) → tri g mX2_placeAllLacking 0 0 (rQ (some (.int (nI (rpN σ σ.un)))) (W2 g A (rpS σ σ.un) ρ x)) M' 4 ((0, .ref (A 6 0)) :: (1, .int x1) :: (2, .int x2) :: y) [] := by
    refine lp_up σ.un ?_ ?_
    · intro M' x1 x2 y h e1 e2 hy
      subst e1 e2
      have eu : (rpS σ σ.un).un = σ.un := congrFun (rpS_same σ σ.un).1 2
      have hS := h.store
      have hl := h.ulst
      have hsz := c_ul_size h
      rw [eu] at hsz
      refine z_iload_n dX2_placeAllLacking_4 rfl ?_
      refine z_aload_n dX2_placeAllLacking_5 rfl rfl ?_
      refine z_getfield dX2_placeAllLacking_6 fg_RX2_12 (by assumption) rfl ?_
      refine z_ivI dX2_placeAllLacking_9 cv_RX2_30 hl (hsz) ⟨⟨by decide, by decide⟩, (by first | exact Nat.zero_le _ | decide | omega), (by first | exact Nat.zero_le _ | decide | omega)⟩ rfl rfl (Nat.le_of_ble_eq_true rfl) ?_
      refine z_icmp_ge (tgt := 48) dX2_placeAllLacking_12 (by decide) (fun h12 => ?_) (fun h12 => absurd (nI_le (by omega) (by omega)) h12)
      refine z_iload_n dX2_placeAllLacking_48 rfl ?_
      refine z_ireturn dX2_placeAllLacking_49 rfl (by first | rfl | exact bI_nar _) ?_
      exact rQ_of h
    · intro j hj ih M' x1 x2 y h e1 e2 hy
      subst e1 e2
      obtain ⟨r1, r2, r3, r4, r5⟩ := rpS_same σ j
      have eu : (rpS σ j).un = σ.un := congrFun r1 2
      have hju : j < (rpS σ j).un := by rw [eu]; exact hj
      have hS := h.store
      have hl := h.ulst
      have hsz := c_ul_size h
      rw [eu] at hsz
      have hCj := hC.eq r1 (r2 1 (by decide)) (r2 8 (by decide))
      have hNj := hN.eq r1 (r2 6 (by decide)) (congrFun r4 1)
      have hun := h.unit hju
      obtain ⟨hLj, hHj⟩ := rpS_LH hL hH j (by omega)
      have h5j : (rpS σ j).a 5 j < 2 ^ 30 := by rw [r2 5 (by decide)]; exact h5 j hj
      rcases hy with rfl | ⟨z, rfl⟩
      · skip
        refine z_iload_n dX2_placeAllLacking_4 rfl ?_
        refine z_aload_n dX2_placeAllLacking_5 rfl rfl ?_
        refine z_getfield dX2_placeAllLacking_6 fg_RX2_12 (by assumption) rfl ?_
        refine z_ivI dX2_placeAllLacking_9 cv_RX2_30 hl (hsz) ⟨⟨by decide, by decide⟩, (by first | exact Nat.zero_le _ | decide | omega), (by first | exact Nat.zero_le _ | decide | omega)⟩ rfl rfl (Nat.le_of_ble_eq_true rfl) ?_
        refine z_icmp_ge (tgt := 48) dX2_placeAllLacking_12 (by decide) (fun h12 => absurd h12 (nI_ge hj (by omega))) (fun h12 => ?_)
        refine z_aload_n dX2_placeAllLacking_15 rfl rfl ?_
        refine z_getfield dX2_placeAllLacking_16 fg_RX2_12 (by assumption) rfl ?_
        refine z_iload_n dX2_placeAllLacking_19 rfl ?_
        refine z_ivA dX2_placeAllLacking_20 cv_RX2_34 hl (c_ul_get h hCj hju) ⟨⟨by decide, by decide⟩, (by first | exact Nat.zero_le _ | decide | omega), (by first | exact Nat.zero_le _ | decide | omega)⟩ rfl rfl (Nat.le_of_ble_eq_true rfl) ?_
        refine z_cast dX2_placeAllLacking_23 hun rfl (gt_in 154 (by decide +kernel) rfl) ?_
        refine z_astore_n dX2_placeAllLacking_26 (by decide) rfl ?_
        refine z_aload_n dX2_placeAllLacking_27 rfl rfl ?_
        refine z_ivI dX2_placeAllLacking_28 cv_RX2_40 hun (c_need g h hNj hju) ⟨⟨by decide, by decide⟩, (by first | exact Nat.zero_le _ | decide | omega), (by first | exact Nat.zero_le _ | decide | omega)⟩ rfl rfl (Nat.le_of_ble_eq_true rfl) ?_
        refine z_if_eq (tgt := 42) dX2_placeAllLacking_31 (by decide) (fun h31 => ?_) (fun h31 => ?_)
        · refine z_inc ki_1 dX2_placeAllLacking_42 rfl (by decide) ?_
          refine z_goto (tgt := 4) dX2_placeAllLacking_45 (by decide) ?_
          exact ih _ _ _ _ (by rw [rpS_s, if_neg (nt h31)]; exact h) (by rw [rpN, if_neg (nt h31), Nat.add_zero]) (nI_add j 1) (Or.inr ⟨_, rfl⟩)
        · refine z_iload_n dX2_placeAllLacking_34 rfl ?_
          refine z_aload_n dX2_placeAllLacking_35 rfl rfl ?_
          refine z_aload_n dX2_placeAllLacking_36 rfl rfl ?_
          refine z_ivQ dX2_placeAllLacking_37 cv_RX2_57 hS (c_X2_placeGoodCopies g h hLj (FK_T A j) trivial hju (by omega) h5j) ⟨⟨by decide, by decide⟩, (by first | exact Nat.zero_le _ | decide | omega), (by first | exact Nat.zero_le _ | decide | omega)⟩ rfl rfl (Nat.le_of_ble_eq_true rfl) (fun M37 hQ37 => ?_)
          refine z_iadd dX2_placeAllLacking_40 ?_
          refine z_istore_n dX2_placeAllLacking_41 (by decide) ?_
          refine z_inc ki_1 dX2_placeAllLacking_42 rfl (by decide) ?_
          refine z_goto (tgt := 4) dX2_placeAllLacking_45 (by decide) ?_
          exact ih _ _ _ _ (by rw [rpS_s, if_pos (yt h31)]; exact hQ37.1) (by rw [rpN, if_pos (yt h31)]; exact nI_add _ _) (nI_add j 1) (Or.inr ⟨_, rfl⟩)
      · skip
        refine z_iload_n dX2_placeAllLacking_4 rfl ?_
        refine z_aload_n dX2_placeAllLacking_5 rfl rfl ?_
        refine z_getfield dX2_placeAllLacking_6 fg_RX2_12 (by assumption) rfl ?_
        refine z_ivI dX2_placeAllLacking_9 cv_RX2_30 hl (hsz) ⟨⟨by decide, by decide⟩, (by first | exact Nat.zero_le _ | decide | omega), (by first | exact Nat.zero_le _ | decide | omega)⟩ rfl rfl (Nat.le_of_ble_eq_true rfl) ?_
        refine z_icmp_ge (tgt := 48) dX2_placeAllLacking_12 (by decide) (fun h12 => absurd h12 (nI_ge hj (by omega))) (fun h12 => ?_)
        refine z_aload_n dX2_placeAllLacking_15 rfl rfl ?_
        refine z_getfield dX2_placeAllLacking_16 fg_RX2_12 (by assumption) rfl ?_
        refine z_iload_n dX2_placeAllLacking_19 rfl ?_
        refine z_ivA dX2_placeAllLacking_20 cv_RX2_34 hl (c_ul_get h hCj hju) ⟨⟨by decide, by decide⟩, (by first | exact Nat.zero_le _ | decide | omega), (by first | exact Nat.zero_le _ | decide | omega)⟩ rfl rfl (Nat.le_of_ble_eq_true rfl) ?_
        refine z_cast dX2_placeAllLacking_23 hun rfl (gt_in 154 (by decide +kernel) rfl) ?_
        refine z_astore_n dX2_placeAllLacking_26 (by decide) rfl ?_
        refine z_aload_n dX2_placeAllLacking_27 rfl rfl ?_
        refine z_ivI dX2_placeAllLacking_28 cv_RX2_40 hun (c_need g h hNj hju) ⟨⟨by decide, by decide⟩, (by first | exact Nat.zero_le _ | decide | omega), (by first | exact Nat.zero_le _ | decide | omega)⟩ rfl rfl (Nat.le_of_ble_eq_true rfl) ?_
        refine z_if_eq (tgt := 42) dX2_placeAllLacking_31 (by decide) (fun h31 => ?_) (fun h31 => ?_)
        · refine z_inc ki_1 dX2_placeAllLacking_42 rfl (by decide) ?_
          refine z_goto (tgt := 4) dX2_placeAllLacking_45 (by decide) ?_
          exact ih _ _ _ _ (by rw [rpS_s, if_neg (nt h31)]; exact h) (by rw [rpN, if_neg (nt h31), Nat.add_zero]) (nI_add j 1) (Or.inr ⟨_, rfl⟩)
        · refine z_iload_n dX2_placeAllLacking_34 rfl ?_
          refine z_aload_n dX2_placeAllLacking_35 rfl rfl ?_
          refine z_aload_n dX2_placeAllLacking_36 rfl rfl ?_
          refine z_ivQ dX2_placeAllLacking_37 cv_RX2_57 hS (c_X2_placeGoodCopies g h hLj (FK_T A j) trivial hju (by omega) h5j) ⟨⟨by decide, by decide⟩, (by first | exact Nat.zero_le _ | decide | omega), (by first | exact Nat.zero_le _ | decide | omega)⟩ rfl rfl (Nat.le_of_ble_eq_true rfl) (fun M37 hQ37 => ?_)
          refine z_iadd dX2_placeAllLacking_40 ?_
          refine z_istore_n dX2_placeAllLacking_41 (by decide) ?_
          refine z_inc ki_1 dX2_placeAllLacking_42 rfl (by decide) ?_
          refine z_goto (tgt := 4) dX2_placeAllLacking_45 (by decide) ?_
          exact ih _ _ _ _ (by rw [rpS_s, if_pos (yt h31)]; exact hQ37.1) (by rw [rpN, if_pos (yt h31)]; exact nI_add _ _) (nI_add j 1) (Or.inr ⟨_, rfl⟩)
  refine z_ic ki_0 dX2_placeAllLacking_0 ?_
  refine z_istore_n dX2_placeAllLacking_1 (by decide) ?_
  refine z_ic ki_0 dX2_placeAllLacking_2 ?_
  refine z_istore_n dX2_placeAllLacking_3 (by decide) ?_
  exact loop 0 (by omega) M _ _ _ hW rfl rfl (Or.inl rfl)
/-- a copy is dropped, if it is there -/
def drS (σ : ST) (u s : Nat) : ST := if σ.cp u s = true then (σ.sc u s false).sa 7 s (σ.a 7 s - 1) else σ
theorem drS_same (σ : ST) (u s : Nat) : (drS σ u s).1 = σ.1 ∧ (∀ i, i ≠ 7 → (drS σ u s).a i = σ.a i) ∧ (drS σ u s).2.2.1 = σ.2.2.1 ∧ (drS σ u s).b = σ.b ∧ (drS σ u s).hs = σ.hs ∧ (drS σ u s).lo = σ.lo ∧ (drS σ u s).cp = f2 σ.cp u s false := by
  unfold drS
  by_cases h : σ.cp u s = true
  · rw [if_pos h]
    exact ⟨rfl, fun i hi => f2_a hi, rfl, rfl, rfl, rfl, rfl⟩
  · rw [if_neg h]
    refine ⟨rfl, fun _ _ => rfl, rfl, rfl, rfl, rfl, funext fun k => funext fun t => ?_⟩
    unfold f2
    by_cases hq : k = u ∧ t = s
    · rw [if_pos hq, hq.1, hq.2]
      simpa using h
    · rw [if_neg hq]
theorem LD.drS {σ : ST} (h : LD σ) {u s : Nat} (hu : u < 100) (hs : s < 4) : LD (drS σ u s) := by
  by_cases hc : σ.cp u s = true
  · have e : Jvm.Pilot.CFixityhallLaw_law_r7320_c6f90e.drS σ u s = (σ.sc u s false).sa 7 s (σ.a 7 s - 1) := if_pos hc
    rw [e]
    have hcp : ∀ k t, ((σ.sc u s false).sa 7 s (σ.a 7 s - 1)).cp k t = if k = u ∧ t = s then false else σ.cp k t := fun _ _ => rfl
    intro t ht
    show f2 σ.2.1 7 s (σ.a 7 s - 1) 7 t = _
    by_cases hts : t = s
    · have e2 := ldn_set (τ := σ) (σ := (σ.sc u s false).sa 7 s (σ.a 7 s - 1)) (u := u) (s := s) (by rw [hcp, if_pos ⟨rfl, rfl⟩]) hc (fun k hk => by rw [hcp, if_neg (fun q => hk q.1)]) 100 hu
      have e3 := h s hs
      rw [hts, f2_s]
      omega
    · have e2 := ldn_cp (σ := σ) (τ := (σ.sc u s false).sa 7 s (σ.a 7 s - 1)) (s := t) 100 (fun k _ => by rw [hcp, if_neg (fun q => hts q.2)])
      rw [f2_n (fun q => hts q.2), e2]
      exact h t ht
  · have e : Jvm.Pilot.CFixityhallLaw_law_r7320_c6f90e.drS σ u s = σ := if_neg hc
    rw [e]
    exact h
theorem ldn_pos {σ : ST} {u s : Nat} (h : σ.cp u s = true) : ∀ n, u < n → 0 < ldn σ s n
  | 0, hu => absurd hu (Nat.not_lt_zero u)
  | n + 1, hu => by
    unfold ldn
    by_cases hun : u = n
    · rw [← hun, if_pos h]
      omega
    · have := ldn_pos h n (by omega)
      omega
theorem c_X2_dropCopy (hW : W2 g A σ ρ x M) (hL : LD σ) {u s : Nat} (hu : u < σ.un) (h100 : u < 100) (hs : s < 4) : con g mX2_dropCopy 0 0 [.ref (A 6 0), .ref (A 13 u), .int (nI s)] M (rQ (some (.int (bI (σ.cp u s)))) (W2 g A (drS σ u s) ρ x)) := by
  refine con_i ?_ (by decide) rfl rfl (by simp [lv_args, Value.category]) (by simp [lv_args, lnd, Value.category])
  have hun := hW.unit hu
  refine z_iload_n dX2_dropCopy_0 rfl ?_
  refine z_if_lt (tgt := 17) dX2_dropCopy_1 (by decide) (fun h1 => absurd h1 (nI_pos (by omega))) (fun h1 => ?_)
  refine z_iload_n dX2_dropCopy_4 rfl ?_
  refine z_ic ki_4 dX2_dropCopy_5 ?_
  refine z_icmp_ge (tgt := 17) dX2_dropCopy_6 (by decide) (fun h6 => absurd h6 (nI_ge hs (by omega))) (fun h6 => ?_)
  refine z_aload_n dX2_dropCopy_9 rfl rfl ?_
  refine z_iload_n dX2_dropCopy_10 rfl ?_
  refine z_ivI dX2_dropCopy_11 cv_RX2_93 hun (c_X3_hasCopyAt g hW hu hs) ⟨⟨by decide, by decide⟩, (by first | exact Nat.zero_le _ | decide | omega), (by first | exact Nat.zero_le _ | decide | omega)⟩ rfl rfl (Nat.le_of_ble_eq_true rfl) ?_
  refine z_if_ne (tgt := 19) dX2_dropCopy_14 (by decide) (fun h14 => ?_) (fun h14 => ?_)
  · refine z_aload_n dX2_dropCopy_19 rfl rfl ?_
    refine z_iload_n dX2_dropCopy_20 rfl ?_
    refine z_ivQ dX2_dropCopy_21 cv_RX2_118 hun (c_X3_dropAt g hW hu hs) ⟨⟨by decide, by decide⟩, (by first | exact Nat.zero_le _ | decide | omega), (by first | exact Nat.zero_le _ | decide | omega)⟩ rfl rfl (Nat.le_of_ble_eq_true rfl) (fun M21 hQ21 => ?_)
    have hS := hQ21.store
    have hld := hQ21.loads
    have h0 : 0 < σ.a 7 s := by rw [hL s hs]; exact ldn_pos (yt h14) 100 h100
    have em : nI (σ.a 7 s) - nI 1 = nI (σ.a 7 s - 1) := pk_sub h0
    refine z_aload_n dX2_dropCopy_24 rfl rfl ?_
    refine z_getfield dX2_dropCopy_25 fg_RX2_22 hS rfl ?_
    refine z_iload_n dX2_dropCopy_28 rfl ?_
    refine z_dup2 dX2_dropCopy_29 rfl rfl ?_
    refine z_iaload dX2_dropCopy_30 hld rfl hs (by decide) ?_
    refine z_ic ki_1 dX2_dropCopy_31 ?_
    refine z_isub dX2_dropCopy_32 ?_
    rw [show (σ.sc u s false).a 7 s = σ.a 7 s from rfl, em]
    refine z_iastore dX2_dropCopy_33 hld rfl hs (by decide) ?_
    refine z_ic ki_1 dX2_dropCopy_34 ?_
    refine z_ireturn dX2_dropCopy_35 rfl (by first | rfl | exact bI_nar _) ?_
    have e : drS σ u s = (σ.sc u s false).sa 7 s (σ.a 7 s - 1) := if_pos (yt h14)
    rw [e, yt h14]
    exact rQ_of (hQ21.cloads s _)
  · refine z_ic ki_0 dX2_dropCopy_17 ?_
    refine z_ireturn dX2_dropCopy_18 rfl (by first | rfl | exact bI_nar _) ?_
    have e : drS σ u s = σ := if_neg (nt h14)
    rw [e, bI_eq0.mp h14]
    exact rQ_of hW
def drA (σ : ST) (u : Nat) : Nat → ST
  | 0 => σ
  | n + 1 => drS (drA σ u n) u n
theorem drA_same (σ : ST) (u : Nat) : ∀ n, (drA σ u n).1 = σ.1 ∧ (∀ i, i ≠ 7 → (drA σ u n).a i = σ.a i) ∧ (drA σ u n).2.2.1 = σ.2.2.1 ∧ (drA σ u n).b = σ.b ∧ (drA σ u n).hs = σ.hs ∧ (drA σ u n).lo = σ.lo ∧ ∀ k t, (drA σ u n).cp k t = if k = u ∧ t < n then false else σ.cp k t
  | 0 => ⟨rfl, fun _ _ => rfl, rfl, rfl, rfl, rfl, fun k t => by rw [if_neg (fun q => Nat.not_lt_zero t q.2)]; rfl⟩
  | n + 1 => by
    obtain ⟨h1, h2, h3, h4, h5, h6, h7⟩ := drA_same σ u n
    obtain ⟨g1, g2, g3, g4, g5, g6, g7⟩ := drS_same (drA σ u n) u n
    refine ⟨g1.trans h1, fun i hi => (g2 i hi).trans (h2 i hi), g3.trans h3, g4.trans h4, g5.trans h5, g6.trans h6, fun k t => ?_⟩
    show (drS (drA σ u n) u n).cp k t = _
    rw [g7]
    unfold f2
    rw [h7]
    by_cases hq : k = u ∧ t = n
    · rw [if_pos hq, if_pos ⟨hq.1, by omega⟩]
    · rw [if_neg hq]
      by_cases hq2 : k = u ∧ t < n
      · rw [if_pos hq2, if_pos ⟨hq2.1, by omega⟩]
      · rw [if_neg hq2, if_neg (fun z => hq2 ⟨z.1, by
          have : ¬ t = n := fun e => hq ⟨z.1, e⟩
          omega⟩)]
theorem LD.drA {σ : ST} (h : LD σ) {u : Nat} (hu : u < 100) : ∀ n, n ≤ 4 → LD (drA σ u n)
  | 0, _ => h
  | n + 1, hn => (LD.drA h hu n (by omega)).drS hu (by omega)
theorem c_X2_dropAllOf (hW : W2 g A σ ρ x M) (hL : LD σ) {u : Nat} (hu : u < σ.un) (h100 : u < 100) : con g mX2_dropAllOf 0 0 [.ref (A 6 0), .ref (A 13 u)] M (rQ none (W2 g A (drA σ u 4) ρ x)) := by
  refine con_i ?_ (by decide) rfl rfl (by simp [lv_args, Value.category]) (by simp [lv_args, lnd, Value.category])
  have loop : ∀ j, j ≤ 4 → ∀ (M' : Mem) x2, W2 g A (drA σ u j) ρ x M' → x2 = nI j → tri g mX2_dropAllOf 0 0 (rQ none (W2 g A (drA σ u 4) ρ x)) M' 2 [(0, .ref (A 6 0)), (1, .ref (A 13 u)), (2, .int x2)] [] := by
    refine lp_up 4 ?_ ?_
    · intro M' x2 h e2
      subst e2
      refine z_iload_n dX2_dropAllOf_2 rfl ?_
      refine z_ic ki_4 dX2_dropAllOf_3 ?_
      refine z_icmp_ge (tgt := 20) dX2_dropAllOf_4 (by decide) (fun h4 => ?_) (fun h4 => absurd (nI_le (by omega) (by omega)) h4)
      refine z_return dX2_dropAllOf_20 rfl ?_
      exact rQ_of h
    · intro j hj ih M' x2 h e2
      subst e2
      have eu : (drA σ u j).un = σ.un := congrFun (drA_same σ u j).1 2
      have hS := h.store
      refine z_iload_n dX2_dropAllOf_2 rfl ?_
      refine z_ic ki_4 dX2_dropAllOf_3 ?_
      refine z_icmp_ge (tgt := 20) dX2_dropAllOf_4 (by decide) (fun h4 => absurd h4 (nI_ge hj (by omega))) (fun h4 => ?_)
      refine z_aload_n dX2_dropAllOf_7 rfl rfl ?_
      refine z_aload_n dX2_dropAllOf_8 rfl rfl ?_
      refine z_iload_n dX2_dropAllOf_9 rfl ?_
      refine z_ivQ dX2_dropAllOf_10 cv_RX2_114 hS (c_X2_dropCopy g h (hL.drA h100 j (by omega)) (by rw [eu]; exact hu) h100 hj) ⟨⟨by decide, by decide⟩, (by first | exact Nat.zero_le _ | decide | omega), (by first | exact Nat.zero_le _ | decide | omega)⟩ rfl rfl (Nat.le_of_ble_eq_true rfl) (fun M10 hQ10 => ?_)
      refine z_pop dX2_dropAllOf_13 rfl ?_
      refine z_inc ki_1 dX2_dropAllOf_14 rfl (by decide) ?_
      refine z_goto (tgt := 2) dX2_dropAllOf_17 (by decide) ?_
      exact ih _ _ hQ10 (nI_add j 1)
  refine z_ic ki_0 dX2_dropAllOf_0 ?_
  refine z_istore_n dX2_dropAllOf_1 (by decide) ?_
  exact loop 0 (by omega) M _ hW rfl
end DROP
