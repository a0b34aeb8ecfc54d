/-! the class: the objects at risk, audits -/
theorem ldn_ex {σ : ST} {s : Nat} : ∀ n, 0 < ldn σ s n → ∃ u, u < n ∧ σ.cp u s = true
  | 0, h => absurd h (Nat.lt_irrefl 0)
  | n + 1, h => by
    by_cases hc : σ.cp n s = true
    · exact ⟨n, by omega, hc⟩
    · unfold ldn at h
      rw [if_neg hc] at h
      obtain ⟨u, h1, h2⟩ := ldn_ex n (by omega)
      exact ⟨u, by omega, h2⟩
theorem hcL_ex {σ : ST} : ∀ n, hcL σ n = true → ∃ s u, s < n ∧ u < 100 ∧ σ.cp u s = true
  | 0, h => by cases h
  | n + 1, h => by
    unfold hcL at h
    rw [Bool.or_eq_true] at h
    rcases h with h | h
    · obtain ⟨s, u, h1, h2, h3⟩ := hcL_ex n h
      exact ⟨s, u, by omega, h2, h3⟩
    · obtain ⟨u, h1, h2⟩ := ldn_ex 100 (of_decide_eq_true h)
      exact ⟨n, u, by omega, h1, h2⟩
theorem hcL_of {σ : ST} {u s : Nat} (hu : u < 100) (hc : σ.cp u s = true) : ∀ n, s < n → hcL σ n = true
  | 0, h => absurd h (Nat.not_lt_zero s)
  | n + 1, h => by
    unfold hcL
    by_cases hs : s = n
    · rw [← hs, decide_eq_true (ldn_pos hc 100 hu), Bool.or_true]
    · rw [hcL_of hu hc n (by omega), Bool.true_or]
theorem hcL_nxt {σ : ST} : hcL σ 4 = (nxt σ).isSome := by
  cases hn : nxt σ with
  | some m =>
    obtain ⟨h1, h2⟩ := nxf_some σ 400 0 m hn
    exact hcL_of (by omega) h2 4 (Nat.mod_lt _ (by decide))
  | none =>
    refine Bool.eq_false_iff.mpr fun q => ?_
    obtain ⟨s, u, h1, h2, h3⟩ := hcL_ex 4 q
    obtain ⟨k, hk⟩ := nxt_ex (σ := σ) (m := 4 * u + s) (by omega) (by rw [show (4 * u + s) / 4 = u by omega, show (4 * u + s) % 4 = s by omega]; exact h3)
    rw [hn] at hk
    cases hk
theorem HB.au1 {B : Nat} {σ : ST} (h : HB B σ) : HB B (au1 σ) := by
  unfold Jvm.Pilot.CFixityhallLaw_law_r7320_c6f90e.au1
  cases hn : nxt σ with
  | none => exact h
  | some m =>
    show HB B (match good (σ.sn 3 (m + 1)) (m / 4) with | none => σ.sn 3 (m + 1) | some f => if σ.hs (m / 4) (m % 4) = σ.hs (m / 4) f then σ.sn 3 (m + 1) else (σ.sn 3 (m + 1)).sh (m / 4) (m % 4) (σ.hs (m / 4) f))
    cases hg : good (σ.sn 3 (m + 1)) (m / 4) with
    | none => exact h
    | some f =>
      have hb := h (m / 4) f (good_cp (σ := σ.sn 3 (m + 1)) 4 f hg)
      show HB B (if σ.hs (m / 4) (m % 4) = σ.hs (m / 4) f then σ.sn 3 (m + 1) else (σ.sn 3 (m + 1)).sh (m / 4) (m % 4) (σ.hs (m / 4) f))
      split
      · exact h
      · intro k t hk
        show -(B : Int) ≤ (f2 σ.hs (m / 4) (m % 4) (σ.hs (m / 4) f) k t).toInt ∧ (f2 σ.hs (m / 4) (m % 4) (σ.hs (m / 4) f) k t).toInt ≤ B
        by_cases hq : k = m / 4 ∧ t = m % 4
        · rw [hq.1, hq.2, f2_s]
          exact hb
        · rw [f2_n hq]
          exact h k t hk
theorem WF.eq {σ τ : ST} (h : WF σ) (hu : τ.un = σ.un) (ho : τ.ob = σ.ob) (ha : τ.2.1 = σ.2.1) (hb : τ.b = σ.b) : WF τ := by
  have a1 : ∀ i o, τ.a i o = σ.a i o := fun i o => by show τ.2.1 i o = σ.2.1 i o; rw [ha]
  have b1 : ∀ i o, τ.b i o = σ.b i o := fun i o => by rw [hb]
  unfold WF vok at h ⊢
  simp only [hu, ho, a1, b1]
  exact h
section OPS3
variable (g : GG) {A : Nat → Nat → Nat} {σ ρ : ST} {x : XT} {M : Mem}
theorem c_X5_audit {B : Nat} (hW : W2 g A σ ρ x M) (hw : WF σ) (hC : CAP σ) (hL : LD σ) (hH : HB B σ) (hB : B < 2147483648) (hla : σ.la ≤ 400) (hno : ∀ u s, σ.un ≤ u → σ.cp u s = false) (k : Int32) : con g mX5_audit 1 6 [.ref (A 0 0), .int k] M (rO (o_audit σ k) (eX xIA xIS xIS) (W2 g A (o_audit σ k).2.2 ρ x)) := by
  refine con_i ?_ (by decide) rfl rfl (by simp [lv_args, Value.category]) (by simp [lv_args, lnd, Value.category])
  have hA := hW.hall
  have hS := hW.store
  have hnx : (nxt σ).isSome = true → ∃ q, q < 4 * σ.un ∧ σ.cp (q / 4) (q % 4) = true := fun h => by
    obtain ⟨m, hm⟩ := Option.isSome_iff_exists.mp h
    obtain ⟨h1, h2⟩ := nxf_some σ 400 0 m hm
    refine ⟨m, ?_, h2⟩
    by_cases hq : m / 4 < σ.un
    · omega
    · rw [hno (m / 4) (m % 4) (by omega)] at h2
      cases h2
  have loop : inK 1 100 k = true → (nxt σ).isSome = true → ∀ j, j ≤ tN k → ∀ (τ : ST) (M' : Mem) c x2 x3, W2 g A τ ρ x M' → ((∀ i, i ≠ 3 → τ.n i = σ.n i) ∧ τ.2.1 = σ.2.1 ∧ τ.b = σ.b ∧ τ.cp = σ.cp) → HB B τ → τ.la ≤ 400 → auS (tN k - j) τ = auS (tN k) σ → c + auN (tN k - j) τ = auN (tN k) σ → x2 = nI c → x3 = nI j → tri g mX5_audit 1 6 (rO (o_audit σ k) (eX xIA xIS xIS) (W2 g A (o_audit σ k).2.2 ρ x)) M' 44 [(0, .ref (A 0 0)), (1, .int k), (2, .int x2), (3, .int x3)] [] := by
    intro hk hn
    have hkb : k = nI (tN k) ∧ tN k ≤ 100 := by
      have h9 := of_decide_eq_true (hk : decide (nI 1 ≤ k ∧ k ≤ nI 100) = true)
      exact inK_100 (decide_eq_true ⟨Int32.le_trans (by decide) h9.1, h9.2⟩)
    have eo : o_audit σ k = (0, nI (auN (tN k) σ), auS (tN k) σ) := by unfold o_audit; rw [if_pos hk, if_pos hn]
    refine lp_up (tN k) ?_ ?_
    · intro τ M' c x2 x3 h hs hh hl e1 e2 e3 e4
      subst e3 e4
      rw [Nat.sub_self] at e1 e2
      refine z_iload_n dX5_audit_44 rfl ?_
      refine z_iload_n dX5_audit_45 rfl ?_
      refine z_icmp_ge (tgt := 68) dX5_audit_46 (by decide) (fun h46 => ?_) (fun h46 => absurd (Int32.not_lt.mp (fun q => by rw [← hkb.1] at q; exact Int32.not_lt.mpr (Int32.le_refl k) q)) h46)
      refine z_iload_n dX5_audit_68 rfl ?_
      refine z_ireturn dX5_audit_69 rfl (by first | rfl | exact bI_nar _) ?_
      rw [eo, ← e1, ← e2]
      exact rO_y h rfl rfl
    · intro j hj ih τ M' c x2 x3 h hs hh hl e1 e2 e3 e4
      subst e3 e4
      have ej : tN k - j = (tN k - (j + 1)) + 1 := by omega
      have hAτ := h.hall
      have eu : τ.un = σ.un := hs.1 2 (by decide)
      have hwτ : WF τ := hw.eq eu (hs.1 1 (by decide)) hs.2.1 hs.2.2.1
      have hCτ : CAP τ := by
        have e8 : ∀ i o, τ.a i o = σ.a i o := fun i o => by show τ.2.1 i o = σ.2.1 i o; rw [hs.2.1]
        have eo2 : τ.ob = σ.ob := hs.1 1 (by decide)
        unfold CAP at hC ⊢
        simp only [eu, eo2, e8]
        exact hC
      have hnoτ : ∀ u s, τ.un ≤ u → τ.cp u s = false := fun u s hu => by rw [hs.2.2.2]; exact hno u s (by rw [← eu]; exact hu)
      have hexτ : ∃ q, q < 4 * τ.un ∧ τ.cp (q / 4) (q % 4) = true := by
        obtain ⟨q, h1, h2⟩ := hnx hn
        exact ⟨q, by rw [eu]; exact h1, by rw [hs.2.2.2]; exact h2⟩
      obtain ⟨s1, s2, s3, s4, s5, s6⟩ := au1_same τ
      have hs' : (∀ i, i ≠ 3 → (au1 τ).n i = σ.n i) ∧ (au1 τ).2.1 = σ.2.1 ∧ (au1 τ).b = σ.b ∧ (au1 τ).cp = σ.cp := ⟨fun i hi => (s1 i hi).trans (hs.1 i hi), s2.trans hs.2.1, Eq.trans (show (au1 τ).b = τ.b from funext fun i => congrFun s4 i) hs.2.2.1, s6.trans hs.2.2.2⟩
      have a1 : au1n τ = 0 ∨ au1n τ = 1 := by
        unfold au1n
        split
        · exact Or.inl rfl
        · split
          · exact Or.inl rfl
          · split
            · exact Or.inl rfl
            · exact Or.inr rfl
      refine z_iload_n dX5_audit_44 rfl ?_
      refine z_iload_n dX5_audit_45 rfl ?_
      refine z_icmp_ge (tgt := 68) dX5_audit_46 (by decide) (fun h46 => absurd h46 (by rw [hkb.1]; exact nI_ge hj (by omega))) (fun h46 => ?_)
      refine z_aload_n dX5_audit_49 rfl rfl ?_
      refine z_getfield dX5_audit_50 fg_RX5_19 (by assumption) rfl ?_
      refine z_ivQ dX5_audit_53 cv_RX5_217 h.store (c_X2_auditNext g h hwτ hCτ hh hB hl hnoτ hexτ) ⟨⟨by decide, by decide⟩, (by first | exact Nat.zero_le _ | decide | omega), (by first | exact Nat.zero_le _ | decide | omega)⟩ rfl rfl (Nat.le_of_ble_eq_true rfl) (fun M53 hQ53 => ?_)
      refine z_if_eq (tgt := 62) dX5_audit_56 (by decide) (fun h56 => ?_) (fun h56 => ?_)
      · refine z_inc ki_1 dX5_audit_62 rfl (by decide) ?_
        refine z_goto (tgt := 44) dX5_audit_65 (by decide) ?_
        have h0 : au1n τ = 0 := by
          rcases a1 with q | q
          · exact q
          · rw [q] at h56
            exact absurd h56 (by decide)
        exact ih _ _ c _ _ hQ53 hs' hh.au1 (au1_la hl) (by rw [ej] at e1; exact e1) (by rw [ej] at e2; show c + auN (tN k - (j + 1)) (au1 τ) = _; rw [← e2]; show _ = c + (au1n τ + auN (tN k - (j + 1)) (au1 τ)); omega) rfl (nI_add j 1)
      · refine z_inc ki_1 dX5_audit_59 rfl (by decide) ?_
        refine z_inc ki_1 dX5_audit_62 rfl (by decide) ?_
        refine z_goto (tgt := 44) dX5_audit_65 (by decide) ?_
        have h0 : au1n τ = 1 := by
          rcases a1 with q | q
          · rw [q] at h56
            exact absurd rfl h56
          · exact q
        exact ih _ _ (c + 1) _ _ hQ53 hs' hh.au1 (au1_la hl) (by rw [ej] at e1; exact e1) (by rw [ej] at e2; show c + 1 + auN (tN k - (j + 1)) (au1 τ) = _; rw [← e2]; show _ = c + (au1n τ + auN (tN k - (j + 1)) (au1 τ)); omega) (nI_add c 1) (nI_add j 1)
  refine z_iload_n dX5_audit_0 rfl ?_
  refine z_ic ki_1 dX5_audit_1 ?_
  refine z_bi kb_100 dX5_audit_2 ?_
  refine z_isI dX5_audit_4 cs_RX5_56 (c_X5_isWithin g M _ _ _) ⟨⟨by decide, by decide⟩, (by first | exact Nat.zero_le _ | decide | omega), (by first | exact Nat.zero_le _ | decide | omega)⟩ rfl rfl (Nat.le_of_ble_eq_true rfl) ?_
  refine z_if_ne (tgt := 20) dX5_audit_7 (by decide) (fun h7 => ?_) (fun h7 => ?_)
  · refine z_aload_n dX5_audit_20 rfl rfl ?_
    refine z_getfield dX5_audit_21 fg_RX5_19 (by assumption) rfl ?_
    refine z_ivI dX5_audit_24 cv_RX5_212 hS (c_X2_hasCopies g hW hL) ⟨⟨by decide, by decide⟩, (by first | exact Nat.zero_le _ | decide | omega), (by first | exact Nat.zero_le _ | decide | omega)⟩ rfl rfl (Nat.le_of_ble_eq_true rfl) ?_
    refine z_if_ne (tgt := 40) dX5_audit_27 (by decide) (fun h27 => ?_) (fun h27 => ?_)
    · refine z_ic ki_0 dX5_audit_40 ?_
      refine z_istore_n dX5_audit_41 (by decide) ?_
      refine z_ic ki_0 dX5_audit_42 ?_
      refine z_istore_n dX5_audit_43 (by decide) ?_
      have hn : (nxt σ).isSome = true := by rw [← hcL_nxt]; exact yt h27
      exact loop (yt h7) hn 0 (by omega) σ M 0 _ _ hW ⟨fun _ _ => rfl, rfl, rfl, rfl⟩ hH hla rfl (Nat.zero_add _) rfl rfl
    · have e : o_audit σ k = (2, nI 0, σ) := by unfold o_audit; rw [if_pos (show inK 1 100 k = true from yt h7), if_neg (by rw [← hcL_nxt, nf h27]; decide)]
      rw [e]
      exact z_throw (thk_IS (is := 215) (text := "no copies to audit") (List.mem_of_getElem? (i := 11) rfl)) dX5_audit_30 dX5_audit_33 dX5_audit_34 dX5_audit_36 dX5_audit_39 rfl ⟨by decide, by decide, by first | decide | omega, by first | decide | omega⟩ (Nat.le_of_ble_eq_true rfl) (rO_n hW (Nat.succ_ne_zero 1) rfl)
  · have e : o_audit σ k = (1, nI 0, σ) := by unfold o_audit; rw [if_neg (show ¬ inK 1 100 k = true from nt h7)]
    rw [e]
    exact z_throw (thk_IA (is := 210) (text := "number of steps out of range") (List.mem_of_getElem? (i := 10) rfl)) dX5_audit_10 dX5_audit_13 dX5_audit_14 dX5_audit_16 dX5_audit_19 rfl ⟨by decide, by decide, by first | decide | omega, by first | decide | omega⟩ (Nat.le_of_ble_eq_true rfl) (rO_n hW (Nat.one_ne_zero) rfl)
end OPS3
