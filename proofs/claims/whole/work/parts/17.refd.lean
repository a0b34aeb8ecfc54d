/-! the calls on copies and sites, on: closing, audits, replication -/
theorem clS_same (s : Nat) : ∀ (n : Nat) (σ : ST), (clS s n σ).1 = σ.1 ∧ (clS s n σ).2.1 = σ.2.1 ∧ (clS s n σ).2.2.1 = σ.2.2.1 ∧ (clS s n σ).2.2.2.1 = σ.2.2.2.1 ∧ (clS s n σ).2.2.2.2.1 = σ.2.2.2.2.1 ∧ (clS s n σ).2.2.2.2.2.1 = σ.2.2.2.2.2.1
  | 0, σ => ⟨rfl, rfl, rfl, rfl, rfl, rfl⟩
  | n + 1, σ => clS_same s n σ
theorem clS_cp (s : Nat) (σ : ST) : ∀ (n u t : Nat), (clS s n σ).cp u t = if u < n ∧ t = s then false else σ.cp u t
  | 0, u, t => by rw [if_neg (by omega)]; rfl
  | n + 1, u, t => by
    show f2 (clS s n σ).cp n s false u t = _
    unfold f2
    by_cases h : u = n ∧ t = s
    · rw [if_pos h, if_pos ⟨by omega, h.2⟩]
    · rw [if_neg h, clS_cp s σ n u t]
      by_cases h2 : u < n ∧ t = s
      · rw [if_pos h2, if_pos ⟨by omega, h2.2⟩]
      · rw [if_neg h2, if_neg (fun q => ?_)]
        by_cases h3 : u = n
        · exact h ⟨h3, q.2⟩
        · exact h2 ⟨by omega, q.2⟩
theorem clN_le (σ : ST) (s : Nat) : ∀ n, clN σ s n ≤ n
  | 0 => Nat.le_refl 0
  | n + 1 => by
    have h := clN_le σ s n
    unfold clN
    split <;> omega
/-- the next copy in turn from the place i behind the last one -/
def nxf (σ : ST) : Nat → Nat → Option Nat
  | 0, _ => none
  | n + 1, i => if σ.cp ((σ.la + i) % 400 / 4) ((σ.la + i) % 400 % 4) = true then some ((σ.la + i) % 400) else nxf σ n (i + 1)
def nxt (σ : ST) : Option Nat := nxf σ 400 0
theorem nxf_some (σ : ST) : ∀ n i m, nxf σ n i = some m → m < 400 ∧ σ.cp (m / 4) (m % 4) = true
  | 0, i, m, h => by cases h
  | n + 1, i, m, h => by
    unfold nxf at h
    split at h
    · rename_i hq
      cases h
      exact ⟨Nat.mod_lt _ (by decide), hq⟩
    · exact nxf_some σ n (i + 1) m h
theorem nxf_none (σ : ST) : ∀ n i, nxf σ n i = none → ∀ j, j < n → σ.cp ((σ.la + (i + j)) % 400 / 4) ((σ.la + (i + j)) % 400 % 4) = false
  | 0, i, h, j, hj => absurd hj (Nat.not_lt_zero j)
  | n + 1, i, h, j, hj => by
    unfold nxf at h
    split at h
    · cases h
    · rename_i hq
      cases j with
      | zero => simpa using hq
      | succ j =>
        have := nxf_none σ n (i + 1) h j (by omega)
        rw [show i + (j + 1) = i + 1 + j by omega]
        exact this
theorem nxt_ex {σ : ST} {m : Nat} (hm : m < 400) (hc : σ.cp (m / 4) (m % 4) = true) : ∃ k, nxt σ = some k := by
  cases h : nxt σ with
  | some k => exact ⟨k, rfl⟩
  | none =>
    exfalso
    have h1 := nxf_none σ 400 0 h ((m + 400 - σ.la % 400) % 400) (Nat.mod_lt _ (by decide))
    have e : (σ.la + (0 + (m + 400 - σ.la % 400) % 400)) % 400 = m := by omega
    rw [e, hc] at h1
    cases h1
/-- one copy is audited -/
def au1 (σ : ST) : ST := match nxt σ with
  | none => σ
  | some m => match good (σ.sn 3 (m + 1)) (m / 4) with
    | none => σ.sn 3 (m + 1)
    | some f => if σ.hs (m / 4) (m % 4) = σ.hs (m / 4) f then σ.sn 3 (m + 1) else (σ.sn 3 (m + 1)).sh (m / 4) (m % 4) (σ.hs (m / 4) f)
def au1n (σ : ST) : Nat := match nxt σ with
  | none => 0
  | some m => match good (σ.sn 3 (m + 1)) (m / 4) with
    | none => 0
    | some f => if σ.hs (m / 4) (m % 4) = σ.hs (m / 4) f then 0 else 1
def auS : Nat → ST → ST
  | 0, σ => σ
  | n + 1, σ => auS n (au1 σ)
def auN : Nat → ST → Nat
  | 0, _ => 0
  | n + 1, σ => au1n σ + auN n (au1 σ)
def o_audit (σ : ST) (k : Int32) : OP := if inK 1 100 k = true then (if (nxt σ).isSome = true then (0, nI (auN (tN k) σ), auS (tN k) σ) else (2, nI 0, σ)) else (1, nI 0, σ)
theorem au1_same (σ : ST) : (∀ i, i ≠ 3 → (au1 σ).n i = σ.n i) ∧ (au1 σ).2.1 = σ.2.1 ∧ (au1 σ).2.2.1 = σ.2.2.1 ∧ (au1 σ).2.2.2.1 = σ.2.2.2.1 ∧ (au1 σ).lo = σ.lo ∧ (au1 σ).cp = σ.cp := by
  have h3 : ∀ m i, i ≠ 3 → (σ.sn 3 m).n i = σ.n i := fun m i hi => f1_n hi
  unfold au1
  cases nxt σ with
  | none => exact ⟨fun _ _ => rfl, rfl, rfl, rfl, rfl, rfl⟩
  | some m =>
    simp only []
    cases good (σ.sn 3 (m + 1)) (m / 4) with
    | none => exact ⟨h3 _, rfl, rfl, rfl, rfl, rfl⟩
    | some f =>
      simp only []
      split
      · exact ⟨h3 _, rfl, rfl, rfl, rfl, rfl⟩
      · exact ⟨h3 _, rfl, rfl, rfl, rfl, rfl⟩
theorem au1_la {σ : ST} (h : σ.la ≤ 400) : (au1 σ).la ≤ 400 := by
  unfold au1
  cases hm : nxt σ with
  | none => exact h
  | some m =>
    have hm4 := (nxf_some σ 400 0 m hm).1
    have h3 : (σ.sn 3 (m + 1)).la ≤ 400 := by
      show f1 σ.1 3 (m + 1) 3 ≤ 400
      rw [f1_s]
      omega
    simp only []
    cases good (σ.sn 3 (m + 1)) (m / 4) with
    | none => exact h3
    | some f =>
      simp only []
      split
      · exact h3
      · exact h3
theorem la_ix (a b : Nat) : nI a - 1 + nI (b + 1) = nI (a + b) := by
  rw [nI_succ b, Int32.add_comm (nI b) 1, ← Int32.add_assoc, Int32.sub_add_cancel, nI_add]
section REFD
variable (g : GG) {A : Nat → Nat → Nat} {σ ρ : ST} {x : XT} {M : Mem}
theorem c_X6_toggleSite (hW : W2 g A σ ρ x M) (hw : WF ρ) (s : Int32) : con g mX6_toggleSite 0 0 [.ref (A 20 0), .int s] M (rQ (some (.int (o_toggleSite ρ s).2.1)) (W2 g A σ (o_toggleSite ρ s).2.2 (x.sthr (nI (o_toggleSite ρ s).1)))) := by
  refine con_i ?_ (by decide) rfl rfl (by simp [lv_args, Value.category]) (by simp [lv_args, lnd, Value.category])
  have hm := hW.m
  have hun := hw.1.2
  have loop : ∀ {s : Nat} {τ : ST} {x : XT}, s < 4 → τ.un = ρ.un → τ.cp = ρ.cp → ∀ j, j ≤ ρ.un → ∀ (M' : Mem) x2 x3, W2 g A σ (clS s j τ) x M' → x2 = nI (clN ρ s j) → x3 = nI j → tri g mX6_toggleSite 0 0 (rQ (some (.int (nI (clN ρ s ρ.un)))) (W2 g A σ (clS s ρ.un τ) x)) M' 47 [(0, .ref (A 20 0)), (1, .int (nI s)), (2, .int x2), (3, .int x3)] [] := by
    intro s τ x hs eun ecp
    refine lp_up ρ.un ?_ ?_
    · intro M' x2 x3 h e2 e3
      subst e3
      have hm' := h.m
      have eu : (clS s ρ.un τ).un = ρ.un := (congrFun (clS_same s ρ.un τ).1 2).trans eun
      refine z_iload_n dX6_toggleSite_47 rfl ?_
      refine z_aload_n dX6_toggleSite_48 rfl rfl ?_
      refine z_getfield dX6_toggleSite_49 fg_RX6_113 (by assumption) rfl ?_
      refine z_icmp_ge (tgt := 93) dX6_toggleSite_52 (by decide) (fun h52 => ?_) (fun h52 => absurd (by rw [eu]; exact nI_le (by omega) (by omega)) h52)
      refine z_iload_n dX6_toggleSite_93 rfl ?_
      refine z_ireturn dX6_toggleSite_94 rfl (by first | rfl | exact bI_nar _) ?_
      rw [e2]
      exact rQ_of h
    · intro j hj ih M' x2 x3 h e2 e3
      subst e3
      have hm' := h.m
      have w16 := h.r16
      have eu : (clS s j τ).un = ρ.un := (congrFun (clS_same s j τ).1 2).trans eun
      have ec : (clS s j τ).cp j s = ρ.cp j s := by rw [clS_cp, if_neg (by omega), ecp]
      refine z_iload_n dX6_toggleSite_47 rfl ?_
      refine z_aload_n dX6_toggleSite_48 rfl rfl ?_
      refine z_getfield dX6_toggleSite_49 fg_RX6_113 (by assumption) rfl ?_
      refine z_icmp_ge (tgt := 93) dX6_toggleSite_52 (by decide) (fun h52 => absurd h52 (by rw [eu]; exact nI_ge hj (by omega))) (fun h52 => ?_)
      refine z_iload_n dX6_toggleSite_55 rfl ?_
      refine z_aload_n dX6_toggleSite_56 rfl rfl ?_
      refine z_getfield dX6_toggleSite_57 fg_RX6_50 (by assumption) rfl ?_
      refine z_ic ki_4 dX6_toggleSite_60 ?_
      refine z_iload_n dX6_toggleSite_61 rfl ?_
      refine z_imul dX6_toggleSite_62 ?_
      refine z_iload_n dX6_toggleSite_63 rfl ?_
      refine z_iadd dX6_toggleSite_64 ?_
      refine z_ldB4 dX6_toggleSite_65 w16 (ix4 j s) hs (by omega) (by decide) ?_
      refine z_if_eq (tgt := 73) dX6_toggleSite_66 (by decide) (fun h66 => ?_) (fun h66 => ?_)
      · refine z_ic ki_0 dX6_toggleSite_73 ?_
        refine z_iadd dX6_toggleSite_74 ?_
        refine z_istore_n dX6_toggleSite_75 (by decide) ?_
        refine z_aload_n dX6_toggleSite_76 rfl rfl ?_
        refine z_getfield dX6_toggleSite_77 fg_RX6_50 (by assumption) rfl ?_
        refine z_ic ki_4 dX6_toggleSite_80 ?_
        refine z_iload_n dX6_toggleSite_81 rfl ?_
        refine z_imul dX6_toggleSite_82 ?_
        refine z_iload_n dX6_toggleSite_83 rfl ?_
        refine z_iadd dX6_toggleSite_84 ?_
        refine z_ic ki_0 dX6_toggleSite_85 ?_
        refine z_zastore dX6_toggleSite_86 w16 (ix4 j s) (by omega) (by decide) ?_
        refine z_inc ki_1 dX6_toggleSite_87 rfl (by decide) ?_
        refine z_goto (tgt := 47) dX6_toggleSite_90 (by decide) ?_
        exact ih _ _ _ (h.pcopy j s hs false) (by rw [e2, nI_add, clN, if_neg (by rw [← ec]; exact nt h66)]) (nI_add j 1)
      · refine z_ic ki_1 dX6_toggleSite_69 ?_
        refine z_goto (tgt := 74) dX6_toggleSite_70 (by decide) ?_
        refine z_iadd dX6_toggleSite_74 ?_
        refine z_istore_n dX6_toggleSite_75 (by decide) ?_
        refine z_aload_n dX6_toggleSite_76 rfl rfl ?_
        refine z_getfield dX6_toggleSite_77 fg_RX6_50 (by assumption) rfl ?_
        refine z_ic ki_4 dX6_toggleSite_80 ?_
        refine z_iload_n dX6_toggleSite_81 rfl ?_
        refine z_imul dX6_toggleSite_82 ?_
        refine z_iload_n dX6_toggleSite_83 rfl ?_
        refine z_iadd dX6_toggleSite_84 ?_
        refine z_ic ki_0 dX6_toggleSite_85 ?_
        refine z_zastore dX6_toggleSite_86 w16 (ix4 j s) (by omega) (by decide) ?_
        refine z_inc ki_1 dX6_toggleSite_87 rfl (by decide) ?_
        refine z_goto (tgt := 47) dX6_toggleSite_90 (by decide) ?_
        exact ih _ _ _ (h.pcopy j s hs false) (by rw [e2, nI_add, clN, if_pos (by rw [← ec]; exact yt h66)]) (nI_add j 1)
  refine z_aload_n dX6_toggleSite_0 rfl rfl ?_
  refine z_iload_n dX6_toggleSite_1 rfl ?_
  refine z_ic ki_0 dX6_toggleSite_2 ?_
  refine z_ic ki_3 dX6_toggleSite_3 ?_
  refine z_isI dX6_toggleSite_4 cs_RX6_69 (c_X6_isIn g M _ _ _) ⟨⟨by decide, by decide⟩, (by first | exact Nat.zero_le _ | decide | omega), (by first | exact Nat.zero_le _ | decide | omega)⟩ rfl rfl (Nat.le_of_ble_eq_true rfl) ?_
  refine z_if_eq (tgt := 14) dX6_toggleSite_7 (by decide) (fun h7 => ?_) (fun h7 => ?_)
  · refine z_ic ki_1 dX6_toggleSite_14 ?_
    refine z_ivQ dX6_toggleSite_15 cv_RX6_73 hm (c_X6_fails g hW _) ⟨⟨by decide, by decide⟩, (by first | exact Nat.zero_le _ | decide | omega), (by first | exact Nat.zero_le _ | decide | omega)⟩ rfl rfl (Nat.le_of_ble_eq_true rfl) (fun M15 hQ15 => ?_)
    refine z_if_eq (tgt := 23) dX6_toggleSite_18 (by decide) (fun h18 => absurd h18 (by decide)) (fun h18 => ?_)
    refine z_ic ki_0 dX6_toggleSite_21 ?_
    refine z_ireturn dX6_toggleSite_22 rfl (by first | rfl | exact bI_nar _) ?_
    have e : o_toggleSite ρ s = (1, nI 0, ρ) := by
      unfold o_toggleSite
      rw [if_neg (nt h7 : ¬ inK 0 3 s = true)]
    rw [e]
    exact rQ_of hQ15
  · refine z_ic ki_0 dX6_toggleSite_10 ?_
    refine z_goto (tgt := 15) dX6_toggleSite_11 (by decide) ?_
    refine z_ivQ dX6_toggleSite_15 cv_RX6_73 hm (c_X6_fails g hW _) ⟨⟨by decide, by decide⟩, (by first | exact Nat.zero_le _ | decide | omega), (by first | exact Nat.zero_le _ | decide | omega)⟩ rfl rfl (Nat.le_of_ble_eq_true rfl) (fun M15 hQ15 => ?_)
    refine z_if_eq (tgt := 23) dX6_toggleSite_18 (by decide) (fun h18 => ?_) (fun h18 => absurd rfl h18)
    have hm1 := hQ15.m
    have w18 := hQ15.r18
    obtain ⟨es, ls⟩ := inR_of (n := 4) (by decide) (show inR 4 s = true from yt h7)
    have e : o_toggleSite ρ s = (0, nI (clN ρ (tN s) ρ.un), clS (tN s) ρ.un (ρ.sb 4 (tN s) (!ρ.b 4 (tN s)))) := by
      unfold o_toggleSite
      rw [if_pos (yt h7 : inK 0 3 s = true)]
    rw [e]
    refine z_aload_n dX6_toggleSite_23 rfl rfl ?_
    refine z_getfield dX6_toggleSite_24 fg_RX6_56 hm1 rfl ?_
    refine z_iload_n dX6_toggleSite_27 rfl ?_
    refine z_aload_n dX6_toggleSite_28 rfl rfl ?_
    refine z_getfield dX6_toggleSite_29 fg_RX6_56 hm1 rfl ?_
    refine z_iload_n dX6_toggleSite_32 rfl ?_
    refine z_zaload dX6_toggleSite_33 w18 es ls (by decide) ?_
    refine z_if_ne (tgt := 41) dX6_toggleSite_34 (by decide) (fun h34 => ?_) (fun h34 => ?_)
    · refine z_ic ki_0 dX6_toggleSite_41 ?_
      refine z_zastore dX6_toggleSite_42 w18 es ls (by decide) ?_
      refine z_ic ki_0 dX6_toggleSite_43 ?_
      refine z_istore_n dX6_toggleSite_44 (by decide) ?_
      refine z_ic ki_0 dX6_toggleSite_45 ?_
      refine z_istore_n dX6_toggleSite_46 (by decide) ?_
      have h9 := hQ15.pclosed (tN s) (!ρ.b 4 (tN s))
      rw [yt h34] at h9
      have h8 := loop (τ := ρ.sb 4 (tN s) (!ρ.b 4 (tN s))) ls rfl rfl 0 (by omega) _ _ _ (by rw [yt h34]; exact h9) rfl rfl
      rw [← es] at h8
      exact h8
    · refine z_ic ki_1 dX6_toggleSite_37 ?_
      refine z_goto (tgt := 42) dX6_toggleSite_38 (by decide) ?_
      refine z_zastore dX6_toggleSite_42 w18 es ls (by decide) ?_
      refine z_ic ki_0 dX6_toggleSite_43 ?_
      refine z_istore_n dX6_toggleSite_44 (by decide) ?_
      refine z_ic ki_0 dX6_toggleSite_45 ?_
      refine z_istore_n dX6_toggleSite_46 (by decide) ?_
      have h9 := hQ15.pclosed (tN s) (!ρ.b 4 (tN s))
      rw [bI_eq0.mp h34] at h9
      have h8 := loop (τ := ρ.sb 4 (tN s) (!ρ.b 4 (tN s))) ls rfl rfl 0 (by omega) _ _ _ (by rw [bI_eq0.mp h34]; exact h9) rfl rfl
      rw [← es] at h8
      exact h8
theorem c_X6_next (hW : W2 g A σ ρ x M) (hl : ρ.la ≤ 400) : con g mX6_next 0 0 [.ref (A 20 0)] M (rI (oI (nxt ρ)) M) := by
  refine con_i ?_ (by decide) rfl rfl (by simp [lv_args, Value.category]) (by simp [lv_args, lnd, Value.category])
  have hm := hW.m
  have w16 := hW.r16
  have loop : ∀ n i, i + n = 400 → nxt ρ = nxf ρ n i → ∀ x1, x1 = nI (i + 1) → tri g mX6_next 0 0 (rI (oI (nxt ρ)) M) M 2 [(0, .ref (A 20 0)), (1, .int x1)] [] := by
    intro n
    induction n with
    | zero =>
      intro i hi hq x1 e1
      subst e1
      refine z_iload_n dX6_next_2 rfl ?_
      refine z_si ks_400 dX6_next_3 ?_
      refine z_icmp_gt (tgt := 37) dX6_next_6 (by decide) (fun h6 => ?_) (fun h6 => absurd (nI_lt (by omega) (by omega)) h6)
      refine z_ic ki_m1 dX6_next_37 ?_
      refine z_ireturn dX6_next_38 rfl (by first | rfl | exact bI_nar _) ?_
      exact rI_of (by rw [hq]; rfl)
    | succ n ih =>
      intro i hi hq x1 e1
      subst e1
      have hlt : (ρ.la + i) % 400 < 400 := Nat.mod_lt _ (by decide)
      have e18 : nI (ρ.la + i) - nI (ρ.la + i) / nI 400 * nI 400 = nI ((ρ.la + i) % 400) := pk_rem (by omega) (by decide) (by decide)
      refine z_iload_n dX6_next_2 rfl ?_
      refine z_si ks_400 dX6_next_3 ?_
      refine z_icmp_gt (tgt := 37) dX6_next_6 (by decide) (fun h6 => absurd h6 (by exact Int32.not_lt.mpr (nI_le (by omega) (by omega)))) (fun h6 => ?_)
      refine z_aload_n dX6_next_9 rfl rfl ?_
      refine z_getfield dX6_next_10 fg_RX6_59 (by assumption) rfl ?_
      refine z_iload_n dX6_next_13 rfl ?_
      refine z_iadd dX6_next_14 ?_
      rw [la_ix]
      refine z_si ks_400 dX6_next_15 ?_
      refine z_irem dX6_next_18 (by decide) ?_
      rw [e18]
      refine z_istore_n dX6_next_19 (by decide) ?_
      refine z_aload_n dX6_next_20 rfl rfl ?_
      refine z_getfield dX6_next_21 fg_RX6_50 (by assumption) rfl ?_
      refine z_iload_n dX6_next_24 rfl ?_
      refine z_zaload dX6_next_25 w16 rfl hlt (by decide) ?_
      refine z_if_eq (tgt := 31) dX6_next_26 (by decide) (fun h26 => ?_) (fun h26 => ?_)
      · refine tri.take 2 ?_
        refine z_inc ki_1 dX6_next_31 rfl (by decide) ?_
        refine z_goto (tgt := 2) dX6_next_34 (by decide) ?_
        exact ih (i + 1) (by omega) (by rw [hq, nxf, if_neg (nt h26)]) _ (nI_add (i + 1) 1)
      · refine z_iload_n dX6_next_29 rfl ?_
        refine z_ireturn dX6_next_30 rfl (by first | rfl | exact bI_nar _) ?_
        exact rI_of (by rw [hq, nxf, if_pos (yt h26)]; rfl)
  refine z_ic ki_1 dX6_next_0 ?_
  refine z_istore_n dX6_next_1 (by decide) ?_
  exact loop 400 0 rfl rfl _ rfl
theorem c_X6_audit (hW : W2 g A σ ρ x M) (hl : ρ.la ≤ 400) (k : Int32) : con g mX6_audit 0 0 [.ref (A 20 0), .int k] M (rQ (some (.int (o_audit ρ k).2.1)) (W2 g A σ (o_audit ρ k).2.2 (x.sthr (nI (o_audit ρ k).1)))) := by
  refine con_i ?_ (by decide) rfl rfl (by simp [lv_args, Value.category]) (by simp [lv_args, lnd, Value.category])
  have hm := hW.m
  have loop : ∀ {N : Nat} {x : XT}, N ≤ 100 → ∀ (n j c : Nat) (τ : ST) (M' : Mem) x2 x3, j + n = N → τ.la ≤ 400 → (∃ m, m < 400 ∧ τ.cp (m / 4) (m % 4) = true) → W2 g A σ τ x M' → auS N ρ = auS n τ → auN N ρ = c + auN n τ → x2 = nI c → x3 = nI j → tri g mX6_audit 0 0 (rQ (some (.int (nI (auN N ρ)))) (W2 g A σ (auS N ρ) x)) M' 40 [(0, .ref (A 20 0)), (1, .int (nI N)), (2, .int x2), (3, .int x3)] [] := by
    intro N x hN n
    induction n with
    | zero =>
      intro j c τ M' x2 x3 hj hla hex h eS eN e2 e3
      subst e3
      refine z_iload_n dX6_audit_40 rfl ?_
      refine z_iload_n dX6_audit_41 rfl ?_
      refine z_icmp_ge (tgt := 113) dX6_audit_42 (by decide) (fun h42 => ?_) (fun h42 => absurd (nI_le (by omega) (by omega)) h42)
      refine z_iload_n dX6_audit_113 rfl ?_
      refine z_ireturn dX6_audit_114 rfl (by first | rfl | exact bI_nar _) ?_
      rw [e2, eS, eN]
      exact rQ_of h
    | succ n ih =>
      intro j c τ M' x2 x3 hj hla hex h eS eN e2 e3
      subst e3
      have hm' := h.m
      obtain ⟨m0, hm0, hc0⟩ := hex
      obtain ⟨m, hmm⟩ := nxt_ex hm0 hc0
      obtain ⟨hm4, hcm⟩ := nxf_some τ 400 0 m hmm
      have hla2 := au1_la hla
      have hex2 : ∃ m, m < 400 ∧ (au1 τ).cp (m / 4) (m % 4) = true := ⟨m0, hm0, by rw [(au1_same τ).2.2.2.2.2]; exact hc0⟩
      have eS2 : auS N ρ = auS n (au1 τ) := eS
      have eN2 : auN N ρ = c + au1n τ + auN n (au1 τ) := by rw [eN, auN]; omega
      have e58 : nI m / nI 4 = nI (m / 4) := pk_div (by omega) (by decide) (by decide)
      have e4 : m = 4 * (m / 4) + m % 4 := by omega
      have hm44 : m % 4 < 4 := Nat.mod_lt _ (by decide)
      refine z_iload_n dX6_audit_40 rfl ?_
      refine z_iload_n dX6_audit_41 rfl ?_
      refine z_icmp_ge (tgt := 113) dX6_audit_42 (by decide) (fun h42 => absurd h42 (nI_ge (by omega) (by omega))) (fun h42 => ?_)
      refine z_aload_n dX6_audit_45 rfl rfl ?_
      refine z_aload_n dX6_audit_46 rfl rfl ?_
      refine z_ivI dX6_audit_47 cv_RX6_158 hm' (c_X6_next g h hla) ⟨⟨by decide, by decide⟩, (by first | exact Nat.zero_le _ | decide | omega), (by first | exact Nat.zero_le _ | decide | omega)⟩ rfl rfl (Nat.le_of_ble_eq_true rfl) ?_
      rw [hmm, show oI (some m) = nI (m + 1) - 1 from (nI_pred m).symm]
      refine z_putfield dX6_audit_50 (fp_RX6_59 _) (by assumption) (Nat.le_of_ble_eq_true rfl) rfl rfl ?_
      have h1 := h.pla (m + 1)
      have hm1 := h1.m
      have w17 := h1.r17
      have el : nI ((τ.sn 3 (m + 1)).la) - 1 = nI m := nI_pred m
      refine z_aload_n dX6_audit_53 rfl rfl ?_
      refine z_getfield dX6_audit_54 fg_RX6_59 hm1 rfl ?_
      rw [el]
      refine z_ic ki_4 dX6_audit_57 ?_
      refine z_idiv dX6_audit_58 (by decide) ?_
      rw [e58]
      refine z_istore dX6_audit_59 (by decide) ?_
      refine z_aload_n dX6_audit_61 rfl rfl ?_
      refine z_iload dX6_audit_62 rfl ?_
      refine z_ivI dX6_audit_64 cv_RX6_95 hm1 (c_X6_good g h1 (u := m / 4) (by omega)) ⟨⟨by decide, by decide⟩, (by first | exact Nat.zero_le _ | decide | omega), (by first | exact Nat.zero_le _ | decide | omega)⟩ rfl rfl (Nat.le_of_ble_eq_true rfl) ?_
      refine z_ic ki_m1 dX6_audit_67 ?_
      refine z_icmp_eq (tgt := 107) dX6_audit_68 (by decide) (fun h68 => ?_) (fun h68 => ?_)
      · refine tri.take 4 ?_
        refine z_inc ki_1 dX6_audit_107 rfl (by decide) ?_
        refine z_goto (tgt := 40) dX6_audit_110 (by decide) ?_
        have hn := oI_none h68 (fun n hn => by have := gdn_lt _ _ _ _ hn; omega)
        have ea : au1 τ = τ.sn 3 (m + 1) := by unfold au1; rw [hmm]; simp only [hn]
        have en : au1n τ = 0 := by unfold au1n; rw [hmm]; simp only [hn]
        refine ih (j + 1) c (au1 τ) _ _ _ (by omega) hla2 hex2 ?_ eS2 (by rw [eN2, en]; omega) e2 (nI_add j 1)
        rw [ea]
        exact h1
      · obtain ⟨f, hf⟩ := oI_some h68
        have hf4 := gdn_lt _ _ _ _ hf
        refine z_aload_n dX6_audit_71 rfl rfl ?_
        refine z_getfield dX6_audit_72 fg_RX6_53 (by assumption) rfl ?_
        refine z_aload_n dX6_audit_75 rfl rfl ?_
        refine z_getfield dX6_audit_76 fg_RX6_59 hm1 rfl ?_
        rw [el]
        refine z_ldI4 dX6_audit_79 w17 (show nI m = nI (4 * (m / 4) + m % 4) by rw [← e4]) hm44 (by omega) (by decide) ?_
        refine z_aload_n dX6_audit_80 rfl rfl ?_
        refine z_iload dX6_audit_81 rfl ?_
        refine z_ivI dX6_audit_83 cv_RX6_123 hm1 (c_X6_goodValue g h1 (u := m / 4) (by omega) hf) ⟨⟨by decide, by decide⟩, (by first | exact Nat.zero_le _ | decide | omega), (by first | exact Nat.zero_le _ | decide | omega)⟩ rfl rfl (Nat.le_of_ble_eq_true rfl) ?_
        refine z_icmp_eq (tgt := 107) dX6_audit_86 (by decide) (fun h86 => ?_) (fun h86 => ?_)
        · refine tri.take 4 ?_
          refine z_inc ki_1 dX6_audit_107 rfl (by decide) ?_
          refine z_goto (tgt := 40) dX6_audit_110 (by decide) ?_
          have ea : au1 τ = τ.sn 3 (m + 1) := by unfold au1; rw [hmm]; simp only [hf]; rw [if_pos (show τ.hs (m / 4) (m % 4) = τ.hs (m / 4) f from h86)]
          have en : au1n τ = 0 := by unfold au1n; rw [hmm]; simp only [hf]; rw [if_pos (show τ.hs (m / 4) (m % 4) = τ.hs (m / 4) f from h86)]
          refine ih (j + 1) c (au1 τ) _ _ _ (by omega) hla2 hex2 ?_ eS2 (by rw [eN2, en]; omega) e2 (nI_add j 1)
          rw [ea]
          exact h1
        · refine z_aload_n dX6_audit_89 rfl rfl ?_
          refine z_getfield dX6_audit_90 fg_RX6_53 (by assumption) rfl ?_
          refine z_aload_n dX6_audit_93 rfl rfl ?_
          refine z_getfield dX6_audit_94 fg_RX6_59 hm1 rfl ?_
          rw [el]
          refine z_aload_n dX6_audit_97 rfl rfl ?_
          refine z_iload dX6_audit_98 rfl ?_
          refine z_ivI dX6_audit_100 cv_RX6_123 hm1 (c_X6_goodValue g h1 (u := m / 4) (by omega) hf) ⟨⟨by decide, by decide⟩, (by first | exact Nat.zero_le _ | decide | omega), (by first | exact Nat.zero_le _ | decide | omega)⟩ rfl rfl (Nat.le_of_ble_eq_true rfl) ?_
          refine z_iastore dX6_audit_103 w17 (show nI m = nI (4 * (m / 4) + m % 4) by rw [← e4]) (by omega) (by decide) ?_
          refine z_inc ki_1 dX6_audit_104 rfl (by decide) ?_
          refine tri.take 4 ?_
          refine z_inc ki_1 dX6_audit_107 rfl (by decide) ?_
          refine z_goto (tgt := 40) dX6_audit_110 (by decide) ?_
          have ea : au1 τ = (τ.sn 3 (m + 1)).sh (m / 4) (m % 4) (τ.hs (m / 4) f) := by unfold au1; rw [hmm]; simp only [hf]; rw [if_neg (show ¬ τ.hs (m / 4) (m % 4) = τ.hs (m / 4) f from h86)]
          have en : au1n τ = 1 := by unfold au1n; rw [hmm]; simp only [hf]; rw [if_neg (show ¬ τ.hs (m / 4) (m % 4) = τ.hs (m / 4) f from h86)]
          refine ih (j + 1) (c + 1) (au1 τ) _ _ _ (by omega) hla2 hex2 ?_ eS2 (by rw [eN2, en]) (by rw [e2]; exact nI_add c 1) (nI_add j 1)
          rw [ea]
          exact h1.phas _ _ hm44 _
  refine z_aload_n dX6_audit_0 rfl rfl ?_
  refine z_iload_n dX6_audit_1 rfl ?_
  refine z_ic ki_1 dX6_audit_2 ?_
  refine z_bi kb_100 dX6_audit_3 ?_
  refine z_isI dX6_audit_5 cs_RX6_69 (c_X6_isIn g M _ _ _) ⟨⟨by decide, by decide⟩, (by first | exact Nat.zero_le _ | decide | omega), (by first | exact Nat.zero_le _ | decide | omega)⟩ rfl rfl (Nat.le_of_ble_eq_true rfl) ?_
  refine z_if_ne (tgt := 15) dX6_audit_8 (by decide) (fun h8 => ?_) (fun h8 => ?_)
  · refine z_aload_n dX6_audit_15 rfl rfl ?_
    refine z_ivI dX6_audit_16 cv_RX6_158 hm (c_X6_next g hW hl) ⟨⟨by decide, by decide⟩, (by first | exact Nat.zero_le _ | decide | omega), (by first | exact Nat.zero_le _ | decide | omega)⟩ rfl rfl (Nat.le_of_ble_eq_true rfl) ?_
    refine z_ic ki_m1 dX6_audit_19 ?_
    refine z_icmp_ne (tgt := 27) dX6_audit_20 (by decide) (fun h20 => ?_) (fun h20 => ?_)
    · refine z_ic ki_0 dX6_audit_27 ?_
      refine z_ivQ dX6_audit_28 cv_RX6_73 hm (c_X6_fails g hW _) ⟨⟨by decide, by decide⟩, (by first | exact Nat.zero_le _ | decide | omega), (by first | exact Nat.zero_le _ | decide | omega)⟩ rfl rfl (Nat.le_of_ble_eq_true rfl) (fun M28 hQ28 => ?_)
      refine z_if_eq (tgt := 36) dX6_audit_31 (by decide) (fun h31 => ?_) (fun h31 => absurd rfl h31)
      refine z_ic ki_0 dX6_audit_36 ?_
      refine z_istore_n dX6_audit_37 (by decide) ?_
      refine z_ic ki_0 dX6_audit_38 ?_
      refine z_istore_n dX6_audit_39 (by decide) ?_
      obtain ⟨m, hmm⟩ := oI_some h20
      obtain ⟨hm4, hcm⟩ := nxf_some ρ 400 0 m hmm
      obtain ⟨ek, lk⟩ := inR_of (n := 101) (f := k) (by decide) (by
        have h9 := of_decide_eq_true (yt h8 : decide (nI 1 ≤ k ∧ k ≤ nI 100) = true)
        exact decide_eq_true ⟨Int32.le_trans (by decide) h9.1, h9.2⟩)
      have e : o_audit ρ k = (0, nI (auN (tN k) ρ), auS (tN k) ρ) := by
        unfold o_audit
        rw [if_pos (yt h8 : inK 1 100 k = true), if_pos (by rw [hmm]; rfl)]
      rw [e]
      have h9 := loop (N := tN k) (by omega) (tN k) 0 0 ρ M28 _ _ (by omega) hl ⟨m, hm4, hcm⟩ hQ28 rfl (by omega) rfl rfl
      rw [← ek] at h9
      exact h9
    · refine z_ic ki_2 dX6_audit_23 ?_
      refine z_goto (tgt := 28) dX6_audit_24 (by decide) ?_
      refine z_ivQ dX6_audit_28 cv_RX6_73 hm (c_X6_fails g hW _) ⟨⟨by decide, by decide⟩, (by first | exact Nat.zero_le _ | decide | omega), (by first | exact Nat.zero_le _ | decide | omega)⟩ rfl rfl (Nat.le_of_ble_eq_true rfl) (fun M28 hQ28 => ?_)
      refine z_if_eq (tgt := 36) dX6_audit_31 (by decide) (fun h31 => absurd h31 (by decide)) (fun h31 => ?_)
      refine z_ic ki_0 dX6_audit_34 ?_
      refine z_ireturn dX6_audit_35 rfl (by first | rfl | exact bI_nar _) ?_
      have hn := oI_none h20 (fun n hn => by have := (nxf_some _ _ _ _ hn).1; omega)
      have e : o_audit ρ k = (2, nI 0, ρ) := by
        unfold o_audit
        rw [if_pos (yt h8 : inK 1 100 k = true), if_neg (by rw [hn]; decide)]
      rw [e]
      exact rQ_of hQ28
  · refine z_ic ki_1 dX6_audit_11 ?_
    refine z_goto (tgt := 28) dX6_audit_12 (by decide) ?_
    refine z_ivQ dX6_audit_28 cv_RX6_73 hm (c_X6_fails g hW _) ⟨⟨by decide, by decide⟩, (by first | exact Nat.zero_le _ | decide | omega), (by first | exact Nat.zero_le _ | decide | omega)⟩ rfl rfl (Nat.le_of_ble_eq_true rfl) (fun M28 hQ28 => ?_)
    refine z_if_eq (tgt := 36) dX6_audit_31 (by decide) (fun h31 => absurd h31 (by decide)) (fun h31 => ?_)
    refine z_ic ki_0 dX6_audit_34 ?_
    refine z_ireturn dX6_audit_35 rfl (by first | rfl | exact bI_nar _) ?_
    have e : o_audit ρ k = (1, nI 0, ρ) := by
      unfold o_audit
      rw [if_neg (nt h8 : ¬ inK 1 100 k = true)]
    rw [e]
    exact rQ_of hQ28
theorem c_X6_replicate (hW : W2 g A σ ρ x M) (hw : WF ρ) (hs5 : ∀ u, u < 100 → ρ.a 5 u < 2 ^ 30) : con g mX6_replicate 0 0 [.ref (A 20 0)] M (rQ (some (.int (o_replicate ρ).2.1)) (W2 g A σ (o_replicate ρ).2.2 (x.sthr (nI (o_replicate ρ).1)))) := by
  refine con_i ?_ (by decide) rfl rfl (by simp [lv_args, Value.category]) (by simp [lv_args, lnd, Value.category])
  have hun := hw.1.2
  have loop : ∀ j, j ≤ ρ.un → ∀ (M' : Mem) x1 x2, W2 g A σ (rpS ρ j) x M' → x1 = nI (rpN ρ j) → x2 = nI j → tri g mX6_replicate 0 0 (rQ (some (.int (o_replicate ρ).2.1)) (W2 g A σ (o_replicate ρ).2.2 (x.sthr (nI (o_replicate ρ).1)))) M' 4 [(0, .ref (A 20 0)), (1, .int x1), (2, .int x2)] [] := by
    refine lp_up ρ.un ?_ ?_
    · intro M' x1 x2 h e1 e2
      subst e2
      have hm := h.m
      have eu : (rpS ρ ρ.un).un = ρ.un := congrFun (rpS_same ρ ρ.un).1 2
      refine z_iload_n dX6_replicate_4 rfl ?_
      refine z_aload_n dX6_replicate_5 rfl rfl ?_
      refine z_getfield dX6_replicate_6 fg_RX6_113 (by assumption) rfl ?_
      refine z_icmp_ge (tgt := 53) dX6_replicate_9 (by decide) (fun h9 => ?_) (fun h9 => absurd (by rw [eu]; exact nI_le (by omega) (by omega)) h9)
      refine z_aload_n dX6_replicate_53 rfl rfl ?_
      refine z_iload_n dX6_replicate_54 rfl ?_
      refine z_ivQ dX6_replicate_55 cv_RX6_152 hm (c_X6_tells g h _) ⟨⟨by decide, by decide⟩, (by first | exact Nat.zero_le _ | decide | omega), (by first | exact Nat.zero_le _ | decide | omega)⟩ rfl rfl (Nat.le_of_ble_eq_true rfl) (fun M55 hQ55 => ?_)
      refine z_ireturn dX6_replicate_58 rfl (by first | rfl | exact bI_nar _) ?_
      rw [e1]
      exact rQ_of hQ55
    · intro j hj ih M' x1 x2 h e1 e2
      subst e2
      have hm := h.m
      have w12 := h.r12
      have eu : (rpS ρ j).un = ρ.un := congrFun (rpS_same ρ j).1 2
      have hb5 : (rpS ρ j).a 5 j < 2 ^ 30 := by
        rw [(rpS_same ρ j).2.1 5 (by decide)]
        exact hs5 j (by omega)
      have hj100 : j < 100 := by omega
      refine z_iload_n dX6_replicate_4 rfl ?_
      refine z_aload_n dX6_replicate_5 rfl rfl ?_
      refine z_getfield dX6_replicate_6 fg_RX6_113 (by assumption) rfl ?_
      refine z_icmp_ge (tgt := 53) dX6_replicate_9 (by decide) (fun h9 => absurd h9 (by rw [eu]; exact nI_ge hj (by omega))) (fun h9 => ?_)
      refine z_iload_n dX6_replicate_12 rfl ?_
      refine z_aload_n dX6_replicate_13 rfl rfl ?_
      refine z_getfield dX6_replicate_14 fg_RX6_38 (by assumption) rfl ?_
      refine z_iload_n dX6_replicate_17 rfl ?_
      refine z_zaload dX6_replicate_18 w12 rfl (by omega) (by decide) ?_
      refine z_if_eq (tgt := 44) dX6_replicate_19 (by decide) (fun h19 => ?_) (fun h19 => ?_)
      · refine z_ic ki_0 dX6_replicate_44 ?_
        refine z_iadd dX6_replicate_45 ?_
        refine z_istore_n dX6_replicate_46 (by decide) ?_
        refine z_inc ki_1 dX6_replicate_47 rfl (by decide) ?_
        refine z_goto (tgt := 4) dX6_replicate_50 (by decide) ?_
        refine ih _ _ _ ?_ ?_ (nI_add j 1)
        · rw [rpS, if_neg (nt h19)]
          exact h
        · rw [e1, nI_add, rpN, if_neg (nt h19)]
      · refine z_aload_n dX6_replicate_22 rfl rfl ?_
        refine z_iload_n dX6_replicate_23 rfl ?_
        refine z_ivI dX6_replicate_24 cv_RX6_95 hm (c_X6_good g h hj100) ⟨⟨by decide, by decide⟩, (by first | exact Nat.zero_le _ | decide | omega), (by first | exact Nat.zero_le _ | decide | omega)⟩ rfl rfl (Nat.le_of_ble_eq_true rfl) ?_
        refine z_ic ki_m1 dX6_replicate_27 ?_
        refine z_icmp_eq (tgt := 44) dX6_replicate_28 (by decide) (fun h28 => ?_) (fun h28 => ?_)
        · refine z_ic ki_0 dX6_replicate_44 ?_
          refine z_iadd dX6_replicate_45 ?_
          refine z_istore_n dX6_replicate_46 (by decide) ?_
          refine z_inc ki_1 dX6_replicate_47 rfl (by decide) ?_
          refine z_goto (tgt := 4) dX6_replicate_50 (by decide) ?_
          have hn := oI_none h28 (fun n hn => by have := gdn_lt _ _ _ _ hn; omega)
          refine ih _ _ _ ?_ ?_ (nI_add j 1)
          · rw [rpS, if_pos (yt h19)]
            simp only [plG, hn]
            exact h
          · rw [e1, nI_add, rpN, if_pos (yt h19)]
            simp only [plGn, hn]
        · obtain ⟨f, hf⟩ := oI_some h28
          refine z_aload_n dX6_replicate_31 rfl rfl ?_
          refine z_iload_n dX6_replicate_32 rfl ?_
          refine z_aload_n dX6_replicate_33 rfl rfl ?_
          refine z_iload_n dX6_replicate_34 rfl ?_
          refine z_ivI dX6_replicate_35 cv_RX6_123 hm (c_X6_goodValue g h hj100 hf) ⟨⟨by decide, by decide⟩, (by first | exact Nat.zero_le _ | decide | omega), (by first | exact Nat.zero_le _ | decide | omega)⟩ rfl rfl (Nat.le_of_ble_eq_true rfl) ?_
          refine z_ivQ dX6_replicate_38 cv_RX6_120 hm (c_X6_places g h hj100 _ hb5) ⟨⟨by decide, by decide⟩, (by first | exact Nat.zero_le _ | decide | omega), (by first | exact Nat.zero_le _ | decide | omega)⟩ rfl rfl (Nat.le_of_ble_eq_true rfl) (fun M38 hQ38 => ?_)
          refine z_goto (tgt := 45) dX6_replicate_41 (by decide) ?_
          refine z_iadd dX6_replicate_45 ?_
          refine z_istore_n dX6_replicate_46 (by decide) ?_
          refine z_inc ki_1 dX6_replicate_47 rfl (by decide) ?_
          refine z_goto (tgt := 4) dX6_replicate_50 (by decide) ?_
          refine ih _ _ _ ?_ ?_ (nI_add j 1)
          · rw [rpS, if_pos (yt h19)]
            simp only [plG, hf]
            exact hQ38
          · rw [e1, nI_add, rpN, if_pos (yt h19)]
            simp only [plGn, hf]
  refine z_ic ki_0 dX6_replicate_0 ?_
  refine z_istore_n dX6_replicate_1 (by decide) ?_
  refine z_ic ki_0 dX6_replicate_2 ?_
  refine z_istore_n dX6_replicate_3 (by decide) ?_
  exact loop 0 (by omega) _ _ _ hW rfl rfl
end REFD
