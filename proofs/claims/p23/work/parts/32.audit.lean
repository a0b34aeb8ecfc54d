/-! the class: the store, a site is closed or opened; audits -/
def dcS (s : Nat) : Nat → ST → ST
  | 0, σ => σ
  | n + 1, σ => drS (dcS s n σ) n s
theorem dcS_same (s : Nat) (σ : ST) : ∀ n, (dcS s n σ).1 = σ.1 ∧ (∀ i, i ≠ 7 → (dcS s n σ).a i = σ.a i) ∧ (dcS s n σ).2.2.1 = σ.2.2.1 ∧ (dcS s n σ).b = σ.b ∧ (dcS s n σ).hs = σ.hs ∧ (dcS s n σ).lo = σ.lo ∧ ∀ k t, (dcS s n σ).cp k t = if k < n ∧ t = s then false else σ.cp k t
  | 0 => ⟨rfl, fun _ _ => rfl, rfl, rfl, rfl, rfl, fun k t => by rw [if_neg (fun q => Nat.not_lt_zero k q.1)]; rfl⟩
  | n + 1 => by
    obtain ⟨h1, h2, h3, h4, h5, h6, h7⟩ := dcS_same s σ n
    obtain ⟨g1, g2, g3, g4, g5, g6, g7⟩ := drS_same (dcS s n σ) n s
    refine ⟨g1.trans h1, fun i hi => (g2 i hi).trans (h2 i hi), g3.trans h3, g4.trans h4, g5.trans h5, g6.trans h6, fun k t => ?_⟩
    show (drS (dcS s n σ) n s).cp k t = _
    rw [g7]
    unfold f2
    rw [h7]
    by_cases hq : k = n ∧ t = s
    · rw [if_pos hq, if_pos ⟨by omega, hq.2⟩]
    · rw [if_neg hq]
      by_cases hq2 : k < n ∧ t = s
      · rw [if_pos hq2, if_pos ⟨by omega, hq2.2⟩]
      · rw [if_neg hq2, if_neg (fun z => hq2 ⟨by
          have : ¬ k = n := fun e => hq ⟨e, z.2⟩
          omega, z.2⟩)]
theorem LD.dcS {σ : ST} (h : LD σ) {s : Nat} (hs : s < 4) : ∀ n, n ≤ 100 → LD (dcS s n σ)
  | 0, _ => h
  | n + 1, hn => (LD.dcS h hs n (by omega)).drS (by omega) hs
section AUDIT
variable (g : GG) {A : Nat → Nat → Nat} {σ ρ : ST} {x : XT} {M : Mem}
theorem c_X2_closeOrOpen (hW : W2 g A σ ρ x M) (hw : WF σ) (hC : CAP σ) (hL : LD σ) {s : Nat} (hs : s < 4) : con g mX2_closeOrOpen 0 0 [.ref (A 6 0), .int (nI s)] M (rQ (some (.int (nI (clN σ s σ.un)))) (W2 g A (dcS s σ.un (σ.sb 4 s (!σ.b 4 s))) ρ x)) := by
  refine con_i ?_ (by decide) rfl rfl (by simp [lv_args, Value.category]) (by simp [lv_args, lnd, Value.category])
  have h100 := hw.1.2
  have hS := hW.store
  have hcl := hW.closed
  have loop : ∀ j, j ≤ σ.un → ∀ (M' : Mem) x2 x3, W2 g A (dcS s j (σ.sb 4 s (!σ.b 4 s))) ρ x M' → x2 = nI (clN σ s j) → x3 = nI j → tri g mX2_closeOrOpen 0 0 (rQ (some (.int (nI (clN σ s σ.un)))) (W2 g A (dcS s σ.un (σ.sb 4 s (!σ.b 4 s))) ρ x)) M' 35 [(0, .ref (A 6 0)), (1, .int (nI s)), (2, .int x2), (3, .int x3)] [] := by
    refine lp_up σ.un ?_ ?_
    · intro M' x2 x3 h e2 e3
      subst e2 e3
      have eu : (dcS s σ.un (σ.sb 4 s (!σ.b 4 s))).un = σ.un := congrFun (dcS_same s (σ.sb 4 s (!σ.b 4 s)) σ.un).1 2
      have hS := h.store
      have hl := h.ulst
      have hsz := c_ul_size h
      rw [eu] at hsz
      refine z_iload_n dX2_closeOrOpen_35 rfl ?_
      refine z_aload_n dX2_closeOrOpen_36 rfl rfl ?_
      refine z_getfield dX2_closeOrOpen_37 fg_RX2_12 (by assumption) rfl ?_
      refine z_ivI dX2_closeOrOpen_40 cv_RX2_30 hl (hsz) ⟨⟨by decide, by decide⟩, (by first | exact Nat.zero_le _ | decide | omega), (by first | exact Nat.zero_le _ | decide | omega)⟩ rfl rfl (Nat.le_of_ble_eq_true rfl) ?_
      refine z_icmp_ge (tgt := 74) dX2_closeOrOpen_43 (by decide) (fun h43 => ?_) (fun h43 => absurd (nI_le (by omega) (by omega)) h43)
      refine z_iload_n dX2_closeOrOpen_74 rfl ?_
      refine z_ireturn dX2_closeOrOpen_75 rfl (by first | rfl | exact bI_nar _) ?_
      exact rQ_of h
    · intro j hj ih M' x2 x3 h e2 e3
      subst e2 e3
      obtain ⟨r1, r2, r3, r4, r5, r6, r7⟩ := dcS_same s (σ.sb 4 s (!σ.b 4 s)) j
      have eu : (dcS s j (σ.sb 4 s (!σ.b 4 s))).un = σ.un := congrFun r1 2
      have hju : j < (dcS s j (σ.sb 4 s (!σ.b 4 s))).un := by rw [eu]; exact hj
      have hS := h.store
      have hl := h.ulst
      have hsz := c_ul_size h
      rw [eu] at hsz
      have hC0 : CAP (σ.sb 4 s (!σ.b 4 s)) := hC
      have hL0 : LD (σ.sb 4 s (!σ.b 4 s)) := fun t ht => (hL t ht).trans (ldn_cp (σ := σ) (τ := σ.sb 4 s (!σ.b 4 s)) 100 (fun _ _ => rfl)).symm
      have hCj := hC0.eq r1 (r2 1 (by decide)) (r2 8 (by decide))
      have hun := h.unit hju
      have hcp : (dcS s j (σ.sb 4 s (!σ.b 4 s))).cp j s = σ.cp j s := by
        rw [r7, if_neg (fun q => Nat.lt_irrefl j q.1)]
        rfl
      have hdr := c_X2_dropCopy g h (hL0.dcS hs j (by omega)) hju (by omega) hs
      rw [hcp] at hdr
      refine z_iload_n dX2_closeOrOpen_35 rfl ?_
      refine z_aload_n dX2_closeOrOpen_36 rfl rfl ?_
      refine z_getfield dX2_closeOrOpen_37 fg_RX2_12 (by assumption) rfl ?_
      refine z_ivI dX2_closeOrOpen_40 cv_RX2_30 hl (hsz) ⟨⟨by decide, by decide⟩, (by first | exact Nat.zero_le _ | decide | omega), (by first | exact Nat.zero_le _ | decide | omega)⟩ rfl rfl (Nat.le_of_ble_eq_true rfl) ?_
      refine z_icmp_ge (tgt := 74) dX2_closeOrOpen_43 (by decide) (fun h43 => absurd h43 (nI_ge hj (by omega))) (fun h43 => ?_)
      refine z_aload_n dX2_closeOrOpen_46 rfl rfl ?_
      refine z_aload_n dX2_closeOrOpen_47 rfl rfl ?_
      refine z_getfield dX2_closeOrOpen_48 fg_RX2_12 (by assumption) rfl ?_
      refine z_iload_n dX2_closeOrOpen_51 rfl ?_
      refine z_ivA dX2_closeOrOpen_52 cv_RX2_34 hl (c_ul_get h hCj hju) ⟨⟨by decide, by decide⟩, (by first | exact Nat.zero_le _ | decide | omega), (by first | exact Nat.zero_le _ | decide | omega)⟩ rfl rfl (Nat.le_of_ble_eq_true rfl) ?_
      refine z_cast dX2_closeOrOpen_55 hun rfl (gt_in 154 (by decide +kernel) rfl) ?_
      refine z_iload_n dX2_closeOrOpen_58 rfl ?_
      refine z_ivQ dX2_closeOrOpen_59 cv_RX2_114 hS (hdr) ⟨⟨by decide, by decide⟩, (by first | exact Nat.zero_le _ | decide | omega), (by first | exact Nat.zero_le _ | decide | omega)⟩ rfl rfl (Nat.le_of_ble_eq_true rfl) (fun M59 hQ59 => ?_)
      refine z_if_eq (tgt := 68) dX2_closeOrOpen_62 (by decide) (fun h62 => ?_) (fun h62 => ?_)
      · refine z_inc ki_1 dX2_closeOrOpen_68 rfl (by decide) ?_
        refine z_goto (tgt := 35) dX2_closeOrOpen_71 (by decide) ?_
        exact ih _ _ _ hQ59 (by rw [clN, if_neg (nt h62), Nat.add_zero]) (nI_add j 1)
      · refine z_inc ki_1 dX2_closeOrOpen_65 rfl (by decide) ?_
        refine z_inc ki_1 dX2_closeOrOpen_68 rfl (by decide) ?_
        refine z_goto (tgt := 35) dX2_closeOrOpen_71 (by decide) ?_
        exact ih _ _ _ hQ59 (by rw [clN, if_pos (yt h62)]; exact nI_add _ 1) (nI_add j 1)
  have h0 : ∀ b, b = (!σ.b 4 s) → W2 g A (σ.sb 4 s (!σ.b 4 s)) ρ x (mset M (A 9 0) (aI .boolean 4 (upd (fun s => bI (σ.b 4 s)) s (bI b &&& 1)))) := fun b hb => by
    rw [hb]
    exact hW.cclosed s _
  refine z_iload_n dX2_closeOrOpen_0 rfl ?_
  refine z_if_lt (tgt := 9) dX2_closeOrOpen_1 (by decide) (fun h1 => absurd h1 (nI_pos (by omega))) (fun h1 => ?_)
  refine z_iload_n dX2_closeOrOpen_4 rfl ?_
  refine z_ic ki_4 dX2_closeOrOpen_5 ?_
  refine z_icmp_lt (tgt := 11) dX2_closeOrOpen_6 (by decide) (fun h6 => ?_) (fun h6 => absurd ((nI_ltI (by omega) (by decide)).mpr hs) h6)
  refine z_aload_n dX2_closeOrOpen_11 rfl rfl ?_
  refine z_getfield dX2_closeOrOpen_12 fg_RX2_18 (by assumption) rfl ?_
  refine z_iload_n dX2_closeOrOpen_15 rfl ?_
  refine z_aload_n dX2_closeOrOpen_16 rfl rfl ?_
  refine z_getfield dX2_closeOrOpen_17 fg_RX2_18 (by assumption) rfl ?_
  refine z_iload_n dX2_closeOrOpen_20 rfl ?_
  refine z_zaload dX2_closeOrOpen_21 hcl rfl hs (by decide) ?_
  refine z_if_ne (tgt := 29) dX2_closeOrOpen_22 (by decide) (fun h22 => ?_) (fun h22 => ?_)
  · refine z_ic ki_0 dX2_closeOrOpen_29 ?_
    refine z_zastore dX2_closeOrOpen_30 hcl rfl hs (by decide) ?_
    refine z_ic ki_0 dX2_closeOrOpen_31 ?_
    refine z_istore_n dX2_closeOrOpen_32 (by decide) ?_
    refine z_ic ki_0 dX2_closeOrOpen_33 ?_
    refine z_istore_n dX2_closeOrOpen_34 (by decide) ?_
    exact loop 0 (by omega) _ _ _ (h0 false (by rw [yt h22]; rfl)) rfl rfl
  · refine z_ic ki_1 dX2_closeOrOpen_25 ?_
    refine z_goto (tgt := 30) dX2_closeOrOpen_26 (by decide) ?_
    refine z_zastore dX2_closeOrOpen_30 hcl rfl hs (by decide) ?_
    refine z_ic ki_0 dX2_closeOrOpen_31 ?_
    refine z_istore_n dX2_closeOrOpen_32 (by decide) ?_
    refine z_ic ki_0 dX2_closeOrOpen_33 ?_
    refine z_istore_n dX2_closeOrOpen_34 (by decide) ?_
    exact loop 0 (by omega) _ _ _ (h0 true (by rw [bI_eq0.mp h22]; rfl)) rfl rfl
/-- the place of a turn: t behind the place p, of P places -/
def posn (p P t : Nat) : Nat := if p + t < P then p + t else p + t - P
theorem nxf_at {σ : ST} : ∀ k n i, k < n → (∀ j, j < k → σ.cp ((σ.la + (i + j)) % 400 / 4) ((σ.la + (i + j)) % 400 % 4) = false) → σ.cp ((σ.la + (i + k)) % 400 / 4) ((σ.la + (i + k)) % 400 % 4) = true → nxf σ n i = some ((σ.la + (i + k)) % 400)
  | k, 0, _, h, _, _ => absurd h (Nat.not_lt_zero k)
  | 0, n + 1, i, _, _, h2 => by
    simp only [Nat.add_zero] at h2 ⊢
    unfold nxf
    rw [if_pos h2]
  | k + 1, n + 1, i, h, h1, h2 => by
    unfold nxf
    have h3 := h1 0 (by omega)
    rw [Nat.add_zero] at h3
    rw [if_neg (by rw [h3]; decide)]
    have e : i + (k + 1) = i + 1 + k := by omega
    rw [e] at h2 ⊢
    exact nxf_at k n (i + 1) (by omega) (fun j hj => by
      have := h1 (j + 1) (by omega)
      rw [show i + (j + 1) = i + 1 + j by omega] at this
      exact this) h2
theorem nxt_at {σ : ST} {P t : Nat} (hP : P ≤ 400) (hla : σ.la ≤ 400) (hno : ∀ q, P ≤ q → q < 400 → σ.cp (q / 4) (q % 4) = false) (ht : t < P) (hb : ∀ i, i < t → σ.cp (posn (if σ.la < P then σ.la else 0) P i / 4) (posn (if σ.la < P then σ.la else 0) P i % 4) = false) (hc : σ.cp (posn (if σ.la < P then σ.la else 0) P t / 4) (posn (if σ.la < P then σ.la else 0) P t % 4) = true) : nxt σ = some (posn (if σ.la < P then σ.la else 0) P t) := by
  generalize hp : (if σ.la < P then σ.la else 0) = p at hb hc ⊢
  have hm : posn p P t < P := by unfold posn; split at hp <;> split <;> omega
  have key : ∀ q, q < P → (∃ i, i < t ∧ posn p P i = q) → σ.cp (q / 4) (q % 4) = false := fun q _ hq => by
    obtain ⟨i, hi, e⟩ := hq
    rw [← e]
    exact hb i hi
  have hk : ∃ k, k < 400 ∧ (σ.la + (0 + k)) % 400 = posn p P t ∧ ∀ j, j < k → P ≤ (σ.la + (0 + j)) % 400 ∨ ∃ i, i < t ∧ posn p P i = (σ.la + (0 + j)) % 400 := by
    by_cases hl : σ.la < P
    · rw [if_pos hl] at hp
      by_cases hw : p + t < P
      · refine ⟨t, by omega, by unfold posn; rw [if_pos hw]; omega, fun j hj => Or.inr ⟨j, hj, by unfold posn; rw [if_pos (by omega)]; omega⟩⟩
      · refine ⟨p + t - P + 400 - σ.la, by omega, by unfold posn; rw [if_neg hw]; omega, fun j hj => ?_⟩
        by_cases hj1 : σ.la + j < P
        · exact Or.inr ⟨j, by omega, by unfold posn; rw [if_pos (by omega)]; omega⟩
        · by_cases hj2 : σ.la + j < 400
          · left; omega
          · right
            refine ⟨σ.la + j - 400 + P - σ.la, by omega, ?_⟩
            unfold posn
            rw [if_neg (by omega)]
            omega
    · rw [if_neg hl] at hp
      refine ⟨(t + 400 - σ.la % 400) % 400, Nat.mod_lt _ (by decide), by unfold posn; rw [if_pos (by omega)]; omega, fun j hj => ?_⟩
      by_cases hj2 : P ≤ (σ.la + (0 + j)) % 400
      · exact Or.inl hj2
      · right
        refine ⟨(σ.la + (0 + j)) % 400, by omega, ?_⟩
        unfold posn
        rw [if_pos (by omega)]
        omega
  obtain ⟨k, h1, h2, h3⟩ := hk
  rw [← h2]
  refine nxf_at k 400 0 h1 (fun j hj => ?_) (by rw [h2]; exact hc)
  rcases h3 j hj with h4 | h4
  · exact hno _ h4 (Nat.mod_lt _ (by decide))
  · refine key _ ?_ h4
    obtain ⟨i, hi, e⟩ := h4
    rw [← e]
    unfold posn
    split at hp <;> split <;> omega
theorem sn_at (σ : ST) (k v : Nat) : (σ.sn k v).n k = v := by
  show f1 σ.1 k v k = v
  exact f1_s
theorem sn_sn (σ : ST) (k v w : Nat) : (σ.sn k v).sn k w = σ.sn k w := by
  show (f1 (f1 σ.1 k v) k w, σ.2) = (f1 σ.1 k w, σ.2)
  refine congrArg (fun z => (z, σ.2)) (funext fun j => ?_)
  unfold f1
  by_cases h : j = k
  · rw [if_pos h, if_pos h]
  · rw [if_neg h, if_neg h, if_neg h]
theorem sn_id (σ : ST) (k : Nat) : σ.sn k (σ.n k) = σ := by
  show (f1 σ.1 k (σ.1 k), σ.2) = σ
  refine (congrArg (fun z => (z, σ.2)) (funext fun j => ?_) : _ = (σ.1, σ.2))
  unfold f1
  by_cases h : j = k
  · rw [if_pos h, h]
  · rw [if_neg h]
theorem au1_eq {σ : ST} {m : Nat} (h : nxt σ = some m) : au1 σ = rpT (σ.sn 3 (m + 1)) (m / 4) (m % 4) ∧ nI (au1n σ) = bI (rpB (σ.sn 3 (m + 1)) (m / 4) (m % 4)) := by
  unfold au1 au1n rpT rpB
  rw [h]
  refine ⟨rfl, ?_⟩
  show nI (match good (σ.sn 3 (m + 1)) (m / 4) with | none => 0 | some f => if σ.hs (m / 4) (m % 4) = σ.hs (m / 4) f then 0 else 1) = _
  cases good (σ.sn 3 (m + 1)) (m / 4) with
  | none => rfl
  | some f =>
    show nI (if σ.hs (m / 4) (m % 4) = σ.hs (m / 4) f then 0 else 1) = bI (!decide (σ.hs (m / 4) (m % 4) = σ.hs (m / 4) f))
    by_cases hq : σ.hs (m / 4) (m % 4) = σ.hs (m / 4) f
    · rw [if_pos hq, decide_eq_true hq]
      rfl
    · rw [if_neg hq, decide_eq_false hq]
      rfl
theorem c_X5_isWithin (M : Mem) (a b c : Int32) : con g mX5_isWithin 0 0 [.int a, .int b, .int c] M (rI (bI (decide (b ≤ a ∧ a ≤ c))) M) := by
  refine con_i ?_ (by decide) rfl rfl (by simp [lv_args, Value.category]) (by simp [lv_args, lnd, Value.category])
  refine z_iload_n dX5_isWithin_0 rfl ?_
  refine z_iload_n dX5_isWithin_1 rfl ?_
  refine z_icmp_lt (tgt := 14) dX5_isWithin_2 (by decide) (fun h2 => ?_) (fun h2 => ?_)
  · refine z_ic ki_0 dX5_isWithin_14 ?_
    refine z_ireturn dX5_isWithin_15 rfl (by first | rfl | exact bI_nar _) ?_
    exact rI_of (by rw [decide_eq_false (fun q => Int32.not_lt.mpr q.1 h2)]; rfl)
  · refine z_iload_n dX5_isWithin_5 rfl ?_
    refine z_iload_n dX5_isWithin_6 rfl ?_
    refine z_icmp_gt (tgt := 14) dX5_isWithin_7 (by decide) (fun h7 => ?_) (fun h7 => ?_)
    · refine z_ic ki_0 dX5_isWithin_14 ?_
      refine z_ireturn dX5_isWithin_15 rfl (by first | rfl | exact bI_nar _) ?_
      exact rI_of (by rw [decide_eq_false (fun q => Int32.not_lt.mpr q.2 h7)]; rfl)
    · refine z_ic ki_1 dX5_isWithin_10 ?_
      refine z_goto (tgt := 15) dX5_isWithin_11 (by decide) ?_
      refine z_ireturn dX5_isWithin_15 rfl (by first | rfl | exact bI_nar _) ?_
      exact rI_of (by rw [decide_eq_true ⟨Int32.not_lt.mp h2, Int32.not_lt.mp h7⟩]; rfl)
theorem au_in {l P : Nat} (hl : l < 2 ^ 30) (hP : P < 2 ^ 30) : (nI 0 ≤ nI l - 1 ∧ nI l - 1 ≤ nI P - nI 2) ↔ (1 ≤ l ∧ l + 1 ≤ P) := by
  have h0 : (nI 0).toInt = 0 := by decide
  have h1 : (nI l - 1).toInt = (l : Int) - 1 := by
    rw [Int32.toInt_sub, nI_toInt (by omega), show (1 : Int32).toInt = 1 from by decide, Int.bmod_eq_of_le (by omega) (by omega)]
  have h2 : (nI P - nI 2).toInt = (P : Int) - 2 := by
    rw [Int32.toInt_sub, nI_toInt (by omega), show (nI 2).toInt = 2 from by decide, Int.bmod_eq_of_le (by omega) (by omega)]
  rw [Int32.le_iff_toInt_le, Int32.le_iff_toInt_le, h0, h1, h2]
  omega
theorem c_X2_auditNext {B : Nat} (hW : W2 g A σ ρ x M) (hw : WF σ) (hC : CAP σ) (hH : HB B σ) (hB : B < 2147483648) (hla : σ.la ≤ 400) (hno : ∀ u s, σ.un ≤ u → σ.cp u s = false) (hex : ∃ q, q < 4 * σ.un ∧ σ.cp (q / 4) (q % 4) = true) : con g mX2_auditNext 0 0 [.ref (A 6 0)] M (rQ (some (.int (nI (au1n σ)))) (W2 g A (au1 σ) ρ x)) := by
  refine con_i ?_ (by decide) rfl rfl (by simp [lv_args, Value.category]) (by simp [lv_args, lnd, Value.category])
  have h100 := hw.1.2
  have hS := hW.store
  have hl := hW.ulst
  generalize hP : 4 * σ.un = P at hex
  have hP4 : P ≤ 400 := by omega
  generalize hp : (if σ.la < P then σ.la else 0) = p
  have hpl : ∀ t, t < P → posn p P t < P := fun t ht => by unfold posn; split at hp <;> split <;> omega
  have loop : ∀ t, t ≤ P → ∀ (M' : Mem) l x2 y, W2 g A (σ.sn 3 l) ρ x M' → l = (if t = 0 then σ.la else posn p P (t - 1) + 1) → (∀ i, i < t → σ.cp (posn p P i / 4) (posn p P i % 4) = false) → x2 = nI t → (y = [] ∨ ∃ z w, y = [(3, Value.ref z), (4, Value.int w)]) → tri g mX2_auditNext 0 0 (rQ (some (.int (nI (au1n σ)))) (W2 g A (au1 σ) ρ x)) M' 12 ((0, .ref (A 6 0)) :: (1, .int (nI P)) :: (2, .int x2) :: y) [] := by
    refine lp_up P ?_ ?_
    · intro M' l x2 y h el hb e2 hy
      exfalso
      obtain ⟨q, hq, hcq⟩ := hex
      have h1 : ∃ i, i < P ∧ posn p P i = q := by
        by_cases hpq : p ≤ q
        · exact ⟨q - p, by omega, by unfold posn; rw [if_pos (by omega)]; omega⟩
        · refine ⟨q + P - p, by omega, ?_⟩
          unfold posn
          split at hp <;> rw [if_neg (by omega)] <;> omega
      obtain ⟨i, hi, e⟩ := h1
      have h2 := hb i hi
      rw [e, hcq] at h2
      cases h2
    · intro t ht ih M' l x2 y h el hb e2 hy
      subst e2
      have hq : posn p P t = if l < P then l else 0 := by
        have hp' := hp
        rw [el]
        unfold posn
        by_cases h0 : t = 0
        · rw [if_pos h0]
          split at hp' <;> split <;> (try split) <;> omega
        · rw [if_neg h0]
          split at hp' <;> split <;> (try split) <;> (try split) <;> omega
      have hqP := hpl t ht
      have cont : ∀ (q : Nat) (M'' : Mem), q = posn p P t → W2 g A (σ.sn 3 (q + 1)) ρ x M'' → tri g mX2_auditNext 0 0 (rQ (some (.int (nI (au1n σ)))) (W2 g A (au1 σ) ρ x)) M'' 45 ((0, .ref (A 6 0)) :: (1, .int (nI P)) :: (2, .int (nI t)) :: y) [] := by
        intro q M'' eq h'
        have hqu : q / 4 < σ.un := by omega
        have hS' : M'' (A 6 0) = some (ob 3 [.ref (A 7 0), .ref (A 9 0), .ref (A 10 0), .int (nI q)]) := by
          have := h'.store
          rw [show (σ.sn 3 (q + 1)).la = q + 1 from sn_at σ 3 _, nI_pred] at this
          exact this
        have hl' := h'.ulst
        have hun := h'.unit (i := q / 4) hqu
        have hC' : CAP (σ.sn 3 (q + 1)) := hC
        have ed : nI q / nI 4 = nI (q / 4) := pk_div (by omega) (by decide) (by decide)
        have er : nI q - nI q / nI 4 * nI 4 = nI (q % 4) := pk_rem (by omega) (by decide) (by decide)
        have hm4 : q % 4 < 4 := Nat.mod_lt _ (by decide)
        have hH' : HB B (σ.sn 3 (q + 1)) := hH
        have hdone : σ.cp (q / 4) (q % 4) = true → nxt σ = some q := fun hc => by
          rw [eq]
          rw [eq] at hc
          refine (nxt_at (P := P) (t := t) hP4 hla (fun z h1 _ => hno _ _ (by omega)) ht ?_ ?_).trans ?_
          · rw [hp]; exact hb
          · rw [hp]; exact hc
          · rw [hp]
        rcases hy with rfl | ⟨z, w, rfl⟩
        · skip
          refine z_aload_n dX2_auditNext_45 rfl rfl ?_
          refine z_getfield dX2_auditNext_46 fg_RX2_12 hS' rfl ?_
          refine z_aload_n dX2_auditNext_49 rfl rfl ?_
          refine z_getfield dX2_auditNext_50 fg_RX2_26 hS' rfl ?_
          refine z_ic ki_4 dX2_auditNext_53 ?_
          refine z_idiv dX2_auditNext_54 (by decide) ?_
          rw [ed]
          refine z_ivA dX2_auditNext_55 cv_RX2_34 hl' (c_ul_get h' hC' (j := q / 4) hqu) ⟨⟨by decide, by decide⟩, (by first | exact Nat.zero_le _ | decide | omega), (by first | exact Nat.zero_le _ | decide | omega)⟩ rfl rfl (Nat.le_of_ble_eq_true rfl) ?_
          refine z_cast dX2_auditNext_58 hun rfl (gt_in 154 (by decide +kernel) rfl) ?_
          refine z_astore_n dX2_auditNext_61 (by decide) rfl ?_
          refine z_aload_n dX2_auditNext_62 rfl rfl ?_
          refine z_getfield dX2_auditNext_63 fg_RX2_26 hS' rfl ?_
          refine z_ic ki_4 dX2_auditNext_66 ?_
          refine z_irem dX2_auditNext_67 (by decide) ?_
          rw [er]
          refine z_istore dX2_auditNext_68 (by decide) ?_
          refine z_aload_n dX2_auditNext_70 rfl rfl ?_
          refine z_iload dX2_auditNext_71 rfl ?_
          refine z_ivI dX2_auditNext_73 cv_RX2_93 hun (c_X3_hasCopyAt g h' hqu hm4) ⟨⟨by decide, by decide⟩, (by first | exact Nat.zero_le _ | decide | omega), (by first | exact Nat.zero_le _ | decide | omega)⟩ rfl rfl (Nat.le_of_ble_eq_true rfl) ?_
          refine z_if_eq (tgt := 86) dX2_auditNext_76 (by decide) (fun h76 => ?_) (fun h76 => ?_)
          · refine z_inc ki_1 dX2_auditNext_86 rfl (by decide) ?_
            refine z_goto (tgt := 12) dX2_auditNext_89 (by decide) ?_
            refine ih M'' (q + 1) _ _ h' (by rw [if_neg (by omega), Nat.add_sub_cancel, eq]) (fun i hi => ?_) (nI_add t 1) (Or.inr ⟨_, _, rfl⟩)
            by_cases hit : i = t
            · rw [hit, ← eq]
              exact bI_eq0.mp h76
            · exact hb i (by omega)
          · refine z_aload_n dX2_auditNext_79 rfl rfl ?_
            refine z_iload dX2_auditNext_80 rfl ?_
            refine z_ivQ dX2_auditNext_82 cv_RX2_126 hun (c_X3_repairAt g h' hqu hm4 (yt h76)) ⟨⟨by decide, by decide⟩, (by first | exact Nat.zero_le _ | decide | omega), (by first | exact Nat.zero_le _ | decide | omega)⟩ rfl rfl (Nat.le_of_ble_eq_true rfl) (fun M82 hQ82 => ?_)
            refine z_ireturn dX2_auditNext_85 rfl (by first | rfl | exact bI_nar _) ?_
            obtain ⟨a1, a2⟩ := au1_eq (hdone (yt h76))
            rw [a1, a2]
            exact rQ_of hQ82
        · skip
          refine z_aload_n dX2_auditNext_45 rfl rfl ?_
          refine z_getfield dX2_auditNext_46 fg_RX2_12 hS' rfl ?_
          refine z_aload_n dX2_auditNext_49 rfl rfl ?_
          refine z_getfield dX2_auditNext_50 fg_RX2_26 hS' rfl ?_
          refine z_ic ki_4 dX2_auditNext_53 ?_
          refine z_idiv dX2_auditNext_54 (by decide) ?_
          rw [ed]
          refine z_ivA dX2_auditNext_55 cv_RX2_34 hl' (c_ul_get h' hC' (j := q / 4) hqu) ⟨⟨by decide, by decide⟩, (by first | exact Nat.zero_le _ | decide | omega), (by first | exact Nat.zero_le _ | decide | omega)⟩ rfl rfl (Nat.le_of_ble_eq_true rfl) ?_
          refine z_cast dX2_auditNext_58 hun rfl (gt_in 154 (by decide +kernel) rfl) ?_
          refine z_astore_n dX2_auditNext_61 (by decide) rfl ?_
          refine z_aload_n dX2_auditNext_62 rfl rfl ?_
          refine z_getfield dX2_auditNext_63 fg_RX2_26 hS' rfl ?_
          refine z_ic ki_4 dX2_auditNext_66 ?_
          refine z_irem dX2_auditNext_67 (by decide) ?_
          rw [er]
          refine z_istore dX2_auditNext_68 (by decide) ?_
          refine z_aload_n dX2_auditNext_70 rfl rfl ?_
          refine z_iload dX2_auditNext_71 rfl ?_
          refine z_ivI dX2_auditNext_73 cv_RX2_93 hun (c_X3_hasCopyAt g h' hqu hm4) ⟨⟨by decide, by decide⟩, (by first | exact Nat.zero_le _ | decide | omega), (by first | exact Nat.zero_le _ | decide | omega)⟩ rfl rfl (Nat.le_of_ble_eq_true rfl) ?_
          refine z_if_eq (tgt := 86) dX2_auditNext_76 (by decide) (fun h76 => ?_) (fun h76 => ?_)
          · refine z_inc ki_1 dX2_auditNext_86 rfl (by decide) ?_
            refine z_goto (tgt := 12) dX2_auditNext_89 (by decide) ?_
            refine ih M'' (q + 1) _ _ h' (by rw [if_neg (by omega), Nat.add_sub_cancel, eq]) (fun i hi => ?_) (nI_add t 1) (Or.inr ⟨_, _, rfl⟩)
            by_cases hit : i = t
            · rw [hit, ← eq]
              exact bI_eq0.mp h76
            · exact hb i (by omega)
          · refine z_aload_n dX2_auditNext_79 rfl rfl ?_
            refine z_iload dX2_auditNext_80 rfl ?_
            refine z_ivQ dX2_auditNext_82 cv_RX2_126 hun (c_X3_repairAt g h' hqu hm4 (yt h76)) ⟨⟨by decide, by decide⟩, (by first | exact Nat.zero_le _ | decide | omega), (by first | exact Nat.zero_le _ | decide | omega)⟩ rfl rfl (Nat.le_of_ble_eq_true rfl) (fun M82 hQ82 => ?_)
            refine z_ireturn dX2_auditNext_85 rfl (by first | rfl | exact bI_nar _) ?_
            obtain ⟨a1, a2⟩ := au1_eq (hdone (yt h76))
            rw [a1, a2]
            exact rQ_of hQ82
      have el1 : nI l - 1 + nI 1 = nI l := Int32.sub_add_cancel _ _
      have hS' : M' (A 6 0) = some (ob 3 [.ref (A 7 0), .ref (A 9 0), .ref (A 10 0), .int (nI l - 1)]) := by
        have := h.store
        rw [show (σ.sn 3 l).la = l from sn_at σ 3 _] at this
        exact this
      have hlb : l ≤ 400 := by
        rw [el]
        split
        · exact hla
        · have := hpl (t - 1) (by omega)
          omega
      have put : ∀ q, W2 g A (σ.sn 3 (q + 1)) ρ x (mset M' (A 6 0) (ob 3 [.ref (A 7 0), .ref (A 9 0), .ref (A 10 0), .int (nI q)])) := fun q => by
        have k := h.clast (q + 1)
        rw [sn_sn, nI_pred] at k
        exact k
      refine z_iload_n dX2_auditNext_12 rfl ?_
      refine z_iload_n dX2_auditNext_13 rfl ?_
      refine z_icmp_ge (tgt := 92) dX2_auditNext_14 (by decide) (fun h14 => absurd h14 (nI_ge ht (by omega))) (fun h14 => ?_)
      refine z_aload_n dX2_auditNext_17 rfl rfl ?_
      refine z_aload_n dX2_auditNext_18 rfl rfl ?_
      refine z_getfield dX2_auditNext_19 fg_RX2_26 hS' rfl ?_
      refine z_ic ki_0 dX2_auditNext_22 ?_
      refine z_iload_n dX2_auditNext_23 rfl ?_
      refine z_ic ki_2 dX2_auditNext_24 ?_
      refine z_isub dX2_auditNext_25 ?_
      refine z_isI dX2_auditNext_26 cs_RX2_122 (c_X5_isWithin g _ _ _ _) ⟨⟨by decide, by decide⟩, (by first | exact Nat.zero_le _ | decide | omega), (by first | exact Nat.zero_le _ | decide | omega)⟩ rfl rfl (Nat.le_of_ble_eq_true rfl) ?_
      refine z_if_eq (tgt := 41) dX2_auditNext_29 (by decide) (fun h29 => ?_) (fun h29 => ?_)
      · refine z_ic ki_0 dX2_auditNext_41 ?_
        refine z_putfield dX2_auditNext_42 (fp_RX2_26 _) hS' (Nat.le_of_ble_eq_true rfl) rfl rfl ?_
        have hni : ¬ (1 ≤ l ∧ l + 1 ≤ P) := fun q => absurd ((au_in (by omega) (by omega)).mpr q) (of_decide_eq_false (bI_eq0.mp h29))
        exact cont 0 _ (by rw [hq]; split <;> omega) (put 0)
      · refine z_aload_n dX2_auditNext_32 rfl rfl ?_
        refine z_getfield dX2_auditNext_33 fg_RX2_26 hS' rfl ?_
        refine z_ic ki_1 dX2_auditNext_36 ?_
        refine z_iadd dX2_auditNext_37 ?_
        refine z_goto (tgt := 42) dX2_auditNext_38 (by decide) ?_
        refine z_putfield dX2_auditNext_42 (fp_RX2_26 _) hS' (Nat.le_of_ble_eq_true rfl) rfl rfl ?_
        have hin : 1 ≤ l ∧ l + 1 ≤ P := (au_in (by omega) (by omega)).mp (of_decide_eq_true (bI_ne0.mp h29))
        rw [el1]
        exact cont l _ (by rw [hq, if_pos (by omega)]) (put l)
  have hsz := c_ul_size hW
  refine z_ic ki_4 dX2_auditNext_0 ?_
  refine z_aload_n dX2_auditNext_1 rfl rfl ?_
  refine z_getfield dX2_auditNext_2 fg_RX2_12 (by assumption) rfl ?_
  refine z_ivI dX2_auditNext_5 cv_RX2_30 hl (hsz) ⟨⟨by decide, by decide⟩, (by first | exact Nat.zero_le _ | decide | omega), (by first | exact Nat.zero_le _ | decide | omega)⟩ rfl rfl (Nat.le_of_ble_eq_true rfl) ?_
  refine z_imul dX2_auditNext_8 ?_
  rw [show nI 4 * nI σ.un = nI P by rw [pk_mul, hP]]
  refine z_istore_n dX2_auditNext_9 (by decide) ?_
  refine z_ic ki_0 dX2_auditNext_10 ?_
  refine z_istore_n dX2_auditNext_11 (by decide) ?_
  exact loop 0 (by omega) M σ.la _ _ (by rw [show σ.sn 3 σ.la = σ from sn_id σ 3]; exact hW) rfl (fun i hi => absurd hi (Nat.not_lt_zero i)) rfl (Or.inl rfl)
end AUDIT
