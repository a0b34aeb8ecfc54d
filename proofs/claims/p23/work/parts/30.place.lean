/-! the class: the store, copies are placed and dropped -/
theorem ldn_cp {σ τ : ST} {s : Nat} : ∀ n, (∀ k, k < n → τ.cp k s = σ.cp k s) → ldn τ s n = ldn σ s n
  | 0, _ => rfl
  | n + 1, h => by
    unfold ldn
    rw [ldn_cp n (fun k hk => h k (by omega)), h n (by omega)]
theorem ldn_set {σ τ : ST} {u s : Nat} (h0 : σ.cp u s = false) (h1 : τ.cp u s = true) (h : ∀ k, k ≠ u → τ.cp k s = σ.cp k s) : ∀ n, u < n → ldn τ s n = ldn σ s n + 1
  | 0, hu => absurd hu (Nat.not_lt_zero u)
  | n + 1, hu => by
    unfold ldn
    by_cases hun : u = n
    · rw [ldn_cp n (fun k hk => h k (by omega)), ← hun, h0, h1, if_pos rfl, if_neg (by decide)]
    · rw [ldn_set h0 h1 h n (by omega), h n (fun e => hun e.symm)]
      omega
/-- one step of placing -/
abbrev plS (σ : ST) (u s : Nat) (v : Int32) : ST := ((σ.sc u s true).sh u s v).sa 7 s (σ.a 7 s + 1)
theorem plS_cp {σ : ST} {u s : Nat} {v : Int32} (k t : Nat) : (plS σ u s v).cp k t = if k = u ∧ t = s then true else σ.cp k t := rfl
theorem LD_plS {σ : ST} (h : LD σ) {u s : Nat} (v : Int32) (hu : u < 100) (h0 : σ.cp u s = false) : LD (plS σ u s v) := by
  intro t ht
  show f2 σ.2.1 7 s (σ.a 7 s + 1) 7 t = _
  by_cases hts : t = s
  · rw [hts, f2_s, ldn_set h0 (by rw [plS_cp, if_pos ⟨rfl, rfl⟩]) (fun k hk => by rw [plS_cp, if_neg (fun q => hk q.1)]) 100 hu, h s (by omega)]
  · have e := ldn_cp (σ := σ) (τ := plS σ u s v) (s := t) 100 (fun k _ => by rw [plS_cp, if_neg (fun q => hts q.2)])
    rw [f2_n (fun q => hts q.2), e]
    exact h t ht
theorem plcs_none {σ : ST} {u : Nat} (v : Int32) (h : plc σ u 4 = none) : ∀ k, plcs u v k σ = σ ∧ plcn u v k σ = 0
  | 0 => ⟨rfl, rfl⟩
  | k + 1 => by
    unfold plcs plcn
    rw [h]
    exact ⟨rfl, rfl⟩
theorem plcs_some {σ : ST} {u s : Nat} {v : Int32} (h : plc σ u 4 = some s) (k : Nat) : plcs u v (k + 1) σ = plcs u v k (plS σ u s v) ∧ plcn u v (k + 1) σ = plcn u v k (plS σ u s v) + 1 := by
  constructor
  · show (match plc σ u 4 with | none => σ | some s => plcs u v k (plS σ u s v)) = _
    rw [h]
  · show (match plc σ u 4 with | none => 0 | some s => plcn u v k (plS σ u s v) + 1) = _
    rw [h]
theorem LD_plcs {u : Nat} (hu : u < 100) (v : Int32) : ∀ k {σ : ST}, LD σ → LD (plcs u v k σ)
  | 0, _, h => h
  | k + 1, σ, h => by
    cases hp : plc σ u 4 with
    | none => rw [(plcs_none v hp (k + 1)).1]; exact h
    | some s =>
      rw [(plcs_some hp k).1]
      exact LD_plcs hu v k (LD_plS h v hu (plc_some σ u 4 s hp).1)
section PLACE
variable (g : GG) {A : Nat → Nat → Nat} {σ ρ : ST} {x : XT} {M : Mem}
/-- what is kept while the unit's copies are written -/
def FK (F : Mem → Prop) (A : Nat → Nat → Nat) (u : Nat) : Prop := ∀ M e, F M → F (mset M (A 14 u) e) ∧ F (mset M (A 15 u) e) ∧ F (mset M (A 10 0) e)
theorem c_X3_placeAtF {F : Mem → Prop} (hW : W2 g A σ ρ x M) {u s : Nat} (hF : FK F A u) (hM : F M) (hu : u < σ.un) (hs : s < 4) (v : Int32) : con g mX3_placeAt 0 0 [.ref (A 13 u), .int (nI s), .int v] M (rQ none (fun M' => W2 g A ((σ.sc u s true).sh u s v) ρ x M' ∧ F M')) := by
  refine con_i ?_ (by decide) rfl rfl (by simp [lv_args, Value.category]) (by simp [lv_args, lnd, Value.category])
  have hU := hW.unit hu
  have hP := hW.placed hu
  refine z_iload_n dX3_placeAt_0 rfl ?_
  refine z_if_lt (tgt := 23) dX3_placeAt_1 (by decide) (fun h1 => absurd h1 (nI_pos (by omega))) (fun h1 => ?_)
  refine z_iload_n dX3_placeAt_4 rfl ?_
  refine z_ic ki_4 dX3_placeAt_5 ?_
  refine z_icmp_ge (tgt := 23) dX3_placeAt_6 (by decide) (fun h6 => absurd h6 (nI_ge hs (by omega))) (fun h6 => ?_)
  refine z_aload_n dX3_placeAt_9 rfl rfl ?_
  refine z_getfield dX3_placeAt_10 fg_RX3_9 (by assumption) rfl ?_
  refine z_iload_n dX3_placeAt_13 rfl ?_
  refine z_ic ki_1 dX3_placeAt_14 ?_
  refine z_zastore dX3_placeAt_15 hP rfl hs (by decide) ?_
  have hW1 := hW.ccp u s hu true
  have hU1 := hW1.unit hu
  have hC1 := hW1.copies hu
  refine z_aload_n dX3_placeAt_16 rfl rfl ?_
  refine z_getfield dX3_placeAt_17 fg_RX3_15 hU1 rfl ?_
  refine z_iload_n dX3_placeAt_20 rfl ?_
  refine z_iload_n dX3_placeAt_21 rfl ?_
  refine z_iastore dX3_placeAt_22 hC1 rfl hs (by decide) ?_
  refine z_return dX3_placeAt_23 rfl ?_
  exact rQ_of ⟨hW1.chs u s hu v, (hF _ _ (hF _ _ hM).1).2.1⟩
theorem c_X2_placeCopies {F : Mem → Prop} (hW : W2 g A σ ρ x M) (hL : LD σ) {u : Nat} (hF : FK F A u) (hM : F M) (hu : u < σ.un) (h100 : u < 100) (h5 : σ.a 5 u < 2 ^ 30) (v : Int32) : con g mX2_placeCopies 0 0 [.ref (A 6 0), .ref (A 13 u), .int v] M (rQ (some (.int (nI (plcn u v (σ.a 5 u - cpc σ u 4) σ)))) (fun M' => W2 g A (plK σ u v) ρ x M' ∧ F M')) := by
  refine con_i ?_ (by decide) rfl rfl (by simp [lv_args, Value.category]) (by simp [lv_args, lnd, Value.category])
  have hun := hW.unit hu
  show tri g mX2_placeCopies 0 0 (rQ (some (.int (nI (plcn u v (σ.a 5 u - cpc σ u 4) σ)))) (fun M' => W2 g A (plcs u v (σ.a 5 u - cpc σ u 4) σ) ρ x M' ∧ F M')) M 0 _ []
  have hk : σ.a 5 u - cpc σ u 4 < 2 ^ 30 := by omega
  generalize hk' : σ.a 5 u - cpc σ u 4 = k at hk
  have loop : ∀ r, r ≤ k → ∀ (τ : ST) (M' : Mem) (np : Nat) x4 x5 y, W2 g A τ ρ x M' → F M' → LD τ → u < τ.un → plcs u v r τ = plcs u v k σ → np + plcn u v r τ = plcn u v k σ → x4 = nI np → x5 = nI (k - r) → (y = [] ∨ ∃ z, y = [(6, Value.int z)]) → tri g mX2_placeCopies 0 0 (rQ (some (.int (nI (plcn u v k σ)))) (fun M' => W2 g A (plcs u v k σ) ρ x M' ∧ F M')) M' 11 ((0, .ref (A 6 0)) :: (1, .ref (A 13 u)) :: (2, .int v) :: (3, .int (nI k)) :: (4, .int x4) :: (5, .int x5) :: y) [] := by
    intro r
    induction r with
    | zero =>
      intro hr τ M' np x4 x5 y h hf hl hu' e1 e2 e4 e5 hy
      subst e4 e5
      refine z_iload dX2_placeCopies_11 rfl ?_
      refine z_iload_n dX2_placeCopies_13 rfl ?_
      refine z_icmp_ge (tgt := 62) dX2_placeCopies_14 (by decide) (fun h14 => ?_) (fun h14 => absurd (nI_le (by omega) (by omega)) h14)
      refine z_iload dX2_placeCopies_62 rfl ?_
      refine z_ireturn dX2_placeCopies_64 rfl (by first | rfl | exact bI_nar _) ?_
      rw [← e1, ← e2]
      exact rQ_of ⟨h, hf⟩
    | succ r ih =>
      intro hr τ M' np x4 x5 y h hf hl hu' e1 e2 e4 e5 hy
      subst e4 e5
      have hS := h.store
      have hun' := h.unit hu'
      have ek : k - (r + 1) + 1 = k - r := by omega
      have hfree := c_X2_freestSite g h hl hu'
      cases hp : plc τ u 4 with
      | none =>
        rw [hp] at hfree
        have g1 := plcs_none v hp (r + 1)
        have g2 := plcs_none v hp r
        rcases hy with rfl | ⟨z, rfl⟩
        · skip
          refine z_iload dX2_placeCopies_11 rfl ?_
          refine z_iload_n dX2_placeCopies_13 rfl ?_
          refine z_icmp_ge (tgt := 62) dX2_placeCopies_14 (by decide) (fun h14 => absurd h14 (nI_ge (by omega) (by omega))) (fun h14 => ?_)
          refine z_aload_n dX2_placeCopies_17 rfl rfl ?_
          refine z_aload_n dX2_placeCopies_18 rfl rfl ?_
          refine z_ivI dX2_placeCopies_19 cv_RX2_86 hS (hfree) ⟨⟨by decide, by decide⟩, (by first | exact Nat.zero_le _ | decide | omega), (by first | exact Nat.zero_le _ | decide | omega)⟩ rfl rfl (Nat.le_of_ble_eq_true rfl) ?_
          refine z_istore dX2_placeCopies_22 (by decide) ?_
          refine z_iload dX2_placeCopies_24 rfl ?_
          refine z_if_lt (tgt := 56) dX2_placeCopies_26 (by decide) (fun h26 => ?_) (fun h26 => absurd (by decide) h26)
          refine z_inc ki_1 dX2_placeCopies_56 rfl (by decide) ?_
          refine z_goto (tgt := 11) dX2_placeCopies_59 (by decide) ?_
          exact ih (by omega) τ M' np _ _ _ h hf hl hu' (by rw [g2.1, ← g1.1]; exact e1) (by rw [g2.2, ← g1.2]; exact e2) rfl (by rw [← ek]; exact nI_add _ 1) (Or.inr ⟨_, rfl⟩)
        · skip
          refine z_iload dX2_placeCopies_11 rfl ?_
          refine z_iload_n dX2_placeCopies_13 rfl ?_
          refine z_icmp_ge (tgt := 62) dX2_placeCopies_14 (by decide) (fun h14 => absurd h14 (nI_ge (by omega) (by omega))) (fun h14 => ?_)
          refine z_aload_n dX2_placeCopies_17 rfl rfl ?_
          refine z_aload_n dX2_placeCopies_18 rfl rfl ?_
          refine z_ivI dX2_placeCopies_19 cv_RX2_86 hS (hfree) ⟨⟨by decide, by decide⟩, (by first | exact Nat.zero_le _ | decide | omega), (by first | exact Nat.zero_le _ | decide | omega)⟩ rfl rfl (Nat.le_of_ble_eq_true rfl) ?_
          refine z_istore dX2_placeCopies_22 (by decide) ?_
          refine z_iload dX2_placeCopies_24 rfl ?_
          refine z_if_lt (tgt := 56) dX2_placeCopies_26 (by decide) (fun h26 => ?_) (fun h26 => absurd (by decide) h26)
          refine z_inc ki_1 dX2_placeCopies_56 rfl (by decide) ?_
          refine z_goto (tgt := 11) dX2_placeCopies_59 (by decide) ?_
          exact ih (by omega) τ M' np _ _ _ h hf hl hu' (by rw [g2.1, ← g1.1]; exact e1) (by rw [g2.2, ← g1.2]; exact e2) rfl (by rw [← ek]; exact nI_add _ 1) (Or.inr ⟨_, rfl⟩)
      | some s =>
        rw [hp] at hfree
        have hfree : con g mX2_freestSite 0 0 [.ref (A 6 0), .ref (A 13 u)] M' (rI (nI s) M') := hfree
        have hs4 := plc_lt τ u 4 s hp
        have hcp := (plc_some τ u 4 s hp).1
        obtain ⟨g1, g2⟩ := plcs_some (v := v) hp r
        have hl2 := LD_plS hl v h100 hcp
        rcases hy with rfl | ⟨z, rfl⟩
        · skip
          refine z_iload dX2_placeCopies_11 rfl ?_
          refine z_iload_n dX2_placeCopies_13 rfl ?_
          refine z_icmp_ge (tgt := 62) dX2_placeCopies_14 (by decide) (fun h14 => absurd h14 (nI_ge (by omega) (by omega))) (fun h14 => ?_)
          refine z_aload_n dX2_placeCopies_17 rfl rfl ?_
          refine z_aload_n dX2_placeCopies_18 rfl rfl ?_
          refine z_ivI dX2_placeCopies_19 cv_RX2_86 hS (hfree) ⟨⟨by decide, by decide⟩, (by first | exact Nat.zero_le _ | decide | omega), (by first | exact Nat.zero_le _ | decide | omega)⟩ rfl rfl (Nat.le_of_ble_eq_true rfl) ?_
          refine z_istore dX2_placeCopies_22 (by decide) ?_
          refine z_iload dX2_placeCopies_24 rfl ?_
          refine z_if_lt (tgt := 56) dX2_placeCopies_26 (by decide) (fun h26 => absurd h26 (nI_pos (by omega))) (fun h26 => ?_)
          refine z_iload dX2_placeCopies_29 rfl ?_
          refine z_ic ki_4 dX2_placeCopies_31 ?_
          refine z_icmp_ge (tgt := 56) dX2_placeCopies_32 (by decide) (fun h32 => absurd h32 (nI_ge hs4 (by omega))) (fun h32 => ?_)
          refine z_aload_n dX2_placeCopies_35 rfl rfl ?_
          refine z_iload dX2_placeCopies_36 rfl ?_
          refine z_iload_n dX2_placeCopies_38 rfl ?_
          refine z_ivQ dX2_placeCopies_39 cv_RX2_89 hun' (c_X3_placeAtF g h hF hf hu' hs4 v) ⟨⟨by decide, by decide⟩, (by first | exact Nat.zero_le _ | decide | omega), (by first | exact Nat.zero_le _ | decide | omega)⟩ rfl rfl (Nat.le_of_ble_eq_true rfl) (fun M39 hQ39 => ?_)
          have hS9 := hQ39.1.store
          have hld9 := hQ39.1.loads
          refine z_aload_n dX2_placeCopies_42 rfl rfl ?_
          refine z_getfield dX2_placeCopies_43 fg_RX2_22 hS9 rfl ?_
          refine z_iload dX2_placeCopies_46 rfl ?_
          refine z_dup2 dX2_placeCopies_48 rfl rfl ?_
          refine z_iaload dX2_placeCopies_49 hld9 rfl hs4 (by decide) ?_
          refine z_ic ki_1 dX2_placeCopies_50 ?_
          refine z_iadd dX2_placeCopies_51 ?_
          rw [nI_add]
          refine z_iastore dX2_placeCopies_52 hld9 rfl hs4 (by decide) ?_
          refine z_inc ki_1 dX2_placeCopies_53 rfl (by decide) ?_
          refine z_inc ki_1 dX2_placeCopies_56 rfl (by decide) ?_
          refine z_goto (tgt := 11) dX2_placeCopies_59 (by decide) ?_
          exact ih (by omega) (plS τ u s v) _ (np + 1) _ _ _ (hQ39.1.cloads s _) (hF _ _ hQ39.2).2.2 hl2 hu' (by rw [← g1]; exact e1) (by rw [← e2, g2]; omega) (nI_add np 1) (by rw [← ek]; exact nI_add _ 1) (Or.inr ⟨_, rfl⟩)
        · skip
          refine z_iload dX2_placeCopies_11 rfl ?_
          refine z_iload_n dX2_placeCopies_13 rfl ?_
          refine z_icmp_ge (tgt := 62) dX2_placeCopies_14 (by decide) (fun h14 => absurd h14 (nI_ge (by omega) (by omega))) (fun h14 => ?_)
          refine z_aload_n dX2_placeCopies_17 rfl rfl ?_
          refine z_aload_n dX2_placeCopies_18 rfl rfl ?_
          refine z_ivI dX2_placeCopies_19 cv_RX2_86 hS (hfree) ⟨⟨by decide, by decide⟩, (by first | exact Nat.zero_le _ | decide | omega), (by first | exact Nat.zero_le _ | decide | omega)⟩ rfl rfl (Nat.le_of_ble_eq_true rfl) ?_
          refine z_istore dX2_placeCopies_22 (by decide) ?_
          refine z_iload dX2_placeCopies_24 rfl ?_
          refine z_if_lt (tgt := 56) dX2_placeCopies_26 (by decide) (fun h26 => absurd h26 (nI_pos (by omega))) (fun h26 => ?_)
          refine z_iload dX2_placeCopies_29 rfl ?_
          refine z_ic ki_4 dX2_placeCopies_31 ?_
          refine z_icmp_ge (tgt := 56) dX2_placeCopies_32 (by decide) (fun h32 => absurd h32 (nI_ge hs4 (by omega))) (fun h32 => ?_)
          refine z_aload_n dX2_placeCopies_35 rfl rfl ?_
          refine z_iload dX2_placeCopies_36 rfl ?_
          refine z_iload_n dX2_placeCopies_38 rfl ?_
          refine z_ivQ dX2_placeCopies_39 cv_RX2_89 hun' (c_X3_placeAtF g h hF hf hu' hs4 v) ⟨⟨by decide, by decide⟩, (by first | exact Nat.zero_le _ | decide | omega), (by first | exact Nat.zero_le _ | decide | omega)⟩ rfl rfl (Nat.le_of_ble_eq_true rfl) (fun M39 hQ39 => ?_)
          have hS9 := hQ39.1.store
          have hld9 := hQ39.1.loads
          refine z_aload_n dX2_placeCopies_42 rfl rfl ?_
          refine z_getfield dX2_placeCopies_43 fg_RX2_22 hS9 rfl ?_
          refine z_iload dX2_placeCopies_46 rfl ?_
          refine z_dup2 dX2_placeCopies_48 rfl rfl ?_
          refine z_iaload dX2_placeCopies_49 hld9 rfl hs4 (by decide) ?_
          refine z_ic ki_1 dX2_placeCopies_50 ?_
          refine z_iadd dX2_placeCopies_51 ?_
          rw [nI_add]
          refine z_iastore dX2_placeCopies_52 hld9 rfl hs4 (by decide) ?_
          refine z_inc ki_1 dX2_placeCopies_53 rfl (by decide) ?_
          refine z_inc ki_1 dX2_placeCopies_56 rfl (by decide) ?_
          refine z_goto (tgt := 11) dX2_placeCopies_59 (by decide) ?_
          exact ih (by omega) (plS τ u s v) _ (np + 1) _ _ _ (hQ39.1.cloads s _) (hF _ _ hQ39.2).2.2 hl2 hu' (by rw [← g1]; exact e1) (by rw [← e2, g2]; omega) (nI_add np 1) (by rw [← ek]; exact nI_add _ 1) (Or.inr ⟨_, rfl⟩)
  refine z_aload_n dX2_placeCopies_0 rfl rfl ?_
  refine z_ivI dX2_placeCopies_1 cv_RX2_83 hun (c_X3_countLacking g hW hu h5) ⟨⟨by decide, by decide⟩, (by first | exact Nat.zero_le _ | decide | omega), (by first | exact Nat.zero_le _ | decide | omega)⟩ rfl rfl (Nat.le_of_ble_eq_true rfl) ?_
  rw [hk']
  refine z_istore_n dX2_placeCopies_4 (by decide) ?_
  refine z_ic ki_0 dX2_placeCopies_5 ?_
  refine z_istore dX2_placeCopies_6 (by decide) ?_
  refine z_ic ki_0 dX2_placeCopies_8 ?_
  refine z_istore dX2_placeCopies_9 (by decide) ?_
  exact loop k (Nat.le_refl _) σ M 0 _ _ _ hW hM hL hu rfl (Nat.zero_add _) rfl (by rw [Nat.sub_self]) (Or.inl rfl)
theorem c_X2_placeGoodCopies {F : Mem → Prop} (hW : W2 g A σ ρ x M) (hL : LD σ) {u : Nat} (hF : FK F A u) (hM : F M) (hu : u < σ.un) (h100 : u < 100) (hw5 : σ.a 5 u < 2 ^ 30) : con g mX2_placeGoodCopies 0 0 [.ref (A 6 0), .ref (A 13 u)] M (rQ (some (.int (nI (plGn σ u)))) (fun M' => W2 g A (plG σ u) ρ x M' ∧ F M')) := by
  refine con_i ?_ (by decide) rfl rfl (by simp [lv_args, Value.category]) (by simp [lv_args, lnd, Value.category])
  have hun := hW.unit hu
  have hS := hW.store
  have hgs := c_X3_goodSite g hW hu
  cases hf : good σ u with
  | none =>
    rw [hf] at hgs
    rw [show plGn σ u = 0 by unfold plGn; rw [hf], show plG σ u = σ by unfold plG; rw [hf]]
    refine z_aload_n dX2_placeGoodCopies_0 rfl rfl ?_
    refine z_ivI dX2_placeGoodCopies_1 cv_RX2_76 hun (hgs) ⟨⟨by decide, by decide⟩, (by first | exact Nat.zero_le _ | decide | omega), (by first | exact Nat.zero_le _ | decide | omega)⟩ rfl rfl (Nat.le_of_ble_eq_true rfl) ?_
    refine z_istore_n dX2_placeGoodCopies_4 (by decide) ?_
    refine z_iload_n dX2_placeGoodCopies_5 rfl ?_
    refine z_ic ki_m1 dX2_placeGoodCopies_6 ?_
    refine z_icmp_ne (tgt := 14) dX2_placeGoodCopies_7 (by decide) (fun h7 => absurd h7 (fun q => q rfl)) (fun h7 => ?_)
    refine z_ic ki_0 dX2_placeGoodCopies_10 ?_
    refine z_goto (tgt := 24) dX2_placeGoodCopies_11 (by decide) ?_
    refine z_ireturn dX2_placeGoodCopies_24 rfl (by first | rfl | exact bI_nar _) ?_
    exact rQ_of ⟨hW, hM⟩
  | some f =>
    rw [hf] at hgs
    have hf4 := good_lt 4 f hf
    have hcf := good_cp 4 f hf
    have hne : ¬ oI (some f) = -1 := oI_n (by omega)
    rw [show plGn σ u = plcn u (σ.hs u f) (σ.a 5 u - cpc σ u 4) σ by unfold plGn; rw [hf], show plG σ u = plK σ u (σ.hs u f) by unfold plG; rw [hf]]
    refine z_aload_n dX2_placeGoodCopies_0 rfl rfl ?_
    refine z_ivI dX2_placeGoodCopies_1 cv_RX2_76 hun (hgs) ⟨⟨by decide, by decide⟩, (by first | exact Nat.zero_le _ | decide | omega), (by first | exact Nat.zero_le _ | decide | omega)⟩ rfl rfl (Nat.le_of_ble_eq_true rfl) ?_
    refine z_istore_n dX2_placeGoodCopies_4 (by decide) ?_
    refine z_iload_n dX2_placeGoodCopies_5 rfl ?_
    refine z_ic ki_m1 dX2_placeGoodCopies_6 ?_
    refine z_icmp_ne (tgt := 14) dX2_placeGoodCopies_7 (by decide) (fun h7 => ?_) (fun h7 => absurd h7 hne)
    refine z_aload_n dX2_placeGoodCopies_14 rfl rfl ?_
    refine z_aload_n dX2_placeGoodCopies_15 rfl rfl ?_
    refine z_aload_n dX2_placeGoodCopies_16 rfl rfl ?_
    refine z_iload_n dX2_placeGoodCopies_17 rfl ?_
    refine z_ivI dX2_placeGoodCopies_18 cv_RX2_79 hun (c_X3_heldAt g hW hu hf4 hcf) ⟨⟨by decide, by decide⟩, (by first | exact Nat.zero_le _ | decide | omega), (by first | exact Nat.zero_le _ | decide | omega)⟩ rfl rfl (Nat.le_of_ble_eq_true rfl) ?_
    refine z_ivQ dX2_placeGoodCopies_21 cv_RX2_68 hS (c_X2_placeCopies g hW hL hF hM hu h100 hw5 (σ.hs u f)) ⟨⟨by decide, by decide⟩, (by first | exact Nat.zero_le _ | decide | omega), (by first | exact Nat.zero_le _ | decide | omega)⟩ rfl rfl (Nat.le_of_ble_eq_true rfl) (fun M21 hQ21 => ?_)
    refine z_ireturn dX2_placeGoodCopies_24 rfl (by first | rfl | exact bI_nar _) ?_
    exact rQ_of hQ21
theorem FK_T (A : Nat → Nat → Nat) (u : Nat) : FK (fun _ => True) A u := fun _ _ _ => ⟨trivial, trivial, trivial⟩
end PLACE
