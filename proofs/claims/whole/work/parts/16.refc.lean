/-! the calls on copies and sites, the reference's part -/
/-- how many units there are, of the first n -/
def unn (σ : ST) : Nat → Nat
  | 0 => 0
  | n + 1 => unn σ n + (if σ.b 1 n = true then 1 else 0)
theorem unn_le (σ : ST) : ∀ n, unn σ n ≤ n
  | 0 => Nat.le_refl 0
  | n + 1 => by
    have h := unn_le σ n
    unfold unn
    split <;> omega
def o_units (σ : ST) : OP := (0, nI (unn σ σ.un), σ)
/-- how many copies are lacking, of the first n units -/
def lkn (σ : ST) : Nat → Nat
  | 0 => 0
  | n + 1 => lkn σ n + (if σ.b 1 n = true then σ.a 5 n - cpc σ n 4 else 0)
def o_lacking (σ : ST) : OP := (0, nI (lkn σ σ.un), σ)
/-- a set of places, of the first n -/
def bset (f : Nat → Bool) : Nat → Int32
  | 0 => nI 0
  | n + 1 => bset f n ||| (if f n = true then nI 1 <<< (nI n &&& 31) else nI 0)
def isU (σ : ST) (u : Int32) : Bool := inR σ.un u && σ.b 1 (tN u)
def o_sites (σ : ST) (u : Int32) : OP := if isU σ u = true then (0, bset (σ.cp (tN u)) 4, σ) else (1, nI 0, σ)
/-- how many sound copies, of the first n sites -/
def snn (σ : ST) (u : Nat) : Nat → Nat
  | 0 => 0
  | n + 1 => snn σ u n + (if snd σ u n = true then 1 else 0)
def o_sound (σ : ST) (u : Int32) : OP := if isU σ u = true then (0, nI (snn σ (tN u) 4), σ) else (1, nI 0, σ)
def dmOk (s u c : Int32) : Bool := inK 0 3 s && (decide ((-1000) ≤ c ∧ c ≤ nI 1000) && !decide (c = 0))
def o_damage (σ : ST) (s u c : Int32) : OP := if dmOk s u c = true then (if (isU σ u && σ.cp (tN u) (tN s)) = true then (0, bI (snd (σ.sh (tN u) (tN s) (σ.hs (tN u) (tN s) + c)) (tN u) (tN s)), σ.sh (tN u) (tN s) (σ.hs (tN u) (tN s) + c)) else (2, nI 0, σ)) else (1, nI 0, σ)
/-- a site's copies are gone, of the first n units -/
def clS (s : Nat) : Nat → ST → ST
  | 0, σ => σ
  | n + 1, σ => (clS s n σ).sc n s false
def clN (σ : ST) (s : Nat) : Nat → Nat
  | 0 => 0
  | n + 1 => clN σ s n + (if σ.cp n s = true then 1 else 0)
def o_toggleSite (σ : ST) (s : Int32) : OP := if inK 0 3 s = true then (0, nI (clN σ (tN s) σ.un), clS (tN s) σ.un (σ.sb 4 (tN s) (!σ.b 4 (tN s)))) else (1, nI 0, σ)
/-- all units that have a good value, of the first n: their lacking copies are placed -/
def rpS (σ0 : ST) : Nat → ST
  | 0 => σ0
  | n + 1 => if (rpS σ0 n).b 1 n = true then plG (rpS σ0 n) n else rpS σ0 n
def plGn (σ : ST) (u : Nat) : Nat := match good σ u with
  | none => 0
  | some s => plcn u (σ.hs u s) (σ.a 5 u - cpc σ u 4) σ
def rpN (σ0 : ST) : Nat → Nat
  | 0 => 0
  | n + 1 => rpN σ0 n + (if (rpS σ0 n).b 1 n = true then plGn (rpS σ0 n) n else 0)
def o_replicate (σ : ST) : OP := (0, nI (rpN σ σ.un), rpS σ σ.un)
theorem plG_same (σ : ST) (u : Nat) : (plG σ u).1 = σ.1 ∧ (∀ i, i ≠ 7 → (plG σ u).a i = σ.a i) ∧ (plG σ u).2.2.1 = σ.2.2.1 ∧ (plG σ u).2.2.2.1 = σ.2.2.2.1 ∧ (plG σ u).2.2.2.2.2.1 = σ.2.2.2.2.2.1 := by
  unfold plG
  cases good σ u with
  | none => exact ⟨rfl, fun _ _ => rfl, rfl, rfl, rfl⟩
  | some s => exact plcs_same u _ _ σ
theorem rpS_same (σ : ST) : ∀ n, (rpS σ n).1 = σ.1 ∧ (∀ i, i ≠ 7 → (rpS σ n).a i = σ.a i) ∧ (rpS σ n).2.2.1 = σ.2.2.1 ∧ (rpS σ n).2.2.2.1 = σ.2.2.2.1 ∧ (rpS σ n).2.2.2.2.2.1 = σ.2.2.2.2.2.1
  | 0 => ⟨rfl, fun _ _ => rfl, rfl, rfl, rfl⟩
  | n + 1 => by
    obtain ⟨h1, h2, h3, h4, h5⟩ := rpS_same σ n
    unfold rpS
    split
    · obtain ⟨g1, g2, g3, g4, g5⟩ := plG_same (rpS σ n) n
      exact ⟨g1.trans h1, fun i hi => (g2 i hi).trans (h2 i hi), g3.trans h3, g4.trans h4, g5.trans h5⟩
    · exact ⟨h1, h2, h3, h4, h5⟩
section REFC
variable (g : GG) {A : Nat → Nat → Nat} {σ ρ : ST} {x : XT} {M : Mem}
theorem c_X6_units (hW : W2 g A σ ρ x M) (hw : WF ρ) : con g mX6_units 0 0 [.ref (A 20 0)] M (rQ (some (.int (o_units ρ).2.1)) (W2 g A σ (o_units ρ).2.2 (x.sthr (nI (o_units ρ).1)))) := by
  refine con_i ?_ (by decide) rfl rfl (by simp [lv_args, Value.category]) (by simp [lv_args, lnd, Value.category])
  have hm := hW.m
  have w12 := hW.r12
  have hun := hw.1.2
  have loop : ∀ j, j ≤ ρ.un → ∀ x1 x2, x1 = nI (unn ρ j) → x2 = nI j → tri g mX6_units 0 0 (rQ (some (.int (o_units ρ).2.1)) (W2 g A σ (o_units ρ).2.2 (x.sthr (nI (o_units ρ).1)))) M 4 [(0, .ref (A 20 0)), (1, .int x1), (2, .int x2)] [] := by
    refine lp_up ρ.un ?_ ?_
    · intro x1 x2 e1 e2
      subst e2
      refine z_iload_n dX6_units_4 rfl ?_
      refine z_aload_n dX6_units_5 rfl rfl ?_
      refine z_getfield dX6_units_6 fg_RX6_113 (by assumption) rfl ?_
      refine z_icmp_ge (tgt := 35) dX6_units_9 (by decide) (fun h9 => ?_) (fun h9 => absurd (nI_le (by omega) (by omega)) h9)
      refine z_aload_n dX6_units_35 rfl rfl ?_
      refine z_iload_n dX6_units_36 rfl ?_
      refine z_ivQ dX6_units_37 cv_RX6_152 hm (c_X6_tells g hW _) ⟨⟨by decide, by decide⟩, (by first | exact Nat.zero_le _ | decide | omega), (by first | exact Nat.zero_le _ | decide | omega)⟩ rfl rfl (Nat.le_of_ble_eq_true rfl) (fun M37 hQ37 => ?_)
      refine z_ireturn dX6_units_40 rfl (by first | rfl | exact bI_nar _) ?_
      rw [e1]
      exact rQ_of hQ37
    · intro j hj ih x1 x2 e1 e2
      subst e2
      refine z_iload_n dX6_units_4 rfl ?_
      refine z_aload_n dX6_units_5 rfl rfl ?_
      refine z_getfield dX6_units_6 fg_RX6_113 (by assumption) rfl ?_
      refine z_icmp_ge (tgt := 35) dX6_units_9 (by decide) (fun h9 => absurd h9 (nI_ge hj (by omega))) (fun h9 => ?_)
      refine z_iload_n dX6_units_12 rfl ?_
      refine z_aload_n dX6_units_13 rfl rfl ?_
      refine z_getfield dX6_units_14 fg_RX6_38 (by assumption) rfl ?_
      refine z_iload_n dX6_units_17 rfl ?_
      refine z_zaload dX6_units_18 w12 rfl (by omega) (by decide) ?_
      refine z_if_eq (tgt := 26) dX6_units_19 (by decide) (fun h19 => ?_) (fun h19 => ?_)
      · refine z_ic ki_0 dX6_units_26 ?_
        refine z_iadd dX6_units_27 ?_
        refine z_istore_n dX6_units_28 (by decide) ?_
        refine z_inc ki_1 dX6_units_29 rfl (by decide) ?_
        refine z_goto (tgt := 4) dX6_units_32 (by decide) ?_
        exact ih _ _ (by rw [e1, nI_add]; simp [unn, bI_eq0.mp h19]) (nI_add j 1)
      · refine z_ic ki_1 dX6_units_22 ?_
        refine z_goto (tgt := 27) dX6_units_23 (by decide) ?_
        refine z_iadd dX6_units_27 ?_
        refine z_istore_n dX6_units_28 (by decide) ?_
        refine z_inc ki_1 dX6_units_29 rfl (by decide) ?_
        refine z_goto (tgt := 4) dX6_units_32 (by decide) ?_
        exact ih _ _ (by rw [e1, nI_add]; simp [unn, bI_ne0.mp h19]) (nI_add j 1)
  refine z_ic ki_0 dX6_units_0 ?_
  refine z_istore_n dX6_units_1 (by decide) ?_
  refine z_ic ki_0 dX6_units_2 ?_
  refine z_istore_n dX6_units_3 (by decide) ?_
  exact loop 0 (by omega) _ _ rfl rfl
theorem c_X6_lacking (hW : W2 g A σ ρ x M) (hw : WF ρ) (hs5 : ∀ u, u < 100 → ρ.a 5 u < 2 ^ 30) : con g mX6_lacking 0 0 [.ref (A 20 0)] M (rQ (some (.int (o_lacking ρ).2.1)) (W2 g A σ (o_lacking ρ).2.2 (x.sthr (nI (o_lacking ρ).1)))) := by
  refine con_i ?_ (by decide) rfl rfl (by simp [lv_args, Value.category]) (by simp [lv_args, lnd, Value.category])
  have hm := hW.m
  have w12 := hW.r12
  have w15 := hW.r15
  have hun := hw.1.2
  have loop : ∀ j, j ≤ ρ.un → ∀ x1 x2, x1 = nI (lkn ρ j) → x2 = nI j → tri g mX6_lacking 0 0 (rQ (some (.int (o_lacking ρ).2.1)) (W2 g A σ (o_lacking ρ).2.2 (x.sthr (nI (o_lacking ρ).1)))) M 4 [(0, .ref (A 20 0)), (1, .int x1), (2, .int x2)] [] := by
    refine lp_up ρ.un ?_ ?_
    · intro x1 x2 e1 e2
      subst e2
      refine z_iload_n dX6_lacking_4 rfl ?_
      refine z_aload_n dX6_lacking_5 rfl rfl ?_
      refine z_getfield dX6_lacking_6 fg_RX6_113 (by assumption) rfl ?_
      refine z_icmp_ge (tgt := 56) dX6_lacking_9 (by decide) (fun h9 => ?_) (fun h9 => absurd (nI_le (by omega) (by omega)) h9)
      refine z_aload_n dX6_lacking_56 rfl rfl ?_
      refine z_iload_n dX6_lacking_57 rfl ?_
      refine z_ivQ dX6_lacking_58 cv_RX6_152 hm (c_X6_tells g hW _) ⟨⟨by decide, by decide⟩, (by first | exact Nat.zero_le _ | decide | omega), (by first | exact Nat.zero_le _ | decide | omega)⟩ rfl rfl (Nat.le_of_ble_eq_true rfl) (fun M58 hQ58 => ?_)
      refine z_ireturn dX6_lacking_61 rfl (by first | rfl | exact bI_nar _) ?_
      rw [e1]
      exact rQ_of hQ58
    · intro j hj ih x1 x2 e1 e2
      subst e2
      have hb5 := hs5 j (by omega)
      have hcl := cpc_le ρ j 4
      refine z_iload_n dX6_lacking_4 rfl ?_
      refine z_aload_n dX6_lacking_5 rfl rfl ?_
      refine z_getfield dX6_lacking_6 fg_RX6_113 (by assumption) rfl ?_
      refine z_icmp_ge (tgt := 56) dX6_lacking_9 (by decide) (fun h9 => absurd h9 (nI_ge hj (by omega))) (fun h9 => ?_)
      refine z_aload_n dX6_lacking_12 rfl rfl ?_
      refine z_getfield dX6_lacking_13 fg_RX6_38 (by assumption) rfl ?_
      refine z_iload_n dX6_lacking_16 rfl ?_
      refine z_zaload dX6_lacking_17 w12 rfl (by omega) (by decide) ?_
      refine z_if_eq (tgt := 36) dX6_lacking_18 (by decide) (fun h18 => ?_) (fun h18 => ?_)
      · refine z_ic ki_0 dX6_lacking_36 ?_
        refine z_istore_n dX6_lacking_37 (by decide) ?_
        refine z_iload_n dX6_lacking_38 rfl ?_
        refine z_iload_n dX6_lacking_39 rfl ?_
        refine z_if_le (tgt := 47) dX6_lacking_40 (by decide) (fun h40 => ?_) (fun h40 => absurd (by decide) h40)
        refine z_ic ki_0 dX6_lacking_47 ?_
        refine z_iadd dX6_lacking_48 ?_
        refine z_istore_n dX6_lacking_49 (by decide) ?_
        refine tri.take 3 ?_
        refine z_inc ki_1 dX6_lacking_50 rfl (by decide) ?_
        refine z_goto (tgt := 4) dX6_lacking_53 (by decide) ?_
        exact ih _ _ (by rw [e1, nI_add]; simp [lkn, bI_eq0.mp h18]) (nI_add j 1)
      · refine z_aload_n dX6_lacking_21 rfl rfl ?_
        refine z_getfield dX6_lacking_22 fg_RX6_47 (by assumption) rfl ?_
        refine z_iload_n dX6_lacking_25 rfl ?_
        refine z_iaload dX6_lacking_26 w15 rfl (by omega) (by decide) ?_
        refine z_aload_n dX6_lacking_27 rfl rfl ?_
        refine z_iload_n dX6_lacking_28 rfl ?_
        refine z_ivI dX6_lacking_29 cv_RX6_104 hm (c_X6_copies g hW (u := j) (by omega)) ⟨⟨by decide, by decide⟩, (by first | exact Nat.zero_le _ | decide | omega), (by first | exact Nat.zero_le _ | decide | omega)⟩ rfl rfl (Nat.le_of_ble_eq_true rfl) ?_
        refine z_isub dX6_lacking_32 ?_
        refine z_goto (tgt := 37) dX6_lacking_33 (by decide) ?_
        refine z_istore_n dX6_lacking_37 (by decide) ?_
        refine z_iload_n dX6_lacking_38 rfl ?_
        refine z_iload_n dX6_lacking_39 rfl ?_
        refine z_if_le (tgt := 47) dX6_lacking_40 (by decide) (fun h40 => ?_) (fun h40 => ?_)
        · refine z_ic ki_0 dX6_lacking_47 ?_
          refine z_iadd dX6_lacking_48 ?_
          refine z_istore_n dX6_lacking_49 (by decide) ?_
          refine tri.take 3 ?_
          refine z_inc ki_1 dX6_lacking_50 rfl (by decide) ?_
          refine z_goto (tgt := 4) dX6_lacking_53 (by decide) ?_
          refine ih _ _ ?_ (nI_add j 1)
          have hle : ρ.a 5 j ≤ cpc ρ j 4 := by
            by_cases hq : ρ.a 5 j ≤ cpc ρ j 4
            · exact hq
            · exfalso
              rw [pk_sub (by omega), show (0 : Int32) = nI 0 from rfl] at h40
              have := (nI_leI (by omega) (by omega)).mp h40
              omega
          rw [e1, nI_add, lkn, if_pos (yt h18), show ρ.a 5 j - cpc ρ j 4 = 0 by omega]
        · refine z_iload_n dX6_lacking_43 rfl ?_
          refine z_goto (tgt := 48) dX6_lacking_44 (by decide) ?_
          refine z_iadd dX6_lacking_48 ?_
          refine z_istore_n dX6_lacking_49 (by decide) ?_
          refine tri.take 3 ?_
          refine z_inc ki_1 dX6_lacking_50 rfl (by decide) ?_
          refine z_goto (tgt := 4) dX6_lacking_53 (by decide) ?_
          refine ih _ _ ?_ (nI_add j 1)
          have hle : cpc ρ j 4 ≤ ρ.a 5 j := by
            by_cases hq : cpc ρ j 4 ≤ ρ.a 5 j
            · exact hq
            · exact absurd (Int32.le_of_lt (pk_sneg (by omega) (by omega))) h40
          rw [e1, pk_sub hle, nI_add, lkn, if_pos (yt h18)]
  refine z_ic ki_0 dX6_lacking_0 ?_
  refine z_istore_n dX6_lacking_1 (by decide) ?_
  refine z_ic ki_0 dX6_lacking_2 ?_
  refine z_istore_n dX6_lacking_3 (by decide) ?_
  exact loop 0 (by omega) _ _ rfl rfl
theorem c_X6_sites (hW : W2 g A σ ρ x M) (hw : WF ρ) (u : Int32) : con g mX6_sites 0 0 [.ref (A 20 0), .int u] M (rQ (some (.int (o_sites ρ u).2.1)) (W2 g A σ (o_sites ρ u).2.2 (x.sthr (nI (o_sites ρ u).1)))) := by
  refine con_i ?_ (by decide) rfl rfl (by simp [lv_args, Value.category]) (by simp [lv_args, lnd, Value.category])
  have hm := hW.m
  have hun := hw.1.2
  have loop : ∀ {n : Nat} {M' : Mem}, n < 100 → W2 g A σ ρ (x.sthr (nI 0)) M' → ∀ j, j ≤ 4 → ∀ x2 x3, x2 = bset (ρ.cp n) j → x3 = nI j → tri g mX6_sites 0 0 (rQ (some (.int (bset (ρ.cp n) 4))) (W2 g A σ ρ (x.sthr (nI 0)))) M' 26 [(0, .ref (A 20 0)), (1, .int (nI n)), (2, .int x2), (3, .int x3)] [] := by
    intro n M' hn h
    have hm' := h.m
    have w16 := h.r16
    refine lp_up 4 ?_ ?_
    · intro x2 x3 e2 e3
      subst e3
      refine z_iload_n dX6_sites_26 rfl ?_
      refine z_ic ki_4 dX6_sites_27 ?_
      refine z_icmp_ge (tgt := 60) dX6_sites_28 (by decide) (fun h28 => ?_) (fun h28 => absurd (nI_le (by omega) (by omega)) h28)
      refine z_iload_n dX6_sites_60 rfl ?_
      refine z_ireturn dX6_sites_61 rfl (by first | rfl | exact bI_nar _) ?_
      rw [e2]
      exact rQ_of h
    · intro j hj ih x2 x3 e2 e3
      subst e3
      refine z_iload_n dX6_sites_26 rfl ?_
      refine z_ic ki_4 dX6_sites_27 ?_
      refine z_icmp_ge (tgt := 60) dX6_sites_28 (by decide) (fun h28 => absurd h28 (nI_ge hj (by omega))) (fun h28 => ?_)
      refine z_iload_n dX6_sites_31 rfl ?_
      refine z_aload_n dX6_sites_32 rfl rfl ?_
      refine z_getfield dX6_sites_33 fg_RX6_50 (by assumption) rfl ?_
      refine z_ic ki_4 dX6_sites_36 ?_
      refine z_iload_n dX6_sites_37 rfl ?_
      refine z_imul dX6_sites_38 ?_
      refine z_iload_n dX6_sites_39 rfl ?_
      refine z_iadd dX6_sites_40 ?_
      refine z_ldB4 dX6_sites_41 w16 (ix4 n j) hj (by omega) (by decide) ?_
      refine z_if_eq (tgt := 51) dX6_sites_42 (by decide) (fun h42 => ?_) (fun h42 => ?_)
      · refine z_ic ki_0 dX6_sites_51 ?_
        refine z_ior dX6_sites_52 ?_
        refine z_istore_n dX6_sites_53 (by decide) ?_
        refine z_inc ki_1 dX6_sites_54 rfl (by decide) ?_
        refine z_goto (tgt := 26) dX6_sites_57 (by decide) ?_
        exact ih _ _ (by rw [e2, bset, if_neg (nt h42)]) (nI_add j 1)
      · refine z_ic ki_1 dX6_sites_45 ?_
        refine z_iload_n dX6_sites_46 rfl ?_
        refine z_ishl dX6_sites_47 ?_
        refine z_goto (tgt := 52) dX6_sites_48 (by decide) ?_
        refine z_ior dX6_sites_52 ?_
        refine z_istore_n dX6_sites_53 (by decide) ?_
        refine z_inc ki_1 dX6_sites_54 rfl (by decide) ?_
        refine z_goto (tgt := 26) dX6_sites_57 (by decide) ?_
        exact ih _ _ (by rw [e2, bset, if_pos (yt h42)]) (nI_add j 1)
  refine z_aload_n dX6_sites_0 rfl rfl ?_
  refine z_aload_n dX6_sites_1 rfl rfl ?_
  refine z_iload_n dX6_sites_2 rfl ?_
  refine z_ivI dX6_sites_3 cv_RX6_155 (by assumption) (c_X6_is g hW hw u) ⟨⟨by decide, by decide⟩, (by first | exact Nat.zero_le _ | decide | omega), (by first | exact Nat.zero_le _ | decide | omega)⟩ rfl rfl (Nat.le_of_ble_eq_true rfl) ?_
  refine z_if_eq (tgt := 13) dX6_sites_6 (by decide) (fun h6 => ?_) (fun h6 => ?_)
  · refine z_ic ki_1 dX6_sites_13 ?_
    refine z_ivQ dX6_sites_14 cv_RX6_73 hm (c_X6_fails g hW _) ⟨⟨by decide, by decide⟩, (by first | exact Nat.zero_le _ | decide | omega), (by first | exact Nat.zero_le _ | decide | omega)⟩ rfl rfl (Nat.le_of_ble_eq_true rfl) (fun M14 hQ14 => ?_)
    refine z_if_eq (tgt := 22) dX6_sites_17 (by decide) (fun h17 => absurd h17 (by decide)) (fun h17 => ?_)
    refine z_ic ki_0 dX6_sites_20 ?_
    refine z_ireturn dX6_sites_21 rfl (by first | rfl | exact bI_nar _) ?_
    have e : o_sites ρ u = (1, nI 0, ρ) := by
      unfold o_sites
      rw [if_neg (nt h6 : ¬ isU ρ u = true)]
    rw [e]
    exact rQ_of hQ14
  · refine z_ic ki_0 dX6_sites_9 ?_
    refine z_goto (tgt := 14) dX6_sites_10 (by decide) ?_
    refine z_ivQ dX6_sites_14 cv_RX6_73 hm (c_X6_fails g hW _) ⟨⟨by decide, by decide⟩, (by first | exact Nat.zero_le _ | decide | omega), (by first | exact Nat.zero_le _ | decide | omega)⟩ rfl rfl (Nat.le_of_ble_eq_true rfl) (fun M14 hQ14 => ?_)
    refine z_if_eq (tgt := 22) dX6_sites_17 (by decide) (fun h17 => ?_) (fun h17 => absurd rfl h17)
    refine z_ic ki_0 dX6_sites_22 ?_
    refine z_istore_n dX6_sites_23 (by decide) ?_
    refine z_ic ki_0 dX6_sites_24 ?_
    refine z_istore_n dX6_sites_25 (by decide) ?_
    have hu : isU ρ u = true := yt h6
    have hu2 := hu
    unfold isU at hu2
    rw [Bool.and_eq_true] at hu2
    obtain ⟨e1, l1⟩ := inR_of (by omega) hu2.1
    have e : o_sites ρ u = (0, bset (ρ.cp (tN u)) 4, ρ) := by
      unfold o_sites
      rw [if_pos hu]
    rw [e]
    have h9 := loop (show tN u < 100 by omega) hQ14 0 (by omega) _ _ rfl rfl
    rw [← e1] at h9
    exact h9
theorem c_X6_sound (hW : W2 g A σ ρ x M) (hw : WF ρ) (u : Int32) : con g mX6_sound 0 0 [.ref (A 20 0), .int u] M (rQ (some (.int (o_sound ρ u).2.1)) (W2 g A σ (o_sound ρ u).2.2 (x.sthr (nI (o_sound ρ u).1)))) := by
  refine con_i ?_ (by decide) rfl rfl (by simp [lv_args, Value.category]) (by simp [lv_args, lnd, Value.category])
  have hm := hW.m
  have hun := hw.1.2
  have loop : ∀ {n : Nat} {M' : Mem}, n < 100 → W2 g A σ ρ (x.sthr (nI 0)) M' → ∀ j, j ≤ 4 → ∀ x2 x3, x2 = nI (snn ρ n j) → x3 = nI j → tri g mX6_sound 0 0 (rQ (some (.int (nI (snn ρ n 4)))) (W2 g A σ ρ (x.sthr (nI 0)))) M' 26 [(0, .ref (A 20 0)), (1, .int (nI n)), (2, .int x2), (3, .int x3)] [] := by
    intro n M' hn h
    have hm' := h.m
    refine lp_up 4 ?_ ?_
    · intro x2 x3 e2 e3
      subst e3
      refine z_iload_n dX6_sound_26 rfl ?_
      refine z_ic ki_4 dX6_sound_27 ?_
      refine z_icmp_ge (tgt := 54) dX6_sound_28 (by decide) (fun h28 => ?_) (fun h28 => absurd (nI_le (by omega) (by omega)) h28)
      refine z_iload_n dX6_sound_54 rfl ?_
      refine z_ireturn dX6_sound_55 rfl (by first | rfl | exact bI_nar _) ?_
      rw [e2]
      exact rQ_of h
    · intro j hj ih x2 x3 e2 e3
      subst e3
      refine z_iload_n dX6_sound_26 rfl ?_
      refine z_ic ki_4 dX6_sound_27 ?_
      refine z_icmp_ge (tgt := 54) dX6_sound_28 (by decide) (fun h28 => absurd h28 (nI_ge hj (by omega))) (fun h28 => ?_)
      refine z_iload_n dX6_sound_31 rfl ?_
      refine z_aload_n dX6_sound_32 rfl rfl ?_
      refine z_iload_n dX6_sound_33 rfl ?_
      refine z_iload_n dX6_sound_34 rfl ?_
      refine z_ivI dX6_sound_35 cv_RX6_88 hm' (c_X6_isSound g h hn hj) ⟨⟨by decide, by decide⟩, (by first | exact Nat.zero_le _ | decide | omega), (by first | exact Nat.zero_le _ | decide | omega)⟩ rfl rfl (Nat.le_of_ble_eq_true rfl) ?_
      refine z_if_eq (tgt := 45) dX6_sound_38 (by decide) (fun h38 => ?_) (fun h38 => ?_)
      · refine z_ic ki_0 dX6_sound_45 ?_
        refine z_iadd dX6_sound_46 ?_
        refine z_istore_n dX6_sound_47 (by decide) ?_
        refine z_inc ki_1 dX6_sound_48 rfl (by decide) ?_
        refine z_goto (tgt := 26) dX6_sound_51 (by decide) ?_
        exact ih _ _ (by rw [e2, nI_add, snn, if_neg (nt h38)]) (nI_add j 1)
      · refine z_ic ki_1 dX6_sound_41 ?_
        refine z_goto (tgt := 46) dX6_sound_42 (by decide) ?_
        refine z_iadd dX6_sound_46 ?_
        refine z_istore_n dX6_sound_47 (by decide) ?_
        refine z_inc ki_1 dX6_sound_48 rfl (by decide) ?_
        refine z_goto (tgt := 26) dX6_sound_51 (by decide) ?_
        exact ih _ _ (by rw [e2, nI_add, snn, if_pos (yt h38)]) (nI_add j 1)
  refine z_aload_n dX6_sound_0 rfl rfl ?_
  refine z_aload_n dX6_sound_1 rfl rfl ?_
  refine z_iload_n dX6_sound_2 rfl ?_
  refine z_ivI dX6_sound_3 cv_RX6_155 (by assumption) (c_X6_is g hW hw u) ⟨⟨by decide, by decide⟩, (by first | exact Nat.zero_le _ | decide | omega), (by first | exact Nat.zero_le _ | decide | omega)⟩ rfl rfl (Nat.le_of_ble_eq_true rfl) ?_
  refine z_if_eq (tgt := 13) dX6_sound_6 (by decide) (fun h6 => ?_) (fun h6 => ?_)
  · refine z_ic ki_1 dX6_sound_13 ?_
    refine z_ivQ dX6_sound_14 cv_RX6_73 hm (c_X6_fails g hW _) ⟨⟨by decide, by decide⟩, (by first | exact Nat.zero_le _ | decide | omega), (by first | exact Nat.zero_le _ | decide | omega)⟩ rfl rfl (Nat.le_of_ble_eq_true rfl) (fun M14 hQ14 => ?_)
    refine z_if_eq (tgt := 22) dX6_sound_17 (by decide) (fun h17 => absurd h17 (by decide)) (fun h17 => ?_)
    refine z_ic ki_0 dX6_sound_20 ?_
    refine z_ireturn dX6_sound_21 rfl (by first | rfl | exact bI_nar _) ?_
    have e : o_sound ρ u = (1, nI 0, ρ) := by
      unfold o_sound
      rw [if_neg (nt h6 : ¬ isU ρ u = true)]
    rw [e]
    exact rQ_of hQ14
  · refine z_ic ki_0 dX6_sound_9 ?_
    refine z_goto (tgt := 14) dX6_sound_10 (by decide) ?_
    refine z_ivQ dX6_sound_14 cv_RX6_73 hm (c_X6_fails g hW _) ⟨⟨by decide, by decide⟩, (by first | exact Nat.zero_le _ | decide | omega), (by first | exact Nat.zero_le _ | decide | omega)⟩ rfl rfl (Nat.le_of_ble_eq_true rfl) (fun M14 hQ14 => ?_)
    refine z_if_eq (tgt := 22) dX6_sound_17 (by decide) (fun h17 => ?_) (fun h17 => absurd rfl h17)
    refine z_ic ki_0 dX6_sound_22 ?_
    refine z_istore_n dX6_sound_23 (by decide) ?_
    refine z_ic ki_0 dX6_sound_24 ?_
    refine z_istore_n dX6_sound_25 (by decide) ?_
    have hu : isU ρ u = true := yt h6
    have hu2 := hu
    unfold isU at hu2
    rw [Bool.and_eq_true] at hu2
    obtain ⟨e1, l1⟩ := inR_of (by omega) hu2.1
    have e : o_sound ρ u = (0, nI (snn ρ (tN u) 4), ρ) := by
      unfold o_sound
      rw [if_pos hu]
    rw [e]
    have h9 := loop (show tN u < 100 by omega) hQ14 0 (by omega) _ _ rfl rfl
    rw [← e1] at h9
    exact h9
theorem c_X6_damage (hW : W2 g A σ ρ x M) (hw : WF ρ) (s u c : Int32) : con g mX6_damage 0 0 [.ref (A 20 0), .int s, .int u, .int c] M (rQ (some (.int (o_damage ρ s u c).2.1)) (W2 g A σ (o_damage ρ s u c).2.2 (x.sthr (nI (o_damage ρ s u c).1)))) := by
  refine con_i ?_ (by decide) rfl rfl (by simp [lv_args, Value.category]) (by simp [lv_args, lnd, Value.category])
  have hm := hW.m
  have w16 := hW.r16
  have hun := hw.1.2
  refine z_iload_n dX6_damage_0 rfl ?_
  refine z_ic ki_0 dX6_damage_1 ?_
  refine z_ic ki_3 dX6_damage_2 ?_
  refine z_isI dX6_damage_3 cs_RX6_69 (c_X6_isIn g M _ _ _) ⟨⟨by decide, by decide⟩, (by first | exact Nat.zero_le _ | decide | omega), (by first | exact Nat.zero_le _ | decide | omega)⟩ rfl rfl (Nat.le_of_ble_eq_true rfl) ?_
  refine z_if_eq (tgt := 30) dX6_damage_6 (by decide) (fun h6 => ?_) (fun h6 => ?_)
  · refine z_ic ki_0 dX6_damage_30 ?_
    refine z_istore dX6_damage_31 (by decide) ?_
    refine z_aload_n dX6_damage_33 rfl rfl ?_
    refine z_iload dX6_damage_34 rfl ?_
    refine z_if_ne (tgt := 43) dX6_damage_36 (by decide) (fun h36 => absurd h36 (by decide)) (fun h36 => ?_)
    refine z_ic ki_1 dX6_damage_39 ?_
    refine z_goto (tgt := 69) dX6_damage_40 (by decide) ?_
    refine z_ivQ dX6_damage_69 cv_RX6_73 hm (c_X6_fails g hW _) ⟨⟨by decide, by decide⟩, (by first | exact Nat.zero_le _ | decide | omega), (by first | exact Nat.zero_le _ | decide | omega)⟩ rfl rfl (Nat.le_of_ble_eq_true rfl) (fun M69 hQ69 => ?_)
    refine z_if_eq (tgt := 77) dX6_damage_72 (by decide) (fun h72 => absurd h72 (by decide)) (fun h72 => ?_)
    refine z_ic ki_0 dX6_damage_75 ?_
    refine z_ireturn dX6_damage_76 rfl (by first | rfl | exact bI_nar _) ?_
    have e : o_damage ρ s u c = (1, nI 0, ρ) := by
      unfold o_damage dmOk
      rw [if_neg (fun q => by rw [Bool.and_eq_true] at q; exact (nt h6 : ¬ inK 0 3 s = true) q.1)]
    rw [e]
    exact rQ_of hQ69
  · refine z_iload_n dX6_damage_9 rfl ?_
    refine z_si ks_m1000 dX6_damage_10 ?_
    refine z_si ks_1000 dX6_damage_13 ?_
    refine z_isI dX6_damage_16 cs_RX6_69 (c_X6_isIn g M _ _ _) ⟨⟨by decide, by decide⟩, (by first | exact Nat.zero_le _ | decide | omega), (by first | exact Nat.zero_le _ | decide | omega)⟩ rfl rfl (Nat.le_of_ble_eq_true rfl) ?_
    refine z_if_eq (tgt := 30) dX6_damage_19 (by decide) (fun h19 => ?_) (fun h19 => ?_)
    · refine z_ic ki_0 dX6_damage_30 ?_
      refine z_istore dX6_damage_31 (by decide) ?_
      refine z_aload_n dX6_damage_33 rfl rfl ?_
      refine z_iload dX6_damage_34 rfl ?_
      refine z_if_ne (tgt := 43) dX6_damage_36 (by decide) (fun h36 => absurd h36 (by decide)) (fun h36 => ?_)
      refine z_ic ki_1 dX6_damage_39 ?_
      refine z_goto (tgt := 69) dX6_damage_40 (by decide) ?_
      refine z_ivQ dX6_damage_69 cv_RX6_73 hm (c_X6_fails g hW _) ⟨⟨by decide, by decide⟩, (by first | exact Nat.zero_le _ | decide | omega), (by first | exact Nat.zero_le _ | decide | omega)⟩ rfl rfl (Nat.le_of_ble_eq_true rfl) (fun M69 hQ69 => ?_)
      refine z_if_eq (tgt := 77) dX6_damage_72 (by decide) (fun h72 => absurd h72 (by decide)) (fun h72 => ?_)
      refine z_ic ki_0 dX6_damage_75 ?_
      refine z_ireturn dX6_damage_76 rfl (by first | rfl | exact bI_nar _) ?_
      have e : o_damage ρ s u c = (1, nI 0, ρ) := by
        unfold o_damage dmOk
        rw [if_neg (fun q => by rw [Bool.and_eq_true, Bool.and_eq_true] at q; exact (nt h19 : ¬ decide ((-1000) ≤ c ∧ c ≤ nI 1000) = true) q.2.1)]
      rw [e]
      exact rQ_of hQ69
    · refine z_iload_n dX6_damage_22 rfl ?_
      refine z_if_eq (tgt := 30) dX6_damage_23 (by decide) (fun h23 => ?_) (fun h23 => ?_)
      · refine z_ic ki_0 dX6_damage_30 ?_
        refine z_istore dX6_damage_31 (by decide) ?_
        refine z_aload_n dX6_damage_33 rfl rfl ?_
        refine z_iload dX6_damage_34 rfl ?_
        refine z_if_ne (tgt := 43) dX6_damage_36 (by decide) (fun h36 => absurd h36 (by decide)) (fun h36 => ?_)
        refine z_ic ki_1 dX6_damage_39 ?_
        refine z_goto (tgt := 69) dX6_damage_40 (by decide) ?_
        refine z_ivQ dX6_damage_69 cv_RX6_73 hm (c_X6_fails g hW _) ⟨⟨by decide, by decide⟩, (by first | exact Nat.zero_le _ | decide | omega), (by first | exact Nat.zero_le _ | decide | omega)⟩ rfl rfl (Nat.le_of_ble_eq_true rfl) (fun M69 hQ69 => ?_)
        refine z_if_eq (tgt := 77) dX6_damage_72 (by decide) (fun h72 => absurd h72 (by decide)) (fun h72 => ?_)
        refine z_ic ki_0 dX6_damage_75 ?_
        refine z_ireturn dX6_damage_76 rfl (by first | rfl | exact bI_nar _) ?_
        have e : o_damage ρ s u c = (1, nI 0, ρ) := by
          unfold o_damage dmOk
          rw [if_neg (fun q => by rw [Bool.and_eq_true, Bool.and_eq_true] at q; rw [decide_eq_true h23] at q; exact absurd q.2.2 (by decide))]
        rw [e]
        exact rQ_of hQ69
      · refine z_ic ki_1 dX6_damage_26 ?_
        refine z_goto (tgt := 31) dX6_damage_27 (by decide) ?_
        refine z_istore dX6_damage_31 (by decide) ?_
        refine z_aload_n dX6_damage_33 rfl rfl ?_
        refine z_iload dX6_damage_34 rfl ?_
        refine z_if_ne (tgt := 43) dX6_damage_36 (by decide) (fun h36 => ?_) (fun h36 => absurd h36 (by decide))
        have hok : dmOk s u c = true := by
          unfold dmOk
          rw [show inK 0 3 s = true from yt h6, show decide ((-1000) ≤ c ∧ c ≤ nI 1000) = true from yt h19, decide_eq_false h23]
          rfl
        obtain ⟨es, ls⟩ := inR_of (n := 4) (by decide) (show inR 4 s = true from yt h6)
        refine z_aload_n dX6_damage_43 rfl rfl ?_
        refine z_iload_n dX6_damage_44 rfl ?_
        refine z_ivI dX6_damage_45 cv_RX6_155 (by assumption) (c_X6_is g hW hw u) ⟨⟨by decide, by decide⟩, (by first | exact Nat.zero_le _ | decide | omega), (by first | exact Nat.zero_le _ | decide | omega)⟩ rfl rfl (Nat.le_of_ble_eq_true rfl) ?_
        refine z_if_eq (tgt := 68) dX6_damage_48 (by decide) (fun h48 => ?_) (fun h48 => ?_)
        · refine z_ic ki_2 dX6_damage_68 ?_
          refine z_ivQ dX6_damage_69 cv_RX6_73 hm (c_X6_fails g hW _) ⟨⟨by decide, by decide⟩, (by first | exact Nat.zero_le _ | decide | omega), (by first | exact Nat.zero_le _ | decide | omega)⟩ rfl rfl (Nat.le_of_ble_eq_true rfl) (fun M69 hQ69 => ?_)
          refine z_if_eq (tgt := 77) dX6_damage_72 (by decide) (fun h72 => absurd h72 (by decide)) (fun h72 => ?_)
          refine z_ic ki_0 dX6_damage_75 ?_
          refine z_ireturn dX6_damage_76 rfl (by first | rfl | exact bI_nar _) ?_
          have e : o_damage ρ s u c = (2, nI 0, ρ) := by
            unfold o_damage
            rw [if_pos hok, if_neg (fun q => by rw [Bool.and_eq_true] at q; exact (nt h48 : ¬ isU ρ u = true) q.1)]
          rw [e]
          exact rQ_of hQ69
        · have hu : isU ρ u = true := yt h48
          have hu2 := hu
          unfold isU at hu2
          rw [Bool.and_eq_true] at hu2
          obtain ⟨eu, lu⟩ := inR_of (by omega) hu2.1
          have ix := ix4 (tN u) (tN s)
          rw [← eu, ← es] at ix
          refine z_aload_n dX6_damage_51 rfl rfl ?_
          refine z_getfield dX6_damage_52 fg_RX6_50 (by assumption) rfl ?_
          refine z_ic ki_4 dX6_damage_55 ?_
          refine z_iload_n dX6_damage_56 rfl ?_
          refine z_imul dX6_damage_57 ?_
          refine z_iload_n dX6_damage_58 rfl ?_
          refine z_iadd dX6_damage_59 ?_
          refine z_ldB4 dX6_damage_60 w16 ix ls (by omega) (by decide) ?_
          refine z_if_eq (tgt := 68) dX6_damage_61 (by decide) (fun h61 => ?_) (fun h61 => ?_)
          · refine z_ic ki_2 dX6_damage_68 ?_
            refine z_ivQ dX6_damage_69 cv_RX6_73 hm (c_X6_fails g hW _) ⟨⟨by decide, by decide⟩, (by first | exact Nat.zero_le _ | decide | omega), (by first | exact Nat.zero_le _ | decide | omega)⟩ rfl rfl (Nat.le_of_ble_eq_true rfl) (fun M69 hQ69 => ?_)
            refine z_if_eq (tgt := 77) dX6_damage_72 (by decide) (fun h72 => absurd h72 (by decide)) (fun h72 => ?_)
            refine z_ic ki_0 dX6_damage_75 ?_
            refine z_ireturn dX6_damage_76 rfl (by first | rfl | exact bI_nar _) ?_
            have e : o_damage ρ s u c = (2, nI 0, ρ) := by
              unfold o_damage
              rw [if_pos hok, if_neg (fun q => by rw [Bool.and_eq_true] at q; exact nt h61 q.2)]
            rw [e]
            exact rQ_of hQ69
          · refine z_ic ki_0 dX6_damage_64 ?_
            refine z_goto (tgt := 69) dX6_damage_65 (by decide) ?_
            refine z_ivQ dX6_damage_69 cv_RX6_73 hm (c_X6_fails g hW _) ⟨⟨by decide, by decide⟩, (by first | exact Nat.zero_le _ | decide | omega), (by first | exact Nat.zero_le _ | decide | omega)⟩ rfl rfl (Nat.le_of_ble_eq_true rfl) (fun M69 hQ69 => ?_)
            refine z_if_eq (tgt := 77) dX6_damage_72 (by decide) (fun h72 => ?_) (fun h72 => absurd rfl h72)
            have e : o_damage ρ s u c = (0, bI (snd (ρ.sh (tN u) (tN s) (ρ.hs (tN u) (tN s) + c)) (tN u) (tN s)), ρ.sh (tN u) (tN s) (ρ.hs (tN u) (tN s) + c)) := by
              unfold o_damage
              rw [if_pos hok, if_pos (by rw [hu, yt h61]; rfl)]
            rw [e]
            have hm1 := hQ69.m
            have w17 := hQ69.r17
            refine z_aload_n dX6_damage_77 rfl rfl ?_
            refine z_getfield dX6_damage_78 fg_RX6_53 hm1 rfl ?_
            refine z_ic ki_4 dX6_damage_81 ?_
            refine z_iload_n dX6_damage_82 rfl ?_
            refine z_imul dX6_damage_83 ?_
            refine z_iload_n dX6_damage_84 rfl ?_
            refine z_iadd dX6_damage_85 ?_
            refine z_dup2 dX6_damage_86 rfl rfl ?_
            refine z_ldI4 dX6_damage_87 w17 ix ls (by omega) (by decide) ?_
            refine z_iload_n dX6_damage_88 rfl ?_
            refine z_iadd dX6_damage_89 ?_
            refine z_iastore dX6_damage_90 w17 ix (by omega) (by decide) ?_
            have hW2 := hQ69.phas (tN u) (tN s) ls (ρ.hs (tN u) (tN s) + c)
            have hm2 := hW2.m
            have hcon := c_X6_isSound g hW2 (u := tN u) (s := tN s) (by omega) ls
            rw [← eu, ← es] at hcon
            refine z_aload_n dX6_damage_91 rfl rfl ?_
            refine z_iload_n dX6_damage_92 rfl ?_
            refine z_iload_n dX6_damage_93 rfl ?_
            refine z_ivI dX6_damage_94 cv_RX6_88 hm2 (hcon) ⟨⟨by decide, by decide⟩, (by first | exact Nat.zero_le _ | decide | omega), (by first | exact Nat.zero_le _ | decide | omega)⟩ rfl rfl (Nat.le_of_ble_eq_true rfl) ?_
            refine z_ireturn dX6_damage_97 rfl (by first | rfl | exact bI_nar _) ?_
            exact rQ_of hW2
end REFC
