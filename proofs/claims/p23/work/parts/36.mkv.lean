/-! the class: a version is made -/
theorem ufn_alk (σ : ST) (d : Bool) (v : Int32) : ∀ n f, ufn σ d v n = some f → σ.b 1 f = true ∧ σ.b 2 f = d ∧ σ.i 2 f = v
  | 0, f, h => by cases h
  | n + 1, f, h => by
    unfold ufn at h
    split at h
    · rename_i hq
      cases h
      exact hq
    · exact ufn_alk σ d v n f h
theorem chf_old {σ τ : ST} (hw : WF σ) (h3 : τ.a 3 = σ.a 3) (h4 : τ.a 4 = σ.a 4) (h2 : ∀ u, u < σ.un → τ.b 2 u = σ.b 2 u) : ∀ n v, vok σ v → chf τ n v = chf σ n v
  | 0, _, _ => rfl
  | n + 1, v, hv => by
    have e3 : τ.a 3 v = σ.a 3 v := congrFun h3 v
    have e4 : τ.a 4 v = σ.a 4 v := congrFun h4 v
    unfold chf
    rw [e3, e4, h2 _ (hw.2.2.1 v hv).1]
    by_cases hd : σ.b 2 (σ.a 3 v) = true
    · rw [if_pos hd, if_pos hd, chf_old hw h3 h4 h2 n _ (hw.bas hv hd).2]
    · rw [if_neg hd, if_neg hd]
theorem chL_old {σ τ : ST} (hw : WF σ) (h3 : τ.a 3 = σ.a 3) (h4 : τ.a 4 = σ.a 4) (h2 : ∀ u, u < σ.un → τ.b 2 u = σ.b 2 u) {v : Nat} (hv : vok σ v) : chL τ v = chL σ v := chf_old hw h3 h4 h2 _ v hv
/-- what obtain leaves alone -/
theorem obS_old (σ : ST) (w : Nat) (d : Bool) (v : Int32) (cap : Nat) : (∀ i, i ≠ 2 → (obS σ w d v cap).n i = σ.n i) ∧ (∀ k, k < 5 → (obS σ w d v cap).a k = σ.a k) ∧ (σ.un ≤ (obS σ w d v cap).un ∧ (obS σ w d v cap).un ≤ σ.un + 1 ∧ adF σ d v < (obS σ w d v cap).un) ∧ (obS σ w d v cap).i 4 = σ.i 4 ∧ (∀ u, u < σ.un → (obS σ w d v cap).b 2 u = σ.b 2 u) ∧ (obS σ w d v cap).b 0 = σ.b 0 ∧ (ufn σ d v σ.un = none → (obS σ w d v cap).un = σ.un + 1 ∧ adF σ d v = σ.un) ∧ (obS σ w d v cap).b 2 (adF σ d v) = d := by
  unfold obS adF
  cases hu : ufn σ d v σ.un with
  | none =>
    obtain ⟨h1, h2, h3, h4, h5⟩ := plcs_same σ.un v ((nuS σ d v w cap).a 5 σ.un - cpc (nuS σ d v w cap) σ.un 4) (nuS σ d v w cap)
    have e1 : ∀ i, (plK (nuS σ d v w cap) σ.un v).n i = (nuS σ d v w cap).n i := congrFun h1
    have eun : (nuS σ d v w cap).un = σ.un + 1 := by simp [nuS, ST.n, ST.sn, ST.sa, ST.sb, ST.si, f1]
    have en : (plK (nuS σ d v w cap) σ.un v).un = σ.un + 1 := (e1 2).trans eun
    refine ⟨fun i hi => (e1 i).trans (by simp [nuS, ST.n, ST.sn, ST.sa, ST.sb, ST.si, f1, hi]), fun k hk => (h2 k (by omega)).trans ?_, ⟨?_, ?_, ?_⟩, ?_, fun u hu' => ?_, ?_, fun _ => ⟨en, rfl⟩, ?_⟩
    · funext j
      have k5 : k ≠ 5 := by omega
      have k6 : k ≠ 6 := by omega
      have k8 : k ≠ 8 := by omega
      have k9 : k ≠ 9 := by omega
      simp [nuS, ST.a, ST.sn, ST.sa, ST.sb, ST.si, f2, k5, k6, k8, k9]
    · show σ.un ≤ (plK (nuS σ d v w cap) σ.un v).un
      omega
    · show (plK (nuS σ d v w cap) σ.un v).un ≤ σ.un + 1
      omega
    · show σ.un < (plK (nuS σ d v w cap) σ.un v).un
      omega
    · exact (congrFun h3 4).trans (funext fun j => by simp [nuS, ST.sn, ST.sa, ST.sb, ST.si, f2, ST.i])
    · refine (congrFun (congrFun h4 2) u).trans ?_
      have : u ≠ σ.un := by omega
      simp [nuS, ST.sn, ST.sa, ST.sb, ST.si, f2, ST.b, this]
    · exact (congrFun h4 0).trans (funext fun j => by simp [nuS, ST.sn, ST.sa, ST.sb, ST.si, f2, ST.b])
    · exact (congrFun (congrFun h4 2) σ.un).trans (by simp [nuS, ST.sn, ST.sa, ST.sb, ST.si, f2])
  | some f =>
    obtain ⟨h1, h2, h3, h4, h5⟩ := plG_same (σ.sa 5 f (if w < σ.a 5 f then σ.a 5 f else w)) f
    have hf := ufn_lt σ d v σ.un f hu
    have en : (plG (σ.sa 5 f (if w < σ.a 5 f then σ.a 5 f else w)) f).un = σ.un := congrFun h1 2
    refine ⟨fun i _ => congrFun h1 i, fun k hk => (h2 k (by omega)).trans (f2_a (by omega)), ⟨?_, ?_, ?_⟩, congrFun h3 4, fun u _ => congrFun (congrFun h4 2) u, congrFun h4 0, (fun q => by cases q), ?_⟩
    · show σ.un ≤ (plG (σ.sa 5 f (if w < σ.a 5 f then σ.a 5 f else w)) f).un
      omega
    · show (plG (σ.sa 5 f (if w < σ.a 5 f then σ.a 5 f else w)) f).un ≤ σ.un + 1
      omega
    · show f < (plG (σ.sa 5 f (if w < σ.a 5 f then σ.a 5 f else w)) f).un
      omega
    · refine (congrFun (congrFun h4 2) f).trans ?_
      exact (ufn_alk σ d v σ.un f hu).2.1
theorem obS_vok {σ : ST} {w : Nat} {d : Bool} {v : Int32} {cap k : Nat} : vok (obS σ w d v cap) k ↔ vok σ k := by
  obtain ⟨h1, h2, -⟩ := obS_old σ w d v cap
  have e1 : (obS σ w d v cap).ob = σ.ob := h1 1 (by decide)
  have e2 : ∀ o, (obS σ w d v cap).a 1 o = σ.a 1 o := congrFun (h2 1 (by decide))
  unfold vok
  rw [e1, e2]
theorem obS_WF {σ : ST} (hw : WF σ) (hun : σ.un < 100) (w : Nat) (d : Bool) (v : Int32) (cap : Nat) : WF (obS σ w d v cap) := by
  obtain ⟨h1, h2, h3, -, h5, h6, -⟩ := obS_old σ w d v cap
  have e1 : (obS σ w d v cap).ob = σ.ob := h1 1 (by decide)
  have e2 : ∀ o, (obS σ w d v cap).a 1 o = σ.a 1 o := congrFun (h2 1 (by decide))
  have e3 : ∀ o, (obS σ w d v cap).a 3 o = σ.a 3 o := congrFun (h2 3 (by decide))
  have e4 : ∀ o, (obS σ w d v cap).a 4 o = σ.a 4 o := congrFun (h2 4 (by decide))
  refine ⟨⟨by rw [e1]; exact hw.1.1, by omega⟩, fun o ho => by rw [e2]; exact hw.2.1 o (by rw [← e1]; exact ho), fun k hk => ?_, fun k hk => obS_vok.mpr (hw.2.2.2 k (by rw [← h6]; exact hk))⟩
  have hk' := obS_vok.mp hk
  obtain ⟨g1, g2⟩ := hw.2.2.1 k hk'
  rw [e3, e4, h5 _ g1]
  exact ⟨by omega, g2⟩
/-- a base, or null -/
def vB (A : Nat → Nat → Nat) (o : Option Nat) : Value := match o with
  | none => .null
  | some b => .ref (A 19 b)
theorem vB_ref {A : Nat → Nat → Nat} {o : Option Nat} : (vB A o).isRef = true := by cases o <;> rfl
def bsL (σ : ST) (o : Option Nat) : List Nat := match o with
  | none => []
  | some b => chL σ b
def bsV (σ : ST) (o : Option Nat) (c : Int32) : Int32 := match o with
  | none => c
  | some b => c - σ.i 4 b
/-- the class's state when a version is made and not yet its object's -/
def mkS (σ : ST) (w : Nat) (o : Option Nat) (c : Int32) (cap : Nat) : ST := clm (bsL σ o) ((obS σ w o.isSome (bsV σ o c) cap).sa 6 (adF σ o.isSome (bsV σ o c)) ((obS σ w o.isSome (bsV σ o c) cap).a 6 (adF σ o.isSome (bsV σ o c)) + 1))
theorem clm_agr : ∀ (l : List Nat) (τ : ST), agr τ (clm l τ)
  | [], τ => agr.refl τ
  | w :: l, τ => (agr.sa6 τ (τ.a 3 w) (τ.a 6 (τ.a 3 w) + 1)).trans (clm_agr l _)
theorem mkS_agr (σ : ST) (w : Nat) (o : Option Nat) (c : Int32) (cap : Nat) : agr (obS σ w o.isSome (bsV σ o c) cap) (mkS σ w o c cap) := (agr.sa6 _ _ _).trans (clm_agr _ _)
theorem wdom_agr {σ τ : ST} (h : agr σ τ) {k i : Nat} : wdom τ k i ↔ wdom σ k i := by
  have e1 : ∀ o, τ.a 1 o = σ.a 1 o := congrFun (h.2.1 1 (by decide) (by decide))
  have eu := h.un
  have eo := h.ob
  match k with
  | 0 => exact Iff.rfl
  | 1 => exact Iff.rfl
  | 2 => exact Iff.rfl
  | 3 => exact Iff.rfl
  | 4 => exact Iff.rfl
  | 5 => exact Iff.rfl
  | 6 => exact Iff.rfl
  | 7 => exact Iff.rfl
  | 8 => show (i = 0 ∧ 0 < τ.un) ↔ (i = 0 ∧ 0 < σ.un); rw [eu]
  | 9 => exact Iff.rfl
  | 10 => exact Iff.rfl
  | 11 => exact Iff.rfl
  | 12 => show (i = 0 ∧ 0 < τ.ob) ↔ (i = 0 ∧ 0 < σ.ob); rw [eo]
  | 13 => show i < τ.un ↔ i < σ.un; rw [eu]
  | 14 => show i < τ.un ↔ i < σ.un; rw [eu]
  | 15 => show i < τ.un ↔ i < σ.un; rw [eu]
  | 16 => show i < τ.ob ↔ i < σ.ob; rw [eo]
  | 17 => show i < τ.ob ↔ i < σ.ob; rw [eo]
  | 18 => show i < τ.ob ↔ i < σ.ob; rw [eo]
  | 19 => show (i / 10 < τ.ob ∧ i % 10 < τ.a 1 (i / 10)) ↔ (i / 10 < σ.ob ∧ i % 10 < σ.a 1 (i / 10)); rw [eo, e1]
  | 20 => exact Iff.rfl
  | 21 => exact Iff.rfl
  | 22 => exact Iff.rfl
  | n + 23 => exact Iff.rfl
section MKV
variable (g : GG) {A : Nat → Nat → Nat} {σ ρ : ST} {x : XT} {M : Mem}
/-- what holds behind makeVersion: the version stands at q, outside the world yet -/
def MKV (g : GG) (A : Nat → Nat → Nat) (σ ρ : ST) (x : XT) (M : Mem) (w : Nat) (o : Option Nat) (f c : Int32) (q : Nat) (M' : Mem) : Prop := ∃ A' cap, (σ.un + 1 ≤ cap ∧ cap ≤ 150) ∧ W2 g A' (mkS σ w o c cap) ρ x M' ∧ M' q = some (ob 5 [.ref (A' 13 (adF σ o.isSome (bsV σ o c))), vB A' o, .int f, .int c, .int (bI true)]) ∧ (∀ k i, wdom (mkS σ w o c cap) k i → A' k i ≠ q) ∧ (∀ k i, wdom σ k i → k ≠ 8 → A' k i = A k i) ∧ KP A σ M M' ∧ OD A A' σ (mkS σ w o c cap) M
theorem c_X5_makeVersion {B : Nat} (hW : W2 g A σ ρ x M) (hw : WF σ) (hC : CAP σ) (hN : ND σ) (hq : UQ σ) (hL : LD σ) (hH : HB B σ) (hB : B < 2147483648) (h5 : ∀ u, u < σ.un → σ.a 5 u < 2 ^ 30) (hun : σ.un < 100) (zc : ∀ s, σ.cp σ.un s = false) (zh : ∀ s, σ.hs σ.un s = 0) {w : Nat} (hwt : w < 2 ^ 30) (o : Option Nat) (ho : ∀ b, o = some b → vok σ b) (f c : Int32) : con g mX5_makeVersion 5 171 [.ref (A 0 0), vB A o, .int f, .int c, .int (nI w)] M (rN (MKV g A σ ρ x M w o f c)) := by
  have hA := hW.hall
  have hcon := c_X2_obtain g hW hw hC hN hq hL hH hB h5 hun zc zh hwt o.isSome (bsV σ o c)
  have hgo : ∀ (q36 : Nat) (M36 : Mem), OBT g A σ ρ x M w o.isSome (bsV σ o c) q36 M36 → tri g mX5_makeVersion 1 5 (rN (MKV g A σ ρ x M w o f c)) M36 36 [(0, .ref (A 0 0)), (1, vB A o), (2, .int f), (3, .int c), (4, .int (nI w)), (5, .int (bsV σ o c))] [.ref q36] := by
    intro q36 M36 hO
    obtain ⟨A', cap, e36, hcap, hW1, hkeep, hKP, hOD⟩ := hO
    obtain ⟨t1, t2, t3, t4, t5, t6, t7, t8⟩ := obS_old σ w o.isSome (bsV σ o c) cap
    have hw1 := obS_WF hw hun w o.isSome (bsV σ o c) cap
    have hfu := t3.2.2
    have evB : vB A o = vB A' o := by
      cases o with
      | none => rfl
      | some b => exact congrArg Value.ref (hkeep 19 b (ho b rfl) (by decide)).symm
    refine z_astore dX5_makeVersion_36 (by decide) rfl ?_
    refine z_new dX5_makeVersion_38 nw_RX5_113 (by decide) (by decide) (fun q fq => ?_)
    refine z_dup dX5_makeVersion_41 rfl ?_
    refine z_aload dX5_makeVersion_42 rfl rfl ?_
    refine z_aload_n dX5_makeVersion_44 rfl vB_ref ?_
    refine z_iload_n dX5_makeVersion_45 rfl ?_
    refine z_iload_n dX5_makeVersion_46 rfl ?_
    refine z_ipQ dX5_makeVersion_47 ci_RX5_265 (c_X4_init (b := 0) g vB_ref f c mset_eq) ⟨⟨by decide, by decide⟩, (by first | exact Nat.zero_le _ | decide | omega), (by first | exact Nat.zero_le _ | decide | omega)⟩ rfl rfl (Nat.le_of_ble_eq_true rfl) (fun M47 hQ47 => ?_)
    have nq : ∀ z e, M36 z = some e → z ≠ q := fun z e hz c => by rw [c, fq] at hz; cases hz
    have hk47 : ∀ z e, M36 z = some e → M47 z = some e := fun z e hz => by rw [hQ47.2 z (nq z e hz), mset_ne (nq z e hz)]; exact hz
    have hW47 := hW1.out hk47
    have hdq : ∀ k i, wdom (obS σ w o.isSome (bsV σ o c) cap) k i → A' k i ≠ q := fun k i hd => nq _ _ (hW1.1 k i hd)
    have hKP47 : KP A σ M M47 := fun z h1 h3 => by
      have e := hKP z h1 h3
      have zq : z ≠ q := fun c => by
        cases hz : M z with
        | none => exact h1 hz
        | some e' => rw [hz, c, fq] at e; cases e
      rw [hQ47.2 z zq, mset_ne zq]
      exact e
    have hr47 : M47 q = some (ob 5 [.ref (A' 13 (adF σ o.isSome (bsV σ o c))), vB A' o, .int f, .int c, .int (bI true)]) := by rw [hQ47.1, e36, evB]
    have hbL : (vB A' o = .null ∧ bsL σ o = []) ∨ ∃ b, vok (obS σ w o.isSome (bsV σ o c) cap) b ∧ vB A' o = .ref (A' 19 b) ∧ bsL σ o = chL (obS σ w o.isSome (bsV σ o c) cap) b := by
      cases o with
      | none => exact Or.inl ⟨rfl, rfl⟩
      | some b => exact Or.inr ⟨b, obS_vok.mpr (ho b rfl), rfl, (chL_old hw (t2 3 (by decide)) (t2 4 (by decide)) t5 (ho b rfl)).symm⟩
    refine z_astore dX5_makeVersion_50 (by decide) rfl ?_
    refine z_aload dX5_makeVersion_52 rfl rfl ?_
    refine z_ivQ dX5_makeVersion_54 cv_RX5_268 hr47 (c_X4_claimUnits (F := fun M' => M' q = some (ob 5 [.ref (A' 13 (adF σ o.isSome (bsV σ o c))), vB A' o, .int f, .int c, .int (bI true)]) ∧ KP A σ M M') g hW47 hw1 hfu (fun M1 e u hu hF => ⟨(mset_ne (Ne.symm (hdq 13 u hu))).trans hF.1, fun z h1 h3 => (mset_ne (Ne.symm (hOD z h1 h3 13 u hu))).trans (hF.2 z h1 h3)⟩) ⟨hr47, hKP47⟩ (fun M1 hF => hF.1) hbL) ⟨⟨by decide, by decide⟩, (by first | exact Nat.zero_le _ | decide | omega), (by first | exact Nat.zero_le _ | decide | omega)⟩ rfl rfl (Nat.le_of_ble_eq_true rfl) (fun M54 hQ54 => ?_)
    refine z_aload dX5_makeVersion_57 rfl rfl ?_
    refine z_areturn dX5_makeVersion_59 rfl rfl (by first | exact Or.inl ⟨_, rfl⟩ | exact Or.inr ⟨_, rfl⟩) ?_
    have hag := mkS_agr σ w o c cap
    exact rN_of ⟨A', cap, hcap, hQ54.1, hQ54.2.1, fun k i hd => hdq k i ((wdom_agr hag).mp hd), hkeep, hQ54.2.2, fun z h1 h3 k i hd => hOD z h1 h3 k i ((wdom_agr hag).mp hd)⟩
  cases o with
  | none =>
    show con g mX5_makeVersion 5 171 [.ref (A 0 0), .null, .int f, .int c, .int (nI w)] M _
    refine con_i ?_ (by decide) rfl rfl (by simp [lv_args, Value.category]) (by simp [lv_args, lnd, Value.category])
    refine z_aload_n dX5_makeVersion_0 rfl rfl ?_
    refine z_ifnonnull (tgt := 8) rfl dX5_makeVersion_1 (by decide) (fun h1 => ?_) (fun h1 => ?_)
    · exact absurd rfl h1
    · refine z_iload_n dX5_makeVersion_4 rfl ?_
      refine z_goto (tgt := 14) dX5_makeVersion_5 (by decide) ?_
      refine z_istore dX5_makeVersion_14 (by decide) ?_
      refine z_aload_n dX5_makeVersion_16 rfl rfl ?_
      refine z_getfield dX5_makeVersion_17 fg_RX5_19 (by assumption) rfl ?_
      refine z_aload_n dX5_makeVersion_20 rfl rfl ?_
      refine z_ifnull (tgt := 28) rfl dX5_makeVersion_21 (by decide) (fun h21 => ?_) (fun h21 => ?_)
      · refine z_ic ki_0 dX5_makeVersion_28 ?_
        refine z_iload dX5_makeVersion_29 rfl ?_
        refine z_iload dX5_makeVersion_31 rfl ?_
        refine z_ivN dX5_makeVersion_33 cv_RX5_261 hW.store (hcon) ⟨⟨by decide, by decide⟩, (by first | exact Nat.zero_le _ | decide | omega), (by first | exact Nat.zero_le _ | decide | omega)⟩ rfl rfl (Nat.le_of_ble_eq_true rfl) (fun q33 M33 hQ33 => ?_)
        exact hgo q33 M33 hQ33
      · exact absurd rfl h21
  | some b =>
    have hver := hW.ver (ho b rfl)
    show con g mX5_makeVersion 5 171 [.ref (A 0 0), .ref (A 19 b), .int f, .int c, .int (nI w)] M _
    refine con_i ?_ (by decide) rfl rfl (by simp [lv_args, Value.category]) (by simp [lv_args, lnd, Value.category])
    refine z_aload_n dX5_makeVersion_0 rfl rfl ?_
    refine z_ifnonnull (tgt := 8) rfl dX5_makeVersion_1 (by decide) (fun h1 => ?_) (fun h1 => ?_)
    · refine z_iload_n dX5_makeVersion_8 rfl ?_
      refine z_aload_n dX5_makeVersion_9 rfl rfl ?_
      refine z_getfield dX5_makeVersion_10 fg_RX5_258 hver rfl ?_
      refine z_isub dX5_makeVersion_13 ?_
      refine z_istore dX5_makeVersion_14 (by decide) ?_
      refine z_aload_n dX5_makeVersion_16 rfl rfl ?_
      refine z_getfield dX5_makeVersion_17 fg_RX5_19 (by assumption) rfl ?_
      refine z_aload_n dX5_makeVersion_20 rfl rfl ?_
      refine z_ifnull (tgt := 28) rfl dX5_makeVersion_21 (by decide) (fun h21 => ?_) (fun h21 => ?_)
      · cases h21
      · refine z_ic ki_1 dX5_makeVersion_24 ?_
        refine z_goto (tgt := 29) dX5_makeVersion_25 (by decide) ?_
        refine z_iload dX5_makeVersion_29 rfl ?_
        refine z_iload dX5_makeVersion_31 rfl ?_
        refine z_ivN dX5_makeVersion_33 cv_RX5_261 hW.store (hcon) ⟨⟨by decide, by decide⟩, (by first | exact Nat.zero_le _ | decide | omega), (by first | exact Nat.zero_le _ | decide | omega)⟩ rfl rfl (Nat.le_of_ble_eq_true rfl) (fun q33 M33 hQ33 => ?_)
        exact hgo q33 M33 hQ33
    · cases h1
end MKV
