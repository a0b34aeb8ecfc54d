/-! a version comes -/
theorem plcs_same (u : Nat) (v : Int32) : ∀ (k : Nat) (σ : ST), (plcs u v k σ).1 = σ.1 ∧ (∀ i, i ≠ 7 → (plcs u v k σ).a i = σ.a i) ∧ (plcs u v k σ).2.2.1 = σ.2.2.1 ∧ (plcs u v k σ).2.2.2.1 = σ.2.2.2.1 ∧ (plcs u v k σ).2.2.2.2.2.1 = σ.2.2.2.2.2.1
  | 0, σ => ⟨rfl, fun _ _ => rfl, rfl, rfl, rfl⟩
  | k + 1, σ => by
    unfold plcs
    cases plc σ u 4 with
    | none => exact ⟨rfl, fun _ _ => rfl, rfl, rfl, rfl⟩
    | some s =>
      obtain ⟨h1, h2, h3, h4, h5⟩ := plcs_same u v k (((σ.sc u s true).sh u s v).sa 7 s (σ.a 7 s + 1))
      exact ⟨h1, fun i hi => (h2 i hi).trans (f2_a hi), h3, h4, h5⟩
/-- the unit that a version comes to have -/
def adF (σ : ST) (d : Bool) (v : Int32) : Nat := match ufn σ d v σ.un with
  | none => σ.un
  | some f => f
def adU (σ : ST) (d : Bool) (v : Int32) : ST := match ufn σ d v σ.un with
  | none => (((σ.sb 1 σ.un true).sb 2 σ.un d).si 2 σ.un v).sn 2 (σ.un + 1)
  | some _ => σ
def adS (σ : ST) (w : Nat) (d : Bool) (v : Int32) : ST := (adU σ d v).sa 5 (adF σ d v) (if w < (adU σ d v).a 5 (adF σ d v) then (adU σ d v).a 5 (adF σ d v) else w)
/-- the unit's copies are placed with a value -/
def plK (σ : ST) (u : Nat) (v : Int32) : ST := plcs u v (σ.a 5 u - cpc σ u 4) σ
def plG (σ : ST) (u : Nat) : ST := match good σ u with
  | none => σ
  | some s => plK σ u (σ.hs u s)
def adP (σ : ST) (w : Nat) (d : Bool) (v : Int32) : ST := match ufn σ d v σ.un with
  | none => plK (adS σ w d v) (adF σ d v) v
  | some _ => plG (adS σ w d v) (adF σ d v)
def adV (σ : ST) (o of f b : Nat) : ST := ((((σ.sb 0 (10 * o + σ.a 1 o) true).sa 2 (10 * o + σ.a 1 o) of).sa 3 (10 * o + σ.a 1 o) f).sa 4 (10 * o + σ.a 1 o) b).sa 1 o (σ.a 1 o + 1)
def adR (σ : ST) (o of b : Nat) (d : Bool) (v : Int32) : ST := adV (adP σ (σ.a 0 o) d v) o of (adF σ d v) b
/-- a row that no cell of the reference holds -/
theorem W2.pg4 {g : GG} {A : Nat → Nat → Nat} {σ ρ : ST} {x : XT} {M : Mem} (h : W2 g A σ ρ x M) (j v : Nat) : W2 g A σ (ρ.sa 4 j v) x M := by
  have h21 : ∀ i', i' ∈ [1, 2, 3, 5, 6, 7, 8, 9, 10, 12, 13, 14, 15, 16, 17, 18] → wcell g A σ (ρ.sa 4 j v) x 21 i' = wcell g A σ ρ x 21 i' := by
    intro i' hm
    simp only [List.mem_cons, List.not_mem_nil, or_false] at hm
    rcases hm with rfl | rfl | rfl | rfl | rfl | rfl | rfl | rfl | rfl | rfl | rfl | rfl | rfl | rfl | rfl | rfl <;> rfl
  have key : ∀ k' i', wdom σ k' i' → True → wcell g A σ ρ x k' i' = wcell g A σ (ρ.sa 4 j v) x k' i' := by
    intro k' i' hd hne
    match k', hd, hne with
    | 0, hd, hne => exact rfl
    | 1, hd, hne => exact rfl
    | 2, hd, hne => exact rfl
    | 3, hd, hne => exact rfl
    | 4, hd, hne => exact rfl
    | 5, hd, hne => exact rfl
    | 6, hd, hne => exact rfl
    | 7, hd, hne => exact rfl
    | 8, hd, hne => exact rfl
    | 9, hd, hne => exact rfl
    | 10, hd, hne => exact rfl
    | 11, hd, hne => exact rfl
    | 12, hd, hne => exact rfl
    | 13, hd, hne => exact rfl
    | 14, hd, hne => exact rfl
    | 15, hd, hne => exact rfl
    | 16, hd, hne => exact rfl
    | 17, hd, hne => exact rfl
    | 18, hd, hne => exact rfl
    | 19, hd, hne => exact rfl
    | 20, hd, hne => exact rfl
    | 21, hd, hne => exact (h21 i' hd).symm
    | 22, hd, hne => exact rfl
    | n + 23, hd, hne => exact rfl
  exact ⟨fun k i hd => (h.1 k i hd).trans (congrArg some (key k i hd trivial)), h.2⟩
section ADDS
variable (g : GG) {A : Nat → Nat → Nat} {σ ρ : ST} {x : XT} {M : Mem}
theorem c_X6_adds (hW : W2 g A σ ρ x M) (hw : WF ρ) {o of : Nat} (b : Nat) (ho : o < 10) (hh : ρ.a 1 o < 10) (d : Bool) (v under : Int32) (hn : ufn ρ d v ρ.un = none → ρ.un < 100) (hs5 : ∀ u, u < 100 → ρ.a 5 u < 2 ^ 30) (hs0 : ρ.a 0 o < 2 ^ 30) :
    con g mX6_adds 0 0 [.ref (A 20 0), .int (nI o), .int (nI of), .int (bI d), .int v, .int under] M (rQ (some (.int (nI (ρ.a 1 o)))) (W2 g A σ (adR ρ o of b d v) (x.srb (f1 x.rb (10 * o + ρ.a 1 o) under)))) := by
  refine con_i ?_ (by decide) rfl rfl (by simp [lv_args, Value.category]) (by simp [lv_args, lnd, Value.category])
  have hm := hW.m
  have w6 := hW.r6
  have hf100 : adF ρ d v < 100 := by
    unfold adF
    cases hu : ufn ρ d v ρ.un with
    | none => exact hn hu
    | some f => exact Nat.lt_of_lt_of_le (ufn_lt ρ d v _ _ hu) hw.1.2
  have j160 : ∀ (ρ3 : ST) (M3 : Mem) (x8 : Int32), W2 g A σ ρ3 x M3 → ρ3.a 1 o = ρ.a 1 o → adR ρ o of b d v = adV ρ3 o of (adF ρ d v) b →
      tri g mX6_adds 0 0 (rQ (some (.int (nI (ρ.a 1 o)))) (W2 g A σ (adR ρ o of b d v) (x.srb (f1 x.rb (10 * o + ρ.a 1 o) under)))) M3 160 [(0, .ref (A 20 0)), (1, .int (nI o)), (2, .int (nI of)), (3, .int (bI d)), (4, .int v), (5, .int under), (6, .int (nI (10 * o + ρ.a 1 o))), (7, .int (nI (adF ρ d v))), (8, .int x8)] [] := by
    intro ρ3 M3 x8 h3 e1 eR
    have m3 := h3.m
    have v7 := h3.r7
    refine z_aload_n dX6_adds_160 rfl rfl ?_
    refine z_getfield dX6_adds_161 fg_RX6_25 (by assumption) rfl ?_
    refine z_iload dX6_adds_164 rfl ?_
    refine z_ic ki_1 dX6_adds_166 ?_
    refine z_zastore dX6_adds_167 v7 rfl (by omega) (by decide) ?_
    have h4 := h3.pthere (10 * o + ρ.a 1 o) true
    have m4 := h4.m
    have v8 := h4.r8
    refine z_aload_n dX6_adds_168 rfl rfl ?_
    refine z_getfield dX6_adds_169 fg_RX6_29 m4 rfl ?_
    refine z_iload dX6_adds_172 rfl ?_
    refine z_iload_n dX6_adds_174 rfl ?_
    refine z_iastore dX6_adds_175 v8 rfl (by omega) (by decide) ?_
    have h5 := h4.pformat (10 * o + ρ.a 1 o) of
    have m5 := h5.m
    have v9 := h5.r9
    refine z_aload_n dX6_adds_176 rfl rfl ?_
    refine z_getfield dX6_adds_177 fg_RX6_32 m5 rfl ?_
    refine z_iload dX6_adds_180 rfl ?_
    refine z_iload dX6_adds_182 rfl ?_
    refine z_iastore dX6_adds_184 v9 rfl (by omega) (by decide) ?_
    have h6 := (h5.punit (10 * o + ρ.a 1 o) (adF ρ d v)).pg4 (10 * o + ρ.a 1 o) b
    have m6 := h6.m
    have v10 := h6.r10
    refine z_aload_n dX6_adds_185 rfl rfl ?_
    refine z_getfield dX6_adds_186 fg_RX6_35 m6 rfl ?_
    refine z_iload dX6_adds_189 rfl ?_
    refine z_iload dX6_adds_191 rfl ?_
    refine z_iastore dX6_adds_193 v10 rfl (by omega) (by decide) ?_
    have h7 := h6.prb (upd x.rb (10 * o + ρ.a 1 o) under)
    have m7 := h7.m
    have v6 := h7.r6
    refine z_aload_n dX6_adds_194 rfl rfl ?_
    refine z_getfield dX6_adds_195 fg_RX6_22 m7 rfl ?_
    refine z_iload_n dX6_adds_198 rfl ?_
    refine z_dup2 dX6_adds_199 rfl rfl ?_
    refine z_iaload dX6_adds_200 v6 rfl (by omega) (by decide) ?_
    refine z_ic ki_1 dX6_adds_201 ?_
    refine z_iadd dX6_adds_202 ?_
    refine z_iastore dX6_adds_203 v6 rfl (by omega) (by decide) ?_
    rw [show ((((ρ3.sb 0 (10 * o + ρ.a 1 o) true).sa 2 (10 * o + ρ.a 1 o) of).sa 3 (10 * o + ρ.a 1 o) (adF ρ d v)).sa 4 (10 * o + ρ.a 1 o) b).a 1 o = ρ.a 1 o from e1, nI_add]
    have h8 := h7.phad o (ρ.a 1 o + 1)
    have m8 := h8.m
    have v66 := h8.r6
    refine z_aload_n dX6_adds_204 rfl rfl ?_
    refine z_getfield dX6_adds_205 fg_RX6_22 m8 rfl ?_
    refine z_iload_n dX6_adds_208 rfl ?_
    refine z_iaload dX6_adds_209 v66 rfl (by omega) (by decide) ?_
    refine z_ic ki_1 dX6_adds_210 ?_
    refine z_isub dX6_adds_211 ?_
    refine z_ireturn dX6_adds_212 rfl (by first | rfl | exact bI_nar _) ?_
    rw [eR]
    rw [show (((((ρ3.sb 0 (10 * o + ρ.a 1 o) true).sa 2 (10 * o + ρ.a 1 o) of).sa 3 (10 * o + ρ.a 1 o) (adF ρ d v)).sa 4 (10 * o + ρ.a 1 o) b).sa 1 o (ρ.a 1 o + 1)).a 1 o = ρ.a 1 o + 1 from f2_s, show nI 1 = 1 from rfl, nI_pred]
    have h9 : adV ρ3 o of (adF ρ d v) b = ((((ρ3.sb 0 (10 * o + ρ.a 1 o) true).sa 2 (10 * o + ρ.a 1 o) of).sa 3 (10 * o + ρ.a 1 o) (adF ρ d v)).sa 4 (10 * o + ρ.a 1 o) b).sa 1 o (ρ.a 1 o + 1) := by unfold adV; rw [e1]
    rw [h9]
    exact rQ_of h8
  have j120 : ∀ (M2 : Mem) (nw : Bool), nw = (ufn ρ d v ρ.un).isNone → W2 g A σ (adS ρ (ρ.a 0 o) d v) x M2 →
      tri g mX6_adds 0 0 (rQ (some (.int (nI (ρ.a 1 o)))) (W2 g A σ (adR ρ o of b d v) (x.srb (f1 x.rb (10 * o + ρ.a 1 o) under)))) M2 120 [(0, .ref (A 20 0)), (1, .int (nI o)), (2, .int (nI of)), (3, .int (bI d)), (4, .int v), (5, .int under), (6, .int (nI (10 * o + ρ.a 1 o))), (7, .int (nI (adF ρ d v))), (8, .int (bI nw))] [] := by
    intro M2 nw enw h2
    have m2 := h2.m
    have hS1 : (adS ρ (ρ.a 0 o) d v).a 1 o = ρ.a 1 o := by
      unfold adS adU
      cases ufn ρ d v ρ.un with
      | none => rfl
      | some f => rfl
    have hS5 : (adS ρ (ρ.a 0 o) d v).a 5 (adF ρ d v) < 2 ^ 30 := by
      have h9 : (adU ρ d v).a 5 (adF ρ d v) < 2 ^ 30 := by
        have h8 : (adU ρ d v).a 5 = ρ.a 5 := by
          unfold adU
          cases ufn ρ d v ρ.un with
          | none => rfl
          | some f => rfl
        rw [h8]
        exact hs5 _ hf100
      show f2 _ 5 _ _ 5 _ < _
      rw [f2_s]
      split
      · exact h9
      · exact hs0
    refine z_iload dX6_adds_120 rfl ?_
    skip
    refine z_if_eq (tgt := 137) dX6_adds_122 (by decide) (fun h122 => ?_) (fun h122 => ?_)
    · have hnone : ufn ρ d v ρ.un ≠ none := fun q => by rw [q] at enw; rw [enw] at h122; exact absurd h122 (by decide)
      refine z_aload_n dX6_adds_137 rfl rfl ?_
      refine z_iload dX6_adds_138 rfl ?_
      refine z_ivI dX6_adds_140 cv_RX6_95 m2 (c_X6_good g h2 hf100) ⟨⟨by decide, by decide⟩, (by first | exact Nat.zero_le _ | decide | omega), (by first | exact Nat.zero_le _ | decide | omega)⟩ rfl rfl (Nat.le_of_ble_eq_true rfl) ?_
      refine z_ic ki_m1 dX6_adds_143 ?_
      refine z_icmp_eq (tgt := 160) dX6_adds_144 (by decide) (fun h144 => ?_) (fun h144 => ?_)
      · have hn0 := oI_none h144 (fun n hn => by have := gdn_lt (adS ρ (ρ.a 0 o) d v) (adF ρ d v) 4 n hn; omega)
        refine j160 _ _ _ h2 hS1 ?_
        unfold adR adP
        cases hu : ufn ρ d v ρ.un with
        | none => exact absurd hu hnone
        | some f => simp only [plG, hn0]
      · obtain ⟨s, hs⟩ := oI_some h144
        refine z_aload_n dX6_adds_147 rfl rfl ?_
        refine z_iload dX6_adds_148 rfl ?_
        refine z_aload_n dX6_adds_150 rfl rfl ?_
        refine z_iload dX6_adds_151 rfl ?_
        refine z_ivI dX6_adds_153 cv_RX6_123 m2 (c_X6_goodValue g h2 hf100 hs) ⟨⟨by decide, by decide⟩, (by first | exact Nat.zero_le _ | decide | omega), (by first | exact Nat.zero_le _ | decide | omega)⟩ rfl rfl (Nat.le_of_ble_eq_true rfl) ?_
        refine z_ivQ dX6_adds_156 cv_RX6_120 m2 (c_X6_places g h2 hf100 _ hS5) ⟨⟨by decide, by decide⟩, (by first | exact Nat.zero_le _ | decide | omega), (by first | exact Nat.zero_le _ | decide | omega)⟩ rfl rfl (Nat.le_of_ble_eq_true rfl) (fun M156 hQ156 => ?_)
        refine z_pop dX6_adds_159 rfl ?_
        refine j160 _ _ _ hQ156 ((congrFun ((plcs_same _ _ _ _).2.1 1 (by decide)) o).trans hS1) ?_
        unfold adR adP
        cases hu : ufn ρ d v ρ.un with
        | none => exact absurd hu hnone
        | some f => simp only [plG, hs, plK]
    · refine z_aload_n dX6_adds_125 rfl rfl ?_
      refine z_iload dX6_adds_126 rfl ?_
      refine z_iload dX6_adds_128 rfl ?_
      refine z_ivQ dX6_adds_130 cv_RX6_120 m2 (c_X6_places g h2 hf100 v hS5) ⟨⟨by decide, by decide⟩, (by first | exact Nat.zero_le _ | decide | omega), (by first | exact Nat.zero_le _ | decide | omega)⟩ rfl rfl (Nat.le_of_ble_eq_true rfl) (fun M130 hQ130 => ?_)
      refine z_pop dX6_adds_133 rfl ?_
      refine z_goto (tgt := 160) dX6_adds_134 (by decide) ?_
      refine j160 _ _ _ hQ130 ((congrFun ((plcs_same _ _ _ _).2.1 1 (by decide)) o).trans hS1) ?_
      unfold adR adP
      cases hu : ufn ρ d v ρ.un with
      | none => rfl
      | some f => rw [hu] at enw; rw [enw] at h122; exact absurd rfl h122
  have j81 : ∀ (M1 : Mem) (nw : Bool), nw = (ufn ρ d v ρ.un).isNone → W2 g A σ (adU ρ d v) x M1 →
      tri g mX6_adds 0 0 (rQ (some (.int (nI (ρ.a 1 o)))) (W2 g A σ (adR ρ o of b d v) (x.srb (f1 x.rb (10 * o + ρ.a 1 o) under)))) M1 81 [(0, .ref (A 20 0)), (1, .int (nI o)), (2, .int (nI of)), (3, .int (bI d)), (4, .int v), (5, .int under), (6, .int (nI (10 * o + ρ.a 1 o))), (7, .int (nI (adF ρ d v))), (8, .int (bI nw))] [] := by
    intro M1 nw enw h1
    have m1 := h1.m
    have v15 := h1.r15
    have v5 := h1.r5
    have hU : (adU ρ d v).a 5 = ρ.a 5 ∧ (adU ρ d v).a 0 = ρ.a 0 := by
      unfold adU
      cases ufn ρ d v ρ.un with
      | none => exact ⟨rfl, rfl⟩
      | some f => exact ⟨rfl, rfl⟩
    have hb1 : (adU ρ d v).a 5 (adF ρ d v) < 2 ^ 30 := by rw [hU.1]; exact hs5 _ hf100
    have hb2 : (adU ρ d v).a 0 o < 2 ^ 30 := by rw [hU.2]; exact hs0
    refine z_aload_n dX6_adds_81 rfl rfl ?_
    refine z_getfield dX6_adds_82 fg_RX6_47 (by assumption) rfl ?_
    refine z_iload dX6_adds_85 rfl ?_
    refine z_aload_n dX6_adds_87 rfl rfl ?_
    refine z_getfield dX6_adds_88 fg_RX6_47 (by assumption) rfl ?_
    refine z_iload dX6_adds_91 rfl ?_
    refine z_iaload dX6_adds_93 v15 rfl (by omega) (by decide) ?_
    refine z_aload_n dX6_adds_94 rfl rfl ?_
    refine z_getfield dX6_adds_95 fg_RX6_19 (by assumption) rfl ?_
    refine z_iload_n dX6_adds_98 rfl ?_
    refine z_iaload dX6_adds_99 v5 rfl (by omega) (by decide) ?_
    refine z_icmp_le (tgt := 113) dX6_adds_100 (by decide) (fun h100 => ?_) (fun h100 => ?_)
    · refine z_aload_n dX6_adds_113 rfl rfl ?_
      refine z_getfield dX6_adds_114 fg_RX6_19 (by assumption) rfl ?_
      refine z_iload_n dX6_adds_117 rfl ?_
      refine z_iaload dX6_adds_118 v5 rfl (by omega) (by decide) ?_
      refine z_iastore dX6_adds_119 v15 rfl (by omega) (by decide) ?_
      refine j120 _ nw enw ?_
      have hc := (nI_leI (by omega) (by omega)).mp h100
      unfold adS
      rw [if_neg (by rw [hU.2] at hc; omega), ← hU.2]
      exact h1.pshould _ _
    · refine z_aload_n dX6_adds_103 rfl rfl ?_
      refine z_getfield dX6_adds_104 fg_RX6_47 (by assumption) rfl ?_
      refine z_iload dX6_adds_107 rfl ?_
      refine z_iaload dX6_adds_109 v15 rfl (by omega) (by decide) ?_
      refine z_goto (tgt := 119) dX6_adds_110 (by decide) ?_
      refine z_iastore dX6_adds_119 v15 rfl (by omega) (by decide) ?_
      refine j120 _ nw enw ?_
      have hc : ¬ _ ≤ _ := fun q => h100 ((nI_leI (by omega) (by omega)).mpr q)
      unfold adS
      rw [if_pos (by rw [hU.2] at hc; omega)]
      exact h1.pshould _ _
  refine z_bi kb_10 dX6_adds_0 ?_
  refine z_iload_n dX6_adds_2 rfl ?_
  refine z_imul dX6_adds_3 ?_
  refine z_aload_n dX6_adds_4 rfl rfl ?_
  refine z_getfield dX6_adds_5 fg_RX6_22 (by assumption) rfl ?_
  refine z_iload_n dX6_adds_8 rfl ?_
  refine z_iaload dX6_adds_9 w6 rfl (by omega) (by decide) ?_
  refine z_iadd dX6_adds_10 ?_
  rw [ix10]
  refine z_istore dX6_adds_11 (by decide) ?_
  refine z_aload_n dX6_adds_13 rfl rfl ?_
  refine z_iload_n dX6_adds_14 rfl ?_
  refine z_iload dX6_adds_15 rfl ?_
  refine z_ivI dX6_adds_17 cv_RX6_116 (by assumption) (c_X6_unitFor g hW hw d v) ⟨⟨by decide, by decide⟩, (by first | exact Nat.zero_le _ | decide | omega), (by first | exact Nat.zero_le _ | decide | omega)⟩ rfl rfl (Nat.le_of_ble_eq_true rfl) ?_
  refine z_istore dX6_adds_20 (by decide) ?_
  refine z_iload dX6_adds_22 rfl ?_
  refine z_ic ki_m1 dX6_adds_24 ?_
  refine z_icmp_ne (tgt := 32) dX6_adds_25 (by decide) (fun h25 => ?_) (fun h25 => ?_)
  · refine z_ic ki_0 dX6_adds_32 ?_
    refine z_istore dX6_adds_33 (by decide) ?_
    refine z_iload dX6_adds_35 rfl ?_
    refine z_if_eq (tgt := 81) dX6_adds_37 (by decide) (fun h37 => ?_) (fun h37 => absurd rfl h37)
    obtain ⟨f, hf⟩ := oI_some h25
    have e1 : oI (ufn ρ d v ρ.un) = nI (adF ρ d v) := by unfold adF; rw [hf]; rfl
    rw [e1]
    refine j81 M false (by rw [hf]; rfl) ?_
    have e2 : adU ρ d v = ρ := by unfold adU; rw [hf]
    rw [e2]
    exact hW
  · refine z_ic ki_1 dX6_adds_28 ?_
    refine z_goto (tgt := 33) dX6_adds_29 (by decide) ?_
    refine z_istore dX6_adds_33 (by decide) ?_
    refine z_iload dX6_adds_35 rfl ?_
    refine z_if_eq (tgt := 81) dX6_adds_37 (by decide) (fun h37 => absurd h37 (by decide)) (fun h37 => ?_)
    have hnone := oI_none h25 (fun n hn => by have := ufn_lt ρ d v _ _ hn; have := hw.1.2; omega)
    have hu100 := hn hnone
    have w12 := hW.r12
    refine z_aload_n dX6_adds_40 rfl rfl ?_
    refine z_getfield dX6_adds_41 fg_RX6_113 (by assumption) rfl ?_
    refine z_istore dX6_adds_44 (by decide) ?_
    refine z_aload_n dX6_adds_46 rfl rfl ?_
    refine z_getfield dX6_adds_47 fg_RX6_38 (by assumption) rfl ?_
    refine z_iload dX6_adds_50 rfl ?_
    refine z_ic ki_1 dX6_adds_52 ?_
    refine z_zastore dX6_adds_53 w12 rfl (by omega) (by decide) ?_
    have h1 := hW.pisunit ρ.un true
    have m1 := h1.m
    have v13 := h1.r13
    refine z_aload_n dX6_adds_54 rfl rfl ?_
    refine z_getfield dX6_adds_55 fg_RX6_41 m1 rfl ?_
    refine z_iload dX6_adds_58 rfl ?_
    refine z_iload_n dX6_adds_60 rfl ?_
    refine z_zastore dX6_adds_61 v13 rfl (by omega) (by decide) ?_
    have h2 := h1.pdiff ρ.un d
    have m2 := h2.m
    have v14 := h2.r14
    refine z_aload_n dX6_adds_62 rfl rfl ?_
    refine z_getfield dX6_adds_63 fg_RX6_44 m2 rfl ?_
    refine z_iload dX6_adds_66 rfl ?_
    refine z_iload dX6_adds_68 rfl ?_
    refine z_iastore dX6_adds_70 v14 rfl (by omega) (by decide) ?_
    have h3 := h2.pvalue ρ.un v
    have m3 := h3.m
    refine z_aload_n dX6_adds_71 rfl rfl ?_
    refine z_dup dX6_adds_72 rfl ?_
    refine z_getfield dX6_adds_73 fg_RX6_113 m3 rfl ?_
    refine z_ic ki_1 dX6_adds_76 ?_
    refine z_iadd dX6_adds_77 ?_
    rw [nI_add]
    refine z_putfield dX6_adds_78 (fp_RX6_113 _) m3 (Nat.le_of_ble_eq_true rfl) rfl rfl ?_
    have e1 : ρ.un = adF ρ d v := by unfold adF; rw [hnone]
    have e2 : adU ρ d v = (((ρ.sb 1 ρ.un true).sb 2 ρ.un d).si 2 ρ.un v).sn 2 (ρ.un + 1) := by unfold adU; rw [hnone]
    have h4 := h3.pun (ρ.un + 1)
    rw [← e2] at h4
    have h5 := j81 _ true (by rw [hnone]; rfl) h4
    rw [← e1] at h5
    exact h5
end ADDS
