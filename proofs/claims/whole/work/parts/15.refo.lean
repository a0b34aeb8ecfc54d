/-! what each call answers and does: which exception (0 for none), the answer, the state behind it; the reference does so -/
abbrev OP : Type := Nat × Int32 × ST
def inK (a b : Nat) (x : Int32) : Bool := decide (nI a ≤ x ∧ x ≤ nI b)
def o_addFormat (σ : ST) (r : Int32) : OP := if inK 0 100 r = true then (if σ.fo = 8 then (2, nI 0, σ) else (0, nI σ.fo, (σ.si 0 σ.fo r).sn 0 (σ.fo + 1))) else (1, nI 0, σ)
def o_setRisk (σ : ST) (f r : Int32) : OP := if inK 0 100 r = true then (if inR σ.fo f = true then (0, σ.i 0 (tN f), σ.si 0 (tN f) r) else (2, nI 0, σ)) else (1, nI 0, σ)
/-- one step of the search for the best ways from a format -/
def wst (σ : ST) (b : Nat → Int32) (i j : Nat) : Nat → Int32 := if ¬ σ.lo i j = -1 ∧ ¬ b i = -1 ∧ (b j = -1 ∨ b i + nI 100 * σ.lo i j + nI 1 < b j) then f1 b j (b i + nI 100 * σ.lo i j + nI 1) else b
def w0 (a : Nat) : Nat → Int32 := fun k => if k = a then nI 0 else -1
def wayB (σ : ST) (a : Nat) : Nat → Nat → Int32
  | 0 => w0 a
  | n + 1 => wst σ (wayB σ a n) (n / 8 % 8) (n % 8)
def way (σ : ST) (a b : Nat) : Int32 := wayB σ a 512 b
def o_addConversion (σ : ST) (a b l : Int32) : OP := if inK 0 100 l = true ∧ ¬ a = b then (if inR σ.fo a = true ∧ inR σ.fo b = true then (0, way (σ.sl (tN a) (tN b) l) (tN a) (tN b) / nI 100, σ.sl (tN a) (tN b) l) else (2, nI 0, σ)) else (1, nI 0, σ)
def o_bestWay (σ : ST) (a b : Int32) : OP := if inR σ.fo a = true ∧ inR σ.fo b = true then (0, way σ (tN a) (tN b), σ) else (1, nI 0, σ)
theorem wst_eq {σ : ST} {b b' : Nat → Int32} (h : ∀ k, k < 8 → b k = b' k) {i j : Nat} (hi : i < 8) (hj : j < 8) : ∀ k, k < 8 → wst σ b i j k = wst σ b' i j k := by
  intro k hk
  unfold wst
  rw [h i hi, h j hj]
  split
  · unfold f1
    split
    · rfl
    · exact h k hk
  · exact h k hk
theorem nt {b : Bool} (h : bI b = 0) : ¬ b = true := by rw [bI_eq0.mp h]; decide
theorem yt {b : Bool} (h : ¬ bI b = 0) : b = true := bI_ne0.mp h
section REFO
variable (g : GG) {A : Nat → Nat → Nat} {σ ρ : ST} {x : XT} {M : Mem}
theorem c_X6_thrown (hW : W2 g A σ ρ x M) : con g mX6_thrown 0 0 [.ref (A 20 0)] M (rI x.thr M) := by
  refine con_i ?_ (by decide) rfl rfl (by simp [lv_args, Value.category]) (by simp [lv_args, lnd, Value.category])
  have hm := hW.m
  refine z_aload_n dX6_thrown_0 rfl rfl ?_
  refine z_getfield dX6_thrown_1 fg_RX6_63 (by assumption) rfl ?_
  refine z_ireturn dX6_thrown_4 rfl (by first | rfl | exact bI_nar _) ?_
  exact rI_of (by first | rfl | assumption | simp_all)
theorem c_X6_addFormat (hW : W2 g A σ ρ x M) (hf : ρ.fo ≤ 8) (r : Int32) : con g mX6_addFormat 0 0 [.ref (A 20 0), .int r] M (rQ (some (.int (o_addFormat ρ r).2.1)) (W2 g A σ (o_addFormat ρ r).2.2 (x.sthr (nI (o_addFormat ρ r).1)))) := by
  refine con_i ?_ (by decide) rfl rfl (by simp [lv_args, Value.category]) (by simp [lv_args, lnd, Value.category])
  have hm := hW.m
  refine z_aload_n dX6_addFormat_0 rfl rfl ?_
  refine z_iload_n dX6_addFormat_1 rfl ?_
  refine z_ic ki_0 dX6_addFormat_2 ?_
  refine z_bi kb_100 dX6_addFormat_3 ?_
  refine z_isI dX6_addFormat_5 cs_RX6_69 (c_X6_isIn g M _ _ _) ⟨⟨by decide, by decide⟩, (by first | exact Nat.zero_le _ | decide | omega), (by first | exact Nat.zero_le _ | decide | omega)⟩ rfl rfl (Nat.le_of_ble_eq_true rfl) ?_
  refine z_if_ne (tgt := 15) dX6_addFormat_8 (by decide) (fun h8 => ?_) (fun h8 => ?_)
  · refine z_aload_n dX6_addFormat_15 rfl rfl ?_
    refine z_getfield dX6_addFormat_16 fg_RX6_66 (by assumption) rfl ?_
    refine z_bi kb_8 dX6_addFormat_19 ?_
    refine z_icmp_ne (tgt := 28) dX6_addFormat_21 (by decide) (fun h21 => ?_) (fun h21 => ?_)
    · refine z_ic ki_0 dX6_addFormat_28 ?_
      refine z_ivQ dX6_addFormat_29 cv_RX6_73 hm (c_X6_fails g hW _) ⟨⟨by decide, by decide⟩, (by first | exact Nat.zero_le _ | decide | omega), (by first | exact Nat.zero_le _ | decide | omega)⟩ rfl rfl (Nat.le_of_ble_eq_true rfl) (fun M29 hQ29 => ?_)
      refine z_if_eq (tgt := 37) dX6_addFormat_32 (by decide) (fun h32 => ?_) (fun h32 => absurd rfl h32)
      have hm1 := hQ29.m
      have w1 := hQ29.r1
      have hne : ¬ ρ.fo = 8 := fun e => h21 (by rw [e])
      have hk : inK 0 100 r = true := bI_ne0.mp h8
      have e : o_addFormat ρ r = (0, nI ρ.fo, (ρ.si 0 ρ.fo r).sn 0 (ρ.fo + 1)) := by unfold o_addFormat; rw [if_pos hk, if_neg hne]
      rw [e]
      refine z_aload_n dX6_addFormat_37 rfl rfl ?_
      refine z_getfield dX6_addFormat_38 fg_RX6_7 hm1 rfl ?_
      refine z_aload_n dX6_addFormat_41 rfl rfl ?_
      refine z_getfield dX6_addFormat_42 fg_RX6_66 hm1 rfl ?_
      refine z_iload_n dX6_addFormat_45 rfl ?_
      refine z_iastore dX6_addFormat_46 w1 rfl (by omega) (by decide) ?_
      have hW2 := hQ29.prisk ρ.fo r
      have hm2 := hW2.m
      refine z_aload_n dX6_addFormat_47 rfl rfl ?_
      refine z_dup dX6_addFormat_48 rfl ?_
      refine z_getfield dX6_addFormat_49 fg_RX6_66 hm2 rfl ?_
      refine z_ic ki_1 dX6_addFormat_52 ?_
      refine z_iadd dX6_addFormat_53 ?_
      rw [nI_add]
      refine z_putfield dX6_addFormat_54 (fp_RX6_66 _) hm2 (Nat.le_of_ble_eq_true rfl) rfl rfl ?_
      have hW3 := hW2.pfo (ρ.fo + 1)
      have hm3 := hW3.m
      refine z_aload_n dX6_addFormat_57 rfl rfl ?_
      refine z_getfield dX6_addFormat_58 fg_RX6_66 hm3 rfl ?_
      refine z_ic ki_1 dX6_addFormat_61 ?_
      refine z_isub dX6_addFormat_62 ?_
      refine z_ireturn dX6_addFormat_63 rfl (by first | rfl | exact bI_nar _) ?_
      rw [show nI (((ρ.si 0 ρ.fo r).sn 0 (ρ.fo + 1)).fo) - nI 1 = nI ρ.fo from nI_pred _]
      exact rQ_of hW3
    · refine z_ic ki_2 dX6_addFormat_24 ?_
      refine z_goto (tgt := 29) dX6_addFormat_25 (by decide) ?_
      refine z_ivQ dX6_addFormat_29 cv_RX6_73 hm (c_X6_fails g hW _) ⟨⟨by decide, by decide⟩, (by first | exact Nat.zero_le _ | decide | omega), (by first | exact Nat.zero_le _ | decide | omega)⟩ rfl rfl (Nat.le_of_ble_eq_true rfl) (fun M29 hQ29 => ?_)
      refine z_if_eq (tgt := 37) dX6_addFormat_32 (by decide) (fun h32 => absurd h32 (by decide)) (fun h32 => ?_)
      refine z_ic ki_0 dX6_addFormat_35 ?_
      refine z_ireturn dX6_addFormat_36 rfl (by first | rfl | exact bI_nar _) ?_
      have e : o_addFormat ρ r = (2, nI 0, ρ) := by
        unfold o_addFormat
        rw [if_pos (yt h8 : inK 0 100 r = true), if_pos ((nI_eq (by omega) (by decide)).mp h21)]
      rw [e]
      exact rQ_of hQ29
  · refine z_ic ki_1 dX6_addFormat_11 ?_
    refine z_goto (tgt := 29) dX6_addFormat_12 (by decide) ?_
    refine z_ivQ dX6_addFormat_29 cv_RX6_73 hm (c_X6_fails g hW _) ⟨⟨by decide, by decide⟩, (by first | exact Nat.zero_le _ | decide | omega), (by first | exact Nat.zero_le _ | decide | omega)⟩ rfl rfl (Nat.le_of_ble_eq_true rfl) (fun M29 hQ29 => ?_)
    refine z_if_eq (tgt := 37) dX6_addFormat_32 (by decide) (fun h32 => absurd h32 (by decide)) (fun h32 => ?_)
    refine z_ic ki_0 dX6_addFormat_35 ?_
    refine z_ireturn dX6_addFormat_36 rfl (by first | rfl | exact bI_nar _) ?_
    have e : o_addFormat ρ r = (1, nI 0, ρ) := by
      unfold o_addFormat
      rw [if_neg (nt h8 : ¬ inK 0 100 r = true)]
    rw [e]
    exact rQ_of hQ29
theorem c_X6_setRisk (hW : W2 g A σ ρ x M) (hf : ρ.fo ≤ 8) (f r : Int32) : con g mX6_setRisk 0 0 [.ref (A 20 0), .int f, .int r] M (rQ (some (.int (o_setRisk ρ f r).2.1)) (W2 g A σ (o_setRisk ρ f r).2.2 (x.sthr (nI (o_setRisk ρ f r).1)))) := by
  refine con_i ?_ (by decide) rfl rfl (by simp [lv_args, Value.category]) (by simp [lv_args, lnd, Value.category])
  have hm := hW.m
  refine z_aload_n dX6_setRisk_0 rfl rfl ?_
  refine z_iload_n dX6_setRisk_1 rfl ?_
  refine z_ic ki_0 dX6_setRisk_2 ?_
  refine z_bi kb_100 dX6_setRisk_3 ?_
  refine z_isI dX6_setRisk_5 cs_RX6_69 (c_X6_isIn g M _ _ _) ⟨⟨by decide, by decide⟩, (by first | exact Nat.zero_le _ | decide | omega), (by first | exact Nat.zero_le _ | decide | omega)⟩ rfl rfl (Nat.le_of_ble_eq_true rfl) ?_
  refine z_if_ne (tgt := 15) dX6_setRisk_8 (by decide) (fun h8 => ?_) (fun h8 => ?_)
  · refine z_aload_n dX6_setRisk_15 rfl rfl ?_
    refine z_iload_n dX6_setRisk_16 rfl ?_
    refine z_ivI dX6_setRisk_17 cv_RX6_77 (by assumption) (c_X6_isFormat g hW _) ⟨⟨by decide, by decide⟩, (by first | exact Nat.zero_le _ | decide | omega), (by first | exact Nat.zero_le _ | decide | omega)⟩ rfl rfl (Nat.le_of_ble_eq_true rfl) ?_
    refine z_if_eq (tgt := 27) dX6_setRisk_20 (by decide) (fun h20 => ?_) (fun h20 => ?_)
    · refine z_ic ki_2 dX6_setRisk_27 ?_
      refine z_ivQ dX6_setRisk_28 cv_RX6_73 hm (c_X6_fails g hW _) ⟨⟨by decide, by decide⟩, (by first | exact Nat.zero_le _ | decide | omega), (by first | exact Nat.zero_le _ | decide | omega)⟩ rfl rfl (Nat.le_of_ble_eq_true rfl) (fun M28 hQ28 => ?_)
      refine z_if_eq (tgt := 36) dX6_setRisk_31 (by decide) (fun h31 => absurd h31 (by decide)) (fun h31 => ?_)
      refine z_ic ki_0 dX6_setRisk_34 ?_
      refine z_ireturn dX6_setRisk_35 rfl (by first | rfl | exact bI_nar _) ?_
      have e : o_setRisk ρ f r = (2, nI 0, ρ) := by
        unfold o_setRisk
        rw [if_pos (yt h8 : inK 0 100 r = true), if_neg (nt h20 : ¬ inR ρ.fo f = true)]
      rw [e]
      exact rQ_of hQ28
    · refine z_ic ki_0 dX6_setRisk_23 ?_
      refine z_goto (tgt := 28) dX6_setRisk_24 (by decide) ?_
      refine z_ivQ dX6_setRisk_28 cv_RX6_73 hm (c_X6_fails g hW _) ⟨⟨by decide, by decide⟩, (by first | exact Nat.zero_le _ | decide | omega), (by first | exact Nat.zero_le _ | decide | omega)⟩ rfl rfl (Nat.le_of_ble_eq_true rfl) (fun M28 hQ28 => ?_)
      refine z_if_eq (tgt := 36) dX6_setRisk_31 (by decide) (fun h31 => ?_) (fun h31 => absurd rfl h31)
      have hm1 := hQ28.m
      have w1 := hQ28.r1
      obtain ⟨e1, l1⟩ := inR_of (by omega) (yt h20 : inR ρ.fo f = true)
      have e : o_setRisk ρ f r = (0, ρ.i 0 (tN f), ρ.si 0 (tN f) r) := by
        unfold o_setRisk
        rw [if_pos (yt h8 : inK 0 100 r = true), if_pos (yt h20 : inR ρ.fo f = true)]
      rw [e]
      refine z_aload_n dX6_setRisk_36 rfl rfl ?_
      refine z_getfield dX6_setRisk_37 fg_RX6_7 hm1 rfl ?_
      refine z_iload_n dX6_setRisk_40 rfl ?_
      refine z_iaload dX6_setRisk_41 w1 e1 (by omega) (by decide) ?_
      refine z_istore_n dX6_setRisk_42 (by decide) ?_
      refine z_aload_n dX6_setRisk_43 rfl rfl ?_
      refine z_getfield dX6_setRisk_44 fg_RX6_7 hm1 rfl ?_
      refine z_iload_n dX6_setRisk_47 rfl ?_
      refine z_iload_n dX6_setRisk_48 rfl ?_
      refine z_iastore dX6_setRisk_49 w1 e1 (by omega) (by decide) ?_
      refine z_iload_n dX6_setRisk_50 rfl ?_
      refine z_ireturn dX6_setRisk_51 rfl (by first | rfl | exact bI_nar _) ?_
      exact rQ_of (hQ28.prisk (tN f) r)
  · refine z_ic ki_1 dX6_setRisk_11 ?_
    refine z_goto (tgt := 28) dX6_setRisk_12 (by decide) ?_
    refine z_ivQ dX6_setRisk_28 cv_RX6_73 hm (c_X6_fails g hW _) ⟨⟨by decide, by decide⟩, (by first | exact Nat.zero_le _ | decide | omega), (by first | exact Nat.zero_le _ | decide | omega)⟩ rfl rfl (Nat.le_of_ble_eq_true rfl) (fun M28 hQ28 => ?_)
    refine z_if_eq (tgt := 36) dX6_setRisk_31 (by decide) (fun h31 => absurd h31 (by decide)) (fun h31 => ?_)
    refine z_ic ki_0 dX6_setRisk_34 ?_
    refine z_ireturn dX6_setRisk_35 rfl (by first | rfl | exact bI_nar _) ?_
    have e : o_setRisk ρ f r = (1, nI 0, ρ) := by
      unfold o_setRisk
      rw [if_neg (nt h8 : ¬ inK 0 100 r = true)]
    rw [e]
    exact rQ_of hQ28
theorem c_X6_way (hW : W2 g A σ ρ x M) {a b : Nat} (ha : a < 8) (hb : b < 8) : con g mX6_way 0 0 [.ref (A 20 0), .int (nI a), .int (nI b)] M (rQ (some (.int (way ρ a b))) (fun M' => ∃ f, W2 g A σ ρ (x.sbst f) M')) := by
  refine con_i ?_ (by decide) rfl rfl (by simp [lv_args, Value.category]) (by simp [lv_args, lnd, Value.category])
  have loop : ∀ j, j ≤ 512 → ∀ (bf : Nat → Int32) (M' : Mem) x3, W2 g A σ ρ (x.sbst bf) M' → (∀ k, k < 8 → bf k = wayB ρ a j k) → x3 = nI j → tri g mX6_way 0 0 (rQ (some (.int (way ρ a b))) (fun M' => ∃ f, W2 g A σ ρ (x.sbst f) M')) M' 32 [(0, .ref (A 20 0)), (1, .int (nI a)), (2, .int (nI b)), (3, .int x3)] [] := by
    refine lp_up 512 ?_ ?_
    · intro bf M' x3 h eb e3
      subst e3
      have hm := h.m
      have w3 := h.r3
      refine z_iload_n dX6_way_32 rfl ?_
      refine z_si ks_512 dX6_way_33 ?_
      refine z_icmp_ge (tgt := 150) dX6_way_36 (by decide) (fun h36 => ?_) (fun h36 => absurd (nI_le (by omega) (by omega)) h36)
      refine z_aload_n dX6_way_150 rfl rfl ?_
      refine z_getfield dX6_way_151 fg_RX6_16 (by assumption) rfl ?_
      refine z_iload_n dX6_way_154 rfl ?_
      refine z_iaload dX6_way_155 w3 rfl hb (by decide) ?_
      refine z_ireturn dX6_way_156 rfl (by first | rfl | exact bI_nar _) ?_
      have e9 : bf b = way ρ a b := eb b hb
      show rQ _ _ (.inl (some (.int (bf b)))) _
      rw [e9]
      exact rQ_of ⟨bf, h⟩
    · intro j hj ih bf M' x3 h eb e3
      subst e3
      have hm := h.m
      have w3 := h.r3
      have w2 := h.r2
      have hi : j / 8 % 8 < 8 := Nat.mod_lt _ (by decide)
      have hk : j % 8 < 8 := Nat.mod_lt _ (by decide)
      have e45 : nI j / nI 8 - nI j / nI 8 / nI 8 * nI 8 = nI (j / 8 % 8) := by rw [pk_div (by omega) (by decide) (by decide), pk_rem (by omega) (by decide) (by decide)]
      have e51 : nI j - nI j / nI 8 * nI 8 = nI (j % 8) := pk_rem (by omega) (by decide) (by decide)
      have hst : ∀ k, k < 8 → wst ρ bf (j / 8 % 8) (j % 8) k = wayB ρ a (j + 1) k := fun k hk' => wst_eq eb hi hk k hk'
      refine z_iload_n dX6_way_32 rfl ?_
      refine z_si ks_512 dX6_way_33 ?_
      refine z_icmp_ge (tgt := 150) dX6_way_36 (by decide) (fun h36 => absurd h36 (nI_ge hj (by omega))) (fun h36 => ?_)
      refine z_iload_n dX6_way_39 rfl ?_
      refine z_bi kb_8 dX6_way_40 ?_
      refine z_idiv dX6_way_42 (by decide) ?_
      refine z_bi kb_8 dX6_way_43 ?_
      refine z_irem dX6_way_45 (by decide) ?_
      rw [e45]
      refine z_istore dX6_way_46 (by decide) ?_
      refine z_iload_n dX6_way_48 rfl ?_
      refine z_bi kb_8 dX6_way_49 ?_
      refine z_irem dX6_way_51 (by decide) ?_
      rw [e51]
      refine z_istore dX6_way_52 (by decide) ?_
      refine z_aload_n dX6_way_54 rfl rfl ?_
      refine z_getfield dX6_way_55 fg_RX6_13 (by assumption) rfl ?_
      refine z_bi kb_8 dX6_way_58 ?_
      refine z_iload dX6_way_60 rfl ?_
      refine z_imul dX6_way_62 ?_
      refine z_iload dX6_way_63 rfl ?_
      refine z_iadd dX6_way_65 ?_
      refine z_ldI8 dX6_way_66 w2 (ix8 _ _) hk (by omega) (by decide) ?_
      refine z_istore dX6_way_67 (by decide) ?_
      refine z_iload dX6_way_69 rfl ?_
      refine z_ic ki_m1 dX6_way_71 ?_
      refine z_icmp_eq (tgt := 144) dX6_way_72 (by decide) (fun h72 => ?_) (fun h72 => ?_)
      · refine tri.take 4 ?_
        refine z_inc ki_1 dX6_way_144 rfl (by decide) ?_
        refine z_goto (tgt := 32) dX6_way_147 (by decide) ?_
        refine ih bf _ _ h (fun k hk' => ?_) (nI_add j 1)
        rw [← hst k hk', wst, if_neg (fun q => q.1 h72)]
      · refine z_aload_n dX6_way_75 rfl rfl ?_
        refine z_getfield dX6_way_76 fg_RX6_16 (by assumption) rfl ?_
        refine z_iload dX6_way_79 rfl ?_
        refine z_iaload dX6_way_81 w3 rfl hi (by decide) ?_
        refine z_ic ki_m1 dX6_way_82 ?_
        refine z_icmp_eq (tgt := 144) dX6_way_83 (by decide) (fun h83 => ?_) (fun h83 => ?_)
        · refine tri.take 4 ?_
          refine z_inc ki_1 dX6_way_144 rfl (by decide) ?_
          refine z_goto (tgt := 32) dX6_way_147 (by decide) ?_
          refine ih bf _ _ h (fun k hk' => ?_) (nI_add j 1)
          rw [← hst k hk', wst, if_neg (fun q => q.2.1 h83)]
        · refine z_aload_n dX6_way_86 rfl rfl ?_
          refine z_getfield dX6_way_87 fg_RX6_16 (by assumption) rfl ?_
          refine z_iload dX6_way_90 rfl ?_
          refine z_iaload dX6_way_92 w3 rfl hk (by decide) ?_
          refine z_ic ki_m1 dX6_way_93 ?_
          refine z_icmp_eq (tgt := 122) dX6_way_94 (by decide) (fun h94 => ?_) (fun h94 => ?_)
          · refine z_aload_n dX6_way_122 rfl rfl ?_
            refine z_getfield dX6_way_123 fg_RX6_16 (by assumption) rfl ?_
            refine z_iload dX6_way_126 rfl ?_
            refine z_aload_n dX6_way_128 rfl rfl ?_
            refine z_getfield dX6_way_129 fg_RX6_16 (by assumption) rfl ?_
            refine z_iload dX6_way_132 rfl ?_
            refine z_iaload dX6_way_134 w3 rfl hi (by decide) ?_
            refine z_bi kb_100 dX6_way_135 ?_
            refine z_iload dX6_way_137 rfl ?_
            refine z_imul dX6_way_139 ?_
            refine z_iadd dX6_way_140 ?_
            refine z_ic ki_1 dX6_way_141 ?_
            refine z_iadd dX6_way_142 ?_
            refine z_iastore dX6_way_143 w3 rfl hk (by decide) ?_
            refine tri.take 4 ?_
            refine z_inc ki_1 dX6_way_144 rfl (by decide) ?_
            refine z_goto (tgt := 32) dX6_way_147 (by decide) ?_
            refine ih _ _ _ (h.pbst _) (fun k hk' => ?_) (nI_add j 1)
            rw [← hst k hk', wst, if_pos ⟨h72, h83, Or.inl h94⟩]
            rfl
          · refine z_aload_n dX6_way_97 rfl rfl ?_
            refine z_getfield dX6_way_98 fg_RX6_16 (by assumption) rfl ?_
            refine z_iload dX6_way_101 rfl ?_
            refine z_iaload dX6_way_103 w3 rfl hi (by decide) ?_
            refine z_bi kb_100 dX6_way_104 ?_
            refine z_iload dX6_way_106 rfl ?_
            refine z_imul dX6_way_108 ?_
            refine z_iadd dX6_way_109 ?_
            refine z_ic ki_1 dX6_way_110 ?_
            refine z_iadd dX6_way_111 ?_
            refine z_aload_n dX6_way_112 rfl rfl ?_
            refine z_getfield dX6_way_113 fg_RX6_16 (by assumption) rfl ?_
            refine z_iload dX6_way_116 rfl ?_
            refine z_iaload dX6_way_118 w3 rfl hk (by decide) ?_
            refine z_icmp_ge (tgt := 144) dX6_way_119 (by decide) (fun h119 => ?_) (fun h119 => ?_)
            · refine tri.take 4 ?_
              refine z_inc ki_1 dX6_way_144 rfl (by decide) ?_
              refine z_goto (tgt := 32) dX6_way_147 (by decide) ?_
              refine ih bf _ _ h (fun k hk' => ?_) (nI_add j 1)
              rw [← hst k hk', wst, if_neg (fun q => ?_)]
              rcases q.2.2 with q | q
              · exact h94 q
              · exact Int32.not_le.mpr q h119
            · refine z_aload_n dX6_way_122 rfl rfl ?_
              refine z_getfield dX6_way_123 fg_RX6_16 (by assumption) rfl ?_
              refine z_iload dX6_way_126 rfl ?_
              refine z_aload_n dX6_way_128 rfl rfl ?_
              refine z_getfield dX6_way_129 fg_RX6_16 (by assumption) rfl ?_
              refine z_iload dX6_way_132 rfl ?_
              refine z_iaload dX6_way_134 w3 rfl hi (by decide) ?_
              refine z_bi kb_100 dX6_way_135 ?_
              refine z_iload dX6_way_137 rfl ?_
              refine z_imul dX6_way_139 ?_
              refine z_iadd dX6_way_140 ?_
              refine z_ic ki_1 dX6_way_141 ?_
              refine z_iadd dX6_way_142 ?_
              refine z_iastore dX6_way_143 w3 rfl hk (by decide) ?_
              refine tri.take 4 ?_
              refine z_inc ki_1 dX6_way_144 rfl (by decide) ?_
              refine z_goto (tgt := 32) dX6_way_147 (by decide) ?_
              refine ih _ _ _ (h.pbst _) (fun k hk' => ?_) (nI_add j 1)
              rw [← hst k hk', wst, if_pos ⟨h72, h83, Or.inr (Int32.not_le.mp h119)⟩]
              rfl
  have loop0 : ∀ j, j ≤ 8 → ∀ (bf : Nat → Int32) (M' : Mem) x3, W2 g A σ ρ (x.sbst bf) M' → (∀ k, k < j → bf k = w0 a k) → x3 = nI j → tri g mX6_way 0 0 (rQ (some (.int (way ρ a b))) (fun M' => ∃ f, W2 g A σ ρ (x.sbst f) M')) M' 2 [(0, .ref (A 20 0)), (1, .int (nI a)), (2, .int (nI b)), (3, .int x3)] [] := by
    refine lp_up 8 ?_ ?_
    · intro bf M' x3 h eb e3
      subst e3
      refine z_iload_n dX6_way_2 rfl ?_
      refine z_bi kb_8 dX6_way_3 ?_
      refine z_icmp_ge (tgt := 30) dX6_way_5 (by decide) (fun h5 => ?_) (fun h5 => absurd (nI_le (by omega) (by omega)) h5)
      refine z_ic ki_0 dX6_way_30 ?_
      refine z_istore_n dX6_way_31 (by decide) ?_
      exact loop 0 (by omega) bf M' _ h eb rfl
    · intro j hj ih bf M' x3 h eb e3
      subst e3
      have hm := h.m
      have w3 := h.r3
      refine z_iload_n dX6_way_2 rfl ?_
      refine z_bi kb_8 dX6_way_3 ?_
      refine z_icmp_ge (tgt := 30) dX6_way_5 (by decide) (fun h5 => absurd h5 (nI_ge hj (by omega))) (fun h5 => ?_)
      refine z_aload_n dX6_way_8 rfl rfl ?_
      refine z_getfield dX6_way_9 fg_RX6_16 (by assumption) rfl ?_
      refine z_iload_n dX6_way_12 rfl ?_
      refine z_iload_n dX6_way_13 rfl ?_
      refine z_iload_n dX6_way_14 rfl ?_
      refine z_icmp_ne (tgt := 22) dX6_way_15 (by decide) (fun h15 => ?_) (fun h15 => ?_)
      · refine z_ic ki_m1 dX6_way_22 ?_
        refine z_iastore dX6_way_23 w3 rfl hj (by decide) ?_
        refine z_inc ki_1 dX6_way_24 rfl (by decide) ?_
        refine z_goto (tgt := 2) dX6_way_27 (by decide) ?_
        refine ih _ _ _ (h.pbst _) (fun k hk => ?_) (nI_add j 1)
        unfold upd w0
        by_cases hkj : k = j
        · rw [if_pos hkj, if_neg (fun e => h15 (by rw [← hkj, e]))]
        · rw [if_neg hkj]
          exact eb k (by omega)
      · refine z_ic ki_0 dX6_way_18 ?_
        refine z_goto (tgt := 23) dX6_way_19 (by decide) ?_
        refine z_iastore dX6_way_23 w3 rfl hj (by decide) ?_
        refine z_inc ki_1 dX6_way_24 rfl (by decide) ?_
        refine z_goto (tgt := 2) dX6_way_27 (by decide) ?_
        refine ih _ _ _ (h.pbst _) (fun k hk => ?_) (nI_add j 1)
        have hja : j = a := (nI_eq (by omega) (by omega)).mp h15
        unfold upd w0
        by_cases hkj : k = j
        · rw [if_pos hkj, if_pos (by rw [hkj, hja])]
        · rw [if_neg hkj]
          exact eb k (by omega)
  refine z_ic ki_0 dX6_way_0 ?_
  refine z_istore_n dX6_way_1 (by decide) ?_
  exact loop0 0 (by omega) x.bst M _ hW (fun k hk => absurd hk (Nat.not_lt_zero k)) rfl
theorem c_X6_addConversion (hW : W2 g A σ ρ x M) (hf : ρ.fo ≤ 8) (a b l : Int32) : con g mX6_addConversion 0 0 [.ref (A 20 0), .int a, .int b, .int l] M (rQ (some (.int (o_addConversion ρ a b l).2.1)) (fun M' => ∃ f, W2 g A σ (o_addConversion ρ a b l).2.2 ((x.sthr (nI (o_addConversion ρ a b l).1)).sbst f) M')) := by
  refine con_i ?_ (by decide) rfl rfl (by simp [lv_args, Value.category]) (by simp [lv_args, lnd, Value.category])
  have hm := hW.m
  refine z_iload_n dX6_addConversion_0 rfl ?_
  refine z_ic ki_0 dX6_addConversion_1 ?_
  refine z_bi kb_100 dX6_addConversion_2 ?_
  refine z_isI dX6_addConversion_4 cs_RX6_69 (c_X6_isIn g M _ _ _) ⟨⟨by decide, by decide⟩, (by first | exact Nat.zero_le _ | decide | omega), (by first | exact Nat.zero_le _ | decide | omega)⟩ rfl rfl (Nat.le_of_ble_eq_true rfl) ?_
  refine z_if_eq (tgt := 19) dX6_addConversion_7 (by decide) (fun h7 => ?_) (fun h7 => ?_)
  · refine z_ic ki_0 dX6_addConversion_19 ?_
    refine z_istore dX6_addConversion_20 (by decide) ?_
    refine z_aload_n dX6_addConversion_22 rfl rfl ?_
    refine z_iload dX6_addConversion_23 rfl ?_
    refine z_if_ne (tgt := 32) dX6_addConversion_25 (by decide) (fun h25 => absurd h25 (by decide)) (fun h25 => ?_)
    refine z_ic ki_1 dX6_addConversion_28 ?_
    refine z_goto (tgt := 53) dX6_addConversion_29 (by decide) ?_
    refine z_ivQ dX6_addConversion_53 cv_RX6_73 hm (c_X6_fails g hW _) ⟨⟨by decide, by decide⟩, (by first | exact Nat.zero_le _ | decide | omega), (by first | exact Nat.zero_le _ | decide | omega)⟩ rfl rfl (Nat.le_of_ble_eq_true rfl) (fun M53 hQ53 => ?_)
    refine z_if_eq (tgt := 61) dX6_addConversion_56 (by decide) (fun h56 => absurd h56 (by decide)) (fun h56 => ?_)
    refine z_ic ki_0 dX6_addConversion_59 ?_
    refine z_ireturn dX6_addConversion_60 rfl (by first | rfl | exact bI_nar _) ?_
    have e : o_addConversion ρ a b l = (1, nI 0, ρ) := by
      unfold o_addConversion
      rw [if_neg (fun q => (nt h7 : ¬ inK 0 100 l = true) q.1)]
    rw [e]
    exact rQ_of ⟨_, hQ53⟩
  · refine z_iload_n dX6_addConversion_10 rfl ?_
    refine z_iload_n dX6_addConversion_11 rfl ?_
    refine z_icmp_eq (tgt := 19) dX6_addConversion_12 (by decide) (fun h12 => ?_) (fun h12 => ?_)
    · refine z_ic ki_0 dX6_addConversion_19 ?_
      refine z_istore dX6_addConversion_20 (by decide) ?_
      refine z_aload_n dX6_addConversion_22 rfl rfl ?_
      refine z_iload dX6_addConversion_23 rfl ?_
      refine z_if_ne (tgt := 32) dX6_addConversion_25 (by decide) (fun h25 => absurd h25 (by decide)) (fun h25 => ?_)
      refine z_ic ki_1 dX6_addConversion_28 ?_
      refine z_goto (tgt := 53) dX6_addConversion_29 (by decide) ?_
      refine z_ivQ dX6_addConversion_53 cv_RX6_73 hm (c_X6_fails g hW _) ⟨⟨by decide, by decide⟩, (by first | exact Nat.zero_le _ | decide | omega), (by first | exact Nat.zero_le _ | decide | omega)⟩ rfl rfl (Nat.le_of_ble_eq_true rfl) (fun M53 hQ53 => ?_)
      refine z_if_eq (tgt := 61) dX6_addConversion_56 (by decide) (fun h56 => absurd h56 (by decide)) (fun h56 => ?_)
      refine z_ic ki_0 dX6_addConversion_59 ?_
      refine z_ireturn dX6_addConversion_60 rfl (by first | rfl | exact bI_nar _) ?_
      have e : o_addConversion ρ a b l = (1, nI 0, ρ) := by
        unfold o_addConversion
        rw [if_neg (fun q => q.2 h12)]
      rw [e]
      exact rQ_of ⟨_, hQ53⟩
    · refine z_ic ki_1 dX6_addConversion_15 ?_
      refine z_goto (tgt := 20) dX6_addConversion_16 (by decide) ?_
      refine z_istore dX6_addConversion_20 (by decide) ?_
      refine z_aload_n dX6_addConversion_22 rfl rfl ?_
      refine z_iload dX6_addConversion_23 rfl ?_
      refine z_if_ne (tgt := 32) dX6_addConversion_25 (by decide) (fun h25 => ?_) (fun h25 => absurd h25 (by decide))
      refine z_aload_n dX6_addConversion_32 rfl rfl ?_
      refine z_iload_n dX6_addConversion_33 rfl ?_
      refine z_ivI dX6_addConversion_34 cv_RX6_77 (by assumption) (c_X6_isFormat g hW _) ⟨⟨by decide, by decide⟩, (by first | exact Nat.zero_le _ | decide | omega), (by first | exact Nat.zero_le _ | decide | omega)⟩ rfl rfl (Nat.le_of_ble_eq_true rfl) ?_
      refine z_if_eq (tgt := 52) dX6_addConversion_37 (by decide) (fun h37 => ?_) (fun h37 => ?_)
      · refine z_ic ki_2 dX6_addConversion_52 ?_
        refine z_ivQ dX6_addConversion_53 cv_RX6_73 hm (c_X6_fails g hW _) ⟨⟨by decide, by decide⟩, (by first | exact Nat.zero_le _ | decide | omega), (by first | exact Nat.zero_le _ | decide | omega)⟩ rfl rfl (Nat.le_of_ble_eq_true rfl) (fun M53 hQ53 => ?_)
        refine z_if_eq (tgt := 61) dX6_addConversion_56 (by decide) (fun h56 => absurd h56 (by decide)) (fun h56 => ?_)
        refine z_ic ki_0 dX6_addConversion_59 ?_
        refine z_ireturn dX6_addConversion_60 rfl (by first | rfl | exact bI_nar _) ?_
        have e : o_addConversion ρ a b l = (2, nI 0, ρ) := by
          unfold o_addConversion
          rw [if_pos ⟨(yt h7 : inK 0 100 l = true), h12⟩, if_neg (fun q => (nt h37 : ¬ inR ρ.fo a = true) q.1)]
        rw [e]
        exact rQ_of ⟨_, hQ53⟩
      · refine z_aload_n dX6_addConversion_40 rfl rfl ?_
        refine z_iload_n dX6_addConversion_41 rfl ?_
        refine z_ivI dX6_addConversion_42 cv_RX6_77 (by assumption) (c_X6_isFormat g hW _) ⟨⟨by decide, by decide⟩, (by first | exact Nat.zero_le _ | decide | omega), (by first | exact Nat.zero_le _ | decide | omega)⟩ rfl rfl (Nat.le_of_ble_eq_true rfl) ?_
        refine z_if_eq (tgt := 52) dX6_addConversion_45 (by decide) (fun h45 => ?_) (fun h45 => ?_)
        · refine z_ic ki_2 dX6_addConversion_52 ?_
          refine z_ivQ dX6_addConversion_53 cv_RX6_73 hm (c_X6_fails g hW _) ⟨⟨by decide, by decide⟩, (by first | exact Nat.zero_le _ | decide | omega), (by first | exact Nat.zero_le _ | decide | omega)⟩ rfl rfl (Nat.le_of_ble_eq_true rfl) (fun M53 hQ53 => ?_)
          refine z_if_eq (tgt := 61) dX6_addConversion_56 (by decide) (fun h56 => absurd h56 (by decide)) (fun h56 => ?_)
          refine z_ic ki_0 dX6_addConversion_59 ?_
          refine z_ireturn dX6_addConversion_60 rfl (by first | rfl | exact bI_nar _) ?_
          have e : o_addConversion ρ a b l = (2, nI 0, ρ) := by
            unfold o_addConversion
            rw [if_pos ⟨(yt h7 : inK 0 100 l = true), h12⟩, if_neg (fun q => (nt h45 : ¬ inR ρ.fo b = true) q.2)]
          rw [e]
          exact rQ_of ⟨_, hQ53⟩
        · refine z_ic ki_0 dX6_addConversion_48 ?_
          refine z_goto (tgt := 53) dX6_addConversion_49 (by decide) ?_
          refine z_ivQ dX6_addConversion_53 cv_RX6_73 hm (c_X6_fails g hW _) ⟨⟨by decide, by decide⟩, (by first | exact Nat.zero_le _ | decide | omega), (by first | exact Nat.zero_le _ | decide | omega)⟩ rfl rfl (Nat.le_of_ble_eq_true rfl) (fun M53 hQ53 => ?_)
          refine z_if_eq (tgt := 61) dX6_addConversion_56 (by decide) (fun h56 => ?_) (fun h56 => absurd rfl h56)
          have hm1 := hQ53.m
          have w2 := hQ53.r2
          obtain ⟨e1, l1⟩ := inR_of (by omega) (yt h37 : inR ρ.fo a = true)
          obtain ⟨e2, l2⟩ := inR_of (by omega) (yt h45 : inR ρ.fo b = true)
          have ix := ix8 (tN a) (tN b)
          rw [← e1, ← e2] at ix
          have e : o_addConversion ρ a b l = (0, way (ρ.sl (tN a) (tN b) l) (tN a) (tN b) / nI 100, ρ.sl (tN a) (tN b) l) := by
            unfold o_addConversion
            rw [if_pos ⟨(yt h7 : inK 0 100 l = true), h12⟩, if_pos ⟨(yt h37 : inR ρ.fo a = true), (yt h45 : inR ρ.fo b = true)⟩]
          rw [e]
          refine z_aload_n dX6_addConversion_61 rfl rfl ?_
          refine z_getfield dX6_addConversion_62 fg_RX6_13 hm1 rfl ?_
          refine z_bi kb_8 dX6_addConversion_65 ?_
          refine z_iload_n dX6_addConversion_67 rfl ?_
          refine z_imul dX6_addConversion_68 ?_
          refine z_iload_n dX6_addConversion_69 rfl ?_
          refine z_iadd dX6_addConversion_70 ?_
          refine z_iload_n dX6_addConversion_71 rfl ?_
          refine z_iastore dX6_addConversion_72 w2 ix (by omega) (by decide) ?_
          have hW2 := hQ53.ploss (tN a) (tN b) (by omega) l
          have hm2 := hW2.m
          have hcon := c_X6_way g hW2 (a := tN a) (b := tN b) (by omega) (by omega)
          rw [← e1, ← e2] at hcon
          refine z_aload_n dX6_addConversion_73 rfl rfl ?_
          refine z_iload_n dX6_addConversion_74 rfl ?_
          refine z_iload_n dX6_addConversion_75 rfl ?_
          refine z_ivQ dX6_addConversion_76 cv_RX6_80 hm2 (hcon) ⟨⟨by decide, by decide⟩, (by first | exact Nat.zero_le _ | decide | omega), (by first | exact Nat.zero_le _ | decide | omega)⟩ rfl rfl (Nat.le_of_ble_eq_true rfl) (fun M76 hQ76 => ?_)
          refine z_bi kb_100 dX6_addConversion_79 ?_
          refine z_idiv dX6_addConversion_81 (by decide) ?_
          refine z_ireturn dX6_addConversion_82 rfl (by first | rfl | exact bI_nar _) ?_
          obtain ⟨f, hf⟩ := hQ76
          exact rQ_of ⟨f, hf⟩
theorem c_X6_bestWay (hW : W2 g A σ ρ x M) (hf : ρ.fo ≤ 8) (a b : Int32) : con g mX6_bestWay 0 0 [.ref (A 20 0), .int a, .int b] M (rQ (some (.int (o_bestWay ρ a b).2.1)) (fun M' => ∃ f, W2 g A σ (o_bestWay ρ a b).2.2 ((x.sthr (nI (o_bestWay ρ a b).1)).sbst f) M')) := by
  refine con_i ?_ (by decide) rfl rfl (by simp [lv_args, Value.category]) (by simp [lv_args, lnd, Value.category])
  have hm := hW.m
  refine z_aload_n dX6_bestWay_0 rfl rfl ?_
  refine z_aload_n dX6_bestWay_1 rfl rfl ?_
  refine z_iload_n dX6_bestWay_2 rfl ?_
  refine z_ivI dX6_bestWay_3 cv_RX6_77 (by assumption) (c_X6_isFormat g hW _) ⟨⟨by decide, by decide⟩, (by first | exact Nat.zero_le _ | decide | omega), (by first | exact Nat.zero_le _ | decide | omega)⟩ rfl rfl (Nat.le_of_ble_eq_true rfl) ?_
  refine z_if_eq (tgt := 21) dX6_bestWay_6 (by decide) (fun h6 => ?_) (fun h6 => ?_)
  · refine z_ic ki_1 dX6_bestWay_21 ?_
    refine z_ivQ dX6_bestWay_22 cv_RX6_73 hm (c_X6_fails g hW _) ⟨⟨by decide, by decide⟩, (by first | exact Nat.zero_le _ | decide | omega), (by first | exact Nat.zero_le _ | decide | omega)⟩ rfl rfl (Nat.le_of_ble_eq_true rfl) (fun M22 hQ22 => ?_)
    refine z_if_eq (tgt := 32) dX6_bestWay_25 (by decide) (fun h25 => absurd h25 (by decide)) (fun h25 => ?_)
    refine z_ic ki_0 dX6_bestWay_28 ?_
    refine z_goto (tgt := 38) dX6_bestWay_29 (by decide) ?_
    refine z_ireturn dX6_bestWay_38 rfl (by first | rfl | exact bI_nar _) ?_
    have e : o_bestWay ρ a b = (1, nI 0, ρ) := by
      unfold o_bestWay
      rw [if_neg (fun q => (nt h6 : ¬ inR ρ.fo a = true) q.1)]
    rw [e]
    exact rQ_of ⟨_, hQ22⟩
  · refine z_aload_n dX6_bestWay_9 rfl rfl ?_
    refine z_iload_n dX6_bestWay_10 rfl ?_
    refine z_ivI dX6_bestWay_11 cv_RX6_77 (by assumption) (c_X6_isFormat g hW _) ⟨⟨by decide, by decide⟩, (by first | exact Nat.zero_le _ | decide | omega), (by first | exact Nat.zero_le _ | decide | omega)⟩ rfl rfl (Nat.le_of_ble_eq_true rfl) ?_
    refine z_if_eq (tgt := 21) dX6_bestWay_14 (by decide) (fun h14 => ?_) (fun h14 => ?_)
    · refine z_ic ki_1 dX6_bestWay_21 ?_
      refine z_ivQ dX6_bestWay_22 cv_RX6_73 hm (c_X6_fails g hW _) ⟨⟨by decide, by decide⟩, (by first | exact Nat.zero_le _ | decide | omega), (by first | exact Nat.zero_le _ | decide | omega)⟩ rfl rfl (Nat.le_of_ble_eq_true rfl) (fun M22 hQ22 => ?_)
      refine z_if_eq (tgt := 32) dX6_bestWay_25 (by decide) (fun h25 => absurd h25 (by decide)) (fun h25 => ?_)
      refine z_ic ki_0 dX6_bestWay_28 ?_
      refine z_goto (tgt := 38) dX6_bestWay_29 (by decide) ?_
      refine z_ireturn dX6_bestWay_38 rfl (by first | rfl | exact bI_nar _) ?_
      have e : o_bestWay ρ a b = (1, nI 0, ρ) := by
        unfold o_bestWay
        rw [if_neg (fun q => (nt h14 : ¬ inR ρ.fo b = true) q.2)]
      rw [e]
      exact rQ_of ⟨_, hQ22⟩
    · refine z_ic ki_0 dX6_bestWay_17 ?_
      refine z_goto (tgt := 22) dX6_bestWay_18 (by decide) ?_
      refine z_ivQ dX6_bestWay_22 cv_RX6_73 hm (c_X6_fails g hW _) ⟨⟨by decide, by decide⟩, (by first | exact Nat.zero_le _ | decide | omega), (by first | exact Nat.zero_le _ | decide | omega)⟩ rfl rfl (Nat.le_of_ble_eq_true rfl) (fun M22 hQ22 => ?_)
      refine z_if_eq (tgt := 32) dX6_bestWay_25 (by decide) (fun h25 => ?_) (fun h25 => absurd rfl h25)
      have hm1 := hQ22.m
      obtain ⟨e1, l1⟩ := inR_of (by omega) (yt h6 : inR ρ.fo a = true)
      obtain ⟨e2, l2⟩ := inR_of (by omega) (yt h14 : inR ρ.fo b = true)
      have hcon := c_X6_way g hQ22 (a := tN a) (b := tN b) (by omega) (by omega)
      rw [← e1, ← e2] at hcon
      have e : o_bestWay ρ a b = (0, way ρ (tN a) (tN b), ρ) := by
        unfold o_bestWay
        rw [if_pos ⟨(yt h6 : inR ρ.fo a = true), (yt h14 : inR ρ.fo b = true)⟩]
      rw [e]
      refine z_aload_n dX6_bestWay_32 rfl rfl ?_
      refine z_iload_n dX6_bestWay_33 rfl ?_
      refine z_iload_n dX6_bestWay_34 rfl ?_
      refine z_ivQ dX6_bestWay_35 cv_RX6_80 hm1 (hcon) ⟨⟨by decide, by decide⟩, (by first | exact Nat.zero_le _ | decide | omega), (by first | exact Nat.zero_le _ | decide | omega)⟩ rfl rfl (Nat.le_of_ble_eq_true rfl) (fun M35 hQ35 => ?_)
      refine z_ireturn dX6_bestWay_38 rfl (by first | rfl | exact bI_nar _) ?_
      obtain ⟨f, hf⟩ := hQ35
      exact rQ_of ⟨f, hf⟩
end REFO
