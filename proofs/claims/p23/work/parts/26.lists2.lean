/-! the JDK's lists: contracts -/
def rN (Q : Nat → Mem → Prop) : PO := fun r M' => ∃ q, r = .inl (some (.ref q)) ∧ Q q M'
theorem rN_of {Q : Nat → Mem → Prop} {q : Nat} {M : Mem} (h : Q q M) : rN Q (.inl (some (.ref q))) M := ⟨q, rfl, h⟩
section NR
variable {g : GG} {d : MD} {bk bn : Nat} {P : PO} {M : Mem} {pc : Nat} {ls : List (Nat × Value)} {st : List Value}
theorem z_ivN {index ci n a bk1 bn1 : Nat} {dd : MD} {fs as rest : List Value} {Q : Nat → Mem → Prop} (hd : decode d.cc pc = .ok (.invokevirtual index, 3)) (hv : vlk d.y.cls index ci dd n) (hM : M a = some (ob ci fs)) (hcon : con g dd bk1 bn1 (.ref a :: as) M (rN Q)) (hC : clk d dd bk1 bn1 bk bn) (hn : as.length = n) (hst : st = as.reverse ++ .ref a :: rest) (hw : (rest.map fun v => v.category).sum ≤ 8)
    (kk : ∀ q M1, Q q M1 → tri g d (bk - bk1) (bn - bn1) P M1 (pc + 3) ls (.ref q :: rest)) : tri g d bk bn P M pc ls st := by
  refine z_invokevirtual hd hv hM hcon hC hn hst hw (fun v' M' h => ?_) (fun E M' h => by obtain ⟨q, h, -⟩ := h; cases h)
  obtain ⟨q, h1, h2⟩ := h
  cases h1
  exact kk q M' h2
theorem z_isN {index n bk1 bn1 : Nat} {dd : MD} {as rest : List Value} {Q : Nat → Mem → Prop} (hd : decode d.cc pc = .ok (.invokestatic index, 3)) (hv : slk d.y.cls index dd n) (hcon : con g dd bk1 bn1 as M (rN Q)) (hC : clk d dd bk1 bn1 bk bn) (hn : as.length = n) (hst : st = as.reverse ++ rest) (hw : (rest.map fun v => v.category).sum ≤ 8)
    (kk : ∀ q M1, Q q M1 → tri g d (bk - bk1) (bn - bn1) P M1 (pc + 3) ls (.ref q :: rest)) : tri g d bk bn P M pc ls st := by
  refine z_invokestatic hd hv hcon hC hn hst hw (fun v' M' h => ?_) (fun E M' h => by obtain ⟨q, h, -⟩ := h; cases h)
  obtain ⟨q, h1, h2⟩ := h
  cases h1
  exact kk q M' h2
end NR
abbrev lst (mc : Int32) (da n : Nat) : GE := ob 0 [.int mc, .ref da, .int (nI n)]
/-- a list's row: its elements, and nothing behind them -/
def lrw (h : Nat → Nat) (n cap : Nat) : GE := aQ tO cap (fun j => if j < n then some (h j) else none)
section LISTS
variable (g : GG) {M : Mem} {a da n cap ci v : Nat} {mc : Int32} {h : Nat → Nat}
theorem c_L_size (hM : M a = some (lst mc da n)) : con g mJx4a65c_size_8abf5 0 0 [.ref a] M (rI (nI n) M) := by
  refine con_i ?_ (by decide) rfl rfl (by simp [lv_args, Value.category]) (by simp [lv_args, lnd, Value.category])
  refine z_aload_n dJx4a65c_size_8abf5_0 rfl rfl ?_
  refine z_getfield dJx4a65c_size_8abf5_1 fg_RJx4a65c_48 (by assumption) rfl ?_
  refine z_ireturn dJx4a65c_size_8abf5_4 rfl (by first | rfl | exact bI_nar _) ?_
  exact rI_of (by first | rfl | assumption | simp_all)
theorem c_J3_checkIndex {j : Nat} (hj : j < n) (hn : n < 2 ^ 31) : con g mJ3_checkIndex_8e157 0 0 [.int (nI j), .int (nI n), .null] M (rI (nI j) M) := by
  refine con_i ?_ (by decide) rfl rfl (by simp [lv_args, Value.category]) (by simp [lv_args, lnd, Value.category])
  refine z_iload_n dJ3_checkIndex_8e157_0 rfl ?_
  refine z_if_lt (tgt := 9) dJ3_checkIndex_8e157_1 (by decide) (fun h1 => absurd h1 (nI_pos (by omega))) (fun h1 => ?_)
  refine z_iload_n dJ3_checkIndex_8e157_4 rfl ?_
  refine z_iload_n dJ3_checkIndex_8e157_5 rfl ?_
  refine z_icmp_lt (tgt := 16) dJ3_checkIndex_8e157_6 (by decide) (fun h6 => ?_) (fun h6 => absurd ((nI_ltI (by omega) hn).mpr hj) h6)
  refine z_iload_n dJ3_checkIndex_8e157_16 rfl ?_
  refine z_ireturn dJ3_checkIndex_8e157_17 rfl (by first | rfl | exact bI_nar _) ?_
  exact rI_of (by first | rfl | assumption | simp_all)
theorem c_J15_checkIndex {j : Nat} (hj : j < n) (hn : n < 2 ^ 31) : con g mJ15_checkIndex_7cf53 0 0 [.int (nI j), .int (nI n)] M (rI (nI j) M) := by
  refine con_i ?_ (by decide) rfl rfl (by simp [lv_args, Value.category]) (by simp [lv_args, lnd, Value.category])
  refine z_iload_n dJ15_checkIndex_7cf53_0 rfl ?_
  refine z_iload_n dJ15_checkIndex_7cf53_1 rfl ?_
  refine z_aconst_null dJ15_checkIndex_7cf53_2 ?_
  refine z_isI dJ15_checkIndex_7cf53_3 cs_RJ15_105 (c_J3_checkIndex g hj hn) ⟨⟨by decide, by decide⟩, (by first | exact Nat.zero_le _ | decide | omega), (by first | exact Nat.zero_le _ | decide | omega)⟩ rfl rfl (Nat.le_of_ble_eq_true rfl) ?_
  refine z_ireturn dJ15_checkIndex_7cf53_6 rfl (by first | rfl | exact bI_nar _) ?_
  exact rI_of (by first | rfl | assumption | simp_all)
theorem c_L_elementData (hM : M a = some (lst mc da n)) (hD : M da = some (lrw h n cap)) (hc : n ≤ cap) (hcap : cap < 2 ^ 31) {j : Nat} (hj : j < n) : con g mJx4a65c_elementData_915e3 0 0 [.ref a, .int (nI j)] M (rA (.ref (h j)) M) := by
  refine con_i ?_ (by decide) rfl rfl (by simp [lv_args, Value.category]) (by simp [lv_args, lnd, Value.category])
  have e : va_rf (if j < n then some (h j) else none) = .ref (h j) := by rw [if_pos hj]; rfl
  refine z_aload_n dJx4a65c_elementData_915e3_0 rfl rfl ?_
  refine z_getfield dJx4a65c_elementData_915e3_1 fg_RJx4a65c_9 (by assumption) rfl ?_
  refine z_iload_n dJx4a65c_elementData_915e3_4 rfl ?_
  refine z_qaload dJx4a65c_elementData_915e3_5 hD rfl (by omega) hcap ?_
  rw [e]
  refine z_areturn dJx4a65c_elementData_915e3_6 rfl rfl (by first | exact Or.inl ⟨_, rfl⟩ | exact Or.inr ⟨_, rfl⟩) ?_
  exact rA_of (by first | rfl | assumption)
theorem c_L_get (hM : M a = some (lst mc da n)) (hD : M da = some (lrw h n cap)) (hc : n ≤ cap) (hcap : cap < 2 ^ 31) {j : Nat} (hj : j < n) : con g mJx4a65c_get_915e3 0 0 [.ref a, .int (nI j)] M (rA (.ref (h j)) M) := by
  refine con_i ?_ (by decide) rfl rfl (by simp [lv_args, Value.category]) (by simp [lv_args, lnd, Value.category])
  refine z_iload_n dJx4a65c_get_915e3_0 rfl ?_
  refine z_aload_n dJx4a65c_get_915e3_1 rfl rfl ?_
  refine z_getfield dJx4a65c_get_915e3_2 fg_RJx4a65c_48 (by assumption) rfl ?_
  refine z_isI dJx4a65c_get_915e3_5 cs_RJx4a65c_118 (c_J15_checkIndex g hj (by omega)) ⟨⟨by decide, by decide⟩, (by first | exact Nat.zero_le _ | decide | omega), (by first | exact Nat.zero_le _ | decide | omega)⟩ rfl rfl (Nat.le_of_ble_eq_true rfl) ?_
  refine z_pop dJx4a65c_get_915e3_8 rfl ?_
  refine z_aload_n dJx4a65c_get_915e3_9 rfl rfl ?_
  refine z_iload_n dJx4a65c_get_915e3_10 rfl ?_
  refine z_ivA dJx4a65c_get_915e3_11 cv_RJx4a65c_123 hM (c_L_elementData g hM hD hc hcap hj) ⟨⟨by decide, by decide⟩, (by first | exact Nat.zero_le _ | decide | omega), (by first | exact Nat.zero_le _ | decide | omega)⟩ rfl rfl (Nat.le_of_ble_eq_true rfl) ?_
  refine z_areturn dJx4a65c_get_915e3_14 rfl rfl (by first | exact Or.inl ⟨_, rfl⟩ | exact Or.inr ⟨_, rfl⟩) ?_
  exact rA_of (by first | rfl | assumption)
theorem c_La_init : con g mJxa1e45_init_da8c8 0 0 [.ref a] M (rV M) := by
  refine con_i ?_ (by decide) rfl rfl (by simp [lv_args, Value.category]) (by simp [lv_args, lnd, Value.category])
  refine z_aload_n dJxa1e45_init_da8c8_0 rfl rfl ?_
  refine z_objInit dJxa1e45_init_da8c8_1 ⟨gt_in 87 (by decide +kernel) rfl, gt_in 46 (by decide +kernel) rfl, gt_in 47 (by decide +kernel) rfl⟩ ⟨by decide, by decide⟩ (Nat.le_of_ble_eq_true rfl) ?_
  refine z_return dJxa1e45_init_da8c8_4 rfl ?_
  exact rV_of (by first | rfl | assumption)
theorem c_Lc_init {x y z : Value} (hM : M a = some (ob 0 [x, y, z])) : con g mJxc12de_init_da8c8 0 0 [.ref a] M (rV (mset M a (ob 0 [.int (nI 0), y, z]))) := by
  refine con_i ?_ (by decide) rfl rfl (by simp [lv_args, Value.category]) (by simp [lv_args, lnd, Value.category])
  refine z_aload_n dJxc12de_init_da8c8_0 rfl rfl ?_
  refine z_ipV dJxc12de_init_da8c8_1 ci_RJxc12de_1 (c_La_init g) ⟨⟨by decide, by decide⟩, (by first | exact Nat.zero_le _ | decide | omega), (by first | exact Nat.zero_le _ | decide | omega)⟩ rfl rfl (Nat.le_of_ble_eq_true rfl) ?_
  refine z_aload_n dJxc12de_init_da8c8_4 rfl rfl ?_
  refine z_ic ki_0 dJxc12de_init_da8c8_5 ?_
  refine z_putfield dJxc12de_init_da8c8_6 (fpi_RJxc12de_7 _) hM (Nat.le_of_ble_eq_true rfl) rfl rfl ?_
  refine z_return dJxc12de_init_da8c8_9 rfl ?_
  exact rV_of (by first | rfl | assumption)
theorem c_L_init (hM : M a = some (ob 0 [.int 0, .null, .int 0])) : con g mJx4a65c_init_da8c8 0 0 [.ref a] M (rQ none (fun M' => M' a = some (lst 0 g.E 0) ∧ ∀ p, p ≠ a → M' p = M p)) := by
  refine con_i ?_ (by decide) rfl rfl (by simp [lv_args, Value.category]) (by simp [lv_args, lnd, Value.category])
  refine z_aload_n dJx4a65c_init_da8c8_0 rfl rfl ?_
  refine z_ipV dJx4a65c_init_da8c8_1 ci_RJx4a65c_1 (c_Lc_init g hM) ⟨⟨by decide, by decide⟩, (by first | exact Nat.zero_le _ | decide | omega), (by first | exact Nat.zero_le _ | decide | omega)⟩ rfl rfl (Nat.le_of_ble_eq_true rfl) ?_
  refine z_aload_n dJx4a65c_init_da8c8_4 rfl rfl ?_
  refine z_empty dJx4a65c_init_da8c8_5 (gt_in 88 (by decide +kernel) rfl) ?_
  refine z_putfield dJx4a65c_init_da8c8_8 (fpi_RJx4a65c_9 _) mset_eq (Nat.le_of_ble_eq_true rfl) rfl rfl ?_
  refine z_return dJx4a65c_init_da8c8_11 rfl ?_
  exact rQ_of ⟨mset_eq, fun p hp => by rw [mset_ne hp, mset_ne hp]⟩
theorem c_J8_newLength {o k : Nat} (ho : o ≤ 100000) (hk : k ≤ 100000) : con g mJ8_newLength_cabcc 0 0 [.int (nI o), .int (nI 1), .int (nI k)] M (rI (nI (o + max 1 k)) M) := by
  refine con_i ?_ (by decide) rfl rfl (by simp [lv_args, Value.category]) (by simp [lv_args, lnd, Value.category])
  have em : nI o + (if nI 1 < nI k then nI k else nI 1) = nI (o + max 1 k) := by
    by_cases hq : 1 < k
    · rw [if_pos ((nI_ltI (by decide) (by omega)).mpr hq), nI_add, Nat.max_eq_right (by omega)]
    · rw [if_neg (fun q => hq ((nI_ltI (by decide) (by omega)).mp q)), nI_add, Nat.max_eq_left (by omega)]
  have hl : o + max 1 k < 2 ^ 31 := by omega
  refine z_iload_n dJ8_newLength_cabcc_0 rfl ?_
  refine z_iload_n dJ8_newLength_cabcc_1 rfl ?_
  refine z_iload_n dJ8_newLength_cabcc_2 rfl ?_
  refine z_isI dJ8_newLength_cabcc_3 cs_RJ8_194 (c_J9_max g M _ _) ⟨⟨by decide, by decide⟩, (by first | exact Nat.zero_le _ | decide | omega), (by first | exact Nat.zero_le _ | decide | omega)⟩ rfl rfl (Nat.le_of_ble_eq_true rfl) ?_
  refine z_iadd dJ8_newLength_cabcc_6 ?_
  rw [em]
  refine z_istore_n dJ8_newLength_cabcc_7 (by decide) ?_
  refine z_ic ki_0 dJ8_newLength_cabcc_8 ?_
  refine z_iload_n dJ8_newLength_cabcc_9 rfl ?_
  refine z_icmp_ge (tgt := 21) dJ8_newLength_cabcc_10 (by decide) (fun h10 => absurd h10 (by rw [nI_leI hl (by decide)]; omega)) (fun h10 => ?_)
  refine z_iload_n dJ8_newLength_cabcc_13 rfl ?_
  refine z_ldc dJ8_newLength_cabcc_14 lc_RJ8_200 ?_
  refine z_icmp_gt (tgt := 21) dJ8_newLength_cabcc_16 (by decide) (fun h16 => absurd h16 (by rw [show (2147483639 : Int32) = nI 2147483639 by decide, nI_ltI (by decide) hl]; omega)) (fun h16 => ?_)
  refine z_iload_n dJ8_newLength_cabcc_19 rfl ?_
  refine z_ireturn dJ8_newLength_cabcc_20 rfl (by first | rfl | exact bI_nar _) ?_
  exact rI_of (by first | rfl | assumption | simp_all)
theorem c_J7_copyOf2 {n0 k : Nat} {f : Nat → Option Nat} (hM : M a = some (aQ tO n0 f)) (hca : cvO ci) (hel : ∀ i, i < n0 → ∀ y, f i = some y → ∃ fs, M y = some (ob ci fs)) (hk : n0 ≤ k) (hb : k < 65536) : con g mJ7_copyOf_6403c 1 k [.ref a, .int (nI k), .ref g.mi] M (rN (fun q M' => M q = none ∧ M' q = some (aQ tO k (va_cpy f (fun _ => none) 0 0 n0)) ∧ ∀ p, p ≠ q → M' p = M p)) := by
  refine con_i ?_ (by decide) rfl rfl (by simp [lv_args, Value.category]) (by simp [lv_args, lnd, Value.category])
  have em : (if nI k < nI n0 then nI k else nI n0) = nI n0 := if_neg (fun q => by have := (nI_ltI (by omega) (by omega)).mp q; omega)
  refine z_aload_n dJ7_copyOf_6403c_0 rfl rfl ?_
  refine z_ldcO dJ7_copyOf_6403c_1 (gt_in 516 (by decide +kernel) rfl) ?_
  refine z_acmp_ne (tgt := 13) (rx := some g.mi) (ry := some g.mi) dJ7_copyOf_6403c_3 (by decide) (fun h3 => ?_) (fun h3 => ?_)
  · exact absurd rfl h3
  · refine z_iload_n dJ7_copyOf_6403c_6 rfl ?_
    refine z_anewarray dJ7_copyOf_6403c_7 (gt_in 518 (by decide +kernel) rfl) rfl hb (by omega) (by omega) (fun q hq => ?_)
    refine z_goto (tgt := 24) dJ7_copyOf_6403c_10 (by decide) ?_
    refine z_astore_n dJ7_copyOf_6403c_24 (by decide) rfl ?_
    have hqa : a ≠ q := fun e => by rw [e, hq] at hM; cases hM
    have hM1 : mset M q (aQ tO k (fun _ => none)) a = some (aQ tO n0 f) := (mset_ne hqa).trans hM
    have hM2 : mset M q (aQ tO k (fun _ => none)) q = some (aQ tO k (fun _ => none)) := mset_eq
    refine z_aload_n dJ7_copyOf_6403c_25 rfl rfl ?_
    refine z_ic ki_0 dJ7_copyOf_6403c_26 ?_
    refine z_aload_n dJ7_copyOf_6403c_27 rfl rfl ?_
    refine z_ic ki_0 dJ7_copyOf_6403c_28 ?_
    refine z_aload_n dJ7_copyOf_6403c_29 rfl rfl ?_
    refine z_arraylength dJ7_copyOf_6403c_30 hM1 ?_
    refine z_iload_n dJ7_copyOf_6403c_31 rfl ?_
    refine z_isI dJ7_copyOf_6403c_32 cs_RJ7_304 (c_J9_min g _ _ _) ⟨⟨by decide, by decide⟩, (by first | exact Nat.zero_le _ | decide | omega), (by first | exact Nat.zero_le _ | decide | omega)⟩ rfl rfl (Nat.le_of_ble_eq_true rfl) ?_
    rw [em]
    refine z_arraycopy dJ7_copyOf_6403c_35 ⟨gt_in 522 (by decide +kernel) rfl, gt_in 524 (by decide +kernel) rfl, gt_in 523 (by decide +kernel) rfl, gt_in 38 (by decide +kernel) rfl⟩ hM1 hM2 hca (fun i hi y hy => ?_) (Nat.le_refl _) hk (by omega) ⟨by decide, by decide⟩ (Nat.le_of_ble_eq_true rfl) ?_
    · obtain ⟨fs, hfs⟩ := hel i hi y hy
      exact ⟨fs, (mset_ne (fun e => by rw [e, hq] at hfs; cases hfs)).trans hfs⟩
    refine z_aload_n dJ7_copyOf_6403c_38 rfl rfl ?_
    refine z_areturn dJ7_copyOf_6403c_39 rfl rfl (by first | exact Or.inl ⟨_, rfl⟩ | exact Or.inr ⟨_, rfl⟩) ?_
    exact rN_of ⟨hq, mset_eq, fun p hp => by rw [mset_ne hp, mset_ne hp]⟩
theorem c_J7_copyOf1 {n0 k : Nat} {f : Nat → Option Nat} (hM : M a = some (aQ tO n0 f)) (hca : cvO ci) (hel : ∀ i, i < n0 → ∀ y, f i = some y → ∃ fs, M y = some (ob ci fs)) (hk : n0 ≤ k) (hb : k < 65536) : con g mJ7_copyOf_1904c 1 k [.ref a, .int (nI k)] M (rN (fun q M' => M q = none ∧ M' q = some (aQ tO k (va_cpy f (fun _ => none) 0 0 n0)) ∧ ∀ p, p ≠ q → M' p = M p)) := by
  refine con_i ?_ (by decide) rfl rfl (by simp [lv_args, Value.category]) (by simp [lv_args, lnd, Value.category])
  refine z_aload_n dJ7_copyOf_1904c_0 rfl rfl ?_
  refine z_iload_n dJ7_copyOf_1904c_1 rfl ?_
  refine z_aload_n dJ7_copyOf_1904c_2 rfl rfl ?_
  refine z_getClass dJ7_copyOf_1904c_3 ⟨gt_in 499 (by decide +kernel) rfl, gt_in 821 (by decide +kernel) rfl, gt_in 820 (by decide +kernel) rfl, gt_in 500 (by decide +kernel) rfl, gt_in 512 (by decide +kernel) rfl⟩ hM ⟨by decide, by decide⟩ (Nat.le_of_ble_eq_true rfl) ?_
  refine z_isN dJ7_copyOf_1904c_6 cs_RJ7_300 (c_J7_copyOf2 g hM hca hel hk hb) ⟨⟨by decide, by decide⟩, (by first | exact Nat.zero_le _ | decide | omega), (by first | exact Nat.zero_le _ | decide | omega)⟩ rfl rfl (Nat.le_of_ble_eq_true rfl) (fun q6 M6 hQ6 => ?_)
  refine z_areturn dJ7_copyOf_1904c_9 rfl rfl (by first | exact Or.inl ⟨_, rfl⟩ | exact Or.inr ⟨_, rfl⟩) ?_
  exact rN_of hQ6
/-- a list that holds n elements h, of the class ci: none yet, or a row of cap places -/
def LIn (g : GG) (M : Mem) (da n cap : Nat) (h : Nat → Nat) (ci : Nat) : Prop := (da = g.E ∧ n = 0) ∨ (M da = some (lrw h n cap) ∧ 1 ≤ n ∧ n ≤ cap ∧ cap ≤ 150 ∧ ∀ j, j < n → ∃ fs, M (h j) = some (ob ci fs))
def LGr (M : Mem) (a n : Nat) (mc : Int32) (h : Nat → Nat) (q : Nat) (M' : Mem) : Prop := M q = none ∧ ∃ cap, n + 1 ≤ cap ∧ cap ≤ 150 ∧ M' a = some (lst mc q n) ∧ M' q = some (lrw h n cap) ∧ ∀ p, p ≠ a → p ≠ q → M' p = M p
theorem lrw_0 (h : Nat → Nat) (cap : Nat) : aQ tO cap (fun _ => none) = lrw h 0 cap := congrArg (aQ tO cap) (funext fun j => (if_neg (Nat.not_lt_zero j)).symm)
theorem lrw_cpy (h : Nat → Nat) (n cap : Nat) : aQ tO cap (va_cpy (fun j => if j < n then some (h j) else none) (fun _ => none) 0 0 n) = lrw h n cap := congrArg (aQ tO cap) (funext fun j => by
  unfold va_cpy
  by_cases hj : j < n
  · rw [if_pos ⟨Nat.zero_le j, by omega⟩, Nat.zero_add, Nat.sub_zero]
  · rw [if_neg (fun q => hj (by omega)), if_neg hj])
theorem c_L_grow1 (hM : M a = some (lst mc da n)) (hn : n ≤ 99) (hca : cvO ci) (hI : LIn g M da n n h ci) : con g mJx4a65c_grow_92f84 1 150 [.ref a, .int (nI (n + 1))] M (rN (LGr M a n mc h)) := by
  refine con_i ?_ (by decide) rfl rfl (by simp [lv_args, Value.category]) (by simp [lv_args, lnd, Value.category])
  rcases hI with ⟨rfl, rfl⟩ | ⟨hD, h1, -, h2, hel⟩
  · have e10 : (if nI 10 < nI (0 + 1) then nI (0 + 1) else nI 10) = nI 10 := by decide
    refine z_aload_n dJx4a65c_grow_92f84_0 rfl rfl ?_
    refine z_getfield dJx4a65c_grow_92f84_1 fg_RJx4a65c_9 (by assumption) rfl ?_
    refine z_elen dJx4a65c_grow_92f84_4 ?_
    refine z_istore_n dJx4a65c_grow_92f84_5 (by decide) ?_
    refine z_iload_n dJx4a65c_grow_92f84_6 rfl ?_
    refine z_if_gt (tgt := 20) dJx4a65c_grow_92f84_7 (by decide) (fun h7 => absurd h7 (by decide)) (fun h7 => ?_)
    refine z_aload_n dJx4a65c_grow_92f84_10 rfl rfl ?_
    refine z_getfield dJx4a65c_grow_92f84_11 fg_RJx4a65c_9 (by assumption) rfl ?_
    refine z_empty dJx4a65c_grow_92f84_14 (gt_in 88 (by decide +kernel) rfl) ?_
    refine z_acmp_eq (tgt := 45) (rx := some g.E) (ry := some g.E) dJx4a65c_grow_92f84_17 (by decide) (fun h17 => ?_) (fun h17 => ?_)
    · refine z_aload_n dJx4a65c_grow_92f84_45 rfl rfl ?_
      refine z_bi kb_10 dJx4a65c_grow_92f84_46 ?_
      refine z_iload_n dJx4a65c_grow_92f84_48 rfl ?_
      refine z_isI dJx4a65c_grow_92f84_49 cs_RJx4a65c_79 (c_J9_max g M _ _) ⟨⟨by decide, by decide⟩, (by first | exact Nat.zero_le _ | decide | omega), (by first | exact Nat.zero_le _ | decide | omega)⟩ rfl rfl (Nat.le_of_ble_eq_true rfl) ?_
      rw [e10]
      refine z_anewarray dJx4a65c_grow_92f84_52 (gt_in 526 (by decide +kernel) rfl) rfl (by decide) (by decide) (by decide) (fun q hq => ?_)
      have hqa : a ≠ q := fun e => by rw [e, hq] at hM; cases hM
      have hM1 : mset M q (aQ tO 10 (fun _ => none)) a = some (lst mc g.E 0) := (mset_ne hqa).trans hM
      refine z_dup_x1 dJx4a65c_grow_92f84_55 rfl rfl ?_
      refine z_putfield dJx4a65c_grow_92f84_56 (fp_RJx4a65c_9 _) hM1 (Nat.le_of_ble_eq_true rfl) rfl rfl ?_
      refine z_areturn dJx4a65c_grow_92f84_59 rfl rfl (by first | exact Or.inl ⟨_, rfl⟩ | exact Or.inr ⟨_, rfl⟩) ?_
      exact rN_of ⟨hq, 10, by decide, by decide, mset_eq, by rw [mset_ne (Ne.symm hqa), mset_eq, lrw_0 h], fun p hp hpq => by rw [mset_ne hp, mset_ne hpq]⟩
    · exact absurd rfl h17
  · have hD' : M da = some (aQ tO n (fun j => if j < n then some (h j) else none)) := hD
    have e1 : nI (n + 1) - nI n = nI 1 := by
      have k := pk_sub (a := n + 1) (b := n) (by omega)
      rw [Nat.add_sub_cancel_left] at k
      exact k
    have e2 : nI n >>> (nI 1 &&& 31) = nI (n / 2) := by
      have k := pk_shrN (n := n) (by omega) (nI 1 &&& 31) 1 (by decide)
      rw [Nat.pow_one] at k
      exact k
    refine z_aload_n dJx4a65c_grow_92f84_0 rfl rfl ?_
    refine z_getfield dJx4a65c_grow_92f84_1 fg_RJx4a65c_9 (by assumption) rfl ?_
    refine z_arraylength dJx4a65c_grow_92f84_4 hD' ?_
    refine z_istore_n dJx4a65c_grow_92f84_5 (by decide) ?_
    refine z_iload_n dJx4a65c_grow_92f84_6 rfl ?_
    refine z_if_gt (tgt := 20) dJx4a65c_grow_92f84_7 (by decide) (fun h7 => ?_) (fun h7 => absurd ((nI_ltI (a := 0) (by decide) (by omega)).mpr (by omega)) h7)
    refine z_iload_n dJx4a65c_grow_92f84_20 rfl ?_
    refine z_iload_n dJx4a65c_grow_92f84_21 rfl ?_
    refine z_iload_n dJx4a65c_grow_92f84_22 rfl ?_
    refine z_isub dJx4a65c_grow_92f84_23 ?_
    rw [e1]
    refine z_iload_n dJx4a65c_grow_92f84_24 rfl ?_
    refine z_ic ki_1 dJx4a65c_grow_92f84_25 ?_
    refine z_ishr dJx4a65c_grow_92f84_26 ?_
    rw [e2]
    refine z_isI dJx4a65c_grow_92f84_27 cs_RJx4a65c_73 (c_J8_newLength g (M := M) (o := n) (k := n / 2) (by omega) (by omega)) ⟨⟨by decide, by decide⟩, (by first | exact Nat.zero_le _ | decide | omega), (by first | exact Nat.zero_le _ | decide | omega)⟩ rfl rfl (Nat.le_of_ble_eq_true rfl) ?_
    refine z_istore_n dJx4a65c_grow_92f84_30 (by decide) ?_
    refine z_aload_n dJx4a65c_grow_92f84_31 rfl rfl ?_
    refine z_aload_n dJx4a65c_grow_92f84_32 rfl rfl ?_
    refine z_getfield dJx4a65c_grow_92f84_33 fg_RJx4a65c_9 (by assumption) rfl ?_
    refine z_iload_n dJx4a65c_grow_92f84_36 rfl ?_
    refine z_isN dJx4a65c_grow_92f84_37 cs_RJx4a65c_66 (c_J7_copyOf1 g hD' hca (fun i hi y hy => by rw [if_pos hi] at hy; cases hy; exact hel i hi) (k := n + max 1 (n / 2)) (by omega) (by omega)) ⟨⟨by decide, by decide⟩, (by first | exact Nat.zero_le _ | decide | omega), (by first | exact Nat.zero_le _ | decide | omega)⟩ rfl rfl (Nat.le_of_ble_eq_true rfl) (fun q37 M37 hQ37 => ?_)
    have hqa : a ≠ q37 := fun e => by rw [e, hQ37.1] at hM; cases hM
    have hM1 : M37 a = some (lst mc da n) := (hQ37.2.2 a hqa).trans hM
    refine z_dup_x1 dJx4a65c_grow_92f84_40 rfl rfl ?_
    refine z_putfield dJx4a65c_grow_92f84_41 (fp_RJx4a65c_9 _) hM1 (Nat.le_of_ble_eq_true rfl) rfl rfl ?_
    refine z_areturn dJx4a65c_grow_92f84_44 rfl rfl (by first | exact Or.inl ⟨_, rfl⟩ | exact Or.inr ⟨_, rfl⟩) ?_
    exact rN_of ⟨hQ37.1, n + max 1 (n / 2), by omega, by omega, mset_eq, by rw [mset_ne (Ne.symm hqa), hQ37.2.1, lrw_cpy], fun p hp hpq => by rw [mset_ne hp, hQ37.2.2 p hpq]⟩
theorem c_L_grow0 (hM : M a = some (lst mc da n)) (hn : n ≤ 99) (hca : cvO ci) (hI : LIn g M da n n h ci) : con g mJx4a65c_grow_d5877 1 150 [.ref a] M (rN (LGr M a n mc h)) := by
  refine con_i ?_ (by decide) rfl rfl (by simp [lv_args, Value.category]) (by simp [lv_args, lnd, Value.category])
  refine z_aload_n dJx4a65c_grow_d5877_0 rfl rfl ?_
  refine z_aload_n dJx4a65c_grow_d5877_1 rfl rfl ?_
  refine z_getfield dJx4a65c_grow_d5877_2 fg_RJx4a65c_48 (by assumption) rfl ?_
  refine z_ic ki_1 dJx4a65c_grow_d5877_5 ?_
  refine z_iadd dJx4a65c_grow_d5877_6 ?_
  rw [nI_add]
  refine z_ivN dJx4a65c_grow_d5877_7 cv_RJx4a65c_69 hM (c_L_grow1 g hM hn hca hI) ⟨⟨by decide, by decide⟩, (by first | exact Nat.zero_le _ | decide | omega), (by first | exact Nat.zero_le _ | decide | omega)⟩ rfl rfl (Nat.le_of_ble_eq_true rfl) (fun q7 M7 hQ7 => ?_)
  refine z_areturn dJx4a65c_grow_d5877_10 rfl rfl (by first | exact Or.inl ⟨_, rfl⟩ | exact Or.inr ⟨_, rfl⟩) ?_
  exact rN_of hQ7
/-- behind an add: the element v stands last, in the old row or in a new one -/
def LAd (M : Mem) (a da n : Nat) (mc : Int32) (h : Nat → Nat) (v : Nat) (M' : Mem) : Prop := ∃ q cap, (M q = none ∨ (q = da ∧ 1 ≤ n)) ∧ q ≠ a ∧ n + 1 ≤ cap ∧ cap ≤ 150 ∧ M' a = some (lst mc q (n + 1)) ∧ M' q = some (lrw (f1 h n v) (n + 1) cap) ∧ ∀ p, p ≠ a → p ≠ q → M' p = M p
theorem lrw_put (h : Nat → Nat) (n cap v : Nat) : aQ tO cap (f1 (fun j => if j < n then some (h j) else none) n (some v)) = lrw (f1 h n v) (n + 1) cap := congrArg (aQ tO cap) (funext fun j => by
  unfold f1
  by_cases hj : j = n
  · rw [if_pos hj, if_pos (by omega), if_pos hj]
  · rw [if_neg hj, if_neg hj]
    show (if j < n then some (h j) else none) = _
    by_cases hl : j < n
    · rw [if_pos hl, if_pos (by omega)]
    · rw [if_neg hl, if_neg (by omega)])
theorem c_L_add3 {fs : List Value} (hM : M a = some (lst mc da n)) (hv : M v = some (ob ci fs)) (hz : ci ≠ 0) (hn : n ≤ 99) (hca : cvO ci) (hI : LIn g M da n cap h ci) : con g mJx4a65c_add_72be8 1 150 [.ref a, .ref v, .ref da, .int (nI n)] M (rQ none (LAd M a da n mc h v)) := by
  refine con_i ?_ (by decide) rfl rfl (by simp [lv_args, Value.category]) (by simp [lv_args, lnd, Value.category])
  have fin : ∀ (M1 : Mem) (q cap' : Nat) (ls : List (Nat × Value)), M1 a = some (lst mc q n) → M1 q = some (lrw h n cap') → (∃ fs, M1 v = some (ob ci fs)) → n + 1 ≤ cap' → cap' ≤ 150 → (M q = none ∨ (q = da ∧ 1 ≤ n)) → (∀ p, p ≠ a → p ≠ q → M1 p = M p) → ∀ bk bn, tri g mJx4a65c_add_72be8 bk bn (rQ none (LAd M a da n mc h v)) M1 11 [(0, .ref a), (1, .ref v), (2, .ref q), (3, .int (nI n))] [] := by
    intro M1 q cap' ls hA hR hV hc1 hc2 hq hs bk bn
    obtain ⟨fs', hV⟩ := hV
    have hqa : q ≠ a := fun e => by rw [e, hA] at hR; cases hR
    have hA2 : mset M1 q (aQ tO cap' (f1 (fun j => if j < n then some (h j) else none) n (some v))) a = some (lst mc q n) := (mset_ne (Ne.symm hqa)).trans hA
    refine z_aload_n dJx4a65c_add_72be8_11 rfl rfl ?_
    refine z_iload_n dJx4a65c_add_72be8_12 rfl ?_
    refine z_aload_n dJx4a65c_add_72be8_13 rfl rfl ?_
    refine z_aastore dJx4a65c_add_72be8_14 hR hV hca rfl (by omega) (by omega) ?_
    refine z_aload_n dJx4a65c_add_72be8_15 rfl rfl ?_
    refine z_iload_n dJx4a65c_add_72be8_16 rfl ?_
    refine z_ic ki_1 dJx4a65c_add_72be8_17 ?_
    refine z_iadd dJx4a65c_add_72be8_18 ?_
    rw [nI_add]
    refine z_putfield dJx4a65c_add_72be8_19 (fp_RJx4a65c_48 _) hA2 (Nat.le_of_ble_eq_true rfl) rfl rfl ?_
    refine z_return dJx4a65c_add_72be8_22 rfl ?_
    refine rQ_of ⟨q, cap', hq, hqa, hc1, hc2, mset_eq, ?_, fun p hp hpq => ?_⟩
    · rw [mset_ne hqa, mset_eq, lrw_put]
    · rw [mset_ne hp, mset_ne hpq, hs p hp hpq]
  have gro : LIn g M da n n h ci → ∀ (q : Nat) (M1 : Mem), LGr M a n mc h q M1 → tri g mJx4a65c_add_72be8 0 0 (rQ none (LAd M a da n mc h v)) M1 11 [(0, .ref a), (1, .ref v), (2, .ref q), (3, .int (nI n))] [] := by
    intro hI q M1 hG
    obtain ⟨hq, cap', g1, g2, g3, g4, g5⟩ := hG
    have hva : v ≠ a := fun e => by rw [e, hM] at hv; cases hv; exact hz rfl
    have hvq : v ≠ q := fun e => by rw [e, hq] at hv; cases hv
    exact fin M1 q cap' [] g3 g4 ⟨fs, (g5 v hva hvq).trans hv⟩ g1 g2 (Or.inl hq) g5 0 0
  rcases hI with ⟨rfl, rfl⟩ | ⟨hD, hc1, hc2, hc3, hel⟩
  · skip
    refine z_iload_n dJx4a65c_add_72be8_0 rfl ?_
    refine z_aload_n dJx4a65c_add_72be8_1 rfl rfl ?_
    refine z_elen dJx4a65c_add_72be8_2 ?_
    refine z_icmp_ne (tgt := 11) dJx4a65c_add_72be8_3 (by decide) (fun h3 => absurd h3 (fun q => q rfl)) (fun h3 => ?_)
    refine z_aload_n dJx4a65c_add_72be8_6 rfl rfl ?_
    refine z_ivN dJx4a65c_add_72be8_7 cv_RJx4a65c_129 hM (c_L_grow0 (h := h) g hM hn hca (Or.inl ⟨rfl, rfl⟩)) ⟨⟨by decide, by decide⟩, (by first | exact Nat.zero_le _ | decide | omega), (by first | exact Nat.zero_le _ | decide | omega)⟩ rfl rfl (Nat.le_of_ble_eq_true rfl) (fun q7 M7 hQ7 => ?_)
    refine z_astore_n dJx4a65c_add_72be8_10 (by decide) rfl ?_
    exact gro (Or.inl ⟨rfl, rfl⟩) q7 M7 hQ7
  · have hD' : M da = some (aQ tO cap (fun j => if j < n then some (h j) else none)) := hD
    by_cases hcn : n = cap
    · subst hcn
      refine z_iload_n dJx4a65c_add_72be8_0 rfl ?_
      refine z_aload_n dJx4a65c_add_72be8_1 rfl rfl ?_
      refine z_arraylength dJx4a65c_add_72be8_2 hD' ?_
      refine z_icmp_ne (tgt := 11) dJx4a65c_add_72be8_3 (by decide) (fun h3 => absurd h3 (fun q => q rfl)) (fun h3 => ?_)
      refine z_aload_n dJx4a65c_add_72be8_6 rfl rfl ?_
      refine z_ivN dJx4a65c_add_72be8_7 cv_RJx4a65c_129 hM (c_L_grow0 g hM hn hca (Or.inr ⟨hD, hc1, hc2, hc3, hel⟩)) ⟨⟨by decide, by decide⟩, (by first | exact Nat.zero_le _ | decide | omega), (by first | exact Nat.zero_le _ | decide | omega)⟩ rfl rfl (Nat.le_of_ble_eq_true rfl) (fun q7 M7 hQ7 => ?_)
      refine z_astore_n dJx4a65c_add_72be8_10 (by decide) rfl ?_
      exact gro (Or.inr ⟨hD, hc1, hc2, hc3, hel⟩) q7 M7 hQ7
    · skip
      refine z_iload_n dJx4a65c_add_72be8_0 rfl ?_
      refine z_aload_n dJx4a65c_add_72be8_1 rfl rfl ?_
      refine z_arraylength dJx4a65c_add_72be8_2 hD' ?_
      refine z_icmp_ne (tgt := 11) dJx4a65c_add_72be8_3 (by decide) (fun h3 => ?_) (fun h3 => absurd h3 (fun q => hcn ((nI_eq (by omega) (by omega)).mp q)))
      exact fin M da cap [] hM hD ⟨fs, hv⟩ (by omega) hc3 (Or.inr ⟨rfl, hc1⟩) (fun p _ _ => rfl) _ _
theorem c_L_add {fs : List Value} (hM : M a = some (lst mc da n)) (hv : M v = some (ob ci fs)) (hz : ci ≠ 0) (hn : n ≤ 99) (hca : cvO ci) (hI : LIn g M da n cap h ci) : con g mJx4a65c_add_9ea2d 1 150 [.ref a, .ref v] M (rQ (some (.int (nI 1))) (LAd M a da n (mc + nI 1) h v)) := by
  refine con_i ?_ (by decide) rfl rfl (by simp [lv_args, Value.category]) (by simp [lv_args, lnd, Value.category])
  have hva : v ≠ a := fun e => by rw [e, hM] at hv; cases hv; exact hz rfl
  have hM1 : mset M a (lst (mc + nI 1) da n) a = some (lst (mc + nI 1) da n) := mset_eq
  have hv1 : mset M a (lst (mc + nI 1) da n) v = some (ob ci fs) := (mset_ne hva).trans hv
  have hI1 : LIn g (mset M a (lst (mc + nI 1) da n)) da n cap h ci := by
    rcases hI with q | ⟨hD, g1, g2, g3, g4⟩
    · exact Or.inl q
    · refine Or.inr ⟨(mset_ne (fun e => by rw [e, hM] at hD; cases hD)).trans hD, g1, g2, g3, fun j hj => ?_⟩
      obtain ⟨fs', hfs⟩ := g4 j hj
      exact ⟨fs', (mset_ne (fun e => by rw [e, hM] at hfs; cases hfs; exact hz rfl)).trans hfs⟩
  refine z_aload_n dJx4a65c_add_9ea2d_0 rfl rfl ?_
  refine z_dup dJx4a65c_add_9ea2d_1 rfl ?_
  refine z_getfield dJx4a65c_add_9ea2d_2 fg_RJx4a65c_63 (by assumption) rfl ?_
  refine z_ic ki_1 dJx4a65c_add_9ea2d_5 ?_
  refine z_iadd dJx4a65c_add_9ea2d_6 ?_
  refine z_putfield dJx4a65c_add_9ea2d_7 (fp_RJx4a65c_63 _) (by assumption) (Nat.le_of_ble_eq_true rfl) rfl rfl ?_
  refine z_aload_n dJx4a65c_add_9ea2d_10 rfl rfl ?_
  refine z_aload_n dJx4a65c_add_9ea2d_11 rfl rfl ?_
  refine z_aload_n dJx4a65c_add_9ea2d_12 rfl rfl ?_
  refine z_getfield dJx4a65c_add_9ea2d_13 fg_RJx4a65c_9 hM1 rfl ?_
  refine z_aload_n dJx4a65c_add_9ea2d_16 rfl rfl ?_
  refine z_getfield dJx4a65c_add_9ea2d_17 fg_RJx4a65c_48 hM1 rfl ?_
  refine z_ivQ dJx4a65c_add_9ea2d_20 cv_RJx4a65c_131 hM1 (c_L_add3 g hM1 hv1 hz hn hca hI1) ⟨⟨by decide, by decide⟩, (by first | exact Nat.zero_le _ | decide | omega), (by first | exact Nat.zero_le _ | decide | omega)⟩ rfl rfl (Nat.le_of_ble_eq_true rfl) (fun M20 hQ20 => ?_)
  refine z_ic ki_1 dJx4a65c_add_9ea2d_23 ?_
  refine z_ireturn dJx4a65c_add_9ea2d_24 rfl (by first | rfl | exact bI_nar _) ?_
  obtain ⟨q, cap', g1, g2, g3, g4, g5, g6, g7⟩ := hQ20
  refine rQ_of ⟨q, cap', ?_, g2, g3, g4, g5, g6, fun p hp hpq => by rw [g7 p hp hpq, mset_ne hp]⟩
  rcases g1 with g1 | g1
  · exact Or.inl (by rw [mset_ne g2] at g1; exact g1)
  · exact Or.inr g1
end LISTS
