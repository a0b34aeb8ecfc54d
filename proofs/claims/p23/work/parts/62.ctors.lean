/-! constructors: the class, its formats and its store; the reference -/
abbrev zI (n : Nat) : GE := aI .int n (fun _ => 0)
abbrev zB (n : Nat) : GE := aI .boolean n (fun _ => 0)
abbrev cst (q : Nat) : GE := aQ (.array .int) 8 (fun j => some (q + 1 + j))
section CTORS
variable (g : GG) {M : Mem} {a : Nat}
def fmL (p q r : Nat) : List (Nat × GE) := (r, zI 8) :: (q, cst q) :: (rws (q + 1) (zI 8) 8 ++ [(p, zI 8)])
theorem c_X1_init (hM : M a = some (ob 2 [.null, .null, .null, .int 0])) : con g mX1_init 11 88 [.ref a] M (rQ none (fun M' => ∃ p q r, CTR M a (ob 2 [.ref p, .ref q, .ref r, .int 0]) (fmL p q r) M')) := by
  refine con_i ?_ (by decide) rfl rfl (by simp [lv_args, Value.category]) (by simp [lv_args, lnd, Value.category])
  have K0 := CTR.one hM
  refine z_aload_n dX1_init_0 rfl rfl ?_
  refine z_objInit dX1_init_1 ⟨gt_in 53 (by decide +kernel) rfl, gt_in 46 (by decide +kernel) rfl, gt_in 47 (by decide +kernel) rfl⟩ ⟨by decide, by decide⟩ (by decide) ?_
  refine z_aload_n dX1_init_4 rfl rfl ?_
  refine z_bi kb_8 dX1_init_5 ?_
  refine z_newarray_int dX1_init_7 ac_int rfl (by decide) (by decide) (by decide) (fun q7 hq7 => ?_)
  have K1 := K0.new hq7 (zI 8)
  refine z_putfield dX1_init_9 (fpi_RX1_9) K1.2 (Nat.le_of_ble_eq_true rfl) rfl rfl ?_
  have K2 := K1.put (ob 2 [.ref q7, .null, .null, .int 0])
  refine z_aload_n dX1_init_12 rfl rfl ?_
  refine z_bi kb_8 dX1_init_13 ?_
  refine z_bi kb_8 dX1_init_15 ?_
  refine z_mna dX1_init_17 (gt_in 54 (by decide +kernel) rfl) rfl rfl (by decide) (by decide) (by decide) (by decide) (fun q17 hq17 hr17 => ?_)
  have K3 := K2.mna (N := 8) (x := zI 8) (y := cst q17) hq17 hr17
  refine z_putfield dX1_init_21 (fpi_RX1_17) K3.2 (Nat.le_of_ble_eq_true rfl) rfl rfl ?_
  have K4 := K3.put (ob 2 [.ref q7, .ref q17, .null, .int 0])
  refine z_aload_n dX1_init_24 rfl rfl ?_
  refine z_bi kb_8 dX1_init_25 ?_
  refine z_newarray_int dX1_init_27 ac_int rfl (by decide) (by decide) (by decide) (fun q27 hq27 => ?_)
  have K5 := K4.new hq27 (zI 8)
  refine z_putfield dX1_init_29 (fpi_RX1_20) K5.2 (Nat.le_of_ble_eq_true rfl) rfl rfl ?_
  refine z_return dX1_init_32 rfl ?_
  exact rQ_of ⟨q7, q17, q27, K5.put (ob 2 [.ref q7, .ref q17, .ref q27, .int 0])⟩
theorem CTR.li (g : GG) {q : Nat} {M1 M2 : Mem} (hq : M1 q = some (ob 0 [.int 0, .null, .int 0])) (h : M2 q = some (lst 0 g.E 0) ∧ ∀ p, p ≠ q → M2 p = M1 p) : CTR M1 q (lst 0 g.E 0) [] M2 := ⟨⟨List.nodup_nil, fun _ h => (List.not_mem_nil h).elim, fun _ h => (List.not_mem_nil h).elim, fun z _ hz => h.2 z hz, fun z hz => by
  rw [hz, hq, h.1]
  exact ⟨fun k => (by cases k), fun k => (by cases k)⟩⟩, h.1⟩
def stL (g : GG) (p q r : Nat) : List (Nat × GE) := [(r, zI 4), (q, zB 4), (p, lst 0 g.E 0)]
theorem c_X2_init (hM : M a = some (ob 3 [.null, .null, .null, .int 0])) : con g mX2_init 3 11 [.ref a] M (rQ none (fun M' => ∃ p q r, CTR M a (ob 3 [.ref p, .ref q, .ref r, .int (-1)]) (stL g p q r) M')) := by
  refine con_i ?_ (by decide) rfl rfl (by simp [lv_args, Value.category]) (by simp [lv_args, lnd, Value.category])
  have K0 := CTR.one hM
  refine z_aload_n dX2_init_0 rfl rfl ?_
  refine z_objInit dX2_init_1 ⟨gt_in 75 (by decide +kernel) rfl, gt_in 46 (by decide +kernel) rfl, gt_in 47 (by decide +kernel) rfl⟩ ⟨by decide, by decide⟩ (by decide) ?_
  refine z_aload_n dX2_init_4 rfl rfl ?_
  refine z_new dX2_init_5 nw_RX2_9 (by decide) (by decide) (fun q5 hq5 => ?_)
  refine z_dup dX2_init_8 rfl ?_
  have K1 := K0.new hq5 (ob 0 [.int 0, .null, .int 0])
  refine z_ipQ dX2_init_9 ci_RX2_11 (c_L_init g K1.1.at) ⟨⟨by decide, by decide⟩, (by first | exact Nat.zero_le _ | decide | omega), (by first | exact Nat.zero_le _ | decide | omega)⟩ rfl rfl (Nat.le_of_ble_eq_true rfl) (fun M9 hQ9 => ?_)
  have K2 := K1.call (CTR.li g K1.1.at hQ9)
  refine z_putfield dX2_init_12 (fpi_RX2_12) K2.2 (Nat.le_of_ble_eq_true rfl) rfl rfl ?_
  have K3 := K2.put (ob 3 [.ref q5, .null, .null, .int 0])
  refine z_aload_n dX2_init_15 rfl rfl ?_
  refine z_ic ki_4 dX2_init_16 ?_
  refine z_newarray_bool dX2_init_17 ac_bool rfl (by decide) (by decide) (by decide) (fun q17 hq17 => ?_)
  have K4 := K3.new hq17 (zB 4)
  refine z_putfield dX2_init_19 (fpi_RX2_18) K4.2 (Nat.le_of_ble_eq_true rfl) rfl rfl ?_
  have K5 := K4.put (ob 3 [.ref q5, .ref q17, .null, .int 0])
  refine z_aload_n dX2_init_22 rfl rfl ?_
  refine z_ic ki_4 dX2_init_23 ?_
  refine z_newarray_int dX2_init_24 ac_int rfl (by decide) (by decide) (by decide) (fun q24 hq24 => ?_)
  have K6 := K5.new hq24 (zI 4)
  refine z_putfield dX2_init_26 (fpi_RX2_22) K6.2 (Nat.le_of_ble_eq_true rfl) rfl rfl ?_
  have K7 := K6.put (ob 3 [.ref q5, .ref q17, .ref q24, .int 0])
  refine z_aload_n dX2_init_29 rfl rfl ?_
  refine z_ic ki_m1 dX2_init_30 ?_
  refine z_putfield dX2_init_31 (fpi_RX2_26 _) K7.2 (Nat.le_of_ble_eq_true rfl) rfl rfl ?_
  refine z_return dX2_init_34 rfl ?_
  exact rQ_of ⟨q5, q17, q24, K7.put (ob 3 [.ref q5, .ref q17, .ref q24, .int (-1)])⟩
def hlL (g : GG) (f p q r s u c o ol : Nat) : List (Nat × GE) := (ol, lst 0 g.E 0) :: (stL g u c o ++ (s, ob 3 [.ref u, .ref c, .ref o, .int (-1)]) :: (fmL p q r ++ [(f, ob 2 [.ref p, .ref q, .ref r, .int 0])]))
theorem c_X5_init (hM : M a = some (ob 6 [.null, .null, .null])) : con g mX5_init 17 110 [.ref a] M (rQ none (fun M' => ∃ f p q r s u c o ol, CTR M a (ob 6 [.ref f, .ref s, .ref ol]) (hlL g f p q r s u c o ol) M')) := by
  refine con_i ?_ (by decide) rfl rfl (by simp [lv_args, Value.category]) (by simp [lv_args, lnd, Value.category])
  have K0 := CTR.one hM
  refine z_aload_n dX5_init_0 rfl rfl ?_
  refine z_objInit dX5_init_1 ⟨gt_in 45 (by decide +kernel) rfl, gt_in 46 (by decide +kernel) rfl, gt_in 47 (by decide +kernel) rfl⟩ ⟨by decide, by decide⟩ (by decide) ?_
  refine z_aload_n dX5_init_4 rfl rfl ?_
  refine z_new dX5_init_5 nw_RX5_7 (by decide) (by decide) (fun q5 hq5 => ?_)
  refine z_dup dX5_init_8 rfl ?_
  have K1 := K0.new hq5 (ob 2 [.null, .null, .null, .int 0])
  refine z_ipQ dX5_init_9 ci_RX5_9 (c_X1_init g K1.1.at) ⟨⟨by decide, by decide⟩, (by first | exact Nat.zero_le _ | decide | omega), (by first | exact Nat.zero_le _ | decide | omega)⟩ rfl rfl (Nat.le_of_ble_eq_true rfl) (fun M9 hQ9 => ?_)
  obtain ⟨p, q, r, hF⟩ := hQ9
  have K2 := K1.call hF
  refine z_putfield dX5_init_12 (fpi_RX5_10) K2.2 (Nat.le_of_ble_eq_true rfl) rfl rfl ?_
  have K3 := K2.put (ob 6 [.ref q5, .null, .null])
  refine z_aload_n dX5_init_15 rfl rfl ?_
  refine z_new dX5_init_16 nw_RX5_16 (by decide) (by decide) (fun q16 hq16 => ?_)
  refine z_dup dX5_init_19 rfl ?_
  have K4 := K3.new hq16 (ob 3 [.null, .null, .null, .int 0])
  refine z_ipQ dX5_init_20 ci_RX5_18 (c_X2_init g K4.1.at) ⟨⟨by decide, by decide⟩, (by first | exact Nat.zero_le _ | decide | omega), (by first | exact Nat.zero_le _ | decide | omega)⟩ rfl rfl (Nat.le_of_ble_eq_true rfl) (fun M20 hQ20 => ?_)
  obtain ⟨u, c, o, hS⟩ := hQ20
  have K5 := K4.call hS
  refine z_putfield dX5_init_23 (fpi_RX5_19) K5.2 (Nat.le_of_ble_eq_true rfl) rfl rfl ?_
  have K6 := K5.put (ob 6 [.ref q5, .ref q16, .null])
  refine z_aload_n dX5_init_26 rfl rfl ?_
  refine z_new dX5_init_27 nw_RX5_23 (by decide) (by decide) (fun q27 hq27 => ?_)
  refine z_dup dX5_init_30 rfl ?_
  have K7 := K6.new hq27 (ob 0 [.int 0, .null, .int 0])
  refine z_ipQ dX5_init_31 ci_RX5_25 (c_L_init g K7.1.at) ⟨⟨by decide, by decide⟩, (by first | exact Nat.zero_le _ | decide | omega), (by first | exact Nat.zero_le _ | decide | omega)⟩ rfl rfl (Nat.le_of_ble_eq_true rfl) (fun M31 hQ31 => ?_)
  have K8 := K7.call (CTR.li g K7.1.at hQ31)
  refine z_putfield dX5_init_34 (fpi_RX5_26) K8.2 (Nat.le_of_ble_eq_true rfl) rfl rfl ?_
  refine z_return dX5_init_37 rfl ?_
  exact rQ_of ⟨q5, p, q, r, q16, u, c, o, q27, K8.put (ob 6 [.ref q5, .ref q16, .ref q27])⟩
end CTORS
