/-! the reference's constructor -/
theorem CTR.upd {M M' : Mem} {a q : Nat} {e e0 : GE} {l1 l2 : List (Nat × GE)} (h : CTR M a e (l1 ++ (q, e0) :: l2) M') (x : GE) : CTR M a e (l1 ++ (q, x) :: l2) (mset M' q x) := ⟨h.1.upd x, by
  have hq := (h.1.key (key_mem (p := (q, e0)) (List.mem_append_right l1 List.mem_cons_self))).1
  rw [mset_ne (fun k => (h.1.2.2.2.2 a rfl).1 (by rw [k]; exact hq))]
  exact h.2⟩
def lf (j : Nat) : Nat → Int32 := fun k => if k < j then -1 else 0
def mdL (r : Nat → Nat) (f : Nat → Int32) : List (Nat × GE) := [(r 18, zB 4), (r 17, zI 400), (r 16, zB 400), (r 15, zI 100), (r 14, zI 100), (r 13, zB 100), (r 12, zB 100), (r 10, zI 100), (r 9, zI 100), (r 8, zI 100), (r 7, zB 100), (r 6, zI 10), (r 5, zI 10), (r 3, zI 8)] ++ (r 2, aI .int 64 f) :: [(r 1, zI 8)]
def mdO (r : Nat → Nat) : GE := ob 7 [.int 0, .ref (r 1), .ref (r 2), .ref (r 3), .int 0, .ref (r 5), .ref (r 6), .ref (r 7), .ref (r 8), .ref (r 9), .ref (r 10), .int 0, .ref (r 12), .ref (r 13), .ref (r 14), .ref (r 15), .ref (r 16), .ref (r 17), .ref (r 18), .int (-1), .int 0]
section MCTOR
variable (g : GG) {M : Mem} {a : Nat}
theorem mctor_loop {r : Nat → Nat} {bk bn : Nat} : ∀ j, j ≤ 64 → ∀ (M' : Mem) x1, CTR M a (mdO r) (mdL r (lf j)) M' → x1 = nI j → tri g mX6_init bk bn (rQ none (fun M' => ∃ r, CTR M a (mdO r) (mdL r (lf 64)) M')) M' 140 [(0, .ref a), (1, .int x1)] [] := by
  refine lp_up 64 ?_ ?_
  · intro M' x1 h e1
    subst e1
    refine z_iload_n dX6_init_140 rfl ?_
    refine z_bi kb_64 dX6_init_141 ?_
    refine z_icmp_ge (tgt := 159) dX6_init_143 (by decide) (fun h143 => ?_) (fun h143 => absurd (nI_le (by omega) (by omega)) h143)
    refine z_return dX6_init_159 rfl ?_
    exact rQ_of ⟨r, h⟩
  · intro j hj ih M' x1 h e1
    subst e1
    have hO : M' a = some (mdO r) := h.2
    unfold mdO at hO
    have h2 : M' (r 2) = some (aI .int 64 (lf j)) := h.1.2.2.1 (r 2, aI .int 64 (lf j)) (List.mem_append_right _ List.mem_cons_self)
    refine z_iload_n dX6_init_140 rfl ?_
    refine z_bi kb_64 dX6_init_141 ?_
    refine z_icmp_ge (tgt := 159) dX6_init_143 (by decide) (fun h143 => absurd h143 (nI_ge hj (by omega))) (fun h143 => ?_)
    refine z_aload_n dX6_init_146 rfl rfl ?_
    refine z_getfield dX6_init_147 fg_RX6_13 hO rfl ?_
    refine z_iload_n dX6_init_150 rfl ?_
    refine z_ic ki_m1 dX6_init_151 ?_
    refine z_iastore dX6_init_152 h2 rfl hj (by decide) ?_
    refine z_inc ki_1 dX6_init_153 rfl (by decide) ?_
    refine z_goto (tgt := 140) dX6_init_156 (by decide) ?_
    refine ih _ _ ?_ (nI_add j 1)
    have e : upd (lf j) j (-1) = lf (j + 1) := by
      funext k
      unfold upd lf
      by_cases hk : k = j
      · rw [if_pos hk, if_pos (by omega)]
      · rw [if_neg hk]
        by_cases hl : k < j
        · rw [if_pos hl, if_pos (by omega)]
        · rw [if_neg hl, if_neg (by omega)]
    rw [e]
    exact h.upd (aI .int 64 (lf (j + 1)))
theorem c_X6_init (hM : M a = some (ob 7 [.int 0, .null, .null, .null, .int 0, .null, .null, .null, .null, .null, .null, .int 0, .null, .null, .null, .null, .null, .null, .null, .int 0, .int 0])) : con g mX6_init 16 1704 [.ref a] M (rQ none (fun M' => ∃ r, CTR M a (mdO r) (mdL r (lf 64)) M')) := by
  refine con_i ?_ (by decide) rfl rfl (by simp [lv_args, Value.category]) (by simp [lv_args, lnd, Value.category])
  have K0 := CTR.one hM
  refine z_aload_n dX6_init_0 rfl rfl ?_
  refine z_objInit dX6_init_1 ⟨gt_in 837 (by decide +kernel) rfl, gt_in 71 (by decide +kernel) rfl, gt_in 72 (by decide +kernel) rfl⟩ ⟨by decide, by decide⟩ (by decide) ?_
  refine z_aload_n dX6_init_4 rfl rfl ?_
  refine z_bi kb_8 dX6_init_5 ?_
  refine z_newarray_int dX6_init_7 ac_int rfl (by decide) (by decide) (by decide) (fun q7 hq7 => ?_)
  have K1 := K0.new hq7 (zI 8)
  refine z_putfield dX6_init_9 (fpi_RX6_7) K1.2 (Nat.le_of_ble_eq_true rfl) rfl rfl ?_
  have K2 := K1.put (ob 7 [.int 0, .ref q7, .null, .null, .int 0, .null, .null, .null, .null, .null, .null, .int 0, .null, .null, .null, .null, .null, .null, .null, .int 0, .int 0])
  refine z_aload_n dX6_init_12 rfl rfl ?_
  refine z_bi kb_64 dX6_init_13 ?_
  refine z_newarray_int dX6_init_15 ac_int rfl (by decide) (by decide) (by decide) (fun q15 hq15 => ?_)
  have K3 := K2.new hq15 (zI 64)
  refine z_putfield dX6_init_17 (fpi_RX6_13) K3.2 (Nat.le_of_ble_eq_true rfl) rfl rfl ?_
  have K4 := K3.put (ob 7 [.int 0, .ref q7, .ref q15, .null, .int 0, .null, .null, .null, .null, .null, .null, .int 0, .null, .null, .null, .null, .null, .null, .null, .int 0, .int 0])
  refine z_aload_n dX6_init_20 rfl rfl ?_
  refine z_bi kb_8 dX6_init_21 ?_
  refine z_newarray_int dX6_init_23 ac_int rfl (by decide) (by decide) (by decide) (fun q23 hq23 => ?_)
  have K5 := K4.new hq23 (zI 8)
  refine z_putfield dX6_init_25 (fpi_RX6_16) K5.2 (Nat.le_of_ble_eq_true rfl) rfl rfl ?_
  have K6 := K5.put (ob 7 [.int 0, .ref q7, .ref q15, .ref q23, .int 0, .null, .null, .null, .null, .null, .null, .int 0, .null, .null, .null, .null, .null, .null, .null, .int 0, .int 0])
  refine z_aload_n dX6_init_28 rfl rfl ?_
  refine z_bi kb_10 dX6_init_29 ?_
  refine z_newarray_int dX6_init_31 ac_int rfl (by decide) (by decide) (by decide) (fun q31 hq31 => ?_)
  have K7 := K6.new hq31 (zI 10)
  refine z_putfield dX6_init_33 (fpi_RX6_19) K7.2 (Nat.le_of_ble_eq_true rfl) rfl rfl ?_
  have K8 := K7.put (ob 7 [.int 0, .ref q7, .ref q15, .ref q23, .int 0, .ref q31, .null, .null, .null, .null, .null, .int 0, .null, .null, .null, .null, .null, .null, .null, .int 0, .int 0])
  refine z_aload_n dX6_init_36 rfl rfl ?_
  refine z_bi kb_10 dX6_init_37 ?_
  refine z_newarray_int dX6_init_39 ac_int rfl (by decide) (by decide) (by decide) (fun q39 hq39 => ?_)
  have K9 := K8.new hq39 (zI 10)
  refine z_putfield dX6_init_41 (fpi_RX6_22) K9.2 (Nat.le_of_ble_eq_true rfl) rfl rfl ?_
  have K10 := K9.put (ob 7 [.int 0, .ref q7, .ref q15, .ref q23, .int 0, .ref q31, .ref q39, .null, .null, .null, .null, .int 0, .null, .null, .null, .null, .null, .null, .null, .int 0, .int 0])
  refine z_aload_n dX6_init_44 rfl rfl ?_
  refine z_bi kb_100 dX6_init_45 ?_
  refine z_newarray_bool dX6_init_47 ac_bool rfl (by decide) (by decide) (by decide) (fun q47 hq47 => ?_)
  have K11 := K10.new hq47 (zB 100)
  refine z_putfield dX6_init_49 (fpi_RX6_25) K11.2 (Nat.le_of_ble_eq_true rfl) rfl rfl ?_
  have K12 := K11.put (ob 7 [.int 0, .ref q7, .ref q15, .ref q23, .int 0, .ref q31, .ref q39, .ref q47, .null, .null, .null, .int 0, .null, .null, .null, .null, .null, .null, .null, .int 0, .int 0])
  refine z_aload_n dX6_init_52 rfl rfl ?_
  refine z_bi kb_100 dX6_init_53 ?_
  refine z_newarray_int dX6_init_55 ac_int rfl (by decide) (by decide) (by decide) (fun q55 hq55 => ?_)
  have K13 := K12.new hq55 (zI 100)
  refine z_putfield dX6_init_57 (fpi_RX6_29) K13.2 (Nat.le_of_ble_eq_true rfl) rfl rfl ?_
  have K14 := K13.put (ob 7 [.int 0, .ref q7, .ref q15, .ref q23, .int 0, .ref q31, .ref q39, .ref q47, .ref q55, .null, .null, .int 0, .null, .null, .null, .null, .null, .null, .null, .int 0, .int 0])
  refine z_aload_n dX6_init_60 rfl rfl ?_
  refine z_bi kb_100 dX6_init_61 ?_
  refine z_newarray_int dX6_init_63 ac_int rfl (by decide) (by decide) (by decide) (fun q63 hq63 => ?_)
  have K15 := K14.new hq63 (zI 100)
  refine z_putfield dX6_init_65 (fpi_RX6_32) K15.2 (Nat.le_of_ble_eq_true rfl) rfl rfl ?_
  have K16 := K15.put (ob 7 [.int 0, .ref q7, .ref q15, .ref q23, .int 0, .ref q31, .ref q39, .ref q47, .ref q55, .ref q63, .null, .int 0, .null, .null, .null, .null, .null, .null, .null, .int 0, .int 0])
  refine z_aload_n dX6_init_68 rfl rfl ?_
  refine z_bi kb_100 dX6_init_69 ?_
  refine z_newarray_int dX6_init_71 ac_int rfl (by decide) (by decide) (by decide) (fun q71 hq71 => ?_)
  have K17 := K16.new hq71 (zI 100)
  refine z_putfield dX6_init_73 (fpi_RX6_35) K17.2 (Nat.le_of_ble_eq_true rfl) rfl rfl ?_
  have K18 := K17.put (ob 7 [.int 0, .ref q7, .ref q15, .ref q23, .int 0, .ref q31, .ref q39, .ref q47, .ref q55, .ref q63, .ref q71, .int 0, .null, .null, .null, .null, .null, .null, .null, .int 0, .int 0])
  refine z_aload_n dX6_init_76 rfl rfl ?_
  refine z_bi kb_100 dX6_init_77 ?_
  refine z_newarray_bool dX6_init_79 ac_bool rfl (by decide) (by decide) (by decide) (fun q79 hq79 => ?_)
  have K19 := K18.new hq79 (zB 100)
  refine z_putfield dX6_init_81 (fpi_RX6_38) K19.2 (Nat.le_of_ble_eq_true rfl) rfl rfl ?_
  have K20 := K19.put (ob 7 [.int 0, .ref q7, .ref q15, .ref q23, .int 0, .ref q31, .ref q39, .ref q47, .ref q55, .ref q63, .ref q71, .int 0, .ref q79, .null, .null, .null, .null, .null, .null, .int 0, .int 0])
  refine z_aload_n dX6_init_84 rfl rfl ?_
  refine z_bi kb_100 dX6_init_85 ?_
  refine z_newarray_bool dX6_init_87 ac_bool rfl (by decide) (by decide) (by decide) (fun q87 hq87 => ?_)
  have K21 := K20.new hq87 (zB 100)
  refine z_putfield dX6_init_89 (fpi_RX6_41) K21.2 (Nat.le_of_ble_eq_true rfl) rfl rfl ?_
  have K22 := K21.put (ob 7 [.int 0, .ref q7, .ref q15, .ref q23, .int 0, .ref q31, .ref q39, .ref q47, .ref q55, .ref q63, .ref q71, .int 0, .ref q79, .ref q87, .null, .null, .null, .null, .null, .int 0, .int 0])
  refine z_aload_n dX6_init_92 rfl rfl ?_
  refine z_bi kb_100 dX6_init_93 ?_
  refine z_newarray_int dX6_init_95 ac_int rfl (by decide) (by decide) (by decide) (fun q95 hq95 => ?_)
  have K23 := K22.new hq95 (zI 100)
  refine z_putfield dX6_init_97 (fpi_RX6_44) K23.2 (Nat.le_of_ble_eq_true rfl) rfl rfl ?_
  have K24 := K23.put (ob 7 [.int 0, .ref q7, .ref q15, .ref q23, .int 0, .ref q31, .ref q39, .ref q47, .ref q55, .ref q63, .ref q71, .int 0, .ref q79, .ref q87, .ref q95, .null, .null, .null, .null, .int 0, .int 0])
  refine z_aload_n dX6_init_100 rfl rfl ?_
  refine z_bi kb_100 dX6_init_101 ?_
  refine z_newarray_int dX6_init_103 ac_int rfl (by decide) (by decide) (by decide) (fun q103 hq103 => ?_)
  have K25 := K24.new hq103 (zI 100)
  refine z_putfield dX6_init_105 (fpi_RX6_47) K25.2 (Nat.le_of_ble_eq_true rfl) rfl rfl ?_
  have K26 := K25.put (ob 7 [.int 0, .ref q7, .ref q15, .ref q23, .int 0, .ref q31, .ref q39, .ref q47, .ref q55, .ref q63, .ref q71, .int 0, .ref q79, .ref q87, .ref q95, .ref q103, .null, .null, .null, .int 0, .int 0])
  refine z_aload_n dX6_init_108 rfl rfl ?_
  refine z_si ks_400 dX6_init_109 ?_
  refine z_newarray_bool dX6_init_112 ac_bool rfl (by decide) (by decide) (by decide) (fun q112 hq112 => ?_)
  have K27 := K26.new hq112 (zB 400)
  refine z_putfield dX6_init_114 (fpi_RX6_50) K27.2 (Nat.le_of_ble_eq_true rfl) rfl rfl ?_
  have K28 := K27.put (ob 7 [.int 0, .ref q7, .ref q15, .ref q23, .int 0, .ref q31, .ref q39, .ref q47, .ref q55, .ref q63, .ref q71, .int 0, .ref q79, .ref q87, .ref q95, .ref q103, .ref q112, .null, .null, .int 0, .int 0])
  refine z_aload_n dX6_init_117 rfl rfl ?_
  refine z_si ks_400 dX6_init_118 ?_
  refine z_newarray_int dX6_init_121 ac_int rfl (by decide) (by decide) (by decide) (fun q121 hq121 => ?_)
  have K29 := K28.new hq121 (zI 400)
  refine z_putfield dX6_init_123 (fpi_RX6_53) K29.2 (Nat.le_of_ble_eq_true rfl) rfl rfl ?_
  have K30 := K29.put (ob 7 [.int 0, .ref q7, .ref q15, .ref q23, .int 0, .ref q31, .ref q39, .ref q47, .ref q55, .ref q63, .ref q71, .int 0, .ref q79, .ref q87, .ref q95, .ref q103, .ref q112, .ref q121, .null, .int 0, .int 0])
  refine z_aload_n dX6_init_126 rfl rfl ?_
  refine z_ic ki_4 dX6_init_127 ?_
  refine z_newarray_bool dX6_init_128 ac_bool rfl (by decide) (by decide) (by decide) (fun q128 hq128 => ?_)
  have K31 := K30.new hq128 (zB 4)
  refine z_putfield dX6_init_130 (fpi_RX6_56) K31.2 (Nat.le_of_ble_eq_true rfl) rfl rfl ?_
  have K32 := K31.put (ob 7 [.int 0, .ref q7, .ref q15, .ref q23, .int 0, .ref q31, .ref q39, .ref q47, .ref q55, .ref q63, .ref q71, .int 0, .ref q79, .ref q87, .ref q95, .ref q103, .ref q112, .ref q121, .ref q128, .int 0, .int 0])
  refine z_aload_n dX6_init_133 rfl rfl ?_
  refine z_ic ki_m1 dX6_init_134 ?_
  refine z_putfield dX6_init_135 (fpi_RX6_59 _) K32.2 (Nat.le_of_ble_eq_true rfl) rfl rfl ?_
  have K33 := K32.put (ob 7 [.int 0, .ref q7, .ref q15, .ref q23, .int 0, .ref q31, .ref q39, .ref q47, .ref q55, .ref q63, .ref q71, .int 0, .ref q79, .ref q87, .ref q95, .ref q103, .ref q112, .ref q121, .ref q128, .int (-1), .int 0])
  refine z_ic ki_0 dX6_init_138 ?_
  refine z_istore_n dX6_init_139 (by decide) ?_
  exact mctor_loop g (r := fun i => match i with | 1 => q7 | 2 => q15 | 3 => q23 | 5 => q31 | 6 => q39 | 7 => q47 | 8 => q55 | 9 => q63 | 10 => q71 | 12 => q79 | 13 => q87 | 14 => q95 | 15 => q103 | 16 => q112 | 17 => q121 | _ => q128) 0 (by omega) _ _ K33 rfl
end MCTOR
