theorem c_X6_isIn (g : GG) (M : Mem) (x a b : Int32) : con g mX6_isIn 0 0 [.int x, .int a, .int b] M (rI (bI (decide (a ≤ x ∧ x ≤ b))) M) := by
  refine con_i ?_ (by decide) rfl rfl (by simp [lv_args, Value.category]) (by simp [lv_args, lnd, Value.category])
  refine z_iload_n dX6_isIn_0 rfl ?_
  refine z_iload_n dX6_isIn_1 rfl ?_
  refine z_icmp_lt (tgt := 14) dX6_isIn_2 (by decide) (fun h2 => ?_) (fun h2 => ?_)
  · refine z_ic ki_0 dX6_isIn_14 ?_
    refine z_ireturn dX6_isIn_15 rfl (by first | rfl | exact bI_nar _) ?_
    rw [show decide (a ≤ x ∧ x ≤ b) = false from decide_eq_false (fun h => Int32.not_le.mpr h2 h.1)]
    exact rI_of rfl
  · refine z_iload_n dX6_isIn_5 rfl ?_
    refine z_iload_n dX6_isIn_6 rfl ?_
    refine z_icmp_gt (tgt := 14) dX6_isIn_7 (by decide) (fun h7 => ?_) (fun h7 => ?_)
    · refine z_ic ki_0 dX6_isIn_14 ?_
      refine z_ireturn dX6_isIn_15 rfl (by first | rfl | exact bI_nar _) ?_
      rw [show decide (a ≤ x ∧ x ≤ b) = false from decide_eq_false (fun h => Int32.not_le.mpr h7 h.2)]
      exact rI_of rfl
    · refine z_ic ki_1 dX6_isIn_10 ?_
      refine z_goto (tgt := 15) dX6_isIn_11 (by decide) ?_
      refine z_ireturn dX6_isIn_15 rfl (by first | rfl | exact bI_nar _) ?_
      rw [show decide (a ≤ x ∧ x ≤ b) = true from decide_eq_true ⟨i32_nlt h2, i32_nlt h7⟩]
      exact rI_of rfl
def cntU (P : Nat → Bool) (C : Nat → Int32) (h : Int32) : Nat → Nat
  | 0 => 0
  | n + 1 => cntU P C h n + (if P n = true ∧ C n = h then 1 else 0)
theorem c_X3_countOf (g : GG) (M : Mem) (u p c : Nat) (i d v w n h : Int32) (P : Nat → Bool) (C : Nat → Int32) (hU : M u = some (ob 4 [.int i, .int d, .int v, .ref p, .ref c, .int w, .int n])) (hP : M p = some (aI .boolean 4 (fun k => bI (P k)))) (hC : M c = some (aI .int 4 C)) :
    con g mX3_countOf 0 0 [.ref u, .int h] M (rI (nI (cntU P C h 4)) M) := by
  refine con_i ?_ (by decide) rfl rfl (by simp [lv_args, Value.category]) (by simp [lv_args, lnd, Value.category])
  have loop : ∀ j, j ≤ 4 → ∀ x2 x3, x2 = nI (cntU P C h j) → x3 = nI j → tri g mX3_countOf 0 0 (rI (nI (cntU P C h 4)) M) M 4 [(0, .ref u), (1, .int h), (2, .int x2), (3, .int x3)] [] := by
    refine lp_up 4 ?_ ?_
    · intro x2 x3 e2 e3
      subst e3
      refine z_iload_n dX3_countOf_4 rfl ?_
      refine z_ic ki_4 dX3_countOf_5 ?_
      refine z_icmp_ge (tgt := 37) dX3_countOf_6 (by decide) (fun h6 => ?_) (fun h6 => absurd (nI_le (by omega) (by omega)) h6)
      refine z_iload_n dX3_countOf_37 rfl ?_
      refine z_ireturn dX3_countOf_38 rfl (by first | rfl | exact bI_nar _) ?_
      exact rI_of (by first | rfl | assumption | simp_all)
    · intro j hj ih x2 x3 e2 e3
      subst e3
      refine z_iload_n dX3_countOf_4 rfl ?_
      refine z_ic ki_4 dX3_countOf_5 ?_
      refine z_icmp_ge (tgt := 37) dX3_countOf_6 (by decide) (fun h6 => absurd h6 (nI_ge hj (by omega))) (fun h6 => ?_)
      refine z_aload_n dX3_countOf_9 rfl rfl ?_
      refine z_getfield dX3_countOf_10 fg_RX3_11 (by assumption) rfl ?_
      refine z_iload_n dX3_countOf_13 rfl ?_
      refine z_zaload dX3_countOf_14 (by assumption) rfl (by omega) (by decide) ?_
      refine z_if_eq (tgt := 31) dX3_countOf_15 (by decide) (fun h15 => ?_) (fun h15 => ?_)
      · refine z_inc ki_1 dX3_countOf_31 rfl (by decide) ?_
        refine z_goto (tgt := 4) dX3_countOf_34 (by decide) ?_
        exact ih _ _ (by rw [e2]; simp [cntU, bI_eq0.mp h15]) (nI_add j 1)
      · refine z_aload_n dX3_countOf_18 rfl rfl ?_
        refine z_getfield dX3_countOf_19 fg_RX3_17 (by assumption) rfl ?_
        refine z_iload_n dX3_countOf_22 rfl ?_
        refine z_iaload dX3_countOf_23 (by assumption) rfl (by omega) (by decide) ?_
        refine z_iload_n dX3_countOf_24 rfl ?_
        refine z_icmp_ne (tgt := 31) dX3_countOf_25 (by decide) (fun h25 => ?_) (fun h25 => ?_)
        · refine z_inc ki_1 dX3_countOf_31 rfl (by decide) ?_
          refine z_goto (tgt := 4) dX3_countOf_34 (by decide) ?_
          exact ih _ _ (by rw [e2]; simp [cntU, h25]) (nI_add j 1)
        · refine z_inc ki_1 dX3_countOf_28 rfl (by decide) ?_
          refine z_inc ki_1 dX3_countOf_31 rfl (by decide) ?_
          refine z_goto (tgt := 4) dX3_countOf_34 (by decide) ?_
          exact ih _ _ (by rw [e2, nI_add]; simp [cntU, h25, bI_ne0.mp h15]) (nI_add j 1)
  refine z_ic ki_0 dX3_countOf_0 ?_
  refine z_istore_n dX3_countOf_1 (by decide) ?_
  refine z_ic ki_0 dX3_countOf_2 ?_
  refine z_istore_n dX3_countOf_3 (by decide) ?_
  exact loop 0 (by omega) _ _ rfl rfl
