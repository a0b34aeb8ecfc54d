/-! the class: a new object -/
section OBJN
variable (g : GG) {M : Mem}
/-- behind an object's constructor: its list l, the list's row r -/
def OBN (M : Mem) (a w v : Nat) (M' : Mem) : Prop := ∃ l r cap, (M l = none ∧ M r = none) ∧ (l ≠ r ∧ l ≠ a ∧ r ≠ a ∧ l ≠ v ∧ r ≠ v) ∧ (1 ≤ cap ∧ cap ≤ 150) ∧ M' a = some (ob 1 [.int (nI w), .ref v, .ref l]) ∧ M' l = some (lst (nI 1) r 1) ∧ M' r = some (lrw (fun _ => v) 1 cap) ∧ ∀ z, z ≠ a → z ≠ l → z ≠ r → M' z = M z
theorem c_X0_init {a w v : Nat} {fs : List Value} (hM : M a = some (ob 1 [.int 0, .null, .null])) (hv : M v = some (ob 5 fs)) : con g mX0_init 2 153 [.ref a, .int (nI w), .ref v] M (rQ none (OBN M a w v)) := by
  refine con_i ?_ (by decide) rfl rfl (by simp [lv_args, Value.category]) (by simp [lv_args, lnd, Value.category])
  have hav : v ≠ a := fun e => by rw [e, hM] at hv; cases hv
  refine z_aload_n dX0_init_0 rfl rfl ?_
  refine z_objInit dX0_init_1 ⟨gt_in 563 (by decide +kernel) rfl, gt_in 46 (by decide +kernel) rfl, gt_in 47 (by decide +kernel) rfl⟩ ⟨by decide, by decide⟩ (by decide) ?_
  refine z_aload_n dX0_init_4 rfl rfl ?_
  refine z_new dX0_init_5 nw_RX0_9 (by decide) (by decide) (fun l fl => ?_)
  refine z_dup dX0_init_8 rfl ?_
  refine z_ipQ dX0_init_9 ci_RX0_11 (c_L_init g mset_eq) ⟨⟨by decide, by decide⟩, (by first | exact Nat.zero_le _ | decide | omega), (by first | exact Nat.zero_le _ | decide | omega)⟩ rfl rfl (Nat.le_of_ble_eq_true rfl) (fun M9 hQ9 => ?_)
  have hal : a ≠ l := fun e => by rw [e, fl] at hM; cases hM
  have hvl : v ≠ l := fun e => by rw [e, fl] at hv; cases hv
  have hM9 : M9 a = some (ob 1 [.int 0, .null, .null]) := by rw [hQ9.2 a hal, mset_ne hal]; exact hM
  have hv9 : M9 v = some (ob 5 fs) := by rw [hQ9.2 v hvl, mset_ne hvl]; exact hv
  refine z_putfield dX0_init_12 (fpi_RX0_12) hM9 (Nat.le_of_ble_eq_true rfl) rfl rfl ?_
  refine z_aload_n dX0_init_15 rfl rfl ?_
  refine z_iload_n dX0_init_16 rfl ?_
  refine z_putfield dX0_init_17 (fpi_RX0_18) mset_eq (Nat.le_of_ble_eq_true rfl) rfl rfl ?_
  refine z_aload_n dX0_init_20 rfl rfl ?_
  refine z_aload_n dX0_init_21 rfl rfl ?_
  refine z_putfield dX0_init_22 (fpi_RX0_22) mset_eq (Nat.le_of_ble_eq_true rfl) rfl rfl ?_
  refine z_aload_n dX0_init_25 rfl rfl ?_
  refine z_getfield dX0_init_26 fg_RX0_12 mset_eq rfl ?_
  refine z_aload_n dX0_init_29 rfl rfl ?_
  have hl22 : ∀ e1 e2 e3, mset (mset (mset M9 a e1) a e2) a e3 l = some (lst 0 g.E 0) := fun e1 e2 e3 => by rw [mset_ne (Ne.symm hal), mset_ne (Ne.symm hal), mset_ne (Ne.symm hal)]; exact hQ9.1
  have hv22 : ∀ e1 e2 e3, mset (mset (mset M9 a e1) a e2) a e3 v = some (ob 5 fs) := fun e1 e2 e3 => by rw [mset_ne hav, mset_ne hav, mset_ne hav]; exact hv9
  refine z_ivQ dX0_init_30 cv_RX0_26 (hl22 _ _ _) (c_L_add (h := fun _ => v) (cap := 0) g (hl22 _ _ _) (hv22 _ _ _) (by decide) (by decide) cvO_5 (Or.inl ⟨rfl, rfl⟩)) ⟨⟨by decide, by decide⟩, (by first | exact Nat.zero_le _ | decide | omega), (by first | exact Nat.zero_le _ | decide | omega)⟩ rfl rfl (Nat.le_of_ble_eq_true rfl) (fun M30 hQ30 => ?_)
  refine z_pop dX0_init_33 rfl ?_
  refine z_return dX0_init_34 rfl ?_
  obtain ⟨r, cap, g1, g2, g3, g4, g5, g6, g7⟩ := hQ30
  have gr : mset (mset (mset M9 a _) a _) a _ r = none := g1.resolve_right (fun q => absurd q.2 (by decide))
  have hra : r ≠ a := fun e => by rw [e, mset_eq] at gr; cases gr
  have hrl : r ≠ l := g2
  have hrv : r ≠ v := fun e => by rw [e, hv22] at gr; cases gr
  have fr : M r = none := by
    rw [mset_ne hra, mset_ne hra, mset_ne hra, hQ9.2 r hrl, mset_ne hrl] at gr
    exact gr
  refine rQ_of ⟨l, r, cap, ⟨fl, fr⟩, ⟨Ne.symm hrl, Ne.symm hal, hra, Ne.symm hvl, hrv⟩, ⟨g3, g4⟩, ?_, ?_, ?_, fun z z1 z2 z3 => ?_⟩
  · rw [g7 a hal (Ne.symm hra), mset_eq]
    rfl
  · rw [g5]
    rfl
  · rw [g6]
    refine congrArg some (congrArg (aQ tO cap) (funext fun j => ?_))
    by_cases hj : j < 1
    · rw [if_pos hj, if_pos hj, show j = 0 by omega, f1_s]
    · rw [if_neg hj, if_neg hj]
  · rw [g7 z z2 z3, mset_ne z1, mset_ne z1, mset_ne z1, hQ9.2 z z2, mset_ne z2]
end OBJN
