/-! the class: an object gets a version -/
/-- a memory, cut down to the world's cells -/
noncomputable def cutM (A : Nat → Nat → Nat) (σ : ST) (M : Mem) : Mem := fun z => @ite _ (∃ k i, wdom σ k i ∧ A k i = z) (Classical.propDecidable _) (M z) none
theorem cutM_in {A : Nat → Nat → Nat} {σ : ST} {M : Mem} {k i : Nat} (h : wdom σ k i) : cutM A σ M (A k i) = M (A k i) := if_pos ⟨k, i, h, rfl⟩
theorem cutM_out {A : Nat → Nat → Nat} {σ : ST} {M : Mem} {z : Nat} (h : ∀ k i, wdom σ k i → A k i ≠ z) : cutM A σ M z = none := if_neg (fun ⟨k, i, h1, h2⟩ => h k i h1 h2)
theorem cutM_some {A : Nat → Nat → Nat} {σ : ST} {M : Mem} {z : Nat} {e : GE} (h : cutM A σ M z = some e) : M z = some e := by
  unfold cutM at h
  split at h
  · exact h
  · cases h
theorem cutM_none {A : Nat → Nat → Nat} {σ : ST} {M : Mem} {z : Nat} (h : M z = none) : cutM A σ M z = none := by
  unfold cutM
  split
  · exact h
  · rfl
theorem W2.cut {g : GG} {A : Nat → Nat → Nat} {σ ρ : ST} {x : XT} {M : Mem} (h : W2 g A σ ρ x M) : W2 g A σ ρ x (cutM A σ M) := ⟨fun k i hd => (cutM_in hd).trans (h.1 k i hd), h.2⟩
section ADDV
variable (g : GG) {M : Mem}
theorem c_X0_add {od l da n cap q w fv : Nat} {mc : Int32} {h : Nat → Nat} {fs : List Value} (hO : M od = some (ob 1 [.int (nI w), .ref fv, .ref l])) (hM : M l = some (lst mc da n)) (hv : M q = some (ob 5 fs)) (hn : n ≤ 99) (hI : LIn g M da n cap h 5) : con g mX0_add 1 150 [.ref od, .ref q] M (rQ (some (.int (nI n))) (LAd M l da n (mc + nI 1) h q)) := by
  refine con_i ?_ (by decide) rfl rfl (by simp [lv_args, Value.category]) (by simp [lv_args, lnd, Value.category])
  refine z_aload_n dX0_add_0 rfl rfl ?_
  refine z_getfield dX0_add_1 fg_RX0_12 (by assumption) rfl ?_
  refine z_aload_n dX0_add_4 rfl rfl ?_
  refine z_ivQ dX0_add_5 cv_RX0_26 hM (c_L_add g hM hv (by decide) hn cvO_5 hI) ⟨⟨by decide, by decide⟩, (by first | exact Nat.zero_le _ | decide | omega), (by first | exact Nat.zero_le _ | decide | omega)⟩ rfl rfl (Nat.le_of_ble_eq_true rfl) (fun M5 hQ5 => ?_)
  refine z_pop dX0_add_8 rfl ?_
  obtain ⟨r, cap', g1, g2, g3, g4, g5, g6, g7⟩ := hQ5
  have hol : od ≠ l := fun e => by rw [e, hM] at hO; cases hO
  have hor : od ≠ r := fun e => by
    rcases g1 with g1 | ⟨g1, g1'⟩
    · rw [e, g1] at hO
      cases hO
    · rcases hI with ⟨-, h0⟩ | ⟨hD, -⟩
      · omega
      · rw [← g1, ← e, hO] at hD
        cases hD
  have hO5 : M5 od = some (ob 1 [.int (nI w), .ref fv, .ref l]) := (g7 od hol hor).trans hO
  refine z_aload_n dX0_add_9 rfl rfl ?_
  refine z_getfield dX0_add_10 fg_RX0_12 hO5 rfl ?_
  refine z_ivI dX0_add_13 cv_RX0_30 g5 (c_L_size g g5) ⟨⟨by decide, by decide⟩, (by first | exact Nat.zero_le _ | decide | omega), (by first | exact Nat.zero_le _ | decide | omega)⟩ rfl rfl (Nat.le_of_ble_eq_true rfl) ?_
  refine z_ic ki_1 dX0_add_16 ?_
  refine z_isub dX0_add_17 ?_
  refine z_ireturn dX0_add_18 rfl (by first | rfl | exact bI_nar _) ?_
  rw [show nI (n + 1) - nI 1 = nI n from nI_pred n]
  exact rQ_of ⟨r, cap', g1, g2, g3, g4, g5, g6, g7⟩
theorem c_X5_convertedContent (s w : Int32) : con g mX5_convertedContent 0 0 [.int s, .int w] M (rI (nI 1000 * fmod s (nI 1000) + (w - w / nI 1000 * nI 1000)) M) := by
  refine con_i ?_ (by decide) rfl rfl (by simp [lv_args, Value.category]) (by simp [lv_args, lnd, Value.category])
  refine z_si ks_1000 dX5_convertedContent_0 ?_
  refine z_iload_n dX5_convertedContent_3 rfl ?_
  refine z_si ks_1000 dX5_convertedContent_4 ?_
  refine z_isI dX5_convertedContent_7 cs_RX5_271 (c_J9_floorMod g M _ _ (by decide)) ⟨⟨by decide, by decide⟩, (by first | exact Nat.zero_le _ | decide | omega), (by first | exact Nat.zero_le _ | decide | omega)⟩ rfl rfl (Nat.le_of_ble_eq_true rfl) ?_
  refine z_imul dX5_convertedContent_10 ?_
  refine z_iload_n dX5_convertedContent_11 rfl ?_
  refine z_si ks_1000 dX5_convertedContent_12 ?_
  refine z_irem dX5_convertedContent_15 (by decide) ?_
  refine z_iadd dX5_convertedContent_16 ?_
  refine z_ireturn dX5_convertedContent_17 rfl (by first | rfl | exact bI_nar _) ?_
  exact rI_of (by first | rfl | assumption | simp_all)
end ADDV
