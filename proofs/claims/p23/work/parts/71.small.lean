/-! the law's small methods -/
theorem tx10 (f : Nat → Bool) {k : Nat} (hk : k < 10) : (bset f 10 >>> (nI k &&& 31)) &&& nI 1 = bI (f k) := tb10_lt f hk
theorem tx4 (f : Nat → Bool) {k : Nat} (hk : k < 4) : (bset f 4 >>> (nI k &&& 31)) &&& nI 1 = bI (f k) := tb4 f hk
/-- what the script says at a place, below n -/
def pvI (g : GG) (k : Nat) : Int32 := if k < g.L then g.xs k else nI 277 * nI k + nI 157 * nI k * nI k
def pv (g : GG) (k n : Nat) : Nat := (pvI g k).toBitVec.toNat % 2 ^ 31 % n
theorem pv_lt (g : GG) (k : Nat) {n : Nat} (h : 0 < n) : pv g k n < n := Nat.mod_lt _ h
/-- the highest bit, of the first n -/
def hib (f : Nat → Bool) : Nat → Nat
  | 0 => 0
  | n + 1 => if f n = true then n else hib f n
theorem hib_is {f : Nat → Bool} : ∀ n, (∃ k, k < n ∧ f k = true) → hib f n < n ∧ f (hib f n) = true ∧ ∀ j, hib f n < j → j < n → f j = false
  | 0, h => by
    obtain ⟨k, hk, -⟩ := h
    exact absurd hk (Nat.not_lt_zero k)
  | n + 1, h => by
    unfold hib
    cases e : f n with
    | true =>
      rw [if_pos rfl]
      exact ⟨Nat.lt_succ_self n, e, fun j h1 h2 => by omega⟩
    | false =>
      rw [if_neg (by decide)]
      obtain ⟨k, hk, hf⟩ := h
      have hkn : k ≠ n := fun q => by
        rw [q, e] at hf
        cases hf
      obtain ⟨h1, h2, h3⟩ := hib_is n ⟨k, by omega, hf⟩
      refine ⟨by omega, h2, fun j h4 h5 => ?_⟩
      by_cases hj : j = n
      · rw [hj]
        exact e
      · exact h3 j h4 (by omega)
section SMALL
variable (g : GG) {M : Mem}
theorem c_L_part (hL : g.L ≤ 2048) {k n : Nat} (h0 : 0 < n) (hn : n < 2 ^ 31) (hk31 : k < 2 ^ 31) : con g mL_part 0 0 [.ref g.b, .int (nI k), .int (nI n)] M (rI (nI (pv g k n)) M) := by
  refine con_i ?_ (by decide) rfl rfl (by simp [lv_args, Value.category]) (by simp [lv_args, lnd, Value.category])
  have hn0 : ¬ nI n = 0 := nI_ne0 h0 hn
  have hm : (2147483647 : Int32).toBitVec.toNat = 2 ^ 31 - 1 := by decide
  by_cases hk : k < g.L
  · have e : pvI g k = g.xs k := if_pos hk
    refine z_iload_n dL_part_0 rfl ?_
    refine z_aload_n dL_part_1 rfl rfl ?_
    refine z_slen dL_part_2 ?_
    refine z_icmp_ge (tgt := 12) dL_part_3 (by decide) (fun h3 => absurd h3 (nI_ge hk (by omega))) (fun h3 => ?_)
    refine z_aload_n dL_part_6 rfl rfl ?_
    refine z_iload_n dL_part_7 rfl ?_
    refine z_sld dL_part_8 rfl hk hL ?_
    refine z_goto (tgt := 25) dL_part_9 (by decide) ?_
    refine z_istore_n dL_part_25 (by decide) ?_
    refine z_iload_n dL_part_26 rfl ?_
    refine z_ldc dL_part_27 lc_RL_7 ?_
    refine z_iand dL_part_29 ?_
    refine z_iload_n dL_part_30 rfl ?_
    refine z_irem dL_part_31 hn0 ?_
    refine z_ireturn dL_part_32 rfl (by first | rfl | exact bI_nar _) ?_
    exact rI_of (by rw [pk_and _ 31 hm, pk_rem (Nat.mod_lt _ (by decide)) h0 hn, ← e]; rfl)
  · have e : pvI g k = nI 277 * nI k + nI 157 * nI k * nI k := if_neg hk
    refine z_iload_n dL_part_0 rfl ?_
    refine z_aload_n dL_part_1 rfl rfl ?_
    refine z_slen dL_part_2 ?_
    refine z_icmp_ge (tgt := 12) dL_part_3 (by decide) (fun h3 => ?_) (fun h3 => absurd (nI_le (by omega) hk31) h3)
    refine z_si ks_277 dL_part_12 ?_
    refine z_iload_n dL_part_15 rfl ?_
    refine z_imul dL_part_16 ?_
    refine z_si ks_157 dL_part_17 ?_
    refine z_iload_n dL_part_20 rfl ?_
    refine z_imul dL_part_21 ?_
    refine z_iload_n dL_part_22 rfl ?_
    refine z_imul dL_part_23 ?_
    refine z_iadd dL_part_24 ?_
    refine z_istore_n dL_part_25 (by decide) ?_
    refine z_iload_n dL_part_26 rfl ?_
    refine z_ldc dL_part_27 lc_RL_7 ?_
    refine z_iand dL_part_29 ?_
    refine z_iload_n dL_part_30 rfl ?_
    refine z_irem dL_part_31 hn0 ?_
    refine z_ireturn dL_part_32 rfl (by first | rfl | exact bI_nar _) ?_
    exact rI_of (by rw [pk_and _ 31 hm, pk_rem (Nat.mod_lt _ (by decide)) h0 hn, ← e]; rfl)
theorem c_L_bits (s : Int32) : con g mL_bits 0 0 [.int s] M (rI (bitsI s 20) M) := by
  refine con_i ?_ (by decide) rfl rfl (by simp [lv_args, Value.category]) (by simp [lv_args, lnd, Value.category])
  have loop : ∀ j, j ≤ 20 → ∀ x1 x2, x1 = bitsI s j → x2 = nI j → tri g mL_bits 0 0 (rI (bitsI s 20) M) M 4 [(0, .int s), (1, .int x1), (2, .int x2)] [] := by
    refine lp_up 20 ?_ ?_
    · intro x1 x2 e1 e2
      subst e2
      refine z_iload_n dL_bits_4 rfl ?_
      refine z_bi kb_20 dL_bits_5 ?_
      refine z_icmp_ge (tgt := 24) dL_bits_7 (by decide) (fun h7 => ?_) (fun h7 => absurd (nI_le (by omega) (by omega)) h7)
      refine z_iload_n dL_bits_24 rfl ?_
      refine z_ireturn dL_bits_25 rfl (by first | rfl | exact bI_nar _) ?_
      exact rI_of (by first | rfl | assumption | simp_all)
    · intro j hj ih x1 x2 e1 e2
      subst e2
      refine z_iload_n dL_bits_4 rfl ?_
      refine z_bi kb_20 dL_bits_5 ?_
      refine z_icmp_ge (tgt := 24) dL_bits_7 (by decide) (fun h7 => absurd h7 (nI_ge hj (by omega))) (fun h7 => ?_)
      refine z_iload_n dL_bits_10 rfl ?_
      refine z_iload_n dL_bits_11 rfl ?_
      refine z_iload_n dL_bits_12 rfl ?_
      refine z_ishr dL_bits_13 ?_
      refine z_ic ki_1 dL_bits_14 ?_
      refine z_iand dL_bits_15 ?_
      refine z_iadd dL_bits_16 ?_
      refine z_istore_n dL_bits_17 (by decide) ?_
      refine z_inc ki_1 dL_bits_18 rfl (by decide) ?_
      refine z_goto (tgt := 4) dL_bits_21 (by decide) ?_
      exact ih _ _ (by rw [e1]; rfl) (nI_add j 1)
  refine z_ic ki_0 dL_bits_0 ?_
  refine z_istore_n dL_bits_1 (by decide) ?_
  refine z_ic ki_0 dL_bits_2 ?_
  refine z_istore_n dL_bits_3 (by decide) ?_
  exact loop 0 (by omega) _ _ rfl rfl
theorem c_L_bits4 (f : Nat → Bool) : con g mL_bits 0 0 [.int (bset f 4)] M (rI (nI (cntB f 4)) M) := by
  have h := c_L_bits g (M := M) (bset f 4)
  rw [bits4] at h
  exact h
theorem c_L_bits10 (f : Nat → Bool) : con g mL_bits 0 0 [.int (bset f 10)] M (rI (nI (cntB f 10)) M) := by
  have h := c_L_bits g (M := M) (bset f 10)
  rw [bits10] at h
  exact h
theorem c_L_latest {f : Nat → Bool} (hf : ∃ k, k < 10 ∧ f k = true) : con g mL_latest 0 0 [.int (bset f 10)] M (rI (nI (hib f 10)) M) := by
  refine con_i ?_ (by decide) rfl rfl (by simp [lv_args, Value.category]) (by simp [lv_args, lnd, Value.category])
  have loop : ∀ j, j < 10 → hib f (j + 1) = hib f 10 → (∃ k, k < j + 1 ∧ f k = true) → ∀ x1, x1 = nI j → tri g mL_latest 0 0 (rI (nI (hib f 10)) M) M 3 [(0, .int (bset f 10)), (1, .int x1)] [] := by
    intro j
    induction j with
    | zero =>
      intro hj he hx x1 e1
      subst e1
      obtain ⟨k, hk, hf⟩ := hx
      have hk0 : k = 0 := by omega
      rw [hk0] at hf
      refine z_iload_n dL_latest_3 rfl ?_
      refine z_iload_n dL_latest_4 rfl ?_
      refine z_ishr dL_latest_5 ?_
      refine z_ic ki_1 dL_latest_6 ?_
      refine z_iand dL_latest_7 ?_
      rw [tx10 f hj]
      refine z_if_ne (tgt := 17) dL_latest_8 (by decide) (fun h8 => ?_) (fun h8 => absurd h8 (by rw [hf]; decide))
      refine z_iload_n dL_latest_17 rfl ?_
      refine z_ireturn dL_latest_18 rfl (by first | rfl | exact bI_nar _) ?_
      exact rI_of (by rw [← he, hib, if_pos hf])
    | succ j ih =>
      intro hj he hx x1 e1
      subst e1
      refine z_iload_n dL_latest_3 rfl ?_
      refine z_iload_n dL_latest_4 rfl ?_
      refine z_ishr dL_latest_5 ?_
      refine z_ic ki_1 dL_latest_6 ?_
      refine z_iand dL_latest_7 ?_
      rw [tx10 f hj]
      refine z_if_ne (tgt := 17) dL_latest_8 (by decide) (fun h8 => ?_) (fun h8 => ?_)
      · refine z_iload_n dL_latest_17 rfl ?_
        refine z_ireturn dL_latest_18 rfl (by first | rfl | exact bI_nar _) ?_
        exact rI_of (by rw [← he, hib, if_pos (yt h8)])
      · refine z_inc ki_m1 dL_latest_11 rfl (by decide) ?_
        refine z_goto (tgt := 3) dL_latest_14 (by decide) ?_
        have hf0 := nt h8
        refine ih (by omega) ?_ ?_ _ (pk_m1 j)
        · rw [← he]
          show hib f (j + 1) = if f (j + 1) = true then j + 1 else hib f (j + 1)
          rw [if_neg hf0]
        · obtain ⟨k, hk, hf⟩ := hx
          refine ⟨k, ?_, hf⟩
          have : k ≠ j + 1 := fun q => hf0 (by rw [← q]; exact hf)
          omega
  refine z_bi kb_9 dL_latest_0 ?_
  refine z_istore_n dL_latest_2 (by decide) ?_
  exact loop 9 (by omega) rfl hf _ rfl
end SMALL
