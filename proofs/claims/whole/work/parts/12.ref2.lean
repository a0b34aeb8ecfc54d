/-! the reference: versions, chains, places -/
/-- a version that was ever made, by its place in the rows -/
def vok (σ : ST) (v : Nat) : Prop := v / 10 < σ.ob ∧ v % 10 < σ.a 1 (v / 10)
def WF (σ : ST) : Prop := (σ.ob ≤ 10 ∧ σ.un ≤ 100) ∧ (∀ o, o < σ.ob → σ.a 1 o ≤ 10) ∧ (∀ v, vok σ v → σ.a 3 v < σ.un ∧ (σ.b 2 (σ.a 3 v) = true → σ.a 4 v < v ∧ σ.a 4 v / 10 = v / 10)) ∧ (∀ v, σ.b 0 v = true → vok σ v)
theorem WF.lt {σ : ST} (h : WF σ) {v : Nat} (hv : vok σ v) : v < 100 := by
  have h1 := h.1.1
  have h2 := hv.1
  omega
theorem WF.un {σ : ST} (h : WF σ) {v : Nat} (hv : vok σ v) : σ.a 3 v < 100 := Nat.lt_of_lt_of_le (h.2.2.1 v hv).1 h.1.2
theorem WF.bas {σ : ST} (h : WF σ) {v : Nat} (hv : vok σ v) (hd : σ.b 2 (σ.a 3 v) = true) : σ.a 4 v < v ∧ vok σ (σ.a 4 v) := by
  obtain ⟨h1, h2⟩ := (h.2.2.1 v hv).2 hd
  refine ⟨h1, ?_, ?_⟩
  · rw [h2]; exact hv.1
  · rw [h2]
    have := hv.2
    omega
/-- the versions on the way over the bases -/
def chf (σ : ST) : Nat → Nat → List Nat
  | 0, _ => []
  | n + 1, v => v :: (if σ.b 2 (σ.a 3 v) = true then chf σ n (σ.a 4 v) else [])
def chL (σ : ST) (v : Nat) : List Nat := chf σ (v + 1) v
theorem chf_eq {σ : ST} (h : WF σ) : ∀ n m v, v < n → v < m → vok σ v → chf σ n v = chf σ m v
  | 0, _, v, h1, _, _ => absurd h1 (Nat.not_lt_zero v)
  | _ + 1, 0, v, _, h2, _ => absurd h2 (Nat.not_lt_zero v)
  | n + 1, m + 1, v, h1, h2, hv => by
    unfold chf
    by_cases hd : σ.b 2 (σ.a 3 v) = true
    · obtain ⟨h3, h4⟩ := h.bas hv hd
      rw [if_pos hd, if_pos hd, chf_eq h n m (σ.a 4 v) (by omega) (by omega) h4]
    · rw [if_neg hd, if_neg hd]
theorem chL_d {σ : ST} (h : WF σ) {v : Nat} (hv : vok σ v) (hd : σ.b 2 (σ.a 3 v) = true) : chL σ v = v :: chL σ (σ.a 4 v) := by
  obtain ⟨h3, h4⟩ := h.bas hv hd
  show chf σ (v + 1) v = _
  unfold chf
  rw [if_pos hd, chf_eq h v (σ.a 4 v + 1) (σ.a 4 v) h3 (by omega) h4]
  rfl
theorem chL_w {σ : ST} {v : Nat} (hd : σ.b 2 (σ.a 3 v) = false) : chL σ v = [v] := by
  show chf σ (v + 1) v = _
  unfold chf
  rw [if_neg (by rw [hd]; decide)]
theorem chL_ok {σ : ST} (h : WF σ) : ∀ n v, v < n → vok σ v → ∀ w ∈ chL σ v, vok σ w ∧ w ≤ v
  | 0, v, h1, _ => absurd h1 (Nat.not_lt_zero v)
  | n + 1, v, h1, hv => by
    intro w hw
    by_cases hd : σ.b 2 (σ.a 3 v) = true
    · rw [chL_d h hv hd] at hw
      obtain ⟨h3, h4⟩ := h.bas hv hd
      rcases List.mem_cons.mp hw with e | hw
      · rw [e]; exact ⟨hv, Nat.le_refl _⟩
      · have := chL_ok h n (σ.a 4 v) (by omega) h4 w hw
        exact ⟨this.1, by omega⟩
    · rw [chL_w (by simpa using hd)] at hw
      rw [List.mem_singleton.mp hw]
      exact ⟨hv, Nat.le_refl _⟩
/-- the row 'base' says where a difference stands on -/
def rbok (σ : ST) (x : XT) : Prop := ∀ v, vok σ v → σ.b 2 (σ.a 3 v) = true → x.rb v = nI (σ.a 4 v)
def isum (f : Nat → Int32) : Int32 → List Nat → Int32
  | a, [] => a
  | a, v :: l => isum f (a + f v) l
/-- what a unit has: its good value, or 0 -/
def gval (σ : ST) (u : Nat) : Int32 := match good σ u with
  | none => 0
  | some s => σ.hs u s
def allG (σ : ST) (l : List Nat) : Bool := l.all (fun v => (good σ (σ.a 3 v)).isSome)
/-- a number from 0 to n - 1 -/
def inR (n : Nat) (f : Int32) : Bool := decide (0 ≤ f ∧ f ≤ nI n - 1)
abbrev tN (f : Int32) : Nat := f.toNatClampNeg
theorem inR_of {n : Nat} {f : Int32} (hn : n < 2 ^ 31) (h : inR n f = true) : f = nI (tN f) ∧ tN f < n := by
  obtain ⟨h1, h2⟩ := of_decide_eq_true h
  obtain ⟨j, hj, rfl⟩ := nI_of (Int32.not_lt.mpr h1)
  have hc : tN (nI j) = j := nI_clamp hj
  rw [hc]
  refine ⟨rfl, ?_⟩
  cases n with
  | zero =>
    have h3 : nI 0 - 1 = (-1 : Int32) := by decide
    rw [h3] at h2
    have h4 := Int32.le_trans h1 h2
    exact absurd h4 (by decide)
  | succ n =>
    rw [nI_pred] at h2
    have := (nI_leI hj (by omega)).mp h2
    omega
theorem inR_nI {n j : Nat} (hn : n < 2 ^ 31) (hj : j < n) : inR n (nI j) = true := by
  refine decide_eq_true ⟨nI_pos' (by omega), ?_⟩
  cases n with
  | zero => omega
  | succ n =>
    rw [nI_pred]
    exact nI_le (by omega) (by omega)
def isV (σ : ST) (o v : Int32) : Bool := inR σ.ob o && (inR 10 v && σ.b 0 (10 * tN o + tN v))
/-- the latest version that is there, of the first n -/
def latn (σ : ST) (o : Nat) : Nat → Nat
  | 0 => 10 * o
  | n + 1 => if σ.b 0 (10 * o + n) = true then 10 * o + n else latn σ o n
def hasV (σ : ST) (o : Nat) : Prop := ∃ k, k < 10 ∧ σ.b 0 (10 * o + k) = true
/-- the last unit of a kind and value, of the first n -/
def ufn (σ : ST) (d : Bool) (v : Int32) : Nat → Option Nat
  | 0 => none
  | n + 1 => if σ.b 1 n = true ∧ σ.b 2 n = d ∧ σ.i 2 n = v then some n else ufn σ d v n
theorem ufn_lt (σ : ST) (d : Bool) (v : Int32) : ∀ n f, ufn σ d v n = some f → f < n
  | 0, f, h => by cases h
  | n + 1, f, h => by
    unfold ufn at h
    split at h
    · cases h
      omega
    · have := ufn_lt σ d v n f h
      omega
/-- how many versions of an object are there, of its first n -/
def many (σ : ST) (o : Nat) : Nat → Nat
  | 0 => 0
  | n + 1 => many σ o n + (if σ.b 0 (10 * o + n) = true then 1 else 0)
theorem many_le (σ : ST) (o : Nat) : ∀ n, many σ o n ≤ n
  | 0 => Nat.le_refl 0
  | n + 1 => by
    have h := many_le σ o n
    unfold many
    split <;> omega
/-- is a unit needed by a version that is there, of the first n -/
def ndd (σ : ST) (u : Nat) : Nat → Bool
  | 0 => false
  | n + 1 => ndd σ u n || (σ.b 0 n && (chL σ n).any (fun v => σ.a 3 v == u))
/-- the unit's lacking copies are placed, at most k -/
def plcs (u : Nat) (v : Int32) : Nat → ST → ST
  | 0, σ => σ
  | k + 1, σ => match plc σ u 4 with
    | none => σ
    | some s => plcs u v k (((σ.sc u s true).sh u s v).sa 7 s (σ.a 7 s + 1))
def plcn (u : Nat) (v : Int32) : Nat → ST → Nat
  | 0, _ => 0
  | k + 1, σ => match plc σ u 4 with
    | none => 0
    | some s => plcn u v k (((σ.sc u s true).sh u s v).sa 7 s (σ.a 7 s + 1)) + 1
theorem plc_some (σ : ST) (u : Nat) : ∀ n f, plc σ u n = some f → σ.cp u f = false ∧ σ.b 4 f = false
  | 0, f, h => by cases h
  | n + 1, f, h => by
    unfold plc at h
    split at h
    · rename_i hq
      cases h
      exact ⟨hq.2.1, hq.1⟩
    · exact plc_some σ u n f h
theorem cpc_set (σ : ST) (u s : Nat) (hs : σ.cp u s = false) : ∀ n, cpc (σ.sc u s true) u n = cpc σ u n + (if s < n then 1 else 0)
  | 0 => rfl
  | n + 1 => by
    unfold cpc
    rw [cpc_set σ u s hs n]
    have e : (σ.sc u s true).cp u n = if n = s then true else σ.cp u n := by
      show f2 σ.cp u s true u n = _
      unfold f2
      by_cases h : n = s
      · simp [h]
      · simp [h]
    rw [e]
    by_cases h : n = s
    · subst h
      simp [hs]
    · by_cases h2 : s < n
      · simp [h, h2, Nat.lt_succ_of_lt h2]
        omega
      · have h3 : ¬ s < n + 1 := by omega
        simp [h, h2, h3]
/-- a row that the cells of class and reference don't hold in the reference's part -/
theorem W2.pg {g : GG} {A : Nat → Nat → Nat} {σ ρ : ST} {x : XT} {M : Mem} (h : W2 g A σ ρ x M) (j v : Nat) : W2 g A σ (ρ.sa 7 j v) x M := by
  have h21 : ∀ i', i' ∈ [1, 2, 3, 5, 6, 7, 8, 9, 10, 12, 13, 14, 15, 16, 17, 18] → wcell g A σ (ρ.sa 7 j v) x 21 i' = wcell g A σ ρ x 21 i' := by
    intro i' hm
    simp only [List.mem_cons, List.not_mem_nil, or_false] at hm
    rcases hm with rfl | rfl | rfl | rfl | rfl | rfl | rfl | rfl | rfl | rfl | rfl | rfl | rfl | rfl | rfl | rfl <;> rfl
  have key : ∀ k' i', wdom σ k' i' → True → wcell g A σ ρ x k' i' = wcell g A σ (ρ.sa 7 j v) x k' i' := by
    intro k' i' hd hne
    match k', hd, hne with
    | 0, hd, hne => exact rfl
    | 1, hd, hne => exact rfl
    | 2, hd, hne => exact rfl
    | 3, hd, hne => exact rfl
    | 4, hd, hne => exact rfl
    | 5, hd, hne => exact rfl
    | 6, hd, hne => exact rfl
    | 7, hd, hne => exact rfl
    | 8, hd, hne => exact rfl
    | 9, hd, hne => exact rfl
    | 10, hd, hne => exact rfl
    | 11, hd, hne => exact rfl
    | 12, hd, hne => exact rfl
    | 13, hd, hne => exact rfl
    | 14, hd, hne => exact rfl
    | 15, hd, hne => exact rfl
    | 16, hd, hne => exact rfl
    | 17, hd, hne => exact rfl
    | 18, hd, hne => exact rfl
    | 19, hd, hne => exact rfl
    | 20, hd, hne => exact rfl
    | 21, hd, hne => exact (h21 i' hd).symm
    | 22, hd, hne => exact rfl
    | n + 23, hd, hne => exact rfl
  exact ⟨fun k i hd => (h.1 k i hd).trans (congrArg some (key k i hd trivial)), h.2⟩
section REF2
variable (g : GG) {A : Nat → Nat → Nat} {σ ρ : ST} {x : XT} {M : Mem}
theorem c_X6_isVersion (hW : W2 g A σ ρ x M) (hw : WF ρ) (o v : Int32) : con g mX6_isVersion 0 0 [.ref (A 20 0), .int o, .int v] M (rI (bI (isV ρ o v)) M) := by
  refine con_i ?_ (by decide) rfl rfl (by simp [lv_args, Value.category]) (by simp [lv_args, lnd, Value.category])
  have hm := hW.m
  have h7 := hW.r7
  have h1 := hw.1.1
  refine z_aload_n dX6_isVersion_0 rfl rfl ?_
  refine z_iload_n dX6_isVersion_1 rfl ?_
  refine z_ivI dX6_isVersion_2 cv_RX6_110 (by assumption) (c_X6_isObject g hW _) ⟨⟨by decide, by decide⟩, (by first | exact Nat.zero_le _ | decide | omega), (by first | exact Nat.zero_le _ | decide | omega)⟩ rfl rfl (Nat.le_of_ble_eq_true rfl) ?_
  refine z_if_eq (tgt := 36) dX6_isVersion_5 (by decide) (fun h5 => ?_) (fun h5 => ?_)
  · refine z_ic ki_0 dX6_isVersion_36 ?_
    refine z_ireturn dX6_isVersion_37 rfl (by first | rfl | exact bI_nar _) ?_
    exact rI_of (by rw [isV, show inR ρ.ob o = false from bI_eq0.mp h5]; rfl)
  · refine z_iload_n dX6_isVersion_8 rfl ?_
    refine z_ic ki_0 dX6_isVersion_9 ?_
    refine z_bi kb_9 dX6_isVersion_10 ?_
    refine z_isI dX6_isVersion_12 cs_RX6_69 (c_X6_isIn g M _ _ _) ⟨⟨by decide, by decide⟩, (by first | exact Nat.zero_le _ | decide | omega), (by first | exact Nat.zero_le _ | decide | omega)⟩ rfl rfl (Nat.le_of_ble_eq_true rfl) ?_
    have hob : inR ρ.ob o = true := bI_ne0.mp h5
    refine z_if_eq (tgt := 36) dX6_isVersion_15 (by decide) (fun h15 => ?_) (fun h15 => ?_)
    · refine z_ic ki_0 dX6_isVersion_36 ?_
      refine z_ireturn dX6_isVersion_37 rfl (by first | rfl | exact bI_nar _) ?_
      exact rI_of (by rw [isV, show inR 10 v = false from bI_eq0.mp h15, Bool.false_and, Bool.and_false]; rfl)
    · have hv : inR 10 v = true := bI_ne0.mp h15
      obtain ⟨e1, l1⟩ := inR_of (by omega) hob
      obtain ⟨e2, l2⟩ := inR_of (by omega) hv
      refine z_aload_n dX6_isVersion_18 rfl rfl ?_
      refine z_getfield dX6_isVersion_19 fg_RX6_25 (by assumption) rfl ?_
      refine z_bi kb_10 dX6_isVersion_22 ?_
      refine z_iload_n dX6_isVersion_24 rfl ?_
      refine z_imul dX6_isVersion_25 ?_
      refine z_iload_n dX6_isVersion_26 rfl ?_
      refine z_iadd dX6_isVersion_27 ?_
      refine z_zaload dX6_isVersion_28 h7 (by have e3 := ix10 (tN o) (tN v); rw [← e1, ← e2] at e3; exact e3) (show 10 * tN o + tN v < 100 by omega) (by decide) ?_
      refine z_if_eq (tgt := 36) dX6_isVersion_29 (by decide) (fun h29 => ?_) (fun h29 => ?_)
      · refine z_ic ki_0 dX6_isVersion_36 ?_
        refine z_ireturn dX6_isVersion_37 rfl (by first | rfl | exact bI_nar _) ?_
        exact rI_of (by rw [isV, hob, hv, bI_eq0.mp h29]; rfl)
      · refine z_ic ki_1 dX6_isVersion_32 ?_
        refine z_goto (tgt := 37) dX6_isVersion_33 (by decide) ?_
        refine z_ireturn dX6_isVersion_37 rfl (by first | rfl | exact bI_nar _) ?_
        exact rI_of (by rw [isV, hob, hv, bI_ne0.mp h29]; rfl)
theorem latn_lt {σ : ST} {o : Nat} : ∀ n, (∃ k, k < n ∧ σ.b 0 (10 * o + k) = true) → 10 * o ≤ latn σ o n ∧ latn σ o n < 10 * o + n ∧ σ.b 0 (latn σ o n) = true
  | 0, h => by obtain ⟨k, h1, _⟩ := h; omega
  | n + 1, h => by
    unfold latn
    by_cases hq : σ.b 0 (10 * o + n) = true
    · rw [if_pos hq]
      exact ⟨by omega, by omega, hq⟩
    · rw [if_neg hq]
      obtain ⟨k, h1, h2⟩ := h
      have hk : k ≠ n := fun e => hq (by rw [← e]; exact h2)
      have := latn_lt n ⟨k, by omega, h2⟩
      exact ⟨this.1, by omega, this.2.2⟩
theorem c_X6_latest (hW : W2 g A σ ρ x M) {o : Nat} (ho : o < 10) (hv : hasV ρ o) : con g mX6_latest 0 0 [.ref (A 20 0), .int (nI o)] M (rI (nI (latn ρ o 10)) M) := by
  refine con_i ?_ (by decide) rfl rfl (by simp [lv_args, Value.category]) (by simp [lv_args, lnd, Value.category])
  have hm := hW.m
  have h7 := hW.r7
  have loop : ∀ n, n < 10 → (∃ k, k < n + 1 ∧ ρ.b 0 (10 * o + k) = true) → latn ρ o 10 = latn ρ o (n + 1) → ∀ x2, x2 = nI (10 * o + n) → tri g mX6_latest 0 0 (rI (nI (latn ρ o 10)) M) M 10 [(0, .ref (A 20 0)), (1, .int (nI o)), (2, .int x2)] [] := by
    intro n
    induction n with
    | zero =>
      intro _ he hq x2 e2
      obtain ⟨k, hk, hb⟩ := he
      have hk0 : k = 0 := by omega
      subst hk0
      subst e2
      refine z_aload_n dX6_latest_10 rfl rfl ?_
      refine z_getfield dX6_latest_11 fg_RX6_25 (by assumption) rfl ?_
      refine z_iload_n dX6_latest_14 rfl ?_
      refine z_zaload dX6_latest_15 h7 rfl (by omega) (by decide) ?_
      refine z_if_ne (tgt := 25) dX6_latest_16 (by decide) (fun h16 => ?_) (fun h16 => absurd h16 (by rw [hb]; decide))
      refine z_iload_n dX6_latest_25 rfl ?_
      refine z_ireturn dX6_latest_26 rfl (by first | rfl | exact bI_nar _) ?_
      exact rI_of (by rw [hq, latn, if_pos hb])
    | succ n ih =>
      intro hn he hq x2 e2
      subst e2
      refine z_aload_n dX6_latest_10 rfl rfl ?_
      refine z_getfield dX6_latest_11 fg_RX6_25 (by assumption) rfl ?_
      refine z_iload_n dX6_latest_14 rfl ?_
      refine z_zaload dX6_latest_15 h7 rfl (by omega) (by decide) ?_
      refine z_if_ne (tgt := 25) dX6_latest_16 (by decide) (fun h16 => ?_) (fun h16 => ?_)
      · refine z_iload_n dX6_latest_25 rfl ?_
        refine z_ireturn dX6_latest_26 rfl (by first | rfl | exact bI_nar _) ?_
        exact rI_of (by rw [hq, latn, if_pos (bI_ne0.mp h16)])
      · refine z_inc ki_m1 dX6_latest_19 rfl (by decide) ?_
        refine z_goto (tgt := 10) dX6_latest_22 (by decide) ?_
        have hf : ρ.b 0 (10 * o + (n + 1)) = false := bI_eq0.mp h16
        refine ih (by omega) ?_ ?_ _ (show nI (10 * o + n + 1) + (-1) = _ from pk_m1 _)
        · obtain ⟨k, hk, hb⟩ := he
          have hk2 : k ≠ n + 1 := fun e => by rw [e, hf] at hb; cases hb
          exact ⟨k, by omega, hb⟩
        · rw [hq, latn, if_neg (by rw [hf]; decide)]
  refine z_bi kb_10 dX6_latest_0 ?_
  refine z_iload_n dX6_latest_2 rfl ?_
  refine z_imul dX6_latest_3 ?_
  refine z_bi kb_10 dX6_latest_4 ?_
  refine z_iadd dX6_latest_6 ?_
  refine z_ic ki_1 dX6_latest_7 ?_
  refine z_isub dX6_latest_8 ?_
  refine z_istore_n dX6_latest_9 (by decide) ?_
  obtain ⟨k, hk, hb⟩ := hv
  refine loop 9 (by omega) ⟨k, hk, hb⟩ rfl _ ?_
  rw [ix10]
  exact (pk_sub (by omega)).trans (congrArg nI (by omega))
theorem c_X6_content (hW : W2 g A σ ρ x M) (hw : WF ρ) (hb : rbok ρ x) {v : Nat} (hv : vok ρ v) : con g mX6_content 0 0 [.ref (A 20 0), .int (nI v)] M (rI (isum (fun w => ρ.i 2 (ρ.a 3 w)) 0 (chL ρ v)) M) := by
  refine con_i ?_ (by decide) rfl rfl (by simp [lv_args, Value.category]) (by simp [lv_args, lnd, Value.category])
  have hm := hW.m
  have h9 := hW.r9
  have h10 := hW.r10
  have h13 := hW.r13
  have h14 := hW.r14
  have loop : ∀ n w, w < n → vok ρ w → ∀ x2 x3, isum (fun w => ρ.i 2 (ρ.a 3 w)) 0 (chL ρ v) = isum (fun w => ρ.i 2 (ρ.a 3 w)) x2 (chL ρ w) → x3 = nI w → tri g mX6_content 0 0 (rI (isum (fun w => ρ.i 2 (ρ.a 3 w)) 0 (chL ρ v)) M) M 4 [(0, .ref (A 20 0)), (1, .int (nI v)), (2, .int x2), (3, .int x3)] [] := by
    intro n
    induction n with
    | zero => intro w h; omega
    | succ n ih =>
      intro w hwn hvw x2 x3 e2 e3
      subst e3
      have hl := hw.lt hvw
      have hu := hw.un hvw
      refine z_aload_n dX6_content_4 rfl rfl ?_
      refine z_getfield dX6_content_5 fg_RX6_41 (by assumption) rfl ?_
      refine z_aload_n dX6_content_8 rfl rfl ?_
      refine z_getfield dX6_content_9 fg_RX6_32 (by assumption) rfl ?_
      refine z_iload_n dX6_content_12 rfl ?_
      refine z_iaload dX6_content_13 h9 rfl (by omega) (by decide) ?_
      refine z_zaload dX6_content_14 h13 rfl (by omega) (by decide) ?_
      refine z_if_eq (tgt := 42) dX6_content_15 (by decide) (fun h15 => ?_) (fun h15 => ?_)
      · refine z_iload_n dX6_content_42 rfl ?_
        refine z_aload_n dX6_content_43 rfl rfl ?_
        refine z_getfield dX6_content_44 fg_RX6_44 (by assumption) rfl ?_
        refine z_aload_n dX6_content_47 rfl rfl ?_
        refine z_getfield dX6_content_48 fg_RX6_32 (by assumption) rfl ?_
        refine z_iload_n dX6_content_51 rfl ?_
        refine z_iaload dX6_content_52 h9 rfl (by omega) (by decide) ?_
        refine z_iaload dX6_content_53 h14 rfl (by omega) (by decide) ?_
        refine z_iadd dX6_content_54 ?_
        refine z_ireturn dX6_content_55 rfl (by first | rfl | exact bI_nar _) ?_
        exact rI_of (by rw [e2, chL_w (bI_eq0.mp h15)]; rfl)
      · refine z_iload_n dX6_content_18 rfl ?_
        refine z_aload_n dX6_content_19 rfl rfl ?_
        refine z_getfield dX6_content_20 fg_RX6_44 (by assumption) rfl ?_
        refine z_aload_n dX6_content_23 rfl rfl ?_
        refine z_getfield dX6_content_24 fg_RX6_32 (by assumption) rfl ?_
        refine z_iload_n dX6_content_27 rfl ?_
        refine z_iaload dX6_content_28 h9 rfl (by omega) (by decide) ?_
        refine z_iaload dX6_content_29 h14 rfl (by omega) (by decide) ?_
        refine z_iadd dX6_content_30 ?_
        refine z_istore_n dX6_content_31 (by decide) ?_
        refine z_aload_n dX6_content_32 rfl rfl ?_
        refine z_getfield dX6_content_33 fg_RX6_35 (by assumption) rfl ?_
        refine z_iload_n dX6_content_36 rfl ?_
        refine z_iaload dX6_content_37 h10 rfl (by omega) (by decide) ?_
        refine z_istore_n dX6_content_38 (by decide) ?_
        refine z_goto (tgt := 4) dX6_content_39 (by decide) ?_
        have hd := bI_ne0.mp h15
        obtain ⟨h3, h4⟩ := hw.bas hvw hd
        refine ih (ρ.a 4 w) (by omega) h4 _ _ ?_ (hb w hvw hd)
        rw [e2, chL_d hw hvw hd]
        rfl
  refine z_ic ki_0 dX6_content_0 ?_
  refine z_istore_n dX6_content_1 (by decide) ?_
  refine z_iload_n dX6_content_2 rfl ?_
  refine z_istore_n dX6_content_3 (by decide) ?_
  exact loop (v + 1) v (by omega) hv _ _ rfl rfl
theorem c_X6_unitFor (hW : W2 g A σ ρ x M) (hw : WF ρ) (d : Bool) (v : Int32) : con g mX6_unitFor 0 0 [.ref (A 20 0), .int (bI d), .int v] M (rI (oI (ufn ρ d v ρ.un)) M) := by
  refine con_i ?_ (by decide) rfl rfl (by simp [lv_args, Value.category]) (by simp [lv_args, lnd, Value.category])
  have hm := hW.m
  have h12 := hW.r12
  have h13 := hW.r13
  have h14 := hW.r14
  have hun := hw.1.2
  have loop : ∀ j, j ≤ ρ.un → ∀ x3 x4, x3 = oI (ufn ρ d v j) → x4 = nI j → tri g mX6_unitFor 0 0 (rI (oI (ufn ρ d v ρ.un)) M) M 5 [(0, .ref (A 20 0)), (1, .int (bI d)), (2, .int v), (3, .int x3), (4, .int x4)] [] := by
    refine lp_up ρ.un ?_ ?_
    · intro x3 x4 e3 e4
      subst e4
      refine z_iload dX6_unitFor_5 rfl ?_
      refine z_aload_n dX6_unitFor_7 rfl rfl ?_
      refine z_getfield dX6_unitFor_8 fg_RX6_113 (by assumption) rfl ?_
      refine z_icmp_ge (tgt := 59) dX6_unitFor_11 (by decide) (fun h11 => ?_) (fun h11 => absurd (nI_le (by omega) (by omega)) h11)
      refine z_iload_n dX6_unitFor_59 rfl ?_
      refine z_ireturn dX6_unitFor_60 rfl (by first | rfl | exact bI_nar _) ?_
      exact rI_of (by first | rfl | assumption | simp_all)
    · intro j hj ih x3 x4 e3 e4
      subst e4
      refine z_iload dX6_unitFor_5 rfl ?_
      refine z_aload_n dX6_unitFor_7 rfl rfl ?_
      refine z_getfield dX6_unitFor_8 fg_RX6_113 (by assumption) rfl ?_
      refine z_icmp_ge (tgt := 59) dX6_unitFor_11 (by decide) (fun h11 => absurd h11 (nI_ge hj (by omega))) (fun h11 => ?_)
      refine z_aload_n dX6_unitFor_14 rfl rfl ?_
      refine z_getfield dX6_unitFor_15 fg_RX6_38 (by assumption) rfl ?_
      refine z_iload dX6_unitFor_18 rfl ?_
      refine z_zaload dX6_unitFor_20 h12 rfl (by omega) (by decide) ?_
      refine z_if_eq (tgt := 51) dX6_unitFor_21 (by decide) (fun h21 => ?_) (fun h21 => ?_)
      · refine z_iload_n dX6_unitFor_51 rfl ?_
        refine z_istore_n dX6_unitFor_52 (by decide) ?_
        refine z_inc ki_1 dX6_unitFor_53 rfl (by decide) ?_
        refine z_goto (tgt := 5) dX6_unitFor_56 (by decide) ?_
        exact ih _ _ (by rw [e3, ufn, if_neg (by rw [bI_eq0.mp h21]; simp)]) (nI_add j 1)
      · refine z_aload_n dX6_unitFor_24 rfl rfl ?_
        refine z_getfield dX6_unitFor_25 fg_RX6_41 (by assumption) rfl ?_
        refine z_iload dX6_unitFor_28 rfl ?_
        refine z_zaload dX6_unitFor_30 h13 rfl (by omega) (by decide) ?_
        refine z_iload_n dX6_unitFor_31 rfl ?_
        refine z_icmp_ne (tgt := 51) dX6_unitFor_32 (by decide) (fun h32 => ?_) (fun h32 => ?_)
        · refine z_iload_n dX6_unitFor_51 rfl ?_
          refine z_istore_n dX6_unitFor_52 (by decide) ?_
          refine z_inc ki_1 dX6_unitFor_53 rfl (by decide) ?_
          refine z_goto (tgt := 5) dX6_unitFor_56 (by decide) ?_
          exact ih _ _ (by rw [e3, ufn, if_neg (fun q => h32 (by rw [q.2.1]))]) (nI_add j 1)
        · refine z_aload_n dX6_unitFor_35 rfl rfl ?_
          refine z_getfield dX6_unitFor_36 fg_RX6_44 (by assumption) rfl ?_
          refine z_iload dX6_unitFor_39 rfl ?_
          refine z_iaload dX6_unitFor_41 h14 rfl (by omega) (by decide) ?_
          refine z_iload_n dX6_unitFor_42 rfl ?_
          refine z_icmp_ne (tgt := 51) dX6_unitFor_43 (by decide) (fun h43 => ?_) (fun h43 => ?_)
          · refine z_iload_n dX6_unitFor_51 rfl ?_
            refine z_istore_n dX6_unitFor_52 (by decide) ?_
            refine z_inc ki_1 dX6_unitFor_53 rfl (by decide) ?_
            refine z_goto (tgt := 5) dX6_unitFor_56 (by decide) ?_
            exact ih _ _ (by rw [e3, ufn, if_neg (fun q => h43 q.2.2)]) (nI_add j 1)
          · refine z_iload dX6_unitFor_46 rfl ?_
            refine z_goto (tgt := 52) dX6_unitFor_48 (by decide) ?_
            refine z_istore_n dX6_unitFor_52 (by decide) ?_
            refine z_inc ki_1 dX6_unitFor_53 rfl (by decide) ?_
            refine z_goto (tgt := 5) dX6_unitFor_56 (by decide) ?_
            refine ih _ _ ?_ (nI_add j 1)
            have hd : ρ.b 2 j = d := by
              cases h1 : ρ.b 2 j <;> cases d <;> rw [h1] at h32 <;> first | rfl | exact absurd h32 (by decide)
            rw [ufn, if_pos ⟨bI_ne0.mp h21, hd, h43⟩]
            rfl
  refine z_ic ki_m1 dX6_unitFor_0 ?_
  refine z_istore_n dX6_unitFor_1 (by decide) ?_
  refine z_ic ki_0 dX6_unitFor_2 ?_
  refine z_istore dX6_unitFor_3 (by decide) ?_
  exact loop 0 (by omega) _ _ rfl rfl
theorem c_X6_canRead (hW : W2 g A σ ρ x M) (hw : WF ρ) (hb : rbok ρ x) {v : Nat} (hv : vok ρ v) : con g mX6_canRead 0 0 [.ref (A 20 0), .int (nI v)] M (rI (bI (allG ρ (chL ρ v))) M) := by
  refine con_i ?_ (by decide) rfl rfl (by simp [lv_args, Value.category]) (by simp [lv_args, lnd, Value.category])
  have hm := hW.m
  have h9 := hW.r9
  have h10 := hW.r10
  have h13 := hW.r13
  have loop : ∀ n w, w < n → vok ρ w → ∀ (c : Bool) x2 x3, allG ρ (chL ρ v) = (c && allG ρ (chL ρ w)) → x2 = bI c → x3 = nI w → tri g mX6_canRead 0 0 (rI (bI (allG ρ (chL ρ v))) M) M 4 [(0, .ref (A 20 0)), (1, .int (nI v)), (2, .int x2), (3, .int x3)] [] := by
    intro n
    induction n with
    | zero => intro w h; omega
    | succ n ih =>
      intro w hwn hvw c x2 x3 ec e2 e3
      subst e3
      subst e2
      have hl := hw.lt hvw
      have hu := hw.un hvw
      have hs : ∀ u, oI (good ρ u) = -1 → (good ρ u).isSome = false := fun u h => by
        rw [oI_none h (fun n hn => by have := gdn_lt ρ u 4 n hn; omega)]
        rfl
      have hs2 : ∀ u, ¬ oI (good ρ u) = -1 → (good ρ u).isSome = true := fun u h => by
        obtain ⟨f, hf⟩ := oI_some h
        rw [hf]
        rfl
      refine z_iload_n dX6_canRead_4 rfl ?_
      refine z_if_eq (tgt := 52) dX6_canRead_5 (by decide) (fun h5 => ?_) (fun h5 => ?_)
      · refine z_iload_n dX6_canRead_52 rfl ?_
        refine z_if_eq (tgt := 74) dX6_canRead_53 (by decide) (fun h53 => ?_) (fun h53 => ?_)
        · refine z_ic ki_0 dX6_canRead_74 ?_
          refine z_ireturn dX6_canRead_75 rfl (by first | rfl | exact bI_nar _) ?_
          exact rI_of (by rw [ec, bI_eq0.mp h5]; rfl)
        · refine z_aload_n dX6_canRead_56 rfl rfl ?_
          refine z_aload_n dX6_canRead_57 rfl rfl ?_
          refine z_getfield dX6_canRead_58 fg_RX6_32 (by assumption) rfl ?_
          refine z_iload_n dX6_canRead_61 rfl ?_
          refine z_iaload dX6_canRead_62 h9 rfl (by omega) (by decide) ?_
          refine z_ivI dX6_canRead_63 cv_RX6_95 (by assumption) (c_X6_good g hW hu) ⟨⟨by decide, by decide⟩, (by first | exact Nat.zero_le _ | decide | omega), (by first | exact Nat.zero_le _ | decide | omega)⟩ rfl rfl (Nat.le_of_ble_eq_true rfl) ?_
          refine z_ic ki_m1 dX6_canRead_66 ?_
          refine z_icmp_eq (tgt := 74) dX6_canRead_67 (by decide) (fun h67 => ?_) (fun h67 => ?_)
          · refine z_ic ki_0 dX6_canRead_74 ?_
            refine z_ireturn dX6_canRead_75 rfl (by first | rfl | exact bI_nar _) ?_
            exact absurd h5 h53
          · refine z_ic ki_1 dX6_canRead_70 ?_
            refine z_goto (tgt := 75) dX6_canRead_71 (by decide) ?_
            refine z_ireturn dX6_canRead_75 rfl (by first | rfl | exact bI_nar _) ?_
            exact absurd h5 h53
      · refine z_aload_n dX6_canRead_8 rfl rfl ?_
        refine z_getfield dX6_canRead_9 fg_RX6_41 (by assumption) rfl ?_
        refine z_aload_n dX6_canRead_12 rfl rfl ?_
        refine z_getfield dX6_canRead_13 fg_RX6_32 (by assumption) rfl ?_
        refine z_iload_n dX6_canRead_16 rfl ?_
        refine z_iaload dX6_canRead_17 h9 rfl (by omega) (by decide) ?_
        refine z_zaload dX6_canRead_18 h13 rfl (by omega) (by decide) ?_
        refine z_if_eq (tgt := 52) dX6_canRead_19 (by decide) (fun h19 => ?_) (fun h19 => ?_)
        · refine z_iload_n dX6_canRead_52 rfl ?_
          refine z_if_eq (tgt := 74) dX6_canRead_53 (by decide) (fun h53 => ?_) (fun h53 => ?_)
          · refine z_ic ki_0 dX6_canRead_74 ?_
            refine z_ireturn dX6_canRead_75 rfl (by first | rfl | exact bI_nar _) ?_
            exact rI_of (by rw [ec, bI_eq0.mp h53]; rfl)
          · refine z_aload_n dX6_canRead_56 rfl rfl ?_
            refine z_aload_n dX6_canRead_57 rfl rfl ?_
            refine z_getfield dX6_canRead_58 fg_RX6_32 (by assumption) rfl ?_
            refine z_iload_n dX6_canRead_61 rfl ?_
            refine z_iaload dX6_canRead_62 h9 rfl (by omega) (by decide) ?_
            refine z_ivI dX6_canRead_63 cv_RX6_95 (by assumption) (c_X6_good g hW hu) ⟨⟨by decide, by decide⟩, (by first | exact Nat.zero_le _ | decide | omega), (by first | exact Nat.zero_le _ | decide | omega)⟩ rfl rfl (Nat.le_of_ble_eq_true rfl) ?_
            refine z_ic ki_m1 dX6_canRead_66 ?_
            refine z_icmp_eq (tgt := 74) dX6_canRead_67 (by decide) (fun h67 => ?_) (fun h67 => ?_)
            · refine z_ic ki_0 dX6_canRead_74 ?_
              refine z_ireturn dX6_canRead_75 rfl (by first | rfl | exact bI_nar _) ?_
              exact rI_of (by rw [ec, chL_w (bI_eq0.mp h19), allG, List.all_cons, hs _ h67, Bool.false_and, Bool.and_false]; rfl)
            · refine z_ic ki_1 dX6_canRead_70 ?_
              refine z_goto (tgt := 75) dX6_canRead_71 (by decide) ?_
              refine z_ireturn dX6_canRead_75 rfl (by first | rfl | exact bI_nar _) ?_
              exact rI_of (by rw [ec, chL_w (bI_eq0.mp h19), allG, List.all_cons, hs2 _ h67, bI_ne0.mp h53]; rfl)
        · refine z_aload_n dX6_canRead_22 rfl rfl ?_
          refine z_aload_n dX6_canRead_23 rfl rfl ?_
          refine z_getfield dX6_canRead_24 fg_RX6_32 (by assumption) rfl ?_
          refine z_iload_n dX6_canRead_27 rfl ?_
          refine z_iaload dX6_canRead_28 h9 rfl (by omega) (by decide) ?_
          refine z_ivI dX6_canRead_29 cv_RX6_95 (by assumption) (c_X6_good g hW hu) ⟨⟨by decide, by decide⟩, (by first | exact Nat.zero_le _ | decide | omega), (by first | exact Nat.zero_le _ | decide | omega)⟩ rfl rfl (Nat.le_of_ble_eq_true rfl) ?_
          refine z_ic ki_m1 dX6_canRead_32 ?_
          refine z_icmp_eq (tgt := 40) dX6_canRead_33 (by decide) (fun h33 => ?_) (fun h33 => ?_)
          · refine z_ic ki_0 dX6_canRead_40 ?_
            refine z_istore_n dX6_canRead_41 (by decide) ?_
            refine z_aload_n dX6_canRead_42 rfl rfl ?_
            refine z_getfield dX6_canRead_43 fg_RX6_35 (by assumption) rfl ?_
            refine z_iload_n dX6_canRead_46 rfl ?_
            refine z_iaload dX6_canRead_47 h10 rfl (by omega) (by decide) ?_
            refine z_istore_n dX6_canRead_48 (by decide) ?_
            refine z_goto (tgt := 4) dX6_canRead_49 (by decide) ?_
            have hd := bI_ne0.mp h19
            obtain ⟨h3, h4⟩ := hw.bas hvw hd
            refine ih (ρ.a 4 w) (by omega) h4 false _ _ ?_ rfl (hb w hvw hd)
            rw [ec, chL_d hw hvw hd, allG, List.all_cons, hs _ h33, Bool.false_and, Bool.and_false, Bool.false_and]
          · refine z_ic ki_1 dX6_canRead_36 ?_
            refine z_goto (tgt := 41) dX6_canRead_37 (by decide) ?_
            refine z_istore_n dX6_canRead_41 (by decide) ?_
            refine z_aload_n dX6_canRead_42 rfl rfl ?_
            refine z_getfield dX6_canRead_43 fg_RX6_35 (by assumption) rfl ?_
            refine z_iload_n dX6_canRead_46 rfl ?_
            refine z_iaload dX6_canRead_47 h10 rfl (by omega) (by decide) ?_
            refine z_istore_n dX6_canRead_48 (by decide) ?_
            refine z_goto (tgt := 4) dX6_canRead_49 (by decide) ?_
            have hd := bI_ne0.mp h19
            obtain ⟨h3, h4⟩ := hw.bas hvw hd
            refine ih (ρ.a 4 w) (by omega) h4 true _ _ ?_ rfl (hb w hvw hd)
            rw [ec, chL_d hw hvw hd, allG, List.all_cons, hs2 _ h33, bI_ne0.mp h5, Bool.true_and, Bool.true_and, Bool.true_and]
            rfl
  refine z_ic ki_1 dX6_canRead_0 ?_
  refine z_istore_n dX6_canRead_1 (by decide) ?_
  refine z_iload_n dX6_canRead_2 rfl ?_
  refine z_istore_n dX6_canRead_3 (by decide) ?_
  exact loop (v + 1) v (by omega) hv true _ _ (Bool.true_and _).symm rfl rfl
theorem c_X6_reads (hW : W2 g A σ ρ x M) (hw : WF ρ) (hb : rbok ρ x) {v : Nat} (hv : vok ρ v) (hg : allG ρ (chL ρ v) = true) : con g mX6_reads 0 0 [.ref (A 20 0), .int (nI v)] M (rI (isum (fun w => gval ρ (ρ.a 3 w)) 0 (chL ρ v)) M) := by
  refine con_i ?_ (by decide) rfl rfl (by simp [lv_args, Value.category]) (by simp [lv_args, lnd, Value.category])
  have hm := hW.m
  have h9 := hW.r9
  have h10 := hW.r10
  have h13 := hW.r13
  have loop : ∀ n w, w < n → vok ρ w → allG ρ (chL ρ w) = true → ∀ x2 x3, isum (fun w => gval ρ (ρ.a 3 w)) 0 (chL ρ v) = isum (fun w => gval ρ (ρ.a 3 w)) x2 (chL ρ w) → x3 = nI w → tri g mX6_reads 0 0 (rI (isum (fun w => gval ρ (ρ.a 3 w)) 0 (chL ρ v)) M) M 4 [(0, .ref (A 20 0)), (1, .int (nI v)), (2, .int x2), (3, .int x3)] [] := by
    intro n
    induction n with
    | zero => intro w h; omega
    | succ n ih =>
      intro w hwn hvw hgw x2 x3 e2 e3
      subst e3
      have hl := hw.lt hvw
      have hu := hw.un hvw
      have hgw1 : ∃ f, good ρ (ρ.a 3 w) = some f := by
        refine Option.isSome_iff_exists.mp ?_
        by_cases hd : ρ.b 2 (ρ.a 3 w) = true
        · rw [chL_d hw hvw hd, allG, List.all_cons, Bool.and_eq_true] at hgw
          exact hgw.1
        · rw [chL_w (by simpa using hd), allG, List.all_cons, Bool.and_eq_true] at hgw
          exact hgw.1
      obtain ⟨f, hf⟩ := hgw1
      have hgv : gval ρ (ρ.a 3 w) = ρ.hs (ρ.a 3 w) f := by unfold gval; rw [hf]
      refine z_aload_n dX6_reads_4 rfl rfl ?_
      refine z_getfield dX6_reads_5 fg_RX6_41 (by assumption) rfl ?_
      refine z_aload_n dX6_reads_8 rfl rfl ?_
      refine z_getfield dX6_reads_9 fg_RX6_32 (by assumption) rfl ?_
      refine z_iload_n dX6_reads_12 rfl ?_
      refine z_iaload dX6_reads_13 h9 rfl (by omega) (by decide) ?_
      refine z_zaload dX6_reads_14 h13 rfl (by omega) (by decide) ?_
      refine z_if_eq (tgt := 41) dX6_reads_15 (by decide) (fun h15 => ?_) (fun h15 => ?_)
      · refine z_iload_n dX6_reads_41 rfl ?_
        refine z_aload_n dX6_reads_42 rfl rfl ?_
        refine z_aload_n dX6_reads_43 rfl rfl ?_
        refine z_getfield dX6_reads_44 fg_RX6_32 (by assumption) rfl ?_
        refine z_iload_n dX6_reads_47 rfl ?_
        refine z_iaload dX6_reads_48 h9 rfl (by omega) (by decide) ?_
        refine z_ivI dX6_reads_49 cv_RX6_123 (by assumption) (c_X6_goodValue g hW hu hf) ⟨⟨by decide, by decide⟩, (by first | exact Nat.zero_le _ | decide | omega), (by first | exact Nat.zero_le _ | decide | omega)⟩ rfl rfl (Nat.le_of_ble_eq_true rfl) ?_
        refine z_iadd dX6_reads_52 ?_
        refine z_ireturn dX6_reads_53 rfl (by first | rfl | exact bI_nar _) ?_
        exact rI_of (by rw [e2, chL_w (bI_eq0.mp h15), ← hgv]; rfl)
      · refine z_iload_n dX6_reads_18 rfl ?_
        refine z_aload_n dX6_reads_19 rfl rfl ?_
        refine z_aload_n dX6_reads_20 rfl rfl ?_
        refine z_getfield dX6_reads_21 fg_RX6_32 (by assumption) rfl ?_
        refine z_iload_n dX6_reads_24 rfl ?_
        refine z_iaload dX6_reads_25 h9 rfl (by omega) (by decide) ?_
        refine z_ivI dX6_reads_26 cv_RX6_123 (by assumption) (c_X6_goodValue g hW hu hf) ⟨⟨by decide, by decide⟩, (by first | exact Nat.zero_le _ | decide | omega), (by first | exact Nat.zero_le _ | decide | omega)⟩ rfl rfl (Nat.le_of_ble_eq_true rfl) ?_
        refine z_iadd dX6_reads_29 ?_
        refine z_istore_n dX6_reads_30 (by decide) ?_
        refine z_aload_n dX6_reads_31 rfl rfl ?_
        refine z_getfield dX6_reads_32 fg_RX6_35 (by assumption) rfl ?_
        refine z_iload_n dX6_reads_35 rfl ?_
        refine z_iaload dX6_reads_36 h10 rfl (by omega) (by decide) ?_
        refine z_istore_n dX6_reads_37 (by decide) ?_
        refine z_goto (tgt := 4) dX6_reads_38 (by decide) ?_
        have hd := bI_ne0.mp h15
        obtain ⟨h3, h4⟩ := hw.bas hvw hd
        refine ih (ρ.a 4 w) (by omega) h4 ?_ _ _ ?_ (hb w hvw hd)
        · rw [chL_d hw hvw hd, allG, List.all_cons, Bool.and_eq_true] at hgw
          exact hgw.2
        · rw [e2, chL_d hw hvw hd, ← hgv]
          rfl
  refine z_ic ki_0 dX6_reads_0 ?_
  refine z_istore_n dX6_reads_1 (by decide) ?_
  refine z_iload_n dX6_reads_2 rfl ?_
  refine z_istore_n dX6_reads_3 (by decide) ?_
  exact loop (v + 1) v (by omega) hv hg _ _ rfl rfl
end REF2
