/-! the reference: its small methods -/
def rQ (v : Option Value) (Q : Mem → Prop) : PO := fun r M' => r = .inl v ∧ Q M'
theorem rQ_of {v : Option Value} {Q : Mem → Prop} {M : Mem} (h : Q M) : rQ v Q (.inl v) M := ⟨rfl, h⟩
section QR
variable {g : GG} {d : MD} {bk bn : Nat} {P : PO} {M : Mem} {pc : Nat} {ls : List (Nat × Value)} {st : List Value}
theorem z_ivQ {index ci n a bk1 bn1 : Nat} {dd : MD} {fs as rest : List Value} {v : Option Value} {Q : Mem → Prop} (hd : decode d.cc pc = .ok (.invokevirtual index, 3)) (hv : vlk d.y.cls index ci dd n) (hM : M a = some (ob ci fs)) (hcon : con g dd bk1 bn1 (.ref a :: as) M (rQ v Q)) (hC : clk d dd bk1 bn1 bk bn) (hn : as.length = n) (hst : st = as.reverse ++ .ref a :: rest) (hw : (rest.map fun v => v.category).sum ≤ 8)
    (kk : ∀ M', Q M' → tri g d (bk - bk1) (bn - bn1) P M' (pc + 3) ls (v.toList ++ rest)) : tri g d bk bn P M pc ls st := by
  refine z_invokevirtual hd hv hM hcon hC hn hst hw (fun v' M' h => ?_) (fun E M' h => by cases h.1)
  obtain ⟨h1, h2⟩ := h
  cases h1
  exact kk M' h2
theorem z_isQ {index n bk1 bn1 : Nat} {dd : MD} {as rest : List Value} {v : Option Value} {Q : Mem → Prop} (hd : decode d.cc pc = .ok (.invokestatic index, 3)) (hv : slk d.y.cls index dd n) (hcon : con g dd bk1 bn1 as M (rQ v Q)) (hC : clk d dd bk1 bn1 bk bn) (hn : as.length = n) (hst : st = as.reverse ++ rest) (hw : (rest.map fun v => v.category).sum ≤ 8)
    (kk : ∀ M', Q M' → tri g d (bk - bk1) (bn - bn1) P M' (pc + 3) ls (v.toList ++ rest)) : tri g d bk bn P M pc ls st := by
  refine z_invokestatic hd hv hcon hC hn hst hw (fun v' M' h => ?_) (fun E M' h => by cases h.1)
  obtain ⟨h1, h2⟩ := h
  cases h1
  exact kk M' h2
theorem z_ipQ {index n a bk1 bn1 : Nat} {dd : MD} {as rest : List Value} {v : Option Value} {Q : Mem → Prop} (hd : decode d.cc pc = .ok (.invokespecial index, 3)) (hv : ilk d.y.cls index dd n) (hcon : con g dd bk1 bn1 (.ref a :: as) M (rQ v Q)) (hC : clk d dd bk1 bn1 bk bn) (hn : as.length = n) (hst : st = as.reverse ++ .ref a :: rest) (hw : (rest.map fun v => v.category).sum ≤ 8)
    (kk : ∀ M', Q M' → tri g d (bk - bk1) (bn - bn1) P M' (pc + 3) ls (v.toList ++ rest)) : tri g d bk bn P M pc ls st := by
  refine z_invokespecial hd hv hcon hC hn hst hw (fun v' M' h => ?_) (fun E M' h => by cases h.1)
  obtain ⟨h1, h2⟩ := h
  cases h1
  exact kk M' h2
theorem ix4 (u s : Nat) : nI 4 * nI u + nI s = nI (4 * u + s) := by rw [pk_mul, nI_add]
theorem ix8 (u s : Nat) : nI 8 * nI u + nI s = nI (8 * u + s) := by rw [pk_mul, nI_add]
theorem ix10 (u s : Nat) : nI 10 * nI u + nI s = nI (10 * u + s) := by rw [pk_mul, nI_add]
theorem z_ldB4 {a N u s : Nat} {f : Nat → Nat → Bool} {i : Int32} (hd : decode d.cc pc = .ok (.baload, 1)) (hM : M a = some (aI .boolean N (fun k => bI (f (k / 4) (k % 4))))) (hi : i = nI (4 * u + s)) (hs : s < 4) (hj : 4 * u + s < N) (hn : N < 2 ^ 31) (kk : tri g d bk bn P M (pc + 1) ls (.int (bI (f u s)) :: st)) : tri g d bk bn P M pc ls (.int i :: .ref a :: st) := by
  refine z_zaload hd hM hi hj hn ?_
  rw [show (4 * u + s) / 4 = u by omega, show (4 * u + s) % 4 = s by omega]
  exact kk
theorem z_ldI4 {a N u s : Nat} {f : Nat → Nat → Int32} {i : Int32} (hd : decode d.cc pc = .ok (.iaload, 1)) (hM : M a = some (aI .int N (fun k => f (k / 4) (k % 4)))) (hi : i = nI (4 * u + s)) (hs : s < 4) (hj : 4 * u + s < N) (hn : N < 2 ^ 31) (kk : tri g d bk bn P M (pc + 1) ls (.int (f u s) :: st)) : tri g d bk bn P M pc ls (.int i :: .ref a :: st) := by
  refine z_iaload hd hM hi hj hn ?_
  rw [show (4 * u + s) / 4 = u by omega, show (4 * u + s) % 4 = s by omega]
  exact kk
theorem z_ldI8 {a N u s : Nat} {f : Nat → Nat → Int32} {i : Int32} (hd : decode d.cc pc = .ok (.iaload, 1)) (hM : M a = some (aI .int N (fun k => f (k / 8) (k % 8)))) (hi : i = nI (8 * u + s)) (hs : s < 8) (hj : 8 * u + s < N) (hn : N < 2 ^ 31) (kk : tri g d bk bn P M (pc + 1) ls (.int (f u s) :: st)) : tri g d bk bn P M pc ls (.int i :: .ref a :: st) := by
  refine z_iaload hd hM hi hj hn ?_
  rw [show (8 * u + s) / 8 = u by omega, show (8 * u + s) % 8 = s by omega]
  exact kk
end QR
theorem c_X6_isIn (g : GG) (M : Mem) (x a b : Int32) : con g mX6_isIn 0 0 [.int x, .int a, .int b] M (rI (bI (decide (a ≤ x ∧ x ≤ b))) M) := by
  refine con_i ?_ (by decide) rfl rfl (by simp [lv_args, Value.category]) (by simp [lv_args, lnd, Value.category])
  refine z_iload_n dX6_isIn_0 rfl ?_
  refine z_iload_n dX6_isIn_1 rfl ?_
  refine z_icmp_lt (tgt := 14) dX6_isIn_2 (by decide) (fun h2 => ?_) (fun h2 => ?_)
  · refine z_ic ki_0 dX6_isIn_14 ?_
    refine z_ireturn dX6_isIn_15 rfl (by first | rfl | exact bI_nar _) ?_
    rw [show decide (a ≤ x ∧ x ≤ b) = false from decide_eq_false (fun h => Int32.not_le.mpr h2 h.1)]
    exact rI_of rfl
  · refine z_iload_n dX6_isIn_5 rfl ?_
    refine z_iload_n dX6_isIn_6 rfl ?_
    refine z_icmp_gt (tgt := 14) dX6_isIn_7 (by decide) (fun h7 => ?_) (fun h7 => ?_)
    · refine z_ic ki_0 dX6_isIn_14 ?_
      refine z_ireturn dX6_isIn_15 rfl (by first | rfl | exact bI_nar _) ?_
      rw [show decide (a ≤ x ∧ x ≤ b) = false from decide_eq_false (fun h => Int32.not_le.mpr h7 h.2)]
      exact rI_of rfl
    · refine z_ic ki_1 dX6_isIn_10 ?_
      refine z_goto (tgt := 15) dX6_isIn_11 (by decide) ?_
      refine z_ireturn dX6_isIn_15 rfl (by first | rfl | exact bI_nar _) ?_
      rw [show decide (a ≤ x ∧ x ≤ b) = true from decide_eq_true ⟨i32_nlt h2, i32_nlt h7⟩]
      exact rI_of rfl
theorem c_X6_digest (g : GG) (M : Mem) (v : Int32) : con g mX6_digest 0 0 [.int v] M (rI (dig v) M) := by
  refine con_i ?_ (by decide) rfl rfl (by simp [lv_args, Value.category]) (by simp [lv_args, lnd, Value.category])
  refine z_iload_n dX6_digest_0 rfl ?_
  refine z_bi kb_97 dX6_digest_1 ?_
  refine z_irem dX6_digest_3 (by decide) ?_
  refine z_istore_n dX6_digest_4 (by decide) ?_
  refine z_iload_n dX6_digest_5 rfl ?_
  refine z_if_ge (tgt := 16) dX6_digest_6 (by decide) (fun h6 => ?_) (fun h6 => ?_)
  · refine z_iload_n dX6_digest_16 rfl ?_
    refine z_ireturn dX6_digest_17 rfl (by first | rfl | exact bI_nar _) ?_
    exact rI_of (by unfold dig; rw [if_neg (Int32.not_lt.mpr h6)])
  · refine z_iload_n dX6_digest_9 rfl ?_
    refine z_bi kb_97 dX6_digest_10 ?_
    refine z_iadd dX6_digest_12 ?_
    refine z_goto (tgt := 17) dX6_digest_13 (by decide) ?_
    refine z_ireturn dX6_digest_17 rfl (by first | rfl | exact bI_nar _) ?_
    exact rI_of (by unfold dig; rw [if_pos (Int32.not_le.mp h6)])
/-- a sound copy -/
def snd (σ : ST) (u s : Nat) : Bool := σ.cp u s && decide (dig (σ.hs u s) = dig (σ.i 2 u))
/-- how many sound copies have what the copy at s has -/
def alk (σ : ST) (u s : Nat) : Nat → Nat
  | 0 => 0
  | n + 1 => alk σ u s n + (if snd σ u s = true ∧ snd σ u n = true ∧ σ.hs u n = σ.hs u s then 1 else 0)
theorem alk_le (σ : ST) (u s : Nat) : ∀ n, alk σ u s n ≤ n
  | 0 => Nat.le_refl 0
  | n + 1 => by
    have h := alk_le σ u s n
    unfold alk
    split <;> omega
def gal (σ : ST) (u : Nat) : Option Nat → Nat
  | none => 0
  | some f => alk σ u f 4
/-- the lowest site whose copy has the good value, of the first n -/
def gdn (σ : ST) (u : Nat) : Nat → Option Nat
  | 0 => none
  | n + 1 => if gal σ u (gdn σ u n) < alk σ u n 4 then some n else gdn σ u n
theorem gdn_lt (σ : ST) (u : Nat) : ∀ n f, gdn σ u n = some f → f < n
  | 0, f, h => by cases h
  | n + 1, f, h => by
    unfold gdn at h
    split at h
    · cases h
      omega
    · have := gdn_lt σ u n f h
      omega
abbrev good (σ : ST) (u : Nat) : Option Nat := gdn σ u 4
def oI (o : Option Nat) : Int32 := match o with
  | none => -1
  | some n => nI n
theorem oI_n {n : Nat} (h : n < 2 ^ 31) : ¬ nI n = -1 := fun e => by
  have h1 := nI_toInt h
  rw [e] at h1
  have h2 : ((-1 : Int32)).toInt = -1 := by decide
  omega
theorem oI_none {o : Option Nat} (h : oI o = -1) (hb : ∀ n, o = some n → n < 2 ^ 31) : o = none := by
  cases o with
  | none => rfl
  | some n => exact absurd h (oI_n (hb n rfl))
theorem oI_some {o : Option Nat} (h : ¬ oI o = -1) : ∃ n, o = some n := by
  cases o with
  | none => exact absurd rfl h
  | some n => exact ⟨n, rfl⟩
/-- how many copies, of the first n sites -/
def cpc (σ : ST) (u : Nat) : Nat → Nat
  | 0 => 0
  | n + 1 => cpc σ u n + (if σ.cp u n = true then 1 else 0)
theorem cpc_le (σ : ST) (u : Nat) : ∀ n, cpc σ u n ≤ n
  | 0 => Nat.le_refl 0
  | n + 1 => by
    have h := cpc_le σ u n
    unfold cpc
    split <;> omega
/-- how many copies at a site, of the first n units -/
def ldn (σ : ST) (s : Nat) : Nat → Nat
  | 0 => 0
  | n + 1 => ldn σ s n + (if σ.cp n s = true then 1 else 0)
theorem ldn_le (σ : ST) (s : Nat) : ∀ n, ldn σ s n ≤ n
  | 0 => Nat.le_refl 0
  | n + 1 => by
    have h := ldn_le σ s n
    unfold ldn
    split <;> omega
def pok (σ : ST) (n : Nat) : Option Nat → Bool
  | none => true
  | some f => decide (ldn σ n 100 < ldn σ f 100)
/-- the open site without a copy that has the fewest copies, of the first n -/
def plc (σ : ST) (u : Nat) : Nat → Option Nat
  | 0 => none
  | n + 1 => if σ.b 4 n = false ∧ σ.cp u n = false ∧ pok σ n (plc σ u n) = true then some n else plc σ u n
theorem plc_lt (σ : ST) (u : Nat) : ∀ n f, plc σ u n = some f → f < n
  | 0, f, h => by cases h
  | n + 1, f, h => by
    unfold plc at h
    split at h
    · cases h
      omega
    · have := plc_lt σ u n f h
      omega
section REF1
variable (g : GG) {A : Nat → Nat → Nat} {σ ρ : ST} {x : XT} {M : Mem}
theorem c_X6_fails (hW : W2 g A σ ρ x M) (w : Int32) : con g mX6_fails 0 0 [.ref (A 20 0), .int w] M (rQ (some (.int (bI (decide (0 < w))))) (W2 g A σ ρ (x.sthr w))) := by
  refine con_i ?_ (by decide) rfl rfl (by simp [lv_args, Value.category]) (by simp [lv_args, lnd, Value.category])
  have hm := hW.m
  refine z_aload_n dX6_fails_0 rfl rfl ?_
  refine z_iload_n dX6_fails_1 rfl ?_
  refine z_putfield dX6_fails_2 (fp_RX6_63 _) (by assumption) (Nat.le_of_ble_eq_true rfl) rfl rfl ?_
  refine z_iload_n dX6_fails_5 rfl ?_
  refine z_if_le (tgt := 13) dX6_fails_6 (by decide) (fun h6 => ?_) (fun h6 => ?_)
  · refine z_ic ki_0 dX6_fails_13 ?_
    refine z_ireturn dX6_fails_14 rfl (by first | rfl | exact bI_nar _) ?_
    rw [show decide (0 < w) = false from decide_eq_false (Int32.not_lt.mpr h6)]
    exact rQ_of (hW.pthr w)
  · refine z_ic ki_1 dX6_fails_9 ?_
    refine z_goto (tgt := 14) dX6_fails_10 (by decide) ?_
    refine z_ireturn dX6_fails_14 rfl (by first | rfl | exact bI_nar _) ?_
    rw [show decide (0 < w) = true from decide_eq_true (Int32.not_le.mp h6)]
    exact rQ_of (hW.pthr w)
theorem c_X6_tells (hW : W2 g A σ ρ x M) (w : Int32) : con g mX6_tells 0 0 [.ref (A 20 0), .int w] M (rQ (some (.int w)) (W2 g A σ ρ (x.sthr 0))) := by
  refine con_i ?_ (by decide) rfl rfl (by simp [lv_args, Value.category]) (by simp [lv_args, lnd, Value.category])
  have hm := hW.m
  refine z_aload_n dX6_tells_0 rfl rfl ?_
  refine z_ic ki_0 dX6_tells_1 ?_
  refine z_putfield dX6_tells_2 (fp_RX6_63 _) (by assumption) (Nat.le_of_ble_eq_true rfl) rfl rfl ?_
  refine z_iload_n dX6_tells_5 rfl ?_
  refine z_ireturn dX6_tells_6 rfl (by first | rfl | exact bI_nar _) ?_
  exact rQ_of (hW.pthr 0)
theorem c_X6_isFormat (hW : W2 g A σ ρ x M) (f : Int32) : con g mX6_isFormat 0 0 [.ref (A 20 0), .int f] M (rI (bI (decide (0 ≤ f ∧ f ≤ nI ρ.fo - 1))) M) := by
  refine con_i ?_ (by decide) rfl rfl (by simp [lv_args, Value.category]) (by simp [lv_args, lnd, Value.category])
  have hm := hW.m
  refine z_iload_n dX6_isFormat_0 rfl ?_
  refine z_ic ki_0 dX6_isFormat_1 ?_
  refine z_aload_n dX6_isFormat_2 rfl rfl ?_
  refine z_getfield dX6_isFormat_3 fg_RX6_66 (by assumption) rfl ?_
  refine z_ic ki_1 dX6_isFormat_6 ?_
  refine z_isub dX6_isFormat_7 ?_
  refine z_isI dX6_isFormat_8 cs_RX6_69 (c_X6_isIn g M _ _ _) ⟨⟨by decide, by decide⟩, (by first | exact Nat.zero_le _ | decide | omega), (by first | exact Nat.zero_le _ | decide | omega)⟩ rfl rfl (Nat.le_of_ble_eq_true rfl) ?_
  refine z_ireturn dX6_isFormat_11 rfl (by first | rfl | exact bI_nar _) ?_
  exact rI_of (by first | rfl | assumption | simp_all)
theorem c_X6_isObject (hW : W2 g A σ ρ x M) (f : Int32) : con g mX6_isObject 0 0 [.ref (A 20 0), .int f] M (rI (bI (decide (0 ≤ f ∧ f ≤ nI ρ.ob - 1))) M) := by
  refine con_i ?_ (by decide) rfl rfl (by simp [lv_args, Value.category]) (by simp [lv_args, lnd, Value.category])
  have hm := hW.m
  refine z_iload_n dX6_isObject_0 rfl ?_
  refine z_ic ki_0 dX6_isObject_1 ?_
  refine z_aload_n dX6_isObject_2 rfl rfl ?_
  refine z_getfield dX6_isObject_3 fg_RX6_107 (by assumption) rfl ?_
  refine z_ic ki_1 dX6_isObject_6 ?_
  refine z_isub dX6_isObject_7 ?_
  refine z_isI dX6_isObject_8 cs_RX6_69 (c_X6_isIn g M _ _ _) ⟨⟨by decide, by decide⟩, (by first | exact Nat.zero_le _ | decide | omega), (by first | exact Nat.zero_le _ | decide | omega)⟩ rfl rfl (Nat.le_of_ble_eq_true rfl) ?_
  refine z_ireturn dX6_isObject_11 rfl (by first | rfl | exact bI_nar _) ?_
  exact rI_of (by first | rfl | assumption | simp_all)
theorem c_X6_isSound (hW : W2 g A σ ρ x M) {u s : Nat} (hu : u < 100) (hs : s < 4) : con g mX6_isSound 0 0 [.ref (A 20 0), .int (nI u), .int (nI s)] M (rI (bI (snd ρ u s)) M) := by
  refine con_i ?_ (by decide) rfl rfl (by simp [lv_args, Value.category]) (by simp [lv_args, lnd, Value.category])
  have hm := hW.m
  have h14 := hW.r14
  have h16 := hW.r16
  have h17 := hW.r17
  refine z_aload_n dX6_isSound_0 rfl rfl ?_
  refine z_getfield dX6_isSound_1 fg_RX6_50 (by assumption) rfl ?_
  refine z_ic ki_4 dX6_isSound_4 ?_
  refine z_iload_n dX6_isSound_5 rfl ?_
  refine z_imul dX6_isSound_6 ?_
  refine z_iload_n dX6_isSound_7 rfl ?_
  refine z_iadd dX6_isSound_8 ?_
  refine z_ldB4 dX6_isSound_9 h16 (ix4 u s) hs (by omega) (by decide) ?_
  refine z_if_eq (tgt := 42) dX6_isSound_10 (by decide) (fun h10 => ?_) (fun h10 => ?_)
  · refine z_ic ki_0 dX6_isSound_42 ?_
    refine z_ireturn dX6_isSound_43 rfl (by first | rfl | exact bI_nar _) ?_
    exact rI_of (by unfold snd; rw [bI_eq0.mp h10]; rfl)
  · refine z_aload_n dX6_isSound_13 rfl rfl ?_
    refine z_getfield dX6_isSound_14 fg_RX6_53 (by assumption) rfl ?_
    refine z_ic ki_4 dX6_isSound_17 ?_
    refine z_iload_n dX6_isSound_18 rfl ?_
    refine z_imul dX6_isSound_19 ?_
    refine z_iload_n dX6_isSound_20 rfl ?_
    refine z_iadd dX6_isSound_21 ?_
    refine z_ldI4 dX6_isSound_22 h17 (ix4 u s) hs (by omega) (by decide) ?_
    refine z_isI dX6_isSound_23 cs_RX6_84 (c_X6_digest g M _) ⟨⟨by decide, by decide⟩, (by first | exact Nat.zero_le _ | decide | omega), (by first | exact Nat.zero_le _ | decide | omega)⟩ rfl rfl (Nat.le_of_ble_eq_true rfl) ?_
    refine z_aload_n dX6_isSound_26 rfl rfl ?_
    refine z_getfield dX6_isSound_27 fg_RX6_44 (by assumption) rfl ?_
    refine z_iload_n dX6_isSound_30 rfl ?_
    refine z_iaload dX6_isSound_31 (by assumption) rfl (by omega) (by decide) ?_
    refine z_isI dX6_isSound_32 cs_RX6_84 (c_X6_digest g M _) ⟨⟨by decide, by decide⟩, (by first | exact Nat.zero_le _ | decide | omega), (by first | exact Nat.zero_le _ | decide | omega)⟩ rfl rfl (Nat.le_of_ble_eq_true rfl) ?_
    refine z_icmp_ne (tgt := 42) dX6_isSound_35 (by decide) (fun h35 => ?_) (fun h35 => ?_)
    · refine z_ic ki_0 dX6_isSound_42 ?_
      refine z_ireturn dX6_isSound_43 rfl (by first | rfl | exact bI_nar _) ?_
      exact rI_of (by unfold snd; rw [decide_eq_false h35, Bool.and_false]; rfl)
    · refine z_ic ki_1 dX6_isSound_38 ?_
      refine z_goto (tgt := 43) dX6_isSound_39 (by decide) ?_
      refine z_ireturn dX6_isSound_43 rfl (by first | rfl | exact bI_nar _) ?_
      exact rI_of (by unfold snd; rw [bI_ne0.mp h10, decide_eq_true h35]; rfl)
theorem c_X6_alike (hW : W2 g A σ ρ x M) {u s : Nat} (hu : u < 100) (hs : s < 4) : con g mX6_alike 0 0 [.ref (A 20 0), .int (nI u), .int (nI s)] M (rI (nI (alk ρ u s 4)) M) := by
  refine con_i ?_ (by decide) rfl rfl (by simp [lv_args, Value.category]) (by simp [lv_args, lnd, Value.category])
  have hm := hW.m
  have h17 := hW.r17
  have loop : ∀ j, j ≤ 4 → ∀ x3 x4, x3 = nI (alk ρ u s j) → x4 = nI j → tri g mX6_alike 0 0 (rI (nI (alk ρ u s 4)) M) M 5 [(0, .ref (A 20 0)), (1, .int (nI u)), (2, .int (nI s)), (3, .int x3), (4, .int x4)] [] := by
    refine lp_up 4 ?_ ?_
    · intro x3 x4 e3 e4
      subst e4
      refine z_iload dX6_alike_5 rfl ?_
      refine z_ic ki_4 dX6_alike_7 ?_
      refine z_icmp_ge (tgt := 68) dX6_alike_8 (by decide) (fun h8 => ?_) (fun h8 => absurd (nI_le (by omega) (by omega)) h8)
      refine z_iload_n dX6_alike_68 rfl ?_
      refine z_ireturn dX6_alike_69 rfl (by first | rfl | exact bI_nar _) ?_
      exact rI_of (by first | rfl | assumption | simp_all)
    · intro j hj ih x3 x4 e3 e4
      subst e4
      refine z_iload dX6_alike_5 rfl ?_
      refine z_ic ki_4 dX6_alike_7 ?_
      refine z_icmp_ge (tgt := 68) dX6_alike_8 (by decide) (fun h8 => absurd h8 (nI_ge hj (by omega))) (fun h8 => ?_)
      refine z_iload_n dX6_alike_11 rfl ?_
      refine z_aload_n dX6_alike_12 rfl rfl ?_
      refine z_iload_n dX6_alike_13 rfl ?_
      refine z_iload_n dX6_alike_14 rfl ?_
      refine z_ivI dX6_alike_15 cv_RX6_88 (by assumption) (c_X6_isSound g hW hu hs) ⟨⟨by decide, by decide⟩, (by first | exact Nat.zero_le _ | decide | omega), (by first | exact Nat.zero_le _ | decide | omega)⟩ rfl rfl (Nat.le_of_ble_eq_true rfl) ?_
      refine z_if_eq (tgt := 59) dX6_alike_18 (by decide) (fun h18 => ?_) (fun h18 => ?_)
      · refine z_ic ki_0 dX6_alike_59 ?_
        refine z_iadd dX6_alike_60 ?_
        refine z_istore_n dX6_alike_61 (by decide) ?_
        refine z_inc ki_1 dX6_alike_62 rfl (by decide) ?_
        refine z_goto (tgt := 5) dX6_alike_65 (by decide) ?_
        exact ih _ _ (by rw [e3, nI_add]; simp [alk, bI_eq0.mp h18]) (nI_add j 1)
      · refine z_aload_n dX6_alike_21 rfl rfl ?_
        refine z_iload_n dX6_alike_22 rfl ?_
        refine z_iload dX6_alike_23 rfl ?_
        refine z_ivI dX6_alike_25 cv_RX6_88 (by assumption) (c_X6_isSound g hW hu hj) ⟨⟨by decide, by decide⟩, (by first | exact Nat.zero_le _ | decide | omega), (by first | exact Nat.zero_le _ | decide | omega)⟩ rfl rfl (Nat.le_of_ble_eq_true rfl) ?_
        refine z_if_eq (tgt := 59) dX6_alike_28 (by decide) (fun h28 => ?_) (fun h28 => ?_)
        · refine z_ic ki_0 dX6_alike_59 ?_
          refine z_iadd dX6_alike_60 ?_
          refine z_istore_n dX6_alike_61 (by decide) ?_
          refine z_inc ki_1 dX6_alike_62 rfl (by decide) ?_
          refine z_goto (tgt := 5) dX6_alike_65 (by decide) ?_
          exact ih _ _ (by rw [e3, nI_add]; simp [alk, bI_eq0.mp h28]) (nI_add j 1)
        · refine z_aload_n dX6_alike_31 rfl rfl ?_
          refine z_getfield dX6_alike_32 fg_RX6_53 (by assumption) rfl ?_
          refine z_ic ki_4 dX6_alike_35 ?_
          refine z_iload_n dX6_alike_36 rfl ?_
          refine z_imul dX6_alike_37 ?_
          refine z_iload dX6_alike_38 rfl ?_
          refine z_iadd dX6_alike_40 ?_
          refine z_ldI4 dX6_alike_41 h17 (ix4 u j) hj (by omega) (by decide) ?_
          refine z_aload_n dX6_alike_42 rfl rfl ?_
          refine z_getfield dX6_alike_43 fg_RX6_53 (by assumption) rfl ?_
          refine z_ic ki_4 dX6_alike_46 ?_
          refine z_iload_n dX6_alike_47 rfl ?_
          refine z_imul dX6_alike_48 ?_
          refine z_iload_n dX6_alike_49 rfl ?_
          refine z_iadd dX6_alike_50 ?_
          refine z_ldI4 dX6_alike_51 h17 (ix4 u s) hs (by omega) (by decide) ?_
          refine z_icmp_ne (tgt := 59) dX6_alike_52 (by decide) (fun h52 => ?_) (fun h52 => ?_)
          · refine z_ic ki_0 dX6_alike_59 ?_
            refine z_iadd dX6_alike_60 ?_
            refine z_istore_n dX6_alike_61 (by decide) ?_
            refine z_inc ki_1 dX6_alike_62 rfl (by decide) ?_
            refine z_goto (tgt := 5) dX6_alike_65 (by decide) ?_
            exact ih _ _ (by rw [e3, nI_add]; simp [alk, h52]) (nI_add j 1)
          · refine z_ic ki_1 dX6_alike_55 ?_
            refine z_goto (tgt := 60) dX6_alike_56 (by decide) ?_
            refine z_iadd dX6_alike_60 ?_
            refine z_istore_n dX6_alike_61 (by decide) ?_
            refine z_inc ki_1 dX6_alike_62 rfl (by decide) ?_
            refine z_goto (tgt := 5) dX6_alike_65 (by decide) ?_
            exact ih _ _ (by rw [e3, nI_add]; simp [alk, bI_ne0.mp h18, bI_ne0.mp h28, h52]) (nI_add j 1)
  refine z_ic ki_0 dX6_alike_0 ?_
  refine z_istore_n dX6_alike_1 (by decide) ?_
  refine z_ic ki_0 dX6_alike_2 ?_
  refine z_istore dX6_alike_3 (by decide) ?_
  exact loop 0 (by omega) _ _ rfl rfl
theorem c_X6_good (hW : W2 g A σ ρ x M) {u : Nat} (hu : u < 100) : con g mX6_good 0 0 [.ref (A 20 0), .int (nI u)] M (rI (oI (good ρ u)) M) := by
  refine con_i ?_ (by decide) rfl rfl (by simp [lv_args, Value.category]) (by simp [lv_args, lnd, Value.category])
  have hm := hW.m
  have loop : ∀ j, j ≤ 4 → ∀ x2 x3, x2 = oI (gdn ρ u j) → x3 = nI j → tri g mX6_good 0 0 (rI (oI (good ρ u)) M) M 4 [(0, .ref (A 20 0)), (1, .int (nI u)), (2, .int x2), (3, .int x3)] [] := by
    refine lp_up 4 ?_ ?_
    · intro x2 x3 e2 e3
      subst e3
      refine z_iload_n dX6_good_4 rfl ?_
      refine z_ic ki_4 dX6_good_5 ?_
      refine z_icmp_ge (tgt := 45) dX6_good_6 (by decide) (fun h6 => ?_) (fun h6 => absurd (nI_le (by omega) (by omega)) h6)
      refine z_iload_n dX6_good_45 rfl ?_
      refine z_ireturn dX6_good_46 rfl (by first | rfl | exact bI_nar _) ?_
      exact rI_of (by first | rfl | assumption | simp_all)
    · intro j hj ih x2 x3 e2 e3
      subst e3
      have ha := alk_le ρ u j 4
      refine z_iload_n dX6_good_4 rfl ?_
      refine z_ic ki_4 dX6_good_5 ?_
      refine z_icmp_ge (tgt := 45) dX6_good_6 (by decide) (fun h6 => absurd h6 (nI_ge hj (by omega))) (fun h6 => ?_)
      refine z_aload_n dX6_good_9 rfl rfl ?_
      refine z_iload_n dX6_good_10 rfl ?_
      refine z_iload_n dX6_good_11 rfl ?_
      refine z_ivI dX6_good_12 cv_RX6_92 (by assumption) (c_X6_alike g hW hu hj) ⟨⟨by decide, by decide⟩, (by first | exact Nat.zero_le _ | decide | omega), (by first | exact Nat.zero_le _ | decide | omega)⟩ rfl rfl (Nat.le_of_ble_eq_true rfl) ?_
      refine z_iload_n dX6_good_15 rfl ?_
      refine z_ic ki_m1 dX6_good_16 ?_
      refine z_icmp_ne (tgt := 24) dX6_good_17 (by decide) (fun h17 => ?_) (fun h17 => ?_)
      · obtain ⟨f, hf⟩ := oI_some (e2 ▸ h17)
        have hf4 : f < 4 := Nat.lt_of_lt_of_le (gdn_lt ρ u j f hf) (Nat.le_of_lt hj)
        have hb := alk_le ρ u f 4
        rw [hf] at e2
        have e2' : x2 = nI f := e2
        subst e2'
        refine z_aload_n dX6_good_24 rfl rfl ?_
        refine z_iload_n dX6_good_25 rfl ?_
        refine z_iload_n dX6_good_26 rfl ?_
        refine z_ivI dX6_good_27 cv_RX6_92 (by assumption) (c_X6_alike g hW hu hf4) ⟨⟨by decide, by decide⟩, (by first | exact Nat.zero_le _ | decide | omega), (by first | exact Nat.zero_le _ | decide | omega)⟩ rfl rfl (Nat.le_of_ble_eq_true rfl) ?_
        refine z_icmp_le (tgt := 37) dX6_good_30 (by decide) (fun h30 => ?_) (fun h30 => ?_)
        · refine z_iload_n dX6_good_37 rfl ?_
          refine z_istore_n dX6_good_38 (by decide) ?_
          refine z_inc ki_1 dX6_good_39 rfl (by decide) ?_
          refine z_goto (tgt := 4) dX6_good_42 (by decide) ?_
          refine ih _ _ ?_ (nI_add j 1)
          have hc := (nI_leI (by omega) (by omega)).mp h30
          show nI f = _
          rw [gdn, hf, if_neg (show ¬ gal ρ u (some f) < _ by show ¬ alk ρ u f 4 < _; omega)]
          rfl
        · refine z_iload_n dX6_good_33 rfl ?_
          refine z_goto (tgt := 38) dX6_good_34 (by decide) ?_
          refine z_istore_n dX6_good_38 (by decide) ?_
          refine z_inc ki_1 dX6_good_39 rfl (by decide) ?_
          refine z_goto (tgt := 4) dX6_good_42 (by decide) ?_
          refine ih _ _ ?_ (nI_add j 1)
          have hc : ¬ _ ≤ _ := fun q => h30 ((nI_leI (by omega) (by omega)).mpr q)
          rw [gdn, hf, if_pos (show gal ρ u (some f) < _ by show alk ρ u f 4 < _; omega)]
          rfl
      · refine z_ic ki_0 dX6_good_20 ?_
        refine z_goto (tgt := 30) dX6_good_21 (by decide) ?_
        refine z_icmp_le (tgt := 37) dX6_good_30 (by decide) (fun h30 => ?_) (fun h30 => ?_)
        · refine z_iload_n dX6_good_37 rfl ?_
          refine z_istore_n dX6_good_38 (by decide) ?_
          refine z_inc ki_1 dX6_good_39 rfl (by decide) ?_
          refine z_goto (tgt := 4) dX6_good_42 (by decide) ?_
          have hn := oI_none (e2 ▸ h17) (fun n hn => by have := gdn_lt ρ u j n hn; omega)
          refine ih _ _ ?_ (nI_add j 1)
          have hc := (nI_leI (by omega) (by omega)).mp h30
          rw [e2, gdn, hn, if_neg (show ¬ gal ρ u none < _ by show ¬ 0 < _; omega)]
        · refine z_iload_n dX6_good_33 rfl ?_
          refine z_goto (tgt := 38) dX6_good_34 (by decide) ?_
          refine z_istore_n dX6_good_38 (by decide) ?_
          refine z_inc ki_1 dX6_good_39 rfl (by decide) ?_
          refine z_goto (tgt := 4) dX6_good_42 (by decide) ?_
          have hn := oI_none (e2 ▸ h17) (fun n hn => by have := gdn_lt ρ u j n hn; omega)
          refine ih _ _ ?_ (nI_add j 1)
          have hc : ¬ _ ≤ _ := fun q => h30 ((nI_leI (by omega) (by omega)).mpr q)
          rw [gdn, hn, if_pos (show gal ρ u none < _ by show 0 < _; omega)]
          rfl
  refine z_ic ki_m1 dX6_good_0 ?_
  refine z_istore_n dX6_good_1 (by decide) ?_
  refine z_ic ki_0 dX6_good_2 ?_
  refine z_istore_n dX6_good_3 (by decide) ?_
  exact loop 0 (by omega) _ _ rfl rfl
theorem c_X6_goodValue (hW : W2 g A σ ρ x M) {u f : Nat} (hu : u < 100) (hf : good ρ u = some f) : con g mX6_goodValue 0 0 [.ref (A 20 0), .int (nI u)] M (rI (ρ.hs u f) M) := by
  refine con_i ?_ (by decide) rfl rfl (by simp [lv_args, Value.category]) (by simp [lv_args, lnd, Value.category])
  have hm := hW.m
  have h17 := hW.r17
  have hf4 := gdn_lt ρ u 4 f hf
  refine z_aload_n dX6_goodValue_0 rfl rfl ?_
  refine z_getfield dX6_goodValue_1 fg_RX6_53 (by assumption) rfl ?_
  refine z_ic ki_4 dX6_goodValue_4 ?_
  refine z_iload_n dX6_goodValue_5 rfl ?_
  refine z_imul dX6_goodValue_6 ?_
  refine z_aload_n dX6_goodValue_7 rfl rfl ?_
  refine z_iload_n dX6_goodValue_8 rfl ?_
  refine z_ivI dX6_goodValue_9 cv_RX6_95 (by assumption) (c_X6_good g hW hu) ⟨⟨by decide, by decide⟩, (by first | exact Nat.zero_le _ | decide | omega), (by first | exact Nat.zero_le _ | decide | omega)⟩ rfl rfl (Nat.le_of_ble_eq_true rfl) ?_
  refine z_iadd dX6_goodValue_12 ?_
  refine z_ldI4 dX6_goodValue_13 h17 (by rw [hf]; exact ix4 u f) hf4 (by omega) (by decide) ?_
  refine z_ireturn dX6_goodValue_14 rfl (by first | rfl | exact bI_nar _) ?_
  exact rI_of (by first | rfl | assumption | simp_all)
theorem c_X6_copies (hW : W2 g A σ ρ x M) {u : Nat} (hu : u < 100) : con g mX6_copies 0 0 [.ref (A 20 0), .int (nI u)] M (rI (nI (cpc ρ u 4)) M) := by
  refine con_i ?_ (by decide) rfl rfl (by simp [lv_args, Value.category]) (by simp [lv_args, lnd, Value.category])
  have hm := hW.m
  have h16 := hW.r16
  have loop : ∀ j, j ≤ 4 → ∀ x2 x3, x2 = nI (cpc ρ u j) → x3 = nI j → tri g mX6_copies 0 0 (rI (nI (cpc ρ u 4)) M) M 4 [(0, .ref (A 20 0)), (1, .int (nI u)), (2, .int x2), (3, .int x3)] [] := by
    refine lp_up 4 ?_ ?_
    · intro x2 x3 e2 e3
      subst e3
      refine z_iload_n dX6_copies_4 rfl ?_
      refine z_ic ki_4 dX6_copies_5 ?_
      refine z_icmp_ge (tgt := 36) dX6_copies_6 (by decide) (fun h6 => ?_) (fun h6 => absurd (nI_le (by omega) (by omega)) h6)
      refine z_iload_n dX6_copies_36 rfl ?_
      refine z_ireturn dX6_copies_37 rfl (by first | rfl | exact bI_nar _) ?_
      exact rI_of (by first | rfl | assumption | simp_all)
    · intro j hj ih x2 x3 e2 e3
      subst e3
      refine z_iload_n dX6_copies_4 rfl ?_
      refine z_ic ki_4 dX6_copies_5 ?_
      refine z_icmp_ge (tgt := 36) dX6_copies_6 (by decide) (fun h6 => absurd h6 (nI_ge hj (by omega))) (fun h6 => ?_)
      refine z_iload_n dX6_copies_9 rfl ?_
      refine z_aload_n dX6_copies_10 rfl rfl ?_
      refine z_getfield dX6_copies_11 fg_RX6_50 (by assumption) rfl ?_
      refine z_ic ki_4 dX6_copies_14 ?_
      refine z_iload_n dX6_copies_15 rfl ?_
      refine z_imul dX6_copies_16 ?_
      refine z_iload_n dX6_copies_17 rfl ?_
      refine z_iadd dX6_copies_18 ?_
      refine z_ldB4 dX6_copies_19 h16 (ix4 u j) hj (by omega) (by decide) ?_
      refine z_if_eq (tgt := 27) dX6_copies_20 (by decide) (fun h20 => ?_) (fun h20 => ?_)
      · refine z_ic ki_0 dX6_copies_27 ?_
        refine z_iadd dX6_copies_28 ?_
        refine z_istore_n dX6_copies_29 (by decide) ?_
        refine z_inc ki_1 dX6_copies_30 rfl (by decide) ?_
        refine z_goto (tgt := 4) dX6_copies_33 (by decide) ?_
        exact ih _ _ (by rw [e2, nI_add]; simp [cpc, bI_eq0.mp h20]) (nI_add j 1)
      · refine z_ic ki_1 dX6_copies_23 ?_
        refine z_goto (tgt := 28) dX6_copies_24 (by decide) ?_
        refine z_iadd dX6_copies_28 ?_
        refine z_istore_n dX6_copies_29 (by decide) ?_
        refine z_inc ki_1 dX6_copies_30 rfl (by decide) ?_
        refine z_goto (tgt := 4) dX6_copies_33 (by decide) ?_
        exact ih _ _ (by rw [e2, nI_add]; simp [cpc, bI_ne0.mp h20]) (nI_add j 1)
  refine z_ic ki_0 dX6_copies_0 ?_
  refine z_istore_n dX6_copies_1 (by decide) ?_
  refine z_ic ki_0 dX6_copies_2 ?_
  refine z_istore_n dX6_copies_3 (by decide) ?_
  exact loop 0 (by omega) _ _ rfl rfl
theorem c_X6_load (hW : W2 g A σ ρ x M) {s : Nat} (hs : s < 4) : con g mX6_load 0 0 [.ref (A 20 0), .int (nI s)] M (rI (nI (ldn ρ s 100)) M) := by
  refine con_i ?_ (by decide) rfl rfl (by simp [lv_args, Value.category]) (by simp [lv_args, lnd, Value.category])
  have hm := hW.m
  have h16 := hW.r16
  have loop : ∀ j, j ≤ 100 → ∀ x2 x3, x2 = nI (ldn ρ s j) → x3 = nI j → tri g mX6_load 0 0 (rI (nI (ldn ρ s 100)) M) M 4 [(0, .ref (A 20 0)), (1, .int (nI s)), (2, .int x2), (3, .int x3)] [] := by
    refine lp_up 100 ?_ ?_
    · intro x2 x3 e2 e3
      subst e3
      refine z_iload_n dX6_load_4 rfl ?_
      refine z_bi kb_100 dX6_load_5 ?_
      refine z_icmp_ge (tgt := 37) dX6_load_7 (by decide) (fun h7 => ?_) (fun h7 => absurd (nI_le (by omega) (by omega)) h7)
      refine z_iload_n dX6_load_37 rfl ?_
      refine z_ireturn dX6_load_38 rfl (by first | rfl | exact bI_nar _) ?_
      exact rI_of (by first | rfl | assumption | simp_all)
    · intro j hj ih x2 x3 e2 e3
      subst e3
      refine z_iload_n dX6_load_4 rfl ?_
      refine z_bi kb_100 dX6_load_5 ?_
      refine z_icmp_ge (tgt := 37) dX6_load_7 (by decide) (fun h7 => absurd h7 (nI_ge hj (by omega))) (fun h7 => ?_)
      refine z_iload_n dX6_load_10 rfl ?_
      refine z_aload_n dX6_load_11 rfl rfl ?_
      refine z_getfield dX6_load_12 fg_RX6_50 (by assumption) rfl ?_
      refine z_ic ki_4 dX6_load_15 ?_
      refine z_iload_n dX6_load_16 rfl ?_
      refine z_imul dX6_load_17 ?_
      refine z_iload_n dX6_load_18 rfl ?_
      refine z_iadd dX6_load_19 ?_
      refine z_ldB4 dX6_load_20 h16 (ix4 j s) hs (by omega) (by decide) ?_
      refine z_if_eq (tgt := 28) dX6_load_21 (by decide) (fun h21 => ?_) (fun h21 => ?_)
      · refine z_ic ki_0 dX6_load_28 ?_
        refine z_iadd dX6_load_29 ?_
        refine z_istore_n dX6_load_30 (by decide) ?_
        refine z_inc ki_1 dX6_load_31 rfl (by decide) ?_
        refine z_goto (tgt := 4) dX6_load_34 (by decide) ?_
        exact ih _ _ (by rw [e2, nI_add]; simp [ldn, bI_eq0.mp h21]) (nI_add j 1)
      · refine z_ic ki_1 dX6_load_24 ?_
        refine z_goto (tgt := 29) dX6_load_25 (by decide) ?_
        refine z_iadd dX6_load_29 ?_
        refine z_istore_n dX6_load_30 (by decide) ?_
        refine z_inc ki_1 dX6_load_31 rfl (by decide) ?_
        refine z_goto (tgt := 4) dX6_load_34 (by decide) ?_
        exact ih _ _ (by rw [e2, nI_add]; simp [ldn, bI_ne0.mp h21]) (nI_add j 1)
  refine z_ic ki_0 dX6_load_0 ?_
  refine z_istore_n dX6_load_1 (by decide) ?_
  refine z_ic ki_0 dX6_load_2 ?_
  refine z_istore_n dX6_load_3 (by decide) ?_
  exact loop 0 (by omega) _ _ rfl rfl
end REF1
