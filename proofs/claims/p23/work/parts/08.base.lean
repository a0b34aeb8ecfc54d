/-! words of the specifications: answers, booleans as ints, constants -/
def bI (b : Bool) : Int32 := match b with
  | true => 1
  | false => 0
theorem bI_t : bI true = 1 := rfl
theorem bI_f : bI false = 0 := rfl
theorem bI_eq0 {b : Bool} : bI b = 0 ↔ b = false := by cases b <;> decide
theorem bI_ne0 {b : Bool} : ¬ bI b = 0 ↔ b = true := by cases b <;> decide
theorem bI_and (b : Bool) : bI b &&& 1 = bI b := by cases b <;> decide
theorem bI_nar (b : Bool) : narrow .boolean (.int (bI b)) = .int (bI b) := by cases b <;> decide
def updB (f : Nat → Bool) (k : Nat) (x : Bool) : Nat → Bool := fun j => if j = k then x else f j
theorem bI_upd (f : Nat → Bool) (k : Nat) (b : Bool) : upd (fun j => bI (f j)) k (bI b &&& 1) = fun j => bI (updB f k b j) := by
  funext j
  unfold upd updB
  by_cases h : j = k
  · simp [h, bI_and]
  · simp [h]
/-- answers the int v, and leaves the memory as M1 -/
def rI (v : Int32) (M1 : Mem) : PO := fun r M' => r = .inl (some (.int v)) ∧ M' = M1
def rA (v : Value) (M1 : Mem) : PO := fun r M' => r = .inl (some v) ∧ M' = M1
def rV (M1 : Mem) : PO := fun r M' => r = .inl none ∧ M' = M1
def rX (E : String) (M1 : Mem) : PO := fun r M' => r = .inr E ∧ M' = M1
theorem rI_of {v x : Int32} {M : Mem} (h : x = v) : rI v M (.inl (some (.int x))) M := ⟨by rw [h], rfl⟩
theorem rA_of {v x : Value} {M : Mem} (h : x = v) : rA v M (.inl (some x)) M := ⟨by rw [h], rfl⟩
theorem rV_of {M M1 : Mem} (h : M = M1) : rV M1 (.inl none) M := ⟨rfl, h⟩
section BASE
variable {g : GG} {d : MD} {bk bn : Nat} {P : PO} {M : Mem} {pc : Nat} {ls : List (Nat × Value)} {st : List Value}
theorem z_ic {n : Int} {v : Int32} (hv : Int32.ofInt n = v) (hd : decode d.cc pc = .ok (.iconst n, 1)) (kk : tri g d bk bn P M (pc + 1) ls (.int v :: st)) : tri g d bk bn P M pc ls st := by
  subst hv
  exact z_iconst hd kk
theorem z_bi {n : Int} {v : Int32} (hv : (Int8.ofInt n).toInt32 = v) (hd : decode d.cc pc = .ok (.bipush n, 2)) (kk : tri g d bk bn P M (pc + 2) ls (.int v :: st)) : tri g d bk bn P M pc ls st := by
  subst hv
  exact z_bipush hd kk
theorem z_si {n : Int} {v : Int32} (hv : (Int16.ofInt n).toInt32 = v) (hd : decode d.cc pc = .ok (.sipush n, 3)) (kk : tri g d bk bn P M (pc + 3) ls (.int v :: st)) : tri g d bk bn P M pc ls st := by
  subst hv
  exact z_sipush hd kk
theorem z_inc {i : Nat} {n : Int} {x v : Int32} (hv : Int32.ofInt n = v) (hd : decode d.cc pc = .ok (.iinc i n, 3)) (hg : lget ls i = some (.int x)) (hn : i < d.nL) (kk : tri g d bk bn P M (pc + 3) (lset ls i (.int (x + v))) st) : tri g d bk bn P M pc ls st := by
  subst hv
  exact z_iinc hd hg hn kk
/-- calls of methods that answer and don't throw, the memory behind them told -/
theorem z_ivI {index ci n a bk1 bn1 : Nat} {dd : MD} {fs as rest : List Value} {v : Int32} {M1 : Mem} (hd : decode d.cc pc = .ok (.invokevirtual index, 3)) (hv : vlk d.y.cls index ci dd n) (hM : M a = some (ob ci fs)) (hcon : con g dd bk1 bn1 (.ref a :: as) M (rI v M1)) (hC : clk d dd bk1 bn1 bk bn) (hn : as.length = n) (hst : st = as.reverse ++ .ref a :: rest) (hw : (rest.map fun v => v.category).sum ≤ 8)
    (kk : tri g d (bk - bk1) (bn - bn1) P M1 (pc + 3) ls (.int v :: rest)) : tri g d bk bn P M pc ls st := by
  refine z_invokevirtual hd hv hM hcon hC hn hst hw (fun v' M' h => ?_) (fun E M' h => by cases h.1)
  obtain ⟨h1, rfl⟩ := h
  cases h1
  exact kk
theorem z_ivA {index ci n a bk1 bn1 : Nat} {dd : MD} {fs as rest : List Value} {v : Value} {M1 : Mem} (hd : decode d.cc pc = .ok (.invokevirtual index, 3)) (hv : vlk d.y.cls index ci dd n) (hM : M a = some (ob ci fs)) (hcon : con g dd bk1 bn1 (.ref a :: as) M (rA v M1)) (hC : clk d dd bk1 bn1 bk bn) (hn : as.length = n) (hst : st = as.reverse ++ .ref a :: rest) (hw : (rest.map fun v => v.category).sum ≤ 8)
    (kk : tri g d (bk - bk1) (bn - bn1) P M1 (pc + 3) ls (v :: rest)) : tri g d bk bn P M pc ls st := by
  refine z_invokevirtual hd hv hM hcon hC hn hst hw (fun v' M' h => ?_) (fun E M' h => by cases h.1)
  obtain ⟨h1, rfl⟩ := h
  cases h1
  exact kk
theorem z_ivV {index ci n a bk1 bn1 : Nat} {dd : MD} {fs as rest : List Value} {M1 : Mem} (hd : decode d.cc pc = .ok (.invokevirtual index, 3)) (hv : vlk d.y.cls index ci dd n) (hM : M a = some (ob ci fs)) (hcon : con g dd bk1 bn1 (.ref a :: as) M (rV M1)) (hC : clk d dd bk1 bn1 bk bn) (hn : as.length = n) (hst : st = as.reverse ++ .ref a :: rest) (hw : (rest.map fun v => v.category).sum ≤ 8)
    (kk : tri g d (bk - bk1) (bn - bn1) P M1 (pc + 3) ls rest) : tri g d bk bn P M pc ls st := by
  refine z_invokevirtual hd hv hM hcon hC hn hst hw (fun v' M' h => ?_) (fun E M' h => by cases h.1)
  obtain ⟨h1, rfl⟩ := h
  cases h1
  exact kk
theorem z_isI {index n bk1 bn1 : Nat} {dd : MD} {as rest : List Value} {v : Int32} {M1 : Mem} (hd : decode d.cc pc = .ok (.invokestatic index, 3)) (hv : slk d.y.cls index dd n) (hcon : con g dd bk1 bn1 as M (rI v M1)) (hC : clk d dd bk1 bn1 bk bn) (hn : as.length = n) (hst : st = as.reverse ++ rest) (hw : (rest.map fun v => v.category).sum ≤ 8)
    (kk : tri g d (bk - bk1) (bn - bn1) P M1 (pc + 3) ls (.int v :: rest)) : tri g d bk bn P M pc ls st := by
  refine z_invokestatic hd hv hcon hC hn hst hw (fun v' M' h => ?_) (fun E M' h => by cases h.1)
  obtain ⟨h1, rfl⟩ := h
  cases h1
  exact kk
theorem z_isA {index n bk1 bn1 : Nat} {dd : MD} {as rest : List Value} {v : Value} {M1 : Mem} (hd : decode d.cc pc = .ok (.invokestatic index, 3)) (hv : slk d.y.cls index dd n) (hcon : con g dd bk1 bn1 as M (rA v M1)) (hC : clk d dd bk1 bn1 bk bn) (hn : as.length = n) (hst : st = as.reverse ++ rest) (hw : (rest.map fun v => v.category).sum ≤ 8)
    (kk : tri g d (bk - bk1) (bn - bn1) P M1 (pc + 3) ls (v :: rest)) : tri g d bk bn P M pc ls st := by
  refine z_invokestatic hd hv hcon hC hn hst hw (fun v' M' h => ?_) (fun E M' h => by cases h.1)
  obtain ⟨h1, rfl⟩ := h
  cases h1
  exact kk
theorem z_isV {index n bk1 bn1 : Nat} {dd : MD} {as rest : List Value} {M1 : Mem} (hd : decode d.cc pc = .ok (.invokestatic index, 3)) (hv : slk d.y.cls index dd n) (hcon : con g dd bk1 bn1 as M (rV M1)) (hC : clk d dd bk1 bn1 bk bn) (hn : as.length = n) (hst : st = as.reverse ++ rest) (hw : (rest.map fun v => v.category).sum ≤ 8)
    (kk : tri g d (bk - bk1) (bn - bn1) P M1 (pc + 3) ls rest) : tri g d bk bn P M pc ls st := by
  refine z_invokestatic hd hv hcon hC hn hst hw (fun v' M' h => ?_) (fun E M' h => by cases h.1)
  obtain ⟨h1, rfl⟩ := h
  cases h1
  exact kk
theorem z_ipV {index n a bk1 bn1 : Nat} {dd : MD} {as rest : List Value} {M1 : Mem} (hd : decode d.cc pc = .ok (.invokespecial index, 3)) (hv : ilk d.y.cls index dd n) (hcon : con g dd bk1 bn1 (.ref a :: as) M (rV M1)) (hC : clk d dd bk1 bn1 bk bn) (hn : as.length = n) (hst : st = as.reverse ++ .ref a :: rest) (hw : (rest.map fun v => v.category).sum ≤ 8)
    (kk : tri g d (bk - bk1) (bn - bn1) P M1 (pc + 3) ls rest) : tri g d bk bn P M pc ls st := by
  refine z_invokespecial hd hv hcon hC hn hst hw (fun v' M' h => ?_) (fun E M' h => by cases h.1)
  obtain ⟨h1, rfl⟩ := h
  cases h1
  exact kk
end BASE
theorem kb_8 : (Int8.ofInt (8)).toInt32 = nI 8 := by decide
theorem kb_9 : (Int8.ofInt (9)).toInt32 = nI 9 := by decide
theorem kb_10 : (Int8.ofInt (10)).toInt32 = nI 10 := by decide
theorem kb_16 : (Int8.ofInt (16)).toInt32 = nI 16 := by decide
theorem kb_31 : (Int8.ofInt (31)).toInt32 = nI 31 := by decide
theorem kb_63 : (Int8.ofInt (63)).toInt32 = nI 63 := by decide
theorem kb_64 : (Int8.ofInt (64)).toInt32 = nI 64 := by decide
theorem kb_97 : (Int8.ofInt (97)).toInt32 = nI 97 := by decide
theorem kb_100 : (Int8.ofInt (100)).toInt32 = nI 100 := by decide
theorem ki_m1 : Int32.ofInt (-1) = (-1) := by decide
theorem ki_0 : Int32.ofInt (0) = nI 0 := by decide
theorem ki_1 : Int32.ofInt (1) = nI 1 := by decide
theorem ki_2 : Int32.ofInt (2) = nI 2 := by decide
theorem ki_3 : Int32.ofInt (3) = nI 3 := by decide
theorem ki_4 : Int32.ofInt (4) = nI 4 := by decide
theorem ks_m1000 : (Int16.ofInt (-1000)).toInt32 = (-1000) := by decide
theorem ks_400 : (Int16.ofInt (400)).toInt32 = nI 400 := by decide
theorem ks_512 : (Int16.ofInt (512)).toInt32 = nI 512 := by decide
theorem ks_1000 : (Int16.ofInt (1000)).toInt32 = nI 1000 := by decide
theorem ac_int : Cond.arrayClass .int ∈ GT := gt_in 69 (by decide +kernel) rfl
theorem ac_bool : Cond.arrayClass .boolean ∈ GT := gt_in 115 (by decide +kernel) rfl
/-- a contract from the entry's walk -/
theorem con_i {g : GG} {d : MD} {bk bn : Nat} {P : PO} {M : Mem} {as : List Value} (h : tri g d bk bn P M 0 (lv_args 0 as) []) (hp : plainName d.y.cls = true) (hh : d.hh = []) (hlen : ((lg_sl as).length.ble d.nL) = true) (hcat : ∀ q ∈ lv_args 0 as, q.2.category = 1) (hnd : lnd (lv_args 0 as)) : con g d bk bn as M P := con_of hp hh (Nat.le_of_ble_eq_true hlen) hcat hnd h
theorem i32_nlt {a b : Int32} (h : ¬ a < b) : b ≤ a := Int32.not_lt.mp h
theorem i32_nle {a b : Int32} (h : ¬ a ≤ b) : b < a := Int32.not_le.mp h
/-- a loop that counts up to N: what holds at N, and at j if at j + 1 -/
theorem lp_up {T : Nat → Prop} (N : Nat) (hx : T N) (hs : ∀ j, j < N → T (j + 1) → T j) : ∀ j, j ≤ N → T j := by
  intro j hj
  obtain ⟨k, hk⟩ : ∃ k, N - j = k := ⟨_, rfl⟩
  induction k generalizing j with
  | zero =>
    have e : j = N := by omega
    rw [e]
    exact hx
  | succ k ih => exact hs j (by omega) (ih (j + 1) (by omega) (by omega))
