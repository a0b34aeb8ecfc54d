/-! the reference: its small methods -/
def rQ (v : Option Value) (Q : Mem → Prop) : PO := fun r M' => r = .inl v ∧ Q M'
theorem rQ_of {v : Option Value} {Q : Mem → Prop} {M : Mem} (h : Q M) : rQ v Q (.inl v) M := ⟨rfl, h⟩
section QR
variable {g : GG} {d : MD} {bk bn : Nat} {P : PO} {M : Mem} {pc : Nat} {ls : List (Nat × Value)} {st : List Value}
theorem z_ivQ {index ci n a bk1 bn1 : Nat} {dd : MD} {fs as rest : List Value} {v : Option Value} {Q : Mem → Prop} (hd : decode d.cc pc = .ok (.invokevirtual index, 3)) (hv : vlk d.y.cls index ci dd n) (hM : M a = some (ob ci fs)) (hcon : con g dd bk1 bn1 (.ref a :: as) M (rQ v Q)) (hC : clk d dd bk1 bn1 bk bn) (hn : as.length = n) (hst : st = as.reverse ++ .ref a :: rest) (hw : (rest.map fun v => v.category).sum ≤ 8)
    (kk : ∀ M', Q M' → tri g d (bk - bk1) (bn - bn1) P M' (pc + 3) ls (v.toList ++ rest)) : tri g d bk bn P M pc ls st := by
  refine z_invokevirtual hd hv hM hcon hC hn hst hw (fun v' M' h => ?_) (fun E M' h => by cases h.1)
  obtain ⟨h1, h2⟩ := h
  cases h1
  exact kk M' h2
theorem z_isQ {index n bk1 bn1 : Nat} {dd : MD} {as rest : List Value} {v : Option Value} {Q : Mem → Prop} (hd : decode d.cc pc = .ok (.invokestatic index, 3)) (hv : slk d.y.cls index dd n) (hcon : con g dd bk1 bn1 as M (rQ v Q)) (hC : clk d dd bk1 bn1 bk bn) (hn : as.length = n) (hst : st = as.reverse ++ rest) (hw : (rest.map fun v => v.category).sum ≤ 8)
    (kk : ∀ M', Q M' → tri g d (bk - bk1) (bn - bn1) P M' (pc + 3) ls (v.toList ++ rest)) : tri g d bk bn P M pc ls st := by
  refine z_invokestatic hd hv hcon hC hn hst hw (fun v' M' h => ?_) (fun E M' h => by cases h.1)
  obtain ⟨h1, h2⟩ := h
  cases h1
  exact kk M' h2
theorem z_ipQ {index n a bk1 bn1 : Nat} {dd : MD} {as rest : List Value} {v : Option Value} {Q : Mem → Prop} (hd : decode d.cc pc = .ok (.invokespecial index, 3)) (hv : ilk d.y.cls index dd n) (hcon : con g dd bk1 bn1 (.ref a :: as) M (rQ v Q)) (hC : clk d dd bk1 bn1 bk bn) (hn : as.length = n) (hst : st = as.reverse ++ .ref a :: rest) (hw : (rest.map fun v => v.category).sum ≤ 8)
    (kk : ∀ M', Q M' → tri g d (bk - bk1) (bn - bn1) P M' (pc + 3) ls (v.toList ++ rest)) : tri g d bk bn P M pc ls st := by
  refine z_invokespecial hd hv hcon hC hn hst hw (fun v' M' h => ?_) (fun E M' h => by cases h.1)
  obtain ⟨h1, h2⟩ := h
  cases h1
  exact kk M' h2
theorem ix4 (u s : Nat) : nI 4 * nI u + nI s = nI (4 * u + s) := by rw [pk_mul, nI_add]
theorem ix8 (u s : Nat) : nI 8 * nI u + nI s = nI (8 * u + s) := by rw [pk_mul, nI_add]
theorem ix10 (u s : Nat) : nI 10 * nI u + nI s = nI (10 * u + s) := by rw [pk_mul, nI_add]
theorem z_ldB4 {a N u s : Nat} {f : Nat → Nat → Bool} {i : Int32} (hd : decode d.cc pc = .ok (.baload, 1)) (hM : M a = some (aI .boolean N (fun k => bI (f (k / 4) (k % 4))))) (hi : i = nI (4 * u + s)) (hs : s < 4) (hj : 4 * u + s < N) (hn : N < 2 ^ 31) (kk : tri g d bk bn P M (pc + 1) ls (.int (bI (f u s)) :: st)) : tri g d bk bn P M pc ls (.int i :: .ref a :: st) := by
  refine z_zaload hd hM hi hj hn ?_
  rw [show (4 * u + s) / 4 = u by omega, show (4 * u + s) % 4 = s by omega]
  exact kk
theorem z_ldI4 {a N u s : Nat} {f : Nat → Nat → Int32} {i : Int32} (hd : decode d.cc pc = .ok (.iaload, 1)) (hM : M a = some (aI .int N (fun k => f (k / 4) (k % 4)))) (hi : i = nI (4 * u + s)) (hs : s < 4) (hj : 4 * u + s < N) (hn : N < 2 ^ 31) (kk : tri g d bk bn P M (pc + 1) ls (.int (f u s) :: st)) : tri g d bk bn P M pc ls (.int i :: .ref a :: st) := by
  refine z_iaload hd hM hi hj hn ?_
  rw [show (4 * u + s) / 4 = u by omega, show (4 * u + s) % 4 = s by omega]
  exact kk
theorem z_ldI8 {a N u s : Nat} {f : Nat → Nat → Int32} {i : Int32} (hd : decode d.cc pc = .ok (.iaload, 1)) (hM : M a = some (aI .int N (fun k => f (k / 8) (k % 8)))) (hi : i = nI (8 * u + s)) (hs : s < 8) (hj : 8 * u + s < N) (hn : N < 2 ^ 31) (kk : tri g d bk bn P M (pc + 1) ls (.int (f u s) :: st)) : tri g d bk bn P M pc ls (.int i :: .ref a :: st) := by
  refine z_iaload hd hM hi hj hn ?_
  rw [show (8 * u + s) / 8 = u by omega, show (8 * u + s) % 8 = s by omega]
  exact kk
end QR
/-- a sound copy -/
def snd (σ : ST) (u s : Nat) : Bool := σ.cp u s && decide (dig (σ.hs u s) = dig (σ.i 2 u))
/-- how many sound copies have what the copy at s has -/
def alk (σ : ST) (u s : Nat) : Nat → Nat
  | 0 => 0
  | n + 1 => alk σ u s n + (if snd σ u s = true ∧ snd σ u n = true ∧ σ.hs u n = σ.hs u s then 1 else 0)
theorem alk_le (σ : ST) (u s : Nat) : ∀ n, alk σ u s n ≤ n
  | 0 => Nat.le_refl 0
  | n + 1 => by
    have h := alk_le σ u s n
    unfold alk
    split <;> omega
def gal (σ : ST) (u : Nat) : Option Nat → Nat
  | none => 0
  | some f => alk σ u f 4
/-- the lowest site whose copy has the good value, of the first n -/
def gdn (σ : ST) (u : Nat) : Nat → Option Nat
  | 0 => none
  | n + 1 => if gal σ u (gdn σ u n) < alk σ u n 4 then some n else gdn σ u n
theorem gdn_lt (σ : ST) (u : Nat) : ∀ n f, gdn σ u n = some f → f < n
  | 0, f, h => by cases h
  | n + 1, f, h => by
    unfold gdn at h
    split at h
    · cases h
      omega
    · have := gdn_lt σ u n f h
      omega
abbrev good (σ : ST) (u : Nat) : Option Nat := gdn σ u 4
def oI (o : Option Nat) : Int32 := match o with
  | none => -1
  | some n => nI n
theorem oI_n {n : Nat} (h : n < 2 ^ 31) : ¬ nI n = -1 := fun e => by
  have h1 := nI_toInt h
  rw [e] at h1
  have h2 : ((-1 : Int32)).toInt = -1 := by decide
  omega
theorem oI_none {o : Option Nat} (h : oI o = -1) (hb : ∀ n, o = some n → n < 2 ^ 31) : o = none := by
  cases o with
  | none => rfl
  | some n => exact absurd h (oI_n (hb n rfl))
theorem oI_some {o : Option Nat} (h : ¬ oI o = -1) : ∃ n, o = some n := by
  cases o with
  | none => exact absurd rfl h
  | some n => exact ⟨n, rfl⟩
/-- how many copies, of the first n sites -/
def cpc (σ : ST) (u : Nat) : Nat → Nat
  | 0 => 0
  | n + 1 => cpc σ u n + (if σ.cp u n = true then 1 else 0)
theorem cpc_le (σ : ST) (u : Nat) : ∀ n, cpc σ u n ≤ n
  | 0 => Nat.le_refl 0
  | n + 1 => by
    have h := cpc_le σ u n
    unfold cpc
    split <;> omega
/-- how many copies at a site, of the first n units -/
def ldn (σ : ST) (s : Nat) : Nat → Nat
  | 0 => 0
  | n + 1 => ldn σ s n + (if σ.cp n s = true then 1 else 0)
theorem ldn_le (σ : ST) (s : Nat) : ∀ n, ldn σ s n ≤ n
  | 0 => Nat.le_refl 0
  | n + 1 => by
    have h := ldn_le σ s n
    unfold ldn
    split <;> omega
def pok (σ : ST) (n : Nat) : Option Nat → Bool
  | none => true
  | some f => decide (ldn σ n 100 < ldn σ f 100)
/-- the open site without a copy that has the fewest copies, of the first n -/
def plc (σ : ST) (u : Nat) : Nat → Option Nat
  | 0 => none
  | n + 1 => if σ.b 4 n = false ∧ σ.cp u n = false ∧ pok σ n (plc σ u n) = true then some n else plc σ u n
theorem plc_lt (σ : ST) (u : Nat) : ∀ n f, plc σ u n = some f → f < n
  | 0, f, h => by cases h
  | n + 1, f, h => by
    unfold plc at h
    split at h
    · cases h
      omega
    · have := plc_lt σ u n f h
      omega
section REF1
variable (g : GG) {A : Nat → Nat → Nat} {σ ρ : ST} {x : XT} {M : Mem}
end REF1
