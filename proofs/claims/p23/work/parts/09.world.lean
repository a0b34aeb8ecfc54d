/-! the state that class and reference share, and the world of their cells -/
abbrev ST : Type := (Nat → Nat) × (Nat → Nat → Nat) × (Nat → Nat → Int32) × (Nat → Nat → Bool) × (Nat → Nat → Int32) × (Nat → Nat → Int32) × (Nat → Nat → Bool)
def ST.n (σ : ST) (i : Nat) : Nat := σ.1 i
def ST.a (σ : ST) (i k : Nat) : Nat := σ.2.1 i k
def ST.i (σ : ST) (i k : Nat) : Int32 := σ.2.2.1 i k
def ST.b (σ : ST) (i k : Nat) : Bool := σ.2.2.2.1 i k
def ST.hs (σ : ST) (u s : Nat) : Int32 := σ.2.2.2.2.1 u s
def ST.lo (σ : ST) (i j : Nat) : Int32 := σ.2.2.2.2.2.1 i j
def ST.cp (σ : ST) (u s : Nat) : Bool := σ.2.2.2.2.2.2 u s
def f1 {α : Type} (f : Nat → α) (i : Nat) (v : α) : Nat → α := fun j => if j = i then v else f j
def f2 {α : Type} (f : Nat → Nat → α) (a i : Nat) (v : α) : Nat → Nat → α := fun b j => if b = a ∧ j = i then v else f b j
theorem f1_s {α : Type} {f : Nat → α} {i : Nat} {v : α} : f1 f i v i = v := if_pos rfl
theorem f1_n {α : Type} {f : Nat → α} {i j : Nat} {v : α} (h : j ≠ i) : f1 f i v j = f j := if_neg h
theorem f2_s {α : Type} {f : Nat → Nat → α} {a i : Nat} {v : α} : f2 f a i v a i = v := if_pos ⟨rfl, rfl⟩
theorem f2_n {α : Type} {f : Nat → Nat → α} {a i b j : Nat} {v : α} (h : ¬ (b = a ∧ j = i)) : f2 f a i v b j = f b j := if_neg h
theorem f2_a {α : Type} {f : Nat → Nat → α} {a i b : Nat} {v : α} (h : b ≠ a) : f2 f a i v b = f b := funext fun j => if_neg fun q => h q.1
theorem f2_u {α : Type} {f : Nat → Nat → α} {a i : Nat} {v : α} : f2 f a i v a = f1 (f a) i v := funext fun j => by
  unfold f2 f1
  by_cases h : j = i
  · simp [h]
  · simp [h]
def ST.sn (σ : ST) (i v : Nat) : ST := (f1 σ.1 i v, σ.2)
def ST.sa (σ : ST) (i k v : Nat) : ST := (σ.1, f2 σ.2.1 i k v, σ.2.2)
def ST.si (σ : ST) (i k : Nat) (v : Int32) : ST := (σ.1, σ.2.1, f2 σ.2.2.1 i k v, σ.2.2.2)
def ST.sb (σ : ST) (i k : Nat) (v : Bool) : ST := (σ.1, σ.2.1, σ.2.2.1, f2 σ.2.2.2.1 i k v, σ.2.2.2.2)
def ST.sh (σ : ST) (u s : Nat) (v : Int32) : ST := (σ.1, σ.2.1, σ.2.2.1, σ.2.2.2.1, f2 σ.2.2.2.2.1 u s v, σ.2.2.2.2.2)
def ST.sl (σ : ST) (i j : Nat) (v : Int32) : ST := (σ.1, σ.2.1, σ.2.2.1, σ.2.2.2.1, σ.2.2.2.2.1, f2 σ.2.2.2.2.2.1 i j v, σ.2.2.2.2.2.2)
def ST.sc (σ : ST) (u s : Nat) (v : Bool) : ST := (σ.1, σ.2.1, σ.2.2.1, σ.2.2.2.1, σ.2.2.2.2.1, σ.2.2.2.2.2.1, f2 σ.2.2.2.2.2.2 u s v)
-- names: n 0 formats, 1 objects, 2 units, 3 last + 1; a 0 wanted, 1 had, 2 format, 3 unit, 4 base, 5 should, 6 needs, 7 loads, 8 caps, 9 counts of changes; i 0 risk, 2 value, 4 content; b 0 isThere, 1 isUnit, 2 isDifference, 4 isClosed
abbrev ST.fo (σ : ST) : Nat := σ.n 0
abbrev ST.ob (σ : ST) : Nat := σ.n 1
abbrev ST.un (σ : ST) : Nat := σ.n 2
abbrev ST.la (σ : ST) : Nat := σ.n 3
/-- what lies beside: a row that is written anew at each use (reached), the law's rows: 0 contents, 1 counts and risks, 2 sets and formats, 3 five numbers, 4 formats of versions -/
abbrev XT : Type := (Nat → Int32) × (Nat → Nat → Int32)
abbrev XT.rch (x : XT) : Nat → Int32 := x.1
abbrev XT.ar (x : XT) : Nat → Nat → Int32 := x.2
def asz (i : Nat) : Nat := match i with
  | 0 => 60
  | 1 => 14
  | 2 => 12
  | 3 => 5
  | _ => 60
/-- the digest: the remainder by 97, 0 to 96 -/
def dig (v : Int32) : Int32 := if v - v / nI 97 * nI 97 < 0 then v - v / nI 97 * nI 97 + nI 97 else v - v / nI 97 * nI 97
/-- 0 for no conversion, else 100 times its loss and 1 more -/
def costOf (l : Int32) : Int32 := if l = -1 then 0 else nI 100 * l + nI 1
abbrev tO : FieldType := .object "java/lang/Object"
/-- a list's row of places -/
def lrow (A : Nat → Nat → Nat) (k o n cap : Nat) : GE := aQ tO cap (fun j => if j < n then some (A k (o + j)) else none)
def wcell (g : GG) (A : Nat → Nat → Nat) (σ ρ : ST) (x : XT) (k i : Nat) : GE := match k with
  | 0 => ob 6 [.ref (A 1 0), .ref (A 6 0), .ref (A 11 0)]
  | 1 => ob 2 [.ref (A 2 0), .ref (A 3 0), .ref (A 4 0), .int (nI σ.fo)]
  | 2 => aI .int 8 (σ.i 0)
  | 3 => aQ (.array .int) 8 (fun i => some (A 5 i))
  | 4 => aI .int 8 x.rch
  | 5 => aI .int 8 (fun j => costOf (σ.lo i j))
  | 6 => ob 3 [.ref (A 7 0), .ref (A 9 0), .ref (A 10 0), .int (nI σ.la - 1)]
  | 7 => ob 0 [.int (nI (σ.a 9 0)), if σ.un = 0 then .ref g.E else .ref (A 8 0), .int (nI σ.un)]
  | 8 => lrow A 13 0 σ.un (σ.a 8 0)
  | 9 => aI .boolean 4 (fun s => bI (σ.b 4 s))
  | 10 => aI .int 4 (fun s => nI (σ.a 7 s))
  | 11 => ob 0 [.int (nI (σ.a 9 1)), if σ.ob = 0 then .ref g.E else .ref (A 12 0), .int (nI σ.ob)]
  | 12 => lrow A 16 0 σ.ob (σ.a 8 1)
  | 13 => ob 4 [.int (nI i), .int (bI (σ.b 2 i)), .int (σ.i 2 i), .int (dig (σ.i 2 i)), .ref (A 14 i), .ref (A 15 i), .int (nI (σ.a 5 i)), .int (nI (σ.a 6 i))]
  | 14 => aI .boolean 4 (fun s => bI (σ.cp i s))
  | 15 => aI .int 4 (σ.hs i)
  | 16 => ob 1 [.int (nI (σ.a 0 i)), .ref (A 19 (10 * i)), .ref (A 17 i)]
  | 17 => ob 0 [.int (nI (σ.a 9 (2 + i))), .ref (A 18 i), .int (nI (σ.a 1 i))]
  | 18 => lrow A 19 (10 * i) (σ.a 1 i) (σ.a 8 (2 + i))
  | 19 => ob 5 [.ref (A 13 (σ.a 3 i)), if σ.b 2 (σ.a 3 i) = true then .ref (A 19 (σ.a 4 i)) else .null, .int (nI (σ.a 2 i)), .int (σ.i 4 i), .int (bI (σ.b 0 i))]
  | 20 => aI .int (asz i) (x.ar i)
  | _ => aI .int 0 (fun _ => 0)
/-- which cells there are -/
def wdom (σ : ST) (k i : Nat) : Prop := match k with
  | 5 => i < 8
  | 8 => i = 0 ∧ 0 < σ.un
  | 12 => i = 0 ∧ 0 < σ.ob
  | 13 => i < σ.un
  | 14 => i < σ.un
  | 15 => i < σ.un
  | 16 => i < σ.ob
  | 17 => i < σ.ob
  | 18 => i < σ.ob
  | 19 => i / 10 < σ.ob ∧ i % 10 < σ.a 1 (i / 10)
  | 20 => i < 5
  | k => k < 20 ∧ i = 0
def W2 (g : GG) (A : Nat → Nat → Nat) (σ ρ : ST) (x : XT) (M : Mem) : Prop :=
  (∀ k i, wdom σ k i → M (A k i) = some (wcell g A σ ρ x k i)) ∧ ∀ k i k' i', wdom σ k i → wdom σ k' i' → A k i = A k' i' → k = k' ∧ i = i'
/-- one cell is written -/
theorem W2.put {g : GG} {A : Nat → Nat → Nat} {σ ρ σ' ρ' : ST} {x x' : XT} {M : Mem} (h : W2 g A σ ρ x M) (k i : Nat) {e : GE} (hd : wdom σ k i) (he : wcell g A σ' ρ' x' k i = e) (hdom : ∀ k' i', wdom σ' k' i' → wdom σ k' i')
    (ho : ∀ k' i', wdom σ' k' i' → ¬ (k' = k ∧ i' = i) → wcell g A σ' ρ' x' k' i' = wcell g A σ ρ x k' i') : W2 g A σ' ρ' x' (mset M (A k i) e) := by
  refine ⟨fun k' i' hd' => ?_, fun a b c d h1 h2 => h.2 a b c d (hdom _ _ h1) (hdom _ _ h2)⟩
  by_cases hq : k' = k ∧ i' = i
  · obtain ⟨rfl, rfl⟩ := hq
    rw [mset_eq, he]
  · have hne : A k' i' ≠ A k i := fun e => hq (h.2 _ _ _ _ (hdom _ _ hd') hd e)
    rw [mset_ne hne, h.1 _ _ (hdom _ _ hd'), ho _ _ hd' hq]
/-- other cells are written -/
theorem W2.out {g : GG} {A : Nat → Nat → Nat} {σ ρ : ST} {x : XT} {M M' : Mem} (h : W2 g A σ ρ x M) (hk : ∀ a e, M a = some e → M' a = some e) : W2 g A σ ρ x M' := ⟨fun k i hd => hk _ _ (h.1 k i hd), h.2⟩
theorem mset_fresh {M : Mem} {q : Nat} {e : GE} (hq : M q = none) : ∀ a e', M a = some e' → mset M q e a = some e' := fun a e' h => by
  rw [mset_ne (fun c => by rw [c, hq] at h; cases h)]
  exact h
section WORLD
variable {g : GG} {A : Nat → Nat → Nat} {σ ρ : ST} {x : XT} {M : Mem}
theorem W2.hall (h : W2 g A σ ρ x M) : M (A 0 0) = some (ob 6 [.ref (A 1 0), .ref (A 6 0), .ref (A 11 0)]) := h.1 0 0 ⟨by decide, rfl⟩
theorem W2.fmts (h : W2 g A σ ρ x M) : M (A 1 0) = some (ob 2 [.ref (A 2 0), .ref (A 3 0), .ref (A 4 0), .int (nI σ.fo)]) := h.1 1 0 ⟨by decide, rfl⟩
theorem W2.risks (h : W2 g A σ ρ x M) : M (A 2 0) = some (aI .int 8 (σ.i 0)) := h.1 2 0 ⟨by decide, rfl⟩
theorem W2.costs (h : W2 g A σ ρ x M) : M (A 3 0) = some (aQ (.array .int) 8 (fun i => some (A 5 i))) := h.1 3 0 ⟨by decide, rfl⟩
theorem W2.rch (h : W2 g A σ ρ x M) : M (A 4 0) = some (aI .int 8 x.rch) := h.1 4 0 ⟨by decide, rfl⟩
theorem W2.row (h : W2 g A σ ρ x M) {i : Nat} (hi : i < 8) : M (A 5 i) = some (aI .int 8 (fun j => costOf (σ.lo i j))) := h.1 5 i hi
theorem W2.store (h : W2 g A σ ρ x M) : M (A 6 0) = some (ob 3 [.ref (A 7 0), .ref (A 9 0), .ref (A 10 0), .int (nI σ.la - 1)]) := h.1 6 0 ⟨by decide, rfl⟩
theorem W2.ulist (h : W2 g A σ ρ x M) : M (A 7 0) = some (ob 0 [.int (nI (σ.a 9 0)), if σ.un = 0 then .ref g.E else .ref (A 8 0), .int (nI σ.un)]) := h.1 7 0 ⟨by decide, rfl⟩
theorem W2.udata (h : W2 g A σ ρ x M) (hi : 0 < σ.un) : M (A 8 0) = some (lrow A 13 0 σ.un (σ.a 8 0)) := h.1 8 0 ⟨rfl, hi⟩
theorem W2.closed (h : W2 g A σ ρ x M) : M (A 9 0) = some (aI .boolean 4 (fun s => bI (σ.b 4 s))) := h.1 9 0 ⟨by decide, rfl⟩
theorem W2.loads (h : W2 g A σ ρ x M) : M (A 10 0) = some (aI .int 4 (fun s => nI (σ.a 7 s))) := h.1 10 0 ⟨by decide, rfl⟩
theorem W2.olist (h : W2 g A σ ρ x M) : M (A 11 0) = some (ob 0 [.int (nI (σ.a 9 1)), if σ.ob = 0 then .ref g.E else .ref (A 12 0), .int (nI σ.ob)]) := h.1 11 0 ⟨by decide, rfl⟩
theorem W2.odata (h : W2 g A σ ρ x M) (hi : 0 < σ.ob) : M (A 12 0) = some (lrow A 16 0 σ.ob (σ.a 8 1)) := h.1 12 0 ⟨rfl, hi⟩
theorem W2.unit (h : W2 g A σ ρ x M) {i : Nat} (hi : i < σ.un) : M (A 13 i) = some (ob 4 [.int (nI i), .int (bI (σ.b 2 i)), .int (σ.i 2 i), .int (dig (σ.i 2 i)), .ref (A 14 i), .ref (A 15 i), .int (nI (σ.a 5 i)), .int (nI (σ.a 6 i))]) := h.1 13 i hi
theorem W2.placed (h : W2 g A σ ρ x M) {i : Nat} (hi : i < σ.un) : M (A 14 i) = some (aI .boolean 4 (fun s => bI (σ.cp i s))) := h.1 14 i hi
theorem W2.copies (h : W2 g A σ ρ x M) {i : Nat} (hi : i < σ.un) : M (A 15 i) = some (aI .int 4 (σ.hs i)) := h.1 15 i hi
theorem W2.dob (h : W2 g A σ ρ x M) {i : Nat} (hi : i < σ.ob) : M (A 16 i) = some (ob 1 [.int (nI (σ.a 0 i)), .ref (A 19 (10 * i)), .ref (A 17 i)]) := h.1 16 i hi
theorem W2.vlist (h : W2 g A σ ρ x M) {i : Nat} (hi : i < σ.ob) : M (A 17 i) = some (ob 0 [.int (nI (σ.a 9 (2 + i))), .ref (A 18 i), .int (nI (σ.a 1 i))]) := h.1 17 i hi
theorem W2.vdata (h : W2 g A σ ρ x M) {i : Nat} (hi : i < σ.ob) : M (A 18 i) = some (lrow A 19 (10 * i) (σ.a 1 i) (σ.a 8 (2 + i))) := h.1 18 i hi
theorem W2.ver (h : W2 g A σ ρ x M) {i : Nat} (hi : i / 10 < σ.ob ∧ i % 10 < σ.a 1 (i / 10)) : M (A 19 i) = some (ob 5 [.ref (A 13 (σ.a 3 i)), if σ.b 2 (σ.a 3 i) = true then .ref (A 19 (σ.a 4 i)) else .null, .int (nI (σ.a 2 i)), .int (σ.i 4 i), .int (bI (σ.b 0 i))]) := h.1 19 i hi
theorem W2.arr (h : W2 g A σ ρ x M) {i : Nat} (hi : i < 5) : M (A 20 i) = some (aI .int (asz i) (x.ar i)) := h.1 20 i hi
end WORLD
