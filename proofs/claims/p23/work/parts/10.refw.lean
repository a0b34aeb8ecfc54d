/-! the reference's own cells: one is written at a time -/
def XT.srch (x : XT) (f : Nat → Int32) : XT := (f, x.2)
def XT.sar (x : XT) (i k : Nat) (v : Int32) : XT := (x.1, f2 x.2 i k v)
theorem upd_n (f : Nat → Nat) (j v : Nat) : upd (fun k => nI (f k)) j (nI v) = fun k => nI (f1 f j v k) := by
  funext k
  unfold upd f1
  by_cases h : k = j
  · simp [h]
  · simp [h]
theorem upd_i (f : Nat → Int32) (j : Nat) (v : Int32) : upd f j v = f1 f j v := rfl
theorem upd_b (f : Nat → Bool) (j : Nat) (b : Bool) : upd (fun k => bI (f k)) j (bI b &&& 1) = fun k => bI (f1 f j b k) := by
  funext k
  unfold upd f1
  by_cases h : k = j
  · simp [h, bI_and]
  · simp [h]
theorem upd_b4 (f : Nat → Nat → Bool) (u s : Nat) (hs : s < 4) (b : Bool) : upd (fun k => bI (f (k / 4) (k % 4))) (4 * u + s) (bI b &&& 1) = fun k => bI (f2 f u s b (k / 4) (k % 4)) := by
  funext k
  unfold upd f2
  by_cases h : k = 4 * u + s
  · rw [if_pos h, if_pos ⟨by omega, by omega⟩, bI_and]
  · rw [if_neg h, if_neg (by omega)]
theorem upd_i4 (f : Nat → Nat → Int32) (u s : Nat) (hs : s < 4) (v : Int32) : upd (fun k => f (k / 4) (k % 4)) (4 * u + s) v = fun k => f2 f u s v (k / 4) (k % 4) := by
  funext k
  unfold upd f2
  by_cases h : k = 4 * u + s
  · rw [if_pos h, if_pos ⟨by omega, by omega⟩]
  · rw [if_neg h, if_neg (by omega)]
theorem upd_i8 (f : Nat → Nat → Int32) (u s : Nat) (hs : s < 8) (v : Int32) : upd (fun k => f (k / 8) (k % 8)) (8 * u + s) v = fun k => f2 f u s v (k / 8) (k % 8) := by
  funext k
  unfold upd f2
  by_cases h : k = 8 * u + s
  · rw [if_pos h, if_pos ⟨by omega, by omega⟩]
  · rw [if_neg h, if_neg (by omega)]
section REFW
variable {g : GG} {A : Nat → Nat → Nat} {σ ρ : ST} {x : XT} {M : Mem}
/-- an int of a row of the law is written -/
theorem W2.parr (h : W2 g A σ ρ x M) {i : Nat} (hi : i < 5) (k : Nat) (v : Int32) : W2 g A σ ρ (x.sar i k v) (mset M (A 20 i) (aI .int (asz i) (upd (x.ar i) k v))) := by
  refine h.put 20 i hi ?_ (fun _ _ h => h) ?_
  · show aI .int (asz i) (f2 x.2 i k v i) = _
    rw [f2_u]
    rfl
  intro k' i' hd hne
  match k', hd, hne with
  | 0, hd, hne => exact rfl
  | 1, hd, hne => exact rfl
  | 2, hd, hne => exact rfl
  | 3, hd, hne => exact rfl
  | 4, hd, hne => exact rfl
  | 5, hd, hne => exact rfl
  | 6, hd, hne => exact rfl
  | 7, hd, hne => exact rfl
  | 8, hd, hne => exact rfl
  | 9, hd, hne => exact rfl
  | 10, hd, hne => exact rfl
  | 11, hd, hne => exact rfl
  | 12, hd, hne => exact rfl
  | 13, hd, hne => exact rfl
  | 14, hd, hne => exact rfl
  | 15, hd, hne => exact rfl
  | 16, hd, hne => exact rfl
  | 17, hd, hne => exact rfl
  | 18, hd, hne => exact rfl
  | 19, hd, hne => exact rfl
  | 20, hd, hne => exact congrArg (aI .int (asz i')) (f2_a (fun e => hne ⟨rfl, e⟩))
  | 21, hd, hne => exact rfl
  | 22, hd, hne => exact rfl
  | n + 23, hd, hne => exact rfl

end REFW
