/-! the reference's own cells: one is written at a time -/
def XT.sthr (x : XT) (v : Int32) : XT := (x.1, x.2.1, x.2.2.1, v, x.2.2.2.2)
def XT.sbst (x : XT) (f : Nat → Int32) : XT := (x.1, f, x.2.2.1, x.2.2.2.1, x.2.2.2.2)
def XT.srb (x : XT) (f : Nat → Int32) : XT := (x.1, x.2.1, f, x.2.2.2.1, x.2.2.2.2)
def XT.srch (x : XT) (f : Nat → Int32) : XT := (f, x.2.1, x.2.2.1, x.2.2.2.1, x.2.2.2.2)
def XT.sout (x : XT) (f : Nat → Int64) : XT := (x.1, x.2.1, x.2.2.1, x.2.2.2.1, f)
theorem upd_n (f : Nat → Nat) (j v : Nat) : upd (fun k => nI (f k)) j (nI v) = fun k => nI (f1 f j v k) := by
  funext k
  unfold upd f1
  by_cases h : k = j
  · simp [h]
  · simp [h]
theorem upd_i (f : Nat → Int32) (j : Nat) (v : Int32) : upd f j v = f1 f j v := rfl
theorem upd_b (f : Nat → Bool) (j : Nat) (b : Bool) : upd (fun k => bI (f k)) j (bI b &&& 1) = fun k => bI (f1 f j b k) := by
  funext k
  unfold upd f1
  by_cases h : k = j
  · simp [h, bI_and]
  · simp [h]
theorem upd_b4 (f : Nat → Nat → Bool) (u s : Nat) (hs : s < 4) (b : Bool) : upd (fun k => bI (f (k / 4) (k % 4))) (4 * u + s) (bI b &&& 1) = fun k => bI (f2 f u s b (k / 4) (k % 4)) := by
  funext k
  unfold upd f2
  by_cases h : k = 4 * u + s
  · rw [if_pos h, if_pos ⟨by omega, by omega⟩, bI_and]
  · rw [if_neg h, if_neg (by omega)]
theorem upd_i4 (f : Nat → Nat → Int32) (u s : Nat) (hs : s < 4) (v : Int32) : upd (fun k => f (k / 4) (k % 4)) (4 * u + s) v = fun k => f2 f u s v (k / 4) (k % 4) := by
  funext k
  unfold upd f2
  by_cases h : k = 4 * u + s
  · rw [if_pos h, if_pos ⟨by omega, by omega⟩]
  · rw [if_neg h, if_neg (by omega)]
theorem upd_i8 (f : Nat → Nat → Int32) (u s : Nat) (hs : s < 8) (v : Int32) : upd (fun k => f (k / 8) (k % 8)) (8 * u + s) v = fun k => f2 f u s v (k / 8) (k % 8) := by
  funext k
  unfold upd f2
  by_cases h : k = 8 * u + s
  · rw [if_pos h, if_pos ⟨by omega, by omega⟩]
  · rw [if_neg h, if_neg (by omega)]
section REFW
variable {g : GG} {A : Nat → Nat → Nat} {σ ρ : ST} {x : XT} {M : Mem}

theorem W2.pthr (h : W2 g A σ ρ x M) (v : Int32) : W2 g A σ (ρ) (x.sthr v) (mset M (A 20 0) (ob 7 [.int (nI ρ.fo), .ref (A 21 1), .ref (A 21 2), .ref (A 21 3), .int (nI ρ.ob), .ref (A 21 5), .ref (A 21 6), .ref (A 21 7), .ref (A 21 8), .ref (A 21 9), .ref (A 21 10), .int (nI ρ.un), .ref (A 21 12), .ref (A 21 13), .ref (A 21 14), .ref (A 21 15), .ref (A 21 16), .ref (A 21 17), .ref (A 21 18), .int (nI ρ.la - 1), .int (v)])) := by
  refine h.put 20 0 (⟨by decide, rfl⟩) ?_ (fun _ _ h => h) ?_
  · rfl
  · skip
    intro k' i' hd hne
    match k', hd, hne with
    | 0, hd, hne => exact rfl
    | 1, hd, hne => exact rfl
    | 2, hd, hne => exact rfl
    | 3, hd, hne => exact rfl
    | 4, hd, hne => exact rfl
    | 5, hd, hne => exact rfl
    | 6, hd, hne => exact rfl
    | 7, hd, hne => exact rfl
    | 8, hd, hne => exact rfl
    | 9, hd, hne => exact rfl
    | 10, hd, hne => exact rfl
    | 11, hd, hne => exact rfl
    | 12, hd, hne => exact rfl
    | 13, hd, hne => exact rfl
    | 14, hd, hne => exact rfl
    | 15, hd, hne => exact rfl
    | 16, hd, hne => exact rfl
    | 17, hd, hne => exact rfl
    | 18, hd, hne => exact rfl
    | 19, hd, hne => exact rfl
    | 20, hd, hne => exact absurd ⟨rfl, hd.2⟩ hne
    | 21, hd, hne => exact rfl
    | 22, hd, hne => exact rfl
    | n + 23, hd, hne => exact rfl

theorem W2.pfo (h : W2 g A σ ρ x M) (v : Nat) : W2 g A σ (ρ.sn 0 v) (x) (mset M (A 20 0) (ob 7 [.int (nI v), .ref (A 21 1), .ref (A 21 2), .ref (A 21 3), .int (nI ρ.ob), .ref (A 21 5), .ref (A 21 6), .ref (A 21 7), .ref (A 21 8), .ref (A 21 9), .ref (A 21 10), .int (nI ρ.un), .ref (A 21 12), .ref (A 21 13), .ref (A 21 14), .ref (A 21 15), .ref (A 21 16), .ref (A 21 17), .ref (A 21 18), .int (nI ρ.la - 1), .int (x.thr)])) := by
  refine h.put 20 0 (⟨by decide, rfl⟩) ?_ (fun _ _ h => h) ?_
  · rfl
  · skip
    intro k' i' hd hne
    match k', hd, hne with
    | 0, hd, hne => exact rfl
    | 1, hd, hne => exact rfl
    | 2, hd, hne => exact rfl
    | 3, hd, hne => exact rfl
    | 4, hd, hne => exact rfl
    | 5, hd, hne => exact rfl
    | 6, hd, hne => exact rfl
    | 7, hd, hne => exact rfl
    | 8, hd, hne => exact rfl
    | 9, hd, hne => exact rfl
    | 10, hd, hne => exact rfl
    | 11, hd, hne => exact rfl
    | 12, hd, hne => exact rfl
    | 13, hd, hne => exact rfl
    | 14, hd, hne => exact rfl
    | 15, hd, hne => exact rfl
    | 16, hd, hne => exact rfl
    | 17, hd, hne => exact rfl
    | 18, hd, hne => exact rfl
    | 19, hd, hne => exact rfl
    | 20, hd, hne => exact absurd ⟨rfl, hd.2⟩ hne
    | 21, hd, hne => exact rfl
    | 22, hd, hne => exact rfl
    | n + 23, hd, hne => exact rfl

theorem W2.pob (h : W2 g A σ ρ x M) (v : Nat) : W2 g A σ (ρ.sn 1 v) (x) (mset M (A 20 0) (ob 7 [.int (nI ρ.fo), .ref (A 21 1), .ref (A 21 2), .ref (A 21 3), .int (nI v), .ref (A 21 5), .ref (A 21 6), .ref (A 21 7), .ref (A 21 8), .ref (A 21 9), .ref (A 21 10), .int (nI ρ.un), .ref (A 21 12), .ref (A 21 13), .ref (A 21 14), .ref (A 21 15), .ref (A 21 16), .ref (A 21 17), .ref (A 21 18), .int (nI ρ.la - 1), .int (x.thr)])) := by
  refine h.put 20 0 (⟨by decide, rfl⟩) ?_ (fun _ _ h => h) ?_
  · rfl
  · skip
    intro k' i' hd hne
    match k', hd, hne with
    | 0, hd, hne => exact rfl
    | 1, hd, hne => exact rfl
    | 2, hd, hne => exact rfl
    | 3, hd, hne => exact rfl
    | 4, hd, hne => exact rfl
    | 5, hd, hne => exact rfl
    | 6, hd, hne => exact rfl
    | 7, hd, hne => exact rfl
    | 8, hd, hne => exact rfl
    | 9, hd, hne => exact rfl
    | 10, hd, hne => exact rfl
    | 11, hd, hne => exact rfl
    | 12, hd, hne => exact rfl
    | 13, hd, hne => exact rfl
    | 14, hd, hne => exact rfl
    | 15, hd, hne => exact rfl
    | 16, hd, hne => exact rfl
    | 17, hd, hne => exact rfl
    | 18, hd, hne => exact rfl
    | 19, hd, hne => exact rfl
    | 20, hd, hne => exact absurd ⟨rfl, hd.2⟩ hne
    | 21, hd, hne => exact rfl
    | 22, hd, hne => exact rfl
    | n + 23, hd, hne => exact rfl

theorem W2.pun (h : W2 g A σ ρ x M) (v : Nat) : W2 g A σ (ρ.sn 2 v) (x) (mset M (A 20 0) (ob 7 [.int (nI ρ.fo), .ref (A 21 1), .ref (A 21 2), .ref (A 21 3), .int (nI ρ.ob), .ref (A 21 5), .ref (A 21 6), .ref (A 21 7), .ref (A 21 8), .ref (A 21 9), .ref (A 21 10), .int (nI v), .ref (A 21 12), .ref (A 21 13), .ref (A 21 14), .ref (A 21 15), .ref (A 21 16), .ref (A 21 17), .ref (A 21 18), .int (nI ρ.la - 1), .int (x.thr)])) := by
  refine h.put 20 0 (⟨by decide, rfl⟩) ?_ (fun _ _ h => h) ?_
  · rfl
  · skip
    intro k' i' hd hne
    match k', hd, hne with
    | 0, hd, hne => exact rfl
    | 1, hd, hne => exact rfl
    | 2, hd, hne => exact rfl
    | 3, hd, hne => exact rfl
    | 4, hd, hne => exact rfl
    | 5, hd, hne => exact rfl
    | 6, hd, hne => exact rfl
    | 7, hd, hne => exact rfl
    | 8, hd, hne => exact rfl
    | 9, hd, hne => exact rfl
    | 10, hd, hne => exact rfl
    | 11, hd, hne => exact rfl
    | 12, hd, hne => exact rfl
    | 13, hd, hne => exact rfl
    | 14, hd, hne => exact rfl
    | 15, hd, hne => exact rfl
    | 16, hd, hne => exact rfl
    | 17, hd, hne => exact rfl
    | 18, hd, hne => exact rfl
    | 19, hd, hne => exact rfl
    | 20, hd, hne => exact absurd ⟨rfl, hd.2⟩ hne
    | 21, hd, hne => exact rfl
    | 22, hd, hne => exact rfl
    | n + 23, hd, hne => exact rfl

theorem W2.pla (h : W2 g A σ ρ x M) (v : Nat) : W2 g A σ (ρ.sn 3 v) (x) (mset M (A 20 0) (ob 7 [.int (nI ρ.fo), .ref (A 21 1), .ref (A 21 2), .ref (A 21 3), .int (nI ρ.ob), .ref (A 21 5), .ref (A 21 6), .ref (A 21 7), .ref (A 21 8), .ref (A 21 9), .ref (A 21 10), .int (nI ρ.un), .ref (A 21 12), .ref (A 21 13), .ref (A 21 14), .ref (A 21 15), .ref (A 21 16), .ref (A 21 17), .ref (A 21 18), .int (nI v - 1), .int (x.thr)])) := by
  refine h.put 20 0 (⟨by decide, rfl⟩) ?_ (fun _ _ h => h) ?_
  · rfl
  · skip
    intro k' i' hd hne
    match k', hd, hne with
    | 0, hd, hne => exact rfl
    | 1, hd, hne => exact rfl
    | 2, hd, hne => exact rfl
    | 3, hd, hne => exact rfl
    | 4, hd, hne => exact rfl
    | 5, hd, hne => exact rfl
    | 6, hd, hne => exact rfl
    | 7, hd, hne => exact rfl
    | 8, hd, hne => exact rfl
    | 9, hd, hne => exact rfl
    | 10, hd, hne => exact rfl
    | 11, hd, hne => exact rfl
    | 12, hd, hne => exact rfl
    | 13, hd, hne => exact rfl
    | 14, hd, hne => exact rfl
    | 15, hd, hne => exact rfl
    | 16, hd, hne => exact rfl
    | 17, hd, hne => exact rfl
    | 18, hd, hne => exact rfl
    | 19, hd, hne => exact rfl
    | 20, hd, hne => exact absurd ⟨rfl, hd.2⟩ hne
    | 21, hd, hne => exact rfl
    | 22, hd, hne => exact rfl
    | n + 23, hd, hne => exact rfl

theorem W2.prisk (h : W2 g A σ ρ x M) (j : Nat) (v : Int32) : W2 g A σ (ρ.si 0 j v) (x) (mset M (A 21 1) (aI .int 8 (upd (ρ.i 0) j v))) := by
  refine h.put 21 1 (by show 1 ∈ [1, 2, 3, 5, 6, 7, 8, 9, 10, 12, 13, 14, 15, 16, 17, 18]; decide) ?_ (fun _ _ h => h) ?_
  · show aI .int 8 _ = _
    rw [show (ρ.si 0 j v).i 0 = f1 (ρ.i 0) j v from f2_u]
    rfl
  · have h21 : ∀ i', i' ∈ [1, 2, 3, 5, 6, 7, 8, 9, 10, 12, 13, 14, 15, 16, 17, 18] → i' ≠ 1 → wcell g A σ (ρ.si 0 j v) (x) 21 i' = wcell g A σ ρ x 21 i' := by
      intro i' hm hn
      simp only [List.mem_cons, List.not_mem_nil, or_false] at hm
      rcases hm with rfl | rfl | rfl | rfl | rfl | rfl | rfl | rfl | rfl | rfl | rfl | rfl | rfl | rfl | rfl | rfl <;> first | rfl | exact absurd rfl hn
    intro k' i' hd hne
    match k', hd, hne with
    | 0, hd, hne => exact rfl
    | 1, hd, hne => exact rfl
    | 2, hd, hne => exact rfl
    | 3, hd, hne => exact rfl
    | 4, hd, hne => exact rfl
    | 5, hd, hne => exact rfl
    | 6, hd, hne => exact rfl
    | 7, hd, hne => exact rfl
    | 8, hd, hne => exact rfl
    | 9, hd, hne => exact rfl
    | 10, hd, hne => exact rfl
    | 11, hd, hne => exact rfl
    | 12, hd, hne => exact rfl
    | 13, hd, hne => exact rfl
    | 14, hd, hne => exact rfl
    | 15, hd, hne => exact rfl
    | 16, hd, hne => exact rfl
    | 17, hd, hne => exact rfl
    | 18, hd, hne => exact rfl
    | 19, hd, hne => exact rfl
    | 20, hd, hne => exact rfl
    | 21, hd, hne => exact h21 i' hd (fun e => hne ⟨rfl, e⟩)
    | 22, hd, hne => exact rfl
    | n + 23, hd, hne => exact rfl

theorem W2.ploss (h : W2 g A σ ρ x M) (i j : Nat) (hj : j < 8) (v : Int32) : W2 g A σ (ρ.sl i j v) (x) (mset M (A 21 2) (aI .int 64 (upd (fun k => ρ.lo (k / 8) (k % 8)) (8 * i + j) v))) := by
  refine h.put 21 2 (by show 2 ∈ [1, 2, 3, 5, 6, 7, 8, 9, 10, 12, 13, 14, 15, 16, 17, 18]; decide) ?_ (fun _ _ h => h) ?_
  · rw [upd_i8 ρ.lo i j hj v]
    rfl
  · have h21 : ∀ i', i' ∈ [1, 2, 3, 5, 6, 7, 8, 9, 10, 12, 13, 14, 15, 16, 17, 18] → i' ≠ 2 → wcell g A σ (ρ.sl i j v) (x) 21 i' = wcell g A σ ρ x 21 i' := by
      intro i' hm hn
      simp only [List.mem_cons, List.not_mem_nil, or_false] at hm
      rcases hm with rfl | rfl | rfl | rfl | rfl | rfl | rfl | rfl | rfl | rfl | rfl | rfl | rfl | rfl | rfl | rfl <;> first | rfl | exact absurd rfl hn
    intro k' i' hd hne
    match k', hd, hne with
    | 0, hd, hne => exact rfl
    | 1, hd, hne => exact rfl
    | 2, hd, hne => exact rfl
    | 3, hd, hne => exact rfl
    | 4, hd, hne => exact rfl
    | 5, hd, hne => exact rfl
    | 6, hd, hne => exact rfl
    | 7, hd, hne => exact rfl
    | 8, hd, hne => exact rfl
    | 9, hd, hne => exact rfl
    | 10, hd, hne => exact rfl
    | 11, hd, hne => exact rfl
    | 12, hd, hne => exact rfl
    | 13, hd, hne => exact rfl
    | 14, hd, hne => exact rfl
    | 15, hd, hne => exact rfl
    | 16, hd, hne => exact rfl
    | 17, hd, hne => exact rfl
    | 18, hd, hne => exact rfl
    | 19, hd, hne => exact rfl
    | 20, hd, hne => exact rfl
    | 21, hd, hne => exact h21 i' hd (fun e => hne ⟨rfl, e⟩)
    | 22, hd, hne => exact rfl
    | n + 23, hd, hne => exact rfl

theorem W2.pbst (h : W2 g A σ ρ x M) (f : Nat → Int32) : W2 g A σ (ρ) (x.sbst f) (mset M (A 21 3) (aI .int 8 f)) := by
  refine h.put 21 3 (by show 3 ∈ [1, 2, 3, 5, 6, 7, 8, 9, 10, 12, 13, 14, 15, 16, 17, 18]; decide) ?_ (fun _ _ h => h) ?_
  · rfl
  · have h21 : ∀ i', i' ∈ [1, 2, 3, 5, 6, 7, 8, 9, 10, 12, 13, 14, 15, 16, 17, 18] → i' ≠ 3 → wcell g A σ (ρ) (x.sbst f) 21 i' = wcell g A σ ρ x 21 i' := by
      intro i' hm hn
      simp only [List.mem_cons, List.not_mem_nil, or_false] at hm
      rcases hm with rfl | rfl | rfl | rfl | rfl | rfl | rfl | rfl | rfl | rfl | rfl | rfl | rfl | rfl | rfl | rfl <;> first | rfl | exact absurd rfl hn
    intro k' i' hd hne
    match k', hd, hne with
    | 0, hd, hne => exact rfl
    | 1, hd, hne => exact rfl
    | 2, hd, hne => exact rfl
    | 3, hd, hne => exact rfl
    | 4, hd, hne => exact rfl
    | 5, hd, hne => exact rfl
    | 6, hd, hne => exact rfl
    | 7, hd, hne => exact rfl
    | 8, hd, hne => exact rfl
    | 9, hd, hne => exact rfl
    | 10, hd, hne => exact rfl
    | 11, hd, hne => exact rfl
    | 12, hd, hne => exact rfl
    | 13, hd, hne => exact rfl
    | 14, hd, hne => exact rfl
    | 15, hd, hne => exact rfl
    | 16, hd, hne => exact rfl
    | 17, hd, hne => exact rfl
    | 18, hd, hne => exact rfl
    | 19, hd, hne => exact rfl
    | 20, hd, hne => exact rfl
    | 21, hd, hne => exact h21 i' hd (fun e => hne ⟨rfl, e⟩)
    | 22, hd, hne => exact rfl
    | n + 23, hd, hne => exact rfl

theorem W2.prb (h : W2 g A σ ρ x M) (f : Nat → Int32) : W2 g A σ (ρ) (x.srb f) (mset M (A 21 10) (aI .int 100 f)) := by
  refine h.put 21 10 (by show 10 ∈ [1, 2, 3, 5, 6, 7, 8, 9, 10, 12, 13, 14, 15, 16, 17, 18]; decide) ?_ (fun _ _ h => h) ?_
  · rfl
  · have h21 : ∀ i', i' ∈ [1, 2, 3, 5, 6, 7, 8, 9, 10, 12, 13, 14, 15, 16, 17, 18] → i' ≠ 10 → wcell g A σ (ρ) (x.srb f) 21 i' = wcell g A σ ρ x 21 i' := by
      intro i' hm hn
      simp only [List.mem_cons, List.not_mem_nil, or_false] at hm
      rcases hm with rfl | rfl | rfl | rfl | rfl | rfl | rfl | rfl | rfl | rfl | rfl | rfl | rfl | rfl | rfl | rfl <;> first | rfl | exact absurd rfl hn
    intro k' i' hd hne
    match k', hd, hne with
    | 0, hd, hne => exact rfl
    | 1, hd, hne => exact rfl
    | 2, hd, hne => exact rfl
    | 3, hd, hne => exact rfl
    | 4, hd, hne => exact rfl
    | 5, hd, hne => exact rfl
    | 6, hd, hne => exact rfl
    | 7, hd, hne => exact rfl
    | 8, hd, hne => exact rfl
    | 9, hd, hne => exact rfl
    | 10, hd, hne => exact rfl
    | 11, hd, hne => exact rfl
    | 12, hd, hne => exact rfl
    | 13, hd, hne => exact rfl
    | 14, hd, hne => exact rfl
    | 15, hd, hne => exact rfl
    | 16, hd, hne => exact rfl
    | 17, hd, hne => exact rfl
    | 18, hd, hne => exact rfl
    | 19, hd, hne => exact rfl
    | 20, hd, hne => exact rfl
    | 21, hd, hne => exact h21 i' hd (fun e => hne ⟨rfl, e⟩)
    | 22, hd, hne => exact rfl
    | n + 23, hd, hne => exact rfl

theorem W2.pwanted (h : W2 g A σ ρ x M) (j v : Nat) : W2 g A σ (ρ.sa 0 j v) (x) (mset M (A 21 5) (aI .int 10 (upd (fun k => nI (ρ.a 0 k)) j (nI v)))) := by
  refine h.put 21 5 (by show 5 ∈ [1, 2, 3, 5, 6, 7, 8, 9, 10, 12, 13, 14, 15, 16, 17, 18]; decide) ?_ (fun _ _ h => h) ?_
  · show aI .int 10 _ = _
    rw [upd_n, show (ρ.sa 0 j v).a 0 = f1 (ρ.a 0) j v from f2_u]
  · have h21 : ∀ i', i' ∈ [1, 2, 3, 5, 6, 7, 8, 9, 10, 12, 13, 14, 15, 16, 17, 18] → i' ≠ 5 → wcell g A σ (ρ.sa 0 j v) (x) 21 i' = wcell g A σ ρ x 21 i' := by
      intro i' hm hn
      simp only [List.mem_cons, List.not_mem_nil, or_false] at hm
      rcases hm with rfl | rfl | rfl | rfl | rfl | rfl | rfl | rfl | rfl | rfl | rfl | rfl | rfl | rfl | rfl | rfl <;> first | rfl | exact absurd rfl hn
    intro k' i' hd hne
    match k', hd, hne with
    | 0, hd, hne => exact rfl
    | 1, hd, hne => exact rfl
    | 2, hd, hne => exact rfl
    | 3, hd, hne => exact rfl
    | 4, hd, hne => exact rfl
    | 5, hd, hne => exact rfl
    | 6, hd, hne => exact rfl
    | 7, hd, hne => exact rfl
    | 8, hd, hne => exact rfl
    | 9, hd, hne => exact rfl
    | 10, hd, hne => exact rfl
    | 11, hd, hne => exact rfl
    | 12, hd, hne => exact rfl
    | 13, hd, hne => exact rfl
    | 14, hd, hne => exact rfl
    | 15, hd, hne => exact rfl
    | 16, hd, hne => exact rfl
    | 17, hd, hne => exact rfl
    | 18, hd, hne => exact rfl
    | 19, hd, hne => exact rfl
    | 20, hd, hne => exact rfl
    | 21, hd, hne => exact h21 i' hd (fun e => hne ⟨rfl, e⟩)
    | 22, hd, hne => exact rfl
    | n + 23, hd, hne => exact rfl

theorem W2.phad (h : W2 g A σ ρ x M) (j v : Nat) : W2 g A σ (ρ.sa 1 j v) (x) (mset M (A 21 6) (aI .int 10 (upd (fun k => nI (ρ.a 1 k)) j (nI v)))) := by
  refine h.put 21 6 (by show 6 ∈ [1, 2, 3, 5, 6, 7, 8, 9, 10, 12, 13, 14, 15, 16, 17, 18]; decide) ?_ (fun _ _ h => h) ?_
  · show aI .int 10 _ = _
    rw [upd_n, show (ρ.sa 1 j v).a 1 = f1 (ρ.a 1) j v from f2_u]
  · have h21 : ∀ i', i' ∈ [1, 2, 3, 5, 6, 7, 8, 9, 10, 12, 13, 14, 15, 16, 17, 18] → i' ≠ 6 → wcell g A σ (ρ.sa 1 j v) (x) 21 i' = wcell g A σ ρ x 21 i' := by
      intro i' hm hn
      simp only [List.mem_cons, List.not_mem_nil, or_false] at hm
      rcases hm with rfl | rfl | rfl | rfl | rfl | rfl | rfl | rfl | rfl | rfl | rfl | rfl | rfl | rfl | rfl | rfl <;> first | rfl | exact absurd rfl hn
    intro k' i' hd hne
    match k', hd, hne with
    | 0, hd, hne => exact rfl
    | 1, hd, hne => exact rfl
    | 2, hd, hne => exact rfl
    | 3, hd, hne => exact rfl
    | 4, hd, hne => exact rfl
    | 5, hd, hne => exact rfl
    | 6, hd, hne => exact rfl
    | 7, hd, hne => exact rfl
    | 8, hd, hne => exact rfl
    | 9, hd, hne => exact rfl
    | 10, hd, hne => exact rfl
    | 11, hd, hne => exact rfl
    | 12, hd, hne => exact rfl
    | 13, hd, hne => exact rfl
    | 14, hd, hne => exact rfl
    | 15, hd, hne => exact rfl
    | 16, hd, hne => exact rfl
    | 17, hd, hne => exact rfl
    | 18, hd, hne => exact rfl
    | 19, hd, hne => exact rfl
    | 20, hd, hne => exact rfl
    | 21, hd, hne => exact h21 i' hd (fun e => hne ⟨rfl, e⟩)
    | 22, hd, hne => exact rfl
    | n + 23, hd, hne => exact rfl

theorem W2.pformat (h : W2 g A σ ρ x M) (j v : Nat) : W2 g A σ (ρ.sa 2 j v) (x) (mset M (A 21 8) (aI .int 100 (upd (fun k => nI (ρ.a 2 k)) j (nI v)))) := by
  refine h.put 21 8 (by show 8 ∈ [1, 2, 3, 5, 6, 7, 8, 9, 10, 12, 13, 14, 15, 16, 17, 18]; decide) ?_ (fun _ _ h => h) ?_
  · show aI .int 100 _ = _
    rw [upd_n, show (ρ.sa 2 j v).a 2 = f1 (ρ.a 2) j v from f2_u]
  · have h21 : ∀ i', i' ∈ [1, 2, 3, 5, 6, 7, 8, 9, 10, 12, 13, 14, 15, 16, 17, 18] → i' ≠ 8 → wcell g A σ (ρ.sa 2 j v) (x) 21 i' = wcell g A σ ρ x 21 i' := by
      intro i' hm hn
      simp only [List.mem_cons, List.not_mem_nil, or_false] at hm
      rcases hm with rfl | rfl | rfl | rfl | rfl | rfl | rfl | rfl | rfl | rfl | rfl | rfl | rfl | rfl | rfl | rfl <;> first | rfl | exact absurd rfl hn
    intro k' i' hd hne
    match k', hd, hne with
    | 0, hd, hne => exact rfl
    | 1, hd, hne => exact rfl
    | 2, hd, hne => exact rfl
    | 3, hd, hne => exact rfl
    | 4, hd, hne => exact rfl
    | 5, hd, hne => exact rfl
    | 6, hd, hne => exact rfl
    | 7, hd, hne => exact rfl
    | 8, hd, hne => exact rfl
    | 9, hd, hne => exact rfl
    | 10, hd, hne => exact rfl
    | 11, hd, hne => exact rfl
    | 12, hd, hne => exact rfl
    | 13, hd, hne => exact rfl
    | 14, hd, hne => exact rfl
    | 15, hd, hne => exact rfl
    | 16, hd, hne => exact rfl
    | 17, hd, hne => exact rfl
    | 18, hd, hne => exact rfl
    | 19, hd, hne => exact rfl
    | 20, hd, hne => exact rfl
    | 21, hd, hne => exact h21 i' hd (fun e => hne ⟨rfl, e⟩)
    | 22, hd, hne => exact rfl
    | n + 23, hd, hne => exact rfl

theorem W2.punit (h : W2 g A σ ρ x M) (j v : Nat) : W2 g A σ (ρ.sa 3 j v) (x) (mset M (A 21 9) (aI .int 100 (upd (fun k => nI (ρ.a 3 k)) j (nI v)))) := by
  refine h.put 21 9 (by show 9 ∈ [1, 2, 3, 5, 6, 7, 8, 9, 10, 12, 13, 14, 15, 16, 17, 18]; decide) ?_ (fun _ _ h => h) ?_
  · show aI .int 100 _ = _
    rw [upd_n, show (ρ.sa 3 j v).a 3 = f1 (ρ.a 3) j v from f2_u]
  · have h21 : ∀ i', i' ∈ [1, 2, 3, 5, 6, 7, 8, 9, 10, 12, 13, 14, 15, 16, 17, 18] → i' ≠ 9 → wcell g A σ (ρ.sa 3 j v) (x) 21 i' = wcell g A σ ρ x 21 i' := by
      intro i' hm hn
      simp only [List.mem_cons, List.not_mem_nil, or_false] at hm
      rcases hm with rfl | rfl | rfl | rfl | rfl | rfl | rfl | rfl | rfl | rfl | rfl | rfl | rfl | rfl | rfl | rfl <;> first | rfl | exact absurd rfl hn
    intro k' i' hd hne
    match k', hd, hne with
    | 0, hd, hne => exact rfl
    | 1, hd, hne => exact rfl
    | 2, hd, hne => exact rfl
    | 3, hd, hne => exact rfl
    | 4, hd, hne => exact rfl
    | 5, hd, hne => exact rfl
    | 6, hd, hne => exact rfl
    | 7, hd, hne => exact rfl
    | 8, hd, hne => exact rfl
    | 9, hd, hne => exact rfl
    | 10, hd, hne => exact rfl
    | 11, hd, hne => exact rfl
    | 12, hd, hne => exact rfl
    | 13, hd, hne => exact rfl
    | 14, hd, hne => exact rfl
    | 15, hd, hne => exact rfl
    | 16, hd, hne => exact rfl
    | 17, hd, hne => exact rfl
    | 18, hd, hne => exact rfl
    | 19, hd, hne => exact rfl
    | 20, hd, hne => exact rfl
    | 21, hd, hne => exact h21 i' hd (fun e => hne ⟨rfl, e⟩)
    | 22, hd, hne => exact rfl
    | n + 23, hd, hne => exact rfl

theorem W2.pshould (h : W2 g A σ ρ x M) (j v : Nat) : W2 g A σ (ρ.sa 5 j v) (x) (mset M (A 21 15) (aI .int 100 (upd (fun k => nI (ρ.a 5 k)) j (nI v)))) := by
  refine h.put 21 15 (by show 15 ∈ [1, 2, 3, 5, 6, 7, 8, 9, 10, 12, 13, 14, 15, 16, 17, 18]; decide) ?_ (fun _ _ h => h) ?_
  · show aI .int 100 _ = _
    rw [upd_n, show (ρ.sa 5 j v).a 5 = f1 (ρ.a 5) j v from f2_u]
  · have h21 : ∀ i', i' ∈ [1, 2, 3, 5, 6, 7, 8, 9, 10, 12, 13, 14, 15, 16, 17, 18] → i' ≠ 15 → wcell g A σ (ρ.sa 5 j v) (x) 21 i' = wcell g A σ ρ x 21 i' := by
      intro i' hm hn
      simp only [List.mem_cons, List.not_mem_nil, or_false] at hm
      rcases hm with rfl | rfl | rfl | rfl | rfl | rfl | rfl | rfl | rfl | rfl | rfl | rfl | rfl | rfl | rfl | rfl <;> first | rfl | exact absurd rfl hn
    intro k' i' hd hne
    match k', hd, hne with
    | 0, hd, hne => exact rfl
    | 1, hd, hne => exact rfl
    | 2, hd, hne => exact rfl
    | 3, hd, hne => exact rfl
    | 4, hd, hne => exact rfl
    | 5, hd, hne => exact rfl
    | 6, hd, hne => exact rfl
    | 7, hd, hne => exact rfl
    | 8, hd, hne => exact rfl
    | 9, hd, hne => exact rfl
    | 10, hd, hne => exact rfl
    | 11, hd, hne => exact rfl
    | 12, hd, hne => exact rfl
    | 13, hd, hne => exact rfl
    | 14, hd, hne => exact rfl
    | 15, hd, hne => exact rfl
    | 16, hd, hne => exact rfl
    | 17, hd, hne => exact rfl
    | 18, hd, hne => exact rfl
    | 19, hd, hne => exact rfl
    | 20, hd, hne => exact rfl
    | 21, hd, hne => exact h21 i' hd (fun e => hne ⟨rfl, e⟩)
    | 22, hd, hne => exact rfl
    | n + 23, hd, hne => exact rfl

theorem W2.pthere (h : W2 g A σ ρ x M) (j : Nat) (v : Bool) : W2 g A σ (ρ.sb 0 j v) (x) (mset M (A 21 7) (aI .boolean 100 (upd (fun k => bI (ρ.b 0 k)) j (bI v &&& 1)))) := by
  refine h.put 21 7 (by show 7 ∈ [1, 2, 3, 5, 6, 7, 8, 9, 10, 12, 13, 14, 15, 16, 17, 18]; decide) ?_ (fun _ _ h => h) ?_
  · show aI .boolean 100 _ = _
    rw [upd_b, show (ρ.sb 0 j v).b 0 = f1 (ρ.b 0) j v from f2_u]
  · have h21 : ∀ i', i' ∈ [1, 2, 3, 5, 6, 7, 8, 9, 10, 12, 13, 14, 15, 16, 17, 18] → i' ≠ 7 → wcell g A σ (ρ.sb 0 j v) (x) 21 i' = wcell g A σ ρ x 21 i' := by
      intro i' hm hn
      simp only [List.mem_cons, List.not_mem_nil, or_false] at hm
      rcases hm with rfl | rfl | rfl | rfl | rfl | rfl | rfl | rfl | rfl | rfl | rfl | rfl | rfl | rfl | rfl | rfl <;> first | rfl | exact absurd rfl hn
    intro k' i' hd hne
    match k', hd, hne with
    | 0, hd, hne => exact rfl
    | 1, hd, hne => exact rfl
    | 2, hd, hne => exact rfl
    | 3, hd, hne => exact rfl
    | 4, hd, hne => exact rfl
    | 5, hd, hne => exact rfl
    | 6, hd, hne => exact rfl
    | 7, hd, hne => exact rfl
    | 8, hd, hne => exact rfl
    | 9, hd, hne => exact rfl
    | 10, hd, hne => exact rfl
    | 11, hd, hne => exact rfl
    | 12, hd, hne => exact rfl
    | 13, hd, hne => exact rfl
    | 14, hd, hne => exact rfl
    | 15, hd, hne => exact rfl
    | 16, hd, hne => exact rfl
    | 17, hd, hne => exact rfl
    | 18, hd, hne => exact rfl
    | 19, hd, hne => exact rfl
    | 20, hd, hne => exact rfl
    | 21, hd, hne => exact h21 i' hd (fun e => hne ⟨rfl, e⟩)
    | 22, hd, hne => exact rfl
    | n + 23, hd, hne => exact rfl

theorem W2.pisunit (h : W2 g A σ ρ x M) (j : Nat) (v : Bool) : W2 g A σ (ρ.sb 1 j v) (x) (mset M (A 21 12) (aI .boolean 100 (upd (fun k => bI (ρ.b 1 k)) j (bI v &&& 1)))) := by
  refine h.put 21 12 (by show 12 ∈ [1, 2, 3, 5, 6, 7, 8, 9, 10, 12, 13, 14, 15, 16, 17, 18]; decide) ?_ (fun _ _ h => h) ?_
  · show aI .boolean 100 _ = _
    rw [upd_b, show (ρ.sb 1 j v).b 1 = f1 (ρ.b 1) j v from f2_u]
  · have h21 : ∀ i', i' ∈ [1, 2, 3, 5, 6, 7, 8, 9, 10, 12, 13, 14, 15, 16, 17, 18] → i' ≠ 12 → wcell g A σ (ρ.sb 1 j v) (x) 21 i' = wcell g A σ ρ x 21 i' := by
      intro i' hm hn
      simp only [List.mem_cons, List.not_mem_nil, or_false] at hm
      rcases hm with rfl | rfl | rfl | rfl | rfl | rfl | rfl | rfl | rfl | rfl | rfl | rfl | rfl | rfl | rfl | rfl <;> first | rfl | exact absurd rfl hn
    intro k' i' hd hne
    match k', hd, hne with
    | 0, hd, hne => exact rfl
    | 1, hd, hne => exact rfl
    | 2, hd, hne => exact rfl
    | 3, hd, hne => exact rfl
    | 4, hd, hne => exact rfl
    | 5, hd, hne => exact rfl
    | 6, hd, hne => exact rfl
    | 7, hd, hne => exact rfl
    | 8, hd, hne => exact rfl
    | 9, hd, hne => exact rfl
    | 10, hd, hne => exact rfl
    | 11, hd, hne => exact rfl
    | 12, hd, hne => exact rfl
    | 13, hd, hne => exact rfl
    | 14, hd, hne => exact rfl
    | 15, hd, hne => exact rfl
    | 16, hd, hne => exact rfl
    | 17, hd, hne => exact rfl
    | 18, hd, hne => exact rfl
    | 19, hd, hne => exact rfl
    | 20, hd, hne => exact rfl
    | 21, hd, hne => exact h21 i' hd (fun e => hne ⟨rfl, e⟩)
    | 22, hd, hne => exact rfl
    | n + 23, hd, hne => exact rfl

theorem W2.pdiff (h : W2 g A σ ρ x M) (j : Nat) (v : Bool) : W2 g A σ (ρ.sb 2 j v) (x) (mset M (A 21 13) (aI .boolean 100 (upd (fun k => bI (ρ.b 2 k)) j (bI v &&& 1)))) := by
  refine h.put 21 13 (by show 13 ∈ [1, 2, 3, 5, 6, 7, 8, 9, 10, 12, 13, 14, 15, 16, 17, 18]; decide) ?_ (fun _ _ h => h) ?_
  · show aI .boolean 100 _ = _
    rw [upd_b, show (ρ.sb 2 j v).b 2 = f1 (ρ.b 2) j v from f2_u]
  · have h21 : ∀ i', i' ∈ [1, 2, 3, 5, 6, 7, 8, 9, 10, 12, 13, 14, 15, 16, 17, 18] → i' ≠ 13 → wcell g A σ (ρ.sb 2 j v) (x) 21 i' = wcell g A σ ρ x 21 i' := by
      intro i' hm hn
      simp only [List.mem_cons, List.not_mem_nil, or_false] at hm
      rcases hm with rfl | rfl | rfl | rfl | rfl | rfl | rfl | rfl | rfl | rfl | rfl | rfl | rfl | rfl | rfl | rfl <;> first | rfl | exact absurd rfl hn
    intro k' i' hd hne
    match k', hd, hne with
    | 0, hd, hne => exact rfl
    | 1, hd, hne => exact rfl
    | 2, hd, hne => exact rfl
    | 3, hd, hne => exact rfl
    | 4, hd, hne => exact rfl
    | 5, hd, hne => exact rfl
    | 6, hd, hne => exact rfl
    | 7, hd, hne => exact rfl
    | 8, hd, hne => exact rfl
    | 9, hd, hne => exact rfl
    | 10, hd, hne => exact rfl
    | 11, hd, hne => exact rfl
    | 12, hd, hne => exact rfl
    | 13, hd, hne => exact rfl
    | 14, hd, hne => exact rfl
    | 15, hd, hne => exact rfl
    | 16, hd, hne => exact rfl
    | 17, hd, hne => exact rfl
    | 18, hd, hne => exact rfl
    | 19, hd, hne => exact rfl
    | 20, hd, hne => exact rfl
    | 21, hd, hne => exact h21 i' hd (fun e => hne ⟨rfl, e⟩)
    | 22, hd, hne => exact rfl
    | n + 23, hd, hne => exact rfl

theorem W2.pclosed (h : W2 g A σ ρ x M) (j : Nat) (v : Bool) : W2 g A σ (ρ.sb 4 j v) (x) (mset M (A 21 18) (aI .boolean 4 (upd (fun k => bI (ρ.b 4 k)) j (bI v &&& 1)))) := by
  refine h.put 21 18 (by show 18 ∈ [1, 2, 3, 5, 6, 7, 8, 9, 10, 12, 13, 14, 15, 16, 17, 18]; decide) ?_ (fun _ _ h => h) ?_
  · show aI .boolean 4 _ = _
    rw [upd_b, show (ρ.sb 4 j v).b 4 = f1 (ρ.b 4) j v from f2_u]
  · have h21 : ∀ i', i' ∈ [1, 2, 3, 5, 6, 7, 8, 9, 10, 12, 13, 14, 15, 16, 17, 18] → i' ≠ 18 → wcell g A σ (ρ.sb 4 j v) (x) 21 i' = wcell g A σ ρ x 21 i' := by
      intro i' hm hn
      simp only [List.mem_cons, List.not_mem_nil, or_false] at hm
      rcases hm with rfl | rfl | rfl | rfl | rfl | rfl | rfl | rfl | rfl | rfl | rfl | rfl | rfl | rfl | rfl | rfl <;> first | rfl | exact absurd rfl hn
    intro k' i' hd hne
    match k', hd, hne with
    | 0, hd, hne => exact rfl
    | 1, hd, hne => exact rfl
    | 2, hd, hne => exact rfl
    | 3, hd, hne => exact rfl
    | 4, hd, hne => exact rfl
    | 5, hd, hne => exact rfl
    | 6, hd, hne => exact rfl
    | 7, hd, hne => exact rfl
    | 8, hd, hne => exact rfl
    | 9, hd, hne => exact rfl
    | 10, hd, hne => exact rfl
    | 11, hd, hne => exact rfl
    | 12, hd, hne => exact rfl
    | 13, hd, hne => exact rfl
    | 14, hd, hne => exact rfl
    | 15, hd, hne => exact rfl
    | 16, hd, hne => exact rfl
    | 17, hd, hne => exact rfl
    | 18, hd, hne => exact rfl
    | 19, hd, hne => exact rfl
    | 20, hd, hne => exact rfl
    | 21, hd, hne => exact h21 i' hd (fun e => hne ⟨rfl, e⟩)
    | 22, hd, hne => exact rfl
    | n + 23, hd, hne => exact rfl

theorem W2.pvalue (h : W2 g A σ ρ x M) (j : Nat) (v : Int32) : W2 g A σ (ρ.si 2 j v) (x) (mset M (A 21 14) (aI .int 100 (upd (ρ.i 2) j v))) := by
  refine h.put 21 14 (by show 14 ∈ [1, 2, 3, 5, 6, 7, 8, 9, 10, 12, 13, 14, 15, 16, 17, 18]; decide) ?_ (fun _ _ h => h) ?_
  · show aI .int 100 _ = _
    rw [show (ρ.si 2 j v).i 2 = f1 (ρ.i 2) j v from f2_u]
    rfl
  · have h21 : ∀ i', i' ∈ [1, 2, 3, 5, 6, 7, 8, 9, 10, 12, 13, 14, 15, 16, 17, 18] → i' ≠ 14 → wcell g A σ (ρ.si 2 j v) (x) 21 i' = wcell g A σ ρ x 21 i' := by
      intro i' hm hn
      simp only [List.mem_cons, List.not_mem_nil, or_false] at hm
      rcases hm with rfl | rfl | rfl | rfl | rfl | rfl | rfl | rfl | rfl | rfl | rfl | rfl | rfl | rfl | rfl | rfl <;> first | rfl | exact absurd rfl hn
    intro k' i' hd hne
    match k', hd, hne with
    | 0, hd, hne => exact rfl
    | 1, hd, hne => exact rfl
    | 2, hd, hne => exact rfl
    | 3, hd, hne => exact rfl
    | 4, hd, hne => exact rfl
    | 5, hd, hne => exact rfl
    | 6, hd, hne => exact rfl
    | 7, hd, hne => exact rfl
    | 8, hd, hne => exact rfl
    | 9, hd, hne => exact rfl
    | 10, hd, hne => exact rfl
    | 11, hd, hne => exact rfl
    | 12, hd, hne => exact rfl
    | 13, hd, hne => exact rfl
    | 14, hd, hne => exact rfl
    | 15, hd, hne => exact rfl
    | 16, hd, hne => exact rfl
    | 17, hd, hne => exact rfl
    | 18, hd, hne => exact rfl
    | 19, hd, hne => exact rfl
    | 20, hd, hne => exact rfl
    | 21, hd, hne => exact h21 i' hd (fun e => hne ⟨rfl, e⟩)
    | 22, hd, hne => exact rfl
    | n + 23, hd, hne => exact rfl

theorem W2.pcopy (h : W2 g A σ ρ x M) (u s : Nat) (hs : s < 4) (v : Bool) : W2 g A σ (ρ.sc u s v) (x) (mset M (A 21 16) (aI .boolean 400 (upd (fun k => bI (ρ.cp (k / 4) (k % 4))) (4 * u + s) (bI v &&& 1)))) := by
  refine h.put 21 16 (by show 16 ∈ [1, 2, 3, 5, 6, 7, 8, 9, 10, 12, 13, 14, 15, 16, 17, 18]; decide) ?_ (fun _ _ h => h) ?_
  · rw [upd_b4 ρ.cp u s hs v]
    rfl
  · have h21 : ∀ i', i' ∈ [1, 2, 3, 5, 6, 7, 8, 9, 10, 12, 13, 14, 15, 16, 17, 18] → i' ≠ 16 → wcell g A σ (ρ.sc u s v) (x) 21 i' = wcell g A σ ρ x 21 i' := by
      intro i' hm hn
      simp only [List.mem_cons, List.not_mem_nil, or_false] at hm
      rcases hm with rfl | rfl | rfl | rfl | rfl | rfl | rfl | rfl | rfl | rfl | rfl | rfl | rfl | rfl | rfl | rfl <;> first | rfl | exact absurd rfl hn
    intro k' i' hd hne
    match k', hd, hne with
    | 0, hd, hne => exact rfl
    | 1, hd, hne => exact rfl
    | 2, hd, hne => exact rfl
    | 3, hd, hne => exact rfl
    | 4, hd, hne => exact rfl
    | 5, hd, hne => exact rfl
    | 6, hd, hne => exact rfl
    | 7, hd, hne => exact rfl
    | 8, hd, hne => exact rfl
    | 9, hd, hne => exact rfl
    | 10, hd, hne => exact rfl
    | 11, hd, hne => exact rfl
    | 12, hd, hne => exact rfl
    | 13, hd, hne => exact rfl
    | 14, hd, hne => exact rfl
    | 15, hd, hne => exact rfl
    | 16, hd, hne => exact rfl
    | 17, hd, hne => exact rfl
    | 18, hd, hne => exact rfl
    | 19, hd, hne => exact rfl
    | 20, hd, hne => exact rfl
    | 21, hd, hne => exact h21 i' hd (fun e => hne ⟨rfl, e⟩)
    | 22, hd, hne => exact rfl
    | n + 23, hd, hne => exact rfl

theorem W2.phas (h : W2 g A σ ρ x M) (u s : Nat) (hs : s < 4) (v : Int32) : W2 g A σ (ρ.sh u s v) (x) (mset M (A 21 17) (aI .int 400 (upd (fun k => ρ.hs (k / 4) (k % 4)) (4 * u + s) v))) := by
  refine h.put 21 17 (by show 17 ∈ [1, 2, 3, 5, 6, 7, 8, 9, 10, 12, 13, 14, 15, 16, 17, 18]; decide) ?_ (fun _ _ h => h) ?_
  · rw [upd_i4 ρ.hs u s hs v]
    rfl
  · have h21 : ∀ i', i' ∈ [1, 2, 3, 5, 6, 7, 8, 9, 10, 12, 13, 14, 15, 16, 17, 18] → i' ≠ 17 → wcell g A σ (ρ.sh u s v) (x) 21 i' = wcell g A σ ρ x 21 i' := by
      intro i' hm hn
      simp only [List.mem_cons, List.not_mem_nil, or_false] at hm
      rcases hm with rfl | rfl | rfl | rfl | rfl | rfl | rfl | rfl | rfl | rfl | rfl | rfl | rfl | rfl | rfl | rfl <;> first | rfl | exact absurd rfl hn
    intro k' i' hd hne
    match k', hd, hne with
    | 0, hd, hne => exact rfl
    | 1, hd, hne => exact rfl
    | 2, hd, hne => exact rfl
    | 3, hd, hne => exact rfl
    | 4, hd, hne => exact rfl
    | 5, hd, hne => exact rfl
    | 6, hd, hne => exact rfl
    | 7, hd, hne => exact rfl
    | 8, hd, hne => exact rfl
    | 9, hd, hne => exact rfl
    | 10, hd, hne => exact rfl
    | 11, hd, hne => exact rfl
    | 12, hd, hne => exact rfl
    | 13, hd, hne => exact rfl
    | 14, hd, hne => exact rfl
    | 15, hd, hne => exact rfl
    | 16, hd, hne => exact rfl
    | 17, hd, hne => exact rfl
    | 18, hd, hne => exact rfl
    | 19, hd, hne => exact rfl
    | 20, hd, hne => exact rfl
    | 21, hd, hne => exact h21 i' hd (fun e => hne ⟨rfl, e⟩)
    | 22, hd, hne => exact rfl
    | n + 23, hd, hne => exact rfl

end REFW
