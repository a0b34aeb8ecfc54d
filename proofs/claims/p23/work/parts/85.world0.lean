/-! the world behind the constructor -/
def st0 : ST := (fun _ => 0, fun _ _ => 0, fun _ _ => 0, fun _ _ => false, fun _ _ => 0, fun i _ => if i < 8 then -1 else 0, fun _ _ => false)
def xt0 : XT := (fun _ => 0, fun _ _ => 0)
theorem ldn_0 (s : Nat) : ∀ n, ldn st0 s n = 0
  | 0 => rfl
  | n + 1 => by
    unfold ldn
    rw [ldn_0 s n, if_neg (fun h => by cases (show false = true from h))]
theorem inv_0 : INV 2000000 st0 := ⟨⟨⟨Nat.zero_le _, Nat.zero_le _⟩, fun o ho => absurd ho (Nat.not_lt_zero o), fun v hv => absurd hv.1 (Nat.not_lt_zero _), fun v hv => (by cases (show false = true from hv))⟩, ⟨Nat.zero_le _, fun i j hi _ => Or.inl (if_pos hi)⟩, ⟨Or.inr rfl, Nat.zero_le _, Or.inr rfl, Nat.zero_le _, fun o ho => absurd ho (Nat.not_lt_zero o)⟩,
  fun u w hu => absurd hu (Nat.not_lt_zero u), fun s _ => (ldn_0 s 100).symm, fun u s h => (by cases (show false = true from h)), fun o ho => absurd ho (Nat.not_lt_zero o), fun v hv => absurd hv.1 (Nat.not_lt_zero _), ⟨fun _ => Nat.two_pow_pos 30, fun _ => Nat.two_pow_pos 30, Nat.zero_le _⟩,
  fun _ _ _ => ⟨rfl, rfl⟩, fun _ _ => rfl, fun v hv => absurd hv.1 (Nat.not_lt_zero _), fun v hv => absurd hv.1 (Nat.not_lt_zero _), fun u hu => absurd hu (Nat.not_lt_zero u), fun u hu => absurd hu (Nat.not_lt_zero u), Nat.zero_le _, fun _ _ => rfl⟩
theorem inj_nd {α : Type} {F : α → Nat} : ∀ (l : List α), (l.map F).Nodup → ∀ x, x ∈ l → ∀ y, y ∈ l → F x = F y → x = y
  | [], _, x, hx, _, _, _ => (List.not_mem_nil hx).elim
  | z :: l, h, x, hx, y, hy, e => by
    rw [List.map_cons, List.nodup_cons] at h
    rcases List.mem_cons.mp hx with hx | hx
    · rcases List.mem_cons.mp hy with hy | hy
      · rw [hx, hy]
      · rw [hx] at e
        exact absurd (List.mem_map.mpr ⟨y, hy, e.symm⟩) h.1
    · rcases List.mem_cons.mp hy with hy | hy
      · rw [hy] at e
        exact absurd (List.mem_map.mpr ⟨x, hx, e⟩) h.1
      · exact inj_nd l h.2 x hx y hy e
def wA (a f p q r' s u c o ol y0 y1 y2 y3 y4 : Nat) : Nat → Nat → Nat := fun k i => match k with | 0 => a | 1 => f | 2 => p | 3 => q | 4 => r' | 5 => q + 1 + i | 6 => s | 7 => u | 9 => c | 10 => o | 11 => ol | _ => match i with | 0 => y0 | 1 => y1 | 2 => y2 | 3 => y3 | _ => y4
def wKs : List (Nat × Nat) := [(20, 4), (20, 3), (20, 2), (20, 1), (20, 0), (11, 0), (10, 0), (9, 0), (7, 0), (6, 0), (4, 0), (3, 0), (5, 7), (5, 6), (5, 5), (5, 4), (5, 3), (5, 2), (5, 1), (5, 0), (2, 0), (1, 0), (0, 0)]
def wL (g : GG) (a f p q r' s u c o ol y0 y1 y2 y3 y4 : Nat) : List (Nat × GE) := (y4, zI 60) :: (y3, zI 5) :: (y2, zI 12) :: (y1, zI 14) :: (y0, zI 60) :: (hlL g f p q r' s u c o ol ++ [(a, ob 6 [.ref f, .ref s, .ref ol])])
theorem wKs_in {k i : Nat} (hd : wdom st0 k i) : (k, i) ∈ wKs := by
  match k, hd with
  | 0, hd =>
    have e : i = 0 := hd.2
    rw [e]
    exact List.mem_of_getElem? (i := 22) rfl
  | 1, hd =>
    have e : i = 0 := hd.2
    rw [e]
    exact List.mem_of_getElem? (i := 21) rfl
  | 2, hd =>
    have e : i = 0 := hd.2
    rw [e]
    exact List.mem_of_getElem? (i := 20) rfl
  | 3, hd =>
    have e : i = 0 := hd.2
    rw [e]
    exact List.mem_of_getElem? (i := 11) rfl
  | 4, hd =>
    have e : i = 0 := hd.2
    rw [e]
    exact List.mem_of_getElem? (i := 10) rfl
  | 5, hd =>
    have hd : i < 8 := hd
    match i, hd with
    | 0, _ => exact List.mem_of_getElem? (i := 19) rfl
    | 1, _ => exact List.mem_of_getElem? (i := 18) rfl
    | 2, _ => exact List.mem_of_getElem? (i := 17) rfl
    | 3, _ => exact List.mem_of_getElem? (i := 16) rfl
    | 4, _ => exact List.mem_of_getElem? (i := 15) rfl
    | 5, _ => exact List.mem_of_getElem? (i := 14) rfl
    | 6, _ => exact List.mem_of_getElem? (i := 13) rfl
    | 7, _ => exact List.mem_of_getElem? (i := 12) rfl
    | n + 8, hd => exact absurd hd (by omega)
  | 6, hd =>
    have e : i = 0 := hd.2
    rw [e]
    exact List.mem_of_getElem? (i := 9) rfl
  | 7, hd =>
    have e : i = 0 := hd.2
    rw [e]
    exact List.mem_of_getElem? (i := 8) rfl
  | 8, hd => exact absurd hd.2 (Nat.not_lt_zero _)
  | 9, hd =>
    have e : i = 0 := hd.2
    rw [e]
    exact List.mem_of_getElem? (i := 7) rfl
  | 10, hd =>
    have e : i = 0 := hd.2
    rw [e]
    exact List.mem_of_getElem? (i := 6) rfl
  | 11, hd =>
    have e : i = 0 := hd.2
    rw [e]
    exact List.mem_of_getElem? (i := 5) rfl
  | 12, hd => exact absurd hd.2 (Nat.not_lt_zero _)
  | 13, hd => exact absurd hd (Nat.not_lt_zero _)
  | 14, hd => exact absurd hd (Nat.not_lt_zero _)
  | 15, hd => exact absurd hd (Nat.not_lt_zero _)
  | 16, hd => exact absurd hd (Nat.not_lt_zero _)
  | 17, hd => exact absurd hd (Nat.not_lt_zero _)
  | 18, hd => exact absurd hd (Nat.not_lt_zero _)
  | 19, hd => exact absurd hd.1 (Nat.not_lt_zero _)
  | 20, hd =>
    have hd : i < 5 := hd
    match i, hd with
    | 0, _ => exact List.mem_of_getElem? (i := 4) rfl
    | 1, _ => exact List.mem_of_getElem? (i := 3) rfl
    | 2, _ => exact List.mem_of_getElem? (i := 2) rfl
    | 3, _ => exact List.mem_of_getElem? (i := 1) rfl
    | 4, _ => exact List.mem_of_getElem? (i := 0) rfl
    | n + 5, hd => exact absurd hd (by omega)
  | n + 21, hd => exact absurd hd.1 (by omega)
theorem cost_0 {i : Nat} (hi : i < 8) : (fun j => costOf (st0.lo i j)) = fun _ => 0 := funext fun j => by
  show costOf (if i < 8 then (-1 : Int32) else 0) = 0
  rw [if_pos hi]
  rfl
theorem m1_0 : nI 0 - 1 = (-1 : Int32) := by decide
theorem world_0 (g : GG) {a f p q r' s u c o ol y0 y1 y2 y3 y4 : Nat} {ch : Nat → Prop} {M0 M : Mem} (h : INI ch M0 (wL g a f p q r' s u c o ol y0 y1 y2 y3 y4) M) : W2 g (wA a f p q r' s u c o ol y0 y1 y2 y3 y4) st0 st0 xt0 M := by
  have hM : ∀ (j : Nat) (y : Nat × GE), (wL g a f p q r' s u c o ol y0 y1 y2 y3 y4)[j]? = some y → M y.1 = some y.2 := fun j y hy => h.2.2.1 y (List.mem_of_getElem? hy)
  have hnd : (wKs.map (fun k => wA a f p q r' s u c o ol y0 y1 y2 y3 y4 k.1 k.2)).Nodup := h.1
  refine ⟨fun k i hd => ?_, fun k i k' i' hd hd' e => ?_⟩
  · match k, hd with
    | 0, hd =>
      have e : i = 0 := hd.2
      rw [e]
      exact hM 22 _ rfl
    | 1, hd =>
      have e : i = 0 := hd.2
      rw [e]
      exact hM 21 _ rfl
    | 2, hd =>
      have e : i = 0 := hd.2
      rw [e]
      exact hM 20 _ rfl
    | 3, hd =>
      have e : i = 0 := hd.2
      rw [e]
      exact hM 11 _ rfl
    | 4, hd =>
      have e : i = 0 := hd.2
      rw [e]
      exact hM 10 _ rfl
    | 5, hd =>
      have hd : i < 8 := hd
      show M (q + 1 + i) = some (aI .int 8 (fun j => costOf (st0.lo i j)))
      rw [cost_0 hd]
      match i, hd with
      | 0, _ => exact hM 19 _ rfl
      | 1, _ => exact hM 18 _ rfl
      | 2, _ => exact hM 17 _ rfl
      | 3, _ => exact hM 16 _ rfl
      | 4, _ => exact hM 15 _ rfl
      | 5, _ => exact hM 14 _ rfl
      | 6, _ => exact hM 13 _ rfl
      | 7, _ => exact hM 12 _ rfl
      | n + 8, hd => exact absurd hd (by omega)
    | 6, hd =>
      have e : i = 0 := hd.2
      rw [e]
      show M s = some (ob 3 [.ref u, .ref c, .ref o, .int (nI 0 - 1)])
      rw [m1_0]
      exact hM 9 _ rfl
    | 7, hd =>
      have e : i = 0 := hd.2
      rw [e]
      exact hM 8 _ rfl
    | 8, hd => exact absurd hd.2 (Nat.not_lt_zero _)
    | 9, hd =>
      have e : i = 0 := hd.2
      rw [e]
      exact hM 7 _ rfl
    | 10, hd =>
      have e : i = 0 := hd.2
      rw [e]
      exact hM 6 _ rfl
    | 11, hd =>
      have e : i = 0 := hd.2
      rw [e]
      exact hM 5 _ rfl
    | 12, hd => exact absurd hd.2 (Nat.not_lt_zero _)
    | 13, hd => exact absurd hd (Nat.not_lt_zero _)
    | 14, hd => exact absurd hd (Nat.not_lt_zero _)
    | 15, hd => exact absurd hd (Nat.not_lt_zero _)
    | 16, hd => exact absurd hd (Nat.not_lt_zero _)
    | 17, hd => exact absurd hd (Nat.not_lt_zero _)
    | 18, hd => exact absurd hd (Nat.not_lt_zero _)
    | 19, hd => exact absurd hd.1 (Nat.not_lt_zero _)
    | 20, hd =>
      have hd : i < 5 := hd
      match i, hd with
      | 0, _ => exact hM 4 _ rfl
      | 1, _ => exact hM 3 _ rfl
      | 2, _ => exact hM 2 _ rfl
      | 3, _ => exact hM 1 _ rfl
      | 4, _ => exact hM 0 _ rfl
      | n + 5, hd => exact absurd hd (by omega)
    | n + 21, hd => exact absurd hd.1 (by omega)
  · have k9 := inj_nd wKs hnd (k, i) (wKs_in hd) (k', i') (wKs_in hd') e
    exact ⟨congrArg Prod.fst k9, congrArg Prod.snd k9⟩
theorem pi_0 : PI st0 false false := ⟨fun _ => Nat.zero_le _, fun o ho => absurd ho (Nat.not_lt_zero o), fun _ _ _ _ => rfl, fun _ _ _ _ => rfl, fun _ _ _ _ h => (by cases (show false = true from h)), fun _ => ⟨fun _ _ => rfl, fun u hu => absurd hu (Nat.not_lt_zero u)⟩⟩
theorem lr_0 : LR st0 (fun _ _ => 0) false false := ⟨Nat.zero_le _, ⟨rfl, rfl, by decide, rfl, rfl⟩, fun f hf => absurd hf (Nat.not_lt_zero f), fun o ho => absurd ho (Nat.not_lt_zero o), fun v hv => absurd hv.1 (Nat.not_lt_zero _)⟩
theorem le_0 : LE st0 (fun _ _ => 0) 1000 := fun _ h => (by cases (show false = true from h))
