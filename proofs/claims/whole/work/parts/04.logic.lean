/-! A logic of memories over the kit's rows: 'tri' is W over every heap that holds the memory M (address to cell). -/
-- words that warm over
def gt_w : Cond → Bool
  | .castable .. => true
  | .declares _ => true
  | .fieldLinkNest .. => true
  | .methodLinkNest .. => true
  | w => goodWord w
def GT : List Cond := lw_tbl.filter gt_w
theorem gt_at {args a' : Array Value} {s U : State} {w : Cond} (hW : s.WarmedH U.vm) (hw : gt_w w = true) (h : w.before args s = true) : w.before a' U = true := by
  by_cases hg : goodWord w = true
  · exact word_at hW (good_of_word hg) h
  · cases w <;> first
      | exact va_Nw.use rfl (va_Nw.warmC hW (va_Nw.of rfl h))
      | exact va_Nw.use rfl (va_Nw.warmD hW (va_Nw.of rfl h))
      | exact va_Nw.use rfl (va_Nw.warmF hW (va_Nw.of rfl h))
      | exact va_Nw.use rfl (va_Nw.warmM hW (va_Nw.of rfl h))
      | exact absurd hw hg
theorem gt_in (i : Nat) {w : Cond} (h : lw_tbl[i]? = some w) (hg : gt_w w = true) : w ∈ GT := List.mem_filter.mpr ⟨List.mem_of_getElem? h, hg⟩
theorem gt_mem {w : Cond} (h : w ∈ GT) : gt_w w = true := (List.mem_filter.mp h).2
-- memories
abbrev GE : Type := (FieldType × vp_A) ⊕ (Nat × List Value)
abbrev Mem : Type := Nat → Option GE
abbrev aI (ty : FieldType) (n : Nat) (f : Nat → Int32) : GE := .inl (ty, n, .inl f)
abbrev aJ (n : Nat) (f : Nat → Int64) : GE := .inl (.long, n, .inr (.inl f))
abbrev aQ (ty : FieldType) (n : Nat) (f : Nat → Option Nat) : GE := .inl (ty, n, .inr (.inr (.inr (.inr f))))
abbrev ob (ci : Nat) (fs : List Value) : GE := .inr (ci, fs)
def mset (M : Mem) (a : Nat) (e : GE) : Mem := fun q => if q = a then some e else M q
theorem mset_eq {M : Mem} {a : Nat} {e : GE} : mset M a e a = some e := if_pos rfl
theorem mset_ne {M : Mem} {a b : Nat} {e : GE} (h : b ≠ a) : mset M a e b = M b := if_neg h
/-- launch, first own address, class numbers, the empty list's row, the script: address, length, ints -/
abbrev GG : Type := Launch × Nat × va_G × Nat × Nat × Nat × (Nat → Int32)
abbrev GG.l (g : GG) : Launch := g.1
abbrev GG.B (g : GG) : Nat := g.2.1
abbrev GG.D (g : GG) : va_G := g.2.2.1
abbrev GG.E (g : GG) : Nat := g.2.2.2.1
abbrev GG.b (g : GG) : Nat := g.2.2.2.2.1
abbrev GG.L (g : GG) : Nat := g.2.2.2.2.2.1
abbrev GG.xs (g : GG) : Nat → Int32 := g.2.2.2.2.2.2
abbrev GG.A (g : GG) : Nat → Prop := fun q => g.B ≤ q
def gcell (g : GG) (U : State) (q : Nat) (e : GE) (H : Heap) : Prop := match e with
  | .inl (ty, a) => ∃ cA : ClassId, (ArrOfT U cA ty ∧ va_RA U cA ty) ∧ H[q]? = some (vp_cell cA a)
  | .inr o => va_at g.D vwCl (q, .inr o) H
def rep (g : GG) (U : State) (M : Mem) (H : Heap) : Prop := ∀ (q : Nat) (e : GE), M q = some e → g.B ≤ q ∧ gcell g U q e H
theorem gcell.lt {g : GG} {U : State} {q : Nat} {e : GE} {H : Heap} (h : gcell g U q e H) : q < H.size := by
  rcases e with ⟨ty, a⟩ | o
  · obtain ⟨cA, -, h⟩ := h
    exact (Array.getElem?_eq_some_iff.mp h).1
  · exact va_at.lt h
theorem gcell.kept {g : GG} {U : State} {q : Nat} {e : GE} {H H1 : Heap} (h : gcell g U q e H) (hq : H1[q]? = H[q]?) : gcell g U q e H1 := by
  rcases e with ⟨ty, a⟩ | o
  · obtain ⟨cA, h0, h⟩ := h
    exact ⟨cA, h0, hq.trans h⟩
  · exact va_at.kept h hq
theorem gcell.moved {g : GG} {u U : State} {q : Nat} {e : GE} {H : Heap} (hvm : u.vm.Alike U.vm) (h : gcell g u q e H) : gcell g U q e H := by
  rcases e with ⟨ty, a⟩ | o
  · obtain ⟨cA, h0, h⟩ := h
    exact ⟨cA, ⟨arrOfT_moved hvm h0.1, h0.2.moved hvm⟩, h⟩
  · exact h
theorem rep.moved {g : GG} {u U : State} {M : Mem} {H : Heap} (hvm : u.vm.Alike U.vm) (h : rep g u M H) : rep g U M H := fun q e hq => ⟨(h q e hq).1, (h q e hq).2.moved hvm⟩
theorem rep.sub {g : GG} {U : State} {M M' : Mem} {H : Heap} (h : rep g U M H) (hs : ∀ q e, M' q = some e → M q = some e) : rep g U M' H := fun q e hq => h q e (hs q e hq)
theorem rep.set {g : GG} {U : State} {M : Mem} {H H1 : Heap} {a : Nat} {e : GE} (h : rep g U M H) (ha : g.B ≤ a) (he : gcell g U a e H1) (hk : ∀ q, q ≠ a → H1[q]? = H[q]?) : rep g U (mset M a e) H1 := by
  intro q e' hq
  by_cases hqa : q = a
  · subst hqa
    rw [mset_eq] at hq
    cases hq
    exact ⟨ha, he⟩
  · rw [mset_ne hqa] at hq
    exact ⟨(h q e' hq).1, (h q e' hq).2.kept (hk q hqa)⟩
theorem rep.fresh {g : GG} {U : State} {M : Mem} {H : Heap} (h : rep g U M H) : M H.size = none := by
  cases hq : M H.size with
  | none => rfl
  | some e => exact absurd (h _ _ hq).2.lt (Nat.lt_irrefl _)
-- the constants of the start: none of them is an own cell
def strs : List (String × Nat × String) := []
def gctx (g : GG) (U : State) (H : Heap) : Prop :=
  (g.B ≤ H.size ∧ g.l.stackTraces = false) ∧ va_K g.D vwCl [] U ∧ (vx_Zq Bundle.tN "UNASSIGNED_STACK" Bundle.steD g.A U H ∧ vx_Zq Bundle.tN "SUPPRESSED_SENTINEL" Bundle.listD g.A U H) ∧
  (∀ q ∈ strs, ∃ sa, vk_R q.1 q.2.1 q.2.2 sa U) ∧ (va_Z "java/util/ArrayList" "DEFAULTCAPACITY_EMPTY_ELEMENTDATA" "[Ljava/lang/Object;" (.ref g.E) g.A U H ∧ va_T (.object "java/lang/Object") g.E 0 (fun _ => .null) g.A U H) ∧
  (va_AO "java/lang/Object" U ∧ (Cond.arrayOver (.array .int)).before #[] U = true) ∧ (va_X g.b g.L g.xs U H ∧ g.b < g.B)
