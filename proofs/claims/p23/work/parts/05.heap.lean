/-! more rules: conditions, longs, fields, arrays, makings -/
def cok (ci : Nat) (C : String) (T : u_T) (N : Nat) (ty : Nat → FieldType) : Prop := vwCl[ci]? = some (C, T, N) ∧ (∀ w ∈ u_ws C T N, w ∈ GT) ∧ (∀ k, k < N → parseFieldDescriptor (T k).2.2.1 = some (ty k)) ∧ ∀ a, a < N → ∀ b, b < N → a ≠ b → (T a).2.1 ≠ (T b).2.1
/-- an entry of own's pool that finds the field (T k) -/
def lkf (own : String) (idx : Nat) (q : String × String × String × Bool) : Prop := ∃ ref, Cond.fieldLink own idx ref q.2.1 q.2.2.1 ∈ GT ∧ (ref = q.1 ∨ Cond.sameField ref q.1 q.2.1 q.2.2.1 ∈ GT)
theorem lkf.use {own : String} {idx : Nat} {q : String × String × String × Bool} {args : Array Value} {s : State} (h : lkf own idx q) (hts : ∀ w ∈ GT, w.before args s = true) : ∃ ref, (Cond.fieldLink own idx ref q.2.1 q.2.2.1).before args s = true ∧ ∀ x, s.fieldFound? q.1 q.2.1 q.2.2.1 = some x → s.fieldFound? ref q.2.1 q.2.2.1 = some x := by
  obtain ⟨ref, h1, h2⟩ := h
  refine ⟨ref, hts _ h1, fun x hx => ?_⟩
  rcases h2 with h2 | h2
  · rw [h2]; exact hx
  · exact u_same (hts _ h2) x hx
def flk (own : String) (idx ci k : Nat) : Prop := ∃ (C : String) (T : u_T) (N : Nat) (ty : Nat → FieldType), cok ci C T N ty ∧ k < N ∧ (lkf own idx (T k) ∨ ∃ host, Cond.fieldLinkNest own idx (T k).1 (T k).2.1 (T k).2.2.1 host ∈ GT)
/-- a field that may be written: not final, or final in its own class's constructor -/
def flw (own : String) (idx ci k : Nat) (nm : String) (t0 : FieldType) : Prop := ∃ (C : String) (T : u_T) (N : Nat) (ty : Nat → FieldType), cok ci C T N ty ∧ k < N ∧ lkf own idx (T k) ∧ ty k = t0 ∧ ((T k).2.2.2 = false ∨ ((T k).2.2.2 = true ∧ (T k).1 = own ∧ nm = "<init>"))
/-- a class that may be made here -/
def nwk (own : String) (idx ci : Nat) (fs : List Value) (n : Nat) : Prop := ∃ (C : String) (T : u_T) (ty : Nat → FieldType), cok ci C T n ty ∧ Cond.classLink own idx C ∈ GT ∧ Cond.instantiable C n ∈ GT ∧ Cond.initialized C ∈ GT ∧ ∀ j, j < n → defaultValue (ty j) = vp_V fs j
section RULES2
variable {g : GG} {d : MD} {bk bn : Nat} {P : PO} {M : Mem} {pc : Nat} {ls : List (Nat × Value)} {st : List Value}
theorem z_if_eq {x : Int32} {off : Int} {tgt : Nat} (hd : decode d.cc pc = .ok (.ifCond .eq off, 3)) (ht : (pc : Int) + off = (tgt : Int)) (kt : x = 0 → tri g d bk bn P M tgt ls st) (kf : ¬ (x = 0) → tri g d bk bn P M (pc + 3) ls st) : tri g d bk bn P M pc ls (.int x :: st) := by
  intro p e R s m args below meth c H locs cells slots lsA hb hc hS hr hl
  exact lv_if_eq hb.1.1 hb.1.2 hd ht (fun q => kt q p e R s m args below meth c H locs cells slots lsA hb hc hS hr hl) (fun q => kf q p e R s m args below meth c H locs cells slots lsA hb hc hS hr hl)
theorem z_if_ne {x : Int32} {off : Int} {tgt : Nat} (hd : decode d.cc pc = .ok (.ifCond .ne off, 3)) (ht : (pc : Int) + off = (tgt : Int)) (kt : ¬ x = 0 → tri g d bk bn P M tgt ls st) (kf : x = 0 → tri g d bk bn P M (pc + 3) ls st) : tri g d bk bn P M pc ls (.int x :: st) := by
  intro p e R s m args below meth c H locs cells slots lsA hb hc hS hr hl
  exact lv_if_ne hb.1.1 hb.1.2 hd ht (fun q => kt q p e R s m args below meth c H locs cells slots lsA hb hc hS hr hl) (fun q => kf q p e R s m args below meth c H locs cells slots lsA hb hc hS hr hl)
theorem z_if_lt {x : Int32} {off : Int} {tgt : Nat} (hd : decode d.cc pc = .ok (.ifCond .lt off, 3)) (ht : (pc : Int) + off = (tgt : Int)) (kt : x < 0 → tri g d bk bn P M tgt ls st) (kf : ¬ (x < 0) → tri g d bk bn P M (pc + 3) ls st) : tri g d bk bn P M pc ls (.int x :: st) := by
  intro p e R s m args below meth c H locs cells slots lsA hb hc hS hr hl
  exact lv_if_lt hb.1.1 hb.1.2 hd ht (fun q => kt q p e R s m args below meth c H locs cells slots lsA hb hc hS hr hl) (fun q => kf q p e R s m args below meth c H locs cells slots lsA hb hc hS hr hl)
theorem z_if_ge {x : Int32} {off : Int} {tgt : Nat} (hd : decode d.cc pc = .ok (.ifCond .ge off, 3)) (ht : (pc : Int) + off = (tgt : Int)) (kt : 0 ≤ x → tri g d bk bn P M tgt ls st) (kf : ¬ (0 ≤ x) → tri g d bk bn P M (pc + 3) ls st) : tri g d bk bn P M pc ls (.int x :: st) := by
  intro p e R s m args below meth c H locs cells slots lsA hb hc hS hr hl
  exact lv_if_ge hb.1.1 hb.1.2 hd ht (fun q => kt q p e R s m args below meth c H locs cells slots lsA hb hc hS hr hl) (fun q => kf q p e R s m args below meth c H locs cells slots lsA hb hc hS hr hl)
theorem z_if_gt {x : Int32} {off : Int} {tgt : Nat} (hd : decode d.cc pc = .ok (.ifCond .gt off, 3)) (ht : (pc : Int) + off = (tgt : Int)) (kt : 0 < x → tri g d bk bn P M tgt ls st) (kf : ¬ (0 < x) → tri g d bk bn P M (pc + 3) ls st) : tri g d bk bn P M pc ls (.int x :: st) := by
  intro p e R s m args below meth c H locs cells slots lsA hb hc hS hr hl
  exact lv_if_gt hb.1.1 hb.1.2 hd ht (fun q => kt q p e R s m args below meth c H locs cells slots lsA hb hc hS hr hl) (fun q => kf q p e R s m args below meth c H locs cells slots lsA hb hc hS hr hl)
theorem z_if_le {x : Int32} {off : Int} {tgt : Nat} (hd : decode d.cc pc = .ok (.ifCond .le off, 3)) (ht : (pc : Int) + off = (tgt : Int)) (kt : x ≤ 0 → tri g d bk bn P M tgt ls st) (kf : ¬ (x ≤ 0) → tri g d bk bn P M (pc + 3) ls st) : tri g d bk bn P M pc ls (.int x :: st) := by
  intro p e R s m args below meth c H locs cells slots lsA hb hc hS hr hl
  exact lv_if_le hb.1.1 hb.1.2 hd ht (fun q => kt q p e R s m args below meth c H locs cells slots lsA hb hc hS hr hl) (fun q => kf q p e R s m args below meth c H locs cells slots lsA hb hc hS hr hl)
theorem z_idiv {x y : Int32} (hd : decode d.cc pc = .ok (.idiv, 1)) (hy : ¬ y = 0) (kk : tri g d bk bn P M (pc + 1) ls (.int (x / y) :: st)) : tri g d bk bn P M pc ls (.int y :: .int x :: st) := by
  intro p e R s m args below meth c H locs cells slots lsA hb hc hS hr hl
  exact lv_idiv hb.1.1 hb.1.2 hd hy (kk p e R s m args below meth c H locs cells slots lsA hb hc hS hr hl)
theorem z_irem {x y : Int32} (hd : decode d.cc pc = .ok (.irem, 1)) (hy : ¬ y = 0) (kk : tri g d bk bn P M (pc + 1) ls (.int (x - x / y * y) :: st)) : tri g d bk bn P M pc ls (.int y :: .int x :: st) := by
  intro p e R s m args below meth c H locs cells slots lsA hb hc hS hr hl
  exact lv_irem hb.1.1 hb.1.2 hd hy (kk p e R s m args below meth c H locs cells slots lsA hb hc hS hr hl)
theorem z_ishl {x y : Int32} (hd : decode d.cc pc = .ok (.ishl, 1)) (kk : tri g d bk bn P M (pc + 1) ls (.int (x <<< (y &&& 31)) :: st)) : tri g d bk bn P M pc ls (.int y :: .int x :: st) := by
  intro p e R s m args below meth c H locs cells slots lsA hb hc hS hr hl
  exact lv_ishl hb.1.1 hb.1.2 hd (kk p e R s m args below meth c H locs cells slots lsA hb hc hS hr hl)
theorem z_ishr {x y : Int32} (hd : decode d.cc pc = .ok (.ishr, 1)) (kk : tri g d bk bn P M (pc + 1) ls (.int (x >>> (y &&& 31)) :: st)) : tri g d bk bn P M pc ls (.int y :: .int x :: st) := by
  intro p e R s m args below meth c H locs cells slots lsA hb hc hS hr hl
  exact lv_ishr hb.1.1 hb.1.2 hd (kk p e R s m args below meth c H locs cells slots lsA hb hc hS hr hl)
theorem z_iushr {x y : Int32} (hd : decode d.cc pc = .ok (.iushr, 1)) (kk : tri g d bk bn P M (pc + 1) ls (.int ((x.toUInt32 >>> (y.toUInt32 &&& Int32.toUInt32 31)).toInt32) :: st)) : tri g d bk bn P M pc ls (.int y :: .int x :: st) := by
  intro p e R s m args below meth c H locs cells slots lsA hb hc hS hr hl
  exact lv_iushr hb.1.1 hb.1.2 hd rfl (kk p e R s m args below meth c H locs cells slots lsA hb hc hS hr hl)
theorem z_lcmp {x y : Int64} (hd : decode d.cc pc = .ok (.lcmp, 1)) (kk : tri g d bk bn P M (pc + 1) ls (.int (lg_cmp x y) :: st)) : tri g d bk bn P M pc ls (.long y :: .long x :: st) := by
  intro p e R s m args below meth c H locs cells slots lsA hb hc hS hr hl
  exact W.lcmp hb.1.1 hb.1.2 hd (kk p e R s m args below meth c H locs cells slots lsA hb hc hS hr hl)
theorem z_dup2 {v w : Value} (hd : decode d.cc pc = .ok (.dup2, 1)) (hv : v.category = 1) (hw : w.category = 1) (kk : tri g d bk bn P M (pc + 1) ls (v :: w :: v :: w :: st)) : tri g d bk bn P M pc ls (v :: w :: st) := by
  intro p e R s m args below meth c H locs cells slots lsA hb hc hS hr hl
  exact lv_dup2_11 hb.1.1 hb.1.2 hd hv hw (kk p e R s m args below meth c H locs cells slots lsA hb hc hS hr hl)
theorem z_ldc {index : Nat} {v : Int32} (hd : decode d.cc pc = .ok (.ldc index, 2)) (hw : Cond.constant d.y.cls index v ∈ GT) (kk : tri g d bk bn P M (pc + 2) ls (.int v :: st)) : tri g d bk bn P M pc ls (st) := by
  intro p e R s m args below meth c H locs cells slots lsA hb hc hS hr hl
  exact lv_ldc hb.1.1 hb.1.2 hb.2.2.1 (hb.2.2.2.1 _ hw) hd (kk p e R s m args below meth c H locs cells slots lsA hb hc hS hr hl)
theorem z_ifnull {off : Int} {tgt : Nat} {v : Value} (hv : v.isRef = true) (hd : decode d.cc pc = .ok (.ifnull off, 3)) (ht : (pc : Int) + off = (tgt : Int)) (kt : v = .null → tri g d bk bn P M tgt ls st) (kf : ¬ v = .null → tri g d bk bn P M (pc + 3) ls st) : tri g d bk bn P M pc ls (v :: st) := by
  intro p e R s m args below meth c H locs cells slots lsA hb hc hS hr hl
  cases v with
  | ref a => exact lv_ifnull hb.1.1 hb.1.2 hd (kf (by intro h; cases h) p e R s m args below meth c H locs cells slots lsA hb hc hS hr hl)
  | null => exact lv_ifnullN hb.1.1 hb.1.2 hd ht (kt rfl p e R s m args below meth c H locs cells slots lsA hb hc hS hr hl)
  | _ => cases hv
theorem z_ifnonnull {off : Int} {tgt : Nat} {v : Value} (hv : v.isRef = true) (hd : decode d.cc pc = .ok (.ifnonnull off, 3)) (ht : (pc : Int) + off = (tgt : Int)) (kt : ¬ v = .null → tri g d bk bn P M tgt ls st) (kf : v = .null → tri g d bk bn P M (pc + 3) ls st) : tri g d bk bn P M pc ls (v :: st) := by
  intro p e R s m args below meth c H locs cells slots lsA hb hc hS hr hl
  cases v with
  | ref a => exact lv_ifnonnull hb.1.1 hb.1.2 hd ht (kt (by intro h; cases h) p e R s m args below meth c H locs cells slots lsA hb hc hS hr hl)
  | null => exact lv_ifnonnullN hb.1.1 hb.1.2 hd (kf rfl p e R s m args below meth c H locs cells slots lsA hb hc hS hr hl)
  | _ => cases hv
theorem z_acmp_ne {rx ry : Option Nat} {off : Int} {tgt : Nat} (hd : decode d.cc pc = .ok (.if_acmp .ne off, 3)) (ht : (pc : Int) + off = (tgt : Int)) (kt : ¬ rx = ry → tri g d bk bn P M tgt ls st) (kf : rx = ry → tri g d bk bn P M (pc + 3) ls st) : tri g d bk bn P M pc ls (va_rf ry :: va_rf rx :: st) := by
  intro p e R s m args below meth c H locs cells slots lsA hb hc hS hr hl
  exact lv_acmp_ne hb.1.1 hb.1.2 hd ht (fun q => kt q p e R s m args below meth c H locs cells slots lsA hb hc hS hr hl) (fun q => kf q p e R s m args below meth c H locs cells slots lsA hb hc hS hr hl)
theorem z_acmp_eq {rx ry : Option Nat} {off : Int} {tgt : Nat} (hd : decode d.cc pc = .ok (.if_acmp .eq off, 3)) (ht : (pc : Int) + off = (tgt : Int)) (kt : rx = ry → tri g d bk bn P M tgt ls st) (kf : ¬ rx = ry → tri g d bk bn P M (pc + 3) ls st) : tri g d bk bn P M pc ls (va_rf ry :: va_rf rx :: st) := by
  intro p e R s m args below meth c H locs cells slots lsA hb hc hS hr hl
  exact lv_acmp_eq hb.1.1 hb.1.2 hd ht (fun q => kt q p e R s m args below meth c H locs cells slots lsA hb hc hS hr hl) (fun q => kf q p e R s m args below meth c H locs cells slots lsA hb hc hS hr hl)
theorem z_getfield {index ci k a : Nat} {fs : List Value} {v : Value} (hd : decode d.cc pc = .ok (.getfield index, 3)) (hf : flk d.y.cls index ci k) (hM : M a = some (ob ci fs)) (hv : fs[k]? = some v) (kk : tri g d bk bn P M (pc + 3) ls (v :: st)) : tri g d bk bn P M pc ls (.ref a :: st) := by
  intro p e R s m args below meth c H locs cells slots lsA hb hc hS hr hl
  obtain ⟨C, T, N, ty, ⟨h1, h2, h3, h4⟩, hk, hlk⟩ := hf
  have hP : va_P g.D vwCl [(a, .inr (ci, fs))] H := fun j q hq => by
    have hz : j < 1 := (List.getElem?_eq_some_iff.mp hq).1
    rw [show j = 0 by omega] at hq
    cases hq
    exact (hr a _ hM).2
  rcases hlk with hlk | ⟨host, hlk⟩
  · obtain ⟨ref, hl1, hl2⟩ := hlk.use hb.2.2.2.1
    exact va_get hb.1.1 hb.1.2 hb.2.2.2.1 h2 hb.2.2.1 hb.2.2.2.2.2.2.2.1 hP 0 rfl h1 k hk hl1 hl2 hv hd (kk p e R s m args below meth c H locs cells slots lsA hb hc hS hr hl)
  · exact va_getN hb.1.1 hb.1.2 hb.2.2.2.1 h2 hb.2.2.1 hb.2.2.2.2.2.2.2.1 hP 0 rfl h1 k hk (hb.2.2.2.1 _ hlk) (fun _ h => h) hv hd (kk p e R s m args below meth c H locs cells slots lsA hb hc hS hr hl)
theorem z_putfield {index ci k a : Nat} {fs : List Value} {v : Value} {t0 : FieldType} (hd : decode d.cc pc = .ok (.putfield index, 3)) (hf : flw d.y.cls index ci k d.y.name t0) (hM : M a = some (ob ci fs)) (hl0 : k < fs.length) (hn : narrow t0 v = v) (hfit : fits t0 v = true) (kk : tri g d bk bn P (mset M a (ob ci (fs.set k v))) (pc + 3) ls st) : tri g d bk bn P M pc ls (v :: .ref a :: st) := by
  intro p e R s m args below meth c H locs cells slots lsA hb hc hS hr hl
  obtain ⟨C, T, N, ty, ⟨h1, h2, h3, h4⟩, hk, hlk, hty, hfin⟩ := hf
  obtain ⟨hBa, r, hr1, cell, q1, q2, q3, q4⟩ := hr a _ hM
  have hre : r = (C, T, N) := Option.some.inj (hr1.symm.trans h1)
  subst hre
  have hK := hb.2.2.2.2.2.2.2.1
  have hts := hb.2.2.2.1
  have hap := va_apart (own := d.y.cls) hts h2 ty h3 h4 hK h1
  obtain ⟨hSl, hfc, kC, hkC, hkind⟩ := hK.1 ci _ h1
  obtain ⟨cf, kf, fi, f, hi, hsl⟩ := hSl k hk
  obtain ⟨ref, hl1, hl2⟩ := hlk.use hts
  have hlay := hts _ (h2 _ (u_in_lay hk))
  have hst := (u_facts hfc hkC (u_lays hts h2 hk) hi).1
  have hdesc : parseFieldDescriptor (T k).2.2.1 = some t0 := by rw [h3 k hk, hty]
  have fin : ∀ H' : Heap, H'[a]? = some (cell.setSlot f.slot v) → H'.size = H.size → (∀ q, q ≠ a → H'[q]? = H[q]?) → W p g.l e R s m args below meth c H' (locs ++ [⟨a, f.slot⟩]) cells slots (vx_MQ below (gQ g P) (gX g P) args s R.cells R.slots g.A) (F0 m (pc + 3) lsA st) := by
    intro H' e1 e2 e3
    rw [hsl] at e1 ⊢
    refine kk p e R s m args below meth c H' _ cells slots lsA hb hc (hS.put e2 e3 hBa) (hr.set hBa ?_ e3) hl
    exact ⟨_, h1, t_OB.to (V := updV (vp_V fs) k v) ⟨_, e1, q2, q3, t_set q4 hap hk v⟩ (fun j _ => vp_updV_set hl0 v j)⟩
  rcases hfin with hfin | ⟨hfin, hdecl, hnm⟩
  · unfold u_lay at hlay
    rw [if_neg (by rw [hfin]; decide)] at hlay
    have h6 := u_store hfc hkC hkind hlay hi hdesc hn hfit
    exact W.putK hb.1.1 hb.1.2 (f := f) ⟨hb.2.2.1, hl1, ⟨_, _, _, hl2 _ hi⟩, hst⟩ (by rw [q2]; exact h6) q1 q3 (by rw [hsl]; exact k2_hasslot (q4 k hk)) rfl rfl hd fin
  · unfold u_lay at hlay
    rw [if_pos hfin] at hlay
    have hcf : m.cls = cf := by
      obtain ⟨_, _, c', _, _, _, -, -, hf', -, -, -, hown2, -⟩ := Cond.laysFinal_spec hlay
      have e1 : c' = cf := by have := hi.symm.trans hf'; simp at this; exact this.1.symm
      rw [hdecl] at hown2
      rw [← e1]; exact Option.some.inj (hb.2.2.1.symm.trans hown2)
    have h6 := u_fits hfc hkC hkind (Or.inr hlay) hi hdesc hn hfit
    exact W.putFinK hb.1.1 hb.1.2 hb.2.2.1 hl1 (hl2 _ hi) hst hcf (hb.2.2.2.2.2.1.1.trans hnm) (by rw [q2]; exact h6) q1 q3 (by rw [hsl]; exact k2_hasslot (q4 k hk)) rfl rfl hd fin
theorem z_iaload {a n j : Nat} {f : Nat → Int32} {i : Int32} (hd : decode d.cc pc = .ok (.iaload, 1)) (hM : M a = some (aI .int n f)) (hi : i = nI j) (hj : j < n) (hn : n < 2 ^ 31) (kk : tri g d bk bn P M (pc + 1) ls (.int (f j) :: st)) : tri g d bk bn P M pc ls (.int i :: .ref a :: st) := by
  intro p e R s m args below meth c H locs cells slots lsA hb hc hS hr hl
  subst hi
  obtain ⟨hBa, cA, ⟨hA1, hA2⟩, hcell⟩ := hr a _ hM
  have hin := vp_in_nI hj hn
  have hcl : (nI j).toNatClampNeg = j := nI_clamp (by omega)
  have hP : va_P g.D vwCl [(a, .inl (cA, n, .inl f))] H := fun j q hq => by
    have hz : j < 1 := (List.getElem?_eq_some_iff.mp hq).1
    rw [show j = 0 by omega] at hq
    cases hq
    exact hcell
  have hK : va_K g.D vwCl [(cA, .int)] s := ⟨hb.2.2.2.2.2.2.2.1.1, fun j q hq => by
    have hz : j < 1 := (List.getElem?_eq_some_iff.mp hq).1
    rw [show j = 0 by omega] at hq
    cases hq
    exact ⟨hA1, hA2⟩⟩
  refine va_iald hb.1.1 hb.1.2 hK hP 0 0 rfl rfl hin hd ?_
  rw [hcl]
  exact kk p e R s m args below meth c H locs cells slots lsA hb hc hS hr hl
theorem z_zaload {a n j : Nat} {f : Nat → Int32} {i : Int32} (hd : decode d.cc pc = .ok (.baload, 1)) (hM : M a = some (aI .boolean n f)) (hi : i = nI j) (hj : j < n) (hn : n < 2 ^ 31) (kk : tri g d bk bn P M (pc + 1) ls (.int (f j) :: st)) : tri g d bk bn P M pc ls (.int i :: .ref a :: st) := by
  intro p e R s m args below meth c H locs cells slots lsA hb hc hS hr hl
  subst hi
  obtain ⟨hBa, cA, ⟨hA1, hA2⟩, hcell⟩ := hr a _ hM
  have hin := vp_in_nI hj hn
  have hcl : (nI j).toNatClampNeg = j := nI_clamp (by omega)
  have hP : va_P g.D vwCl [(a, .inl (cA, n, .inl f))] H := fun j q hq => by
    have hz : j < 1 := (List.getElem?_eq_some_iff.mp hq).1
    rw [show j = 0 by omega] at hq
    cases hq
    exact hcell
  have hK : va_K g.D vwCl [(cA, .boolean)] s := ⟨hb.2.2.2.2.2.2.2.1.1, fun j q hq => by
    have hz : j < 1 := (List.getElem?_eq_some_iff.mp hq).1
    rw [show j = 0 by omega] at hq
    cases hq
    exact ⟨hA1, hA2⟩⟩
  refine va_zald hb.1.1 hb.1.2 hK hP 0 0 rfl rfl hin hd ?_
  rw [hcl]
  exact kk p e R s m args below meth c H locs cells slots lsA hb hc hS hr hl
theorem z_laload {a n j : Nat} {f : Nat → Int64} {i : Int32} (hd : decode d.cc pc = .ok (.laload, 1)) (hM : M a = some (aJ n f)) (hi : i = nI j) (hj : j < n) (hn : n < 2 ^ 31) (kk : tri g d bk bn P M (pc + 1) ls (.long (f j) :: st)) : tri g d bk bn P M pc ls (.int i :: .ref a :: st) := by
  intro p e R s m args below meth c H locs cells slots lsA hb hc hS hr hl
  subst hi
  obtain ⟨hBa, cA, ⟨hA1, hA2⟩, hcell⟩ := hr a _ hM
  have hin := vp_in_nI hj hn
  have hcl : (nI j).toNatClampNeg = j := nI_clamp (by omega)
  have hP : va_P g.D vwCl [(a, .inl (cA, n, .inr (.inl f)))] H := fun j q hq => by
    have hz : j < 1 := (List.getElem?_eq_some_iff.mp hq).1
    rw [show j = 0 by omega] at hq
    cases hq
    exact hcell
  have hK : va_K g.D vwCl [(cA, .long)] s := ⟨hb.2.2.2.2.2.2.2.1.1, fun j q hq => by
    have hz : j < 1 := (List.getElem?_eq_some_iff.mp hq).1
    rw [show j = 0 by omega] at hq
    cases hq
    exact ⟨hA1, hA2⟩⟩
  refine va_lald hb.1.1 hb.1.2 hK hP 0 0 rfl rfl hin hd ?_
  rw [hcl]
  exact kk p e R s m args below meth c H locs cells slots lsA hb hc hS hr hl
theorem z_qaload {a n j : Nat} {f : Nat → Option Nat} {C : String} {i : Int32} (hd : decode d.cc pc = .ok (.aaload, 1)) (hM : M a = some (aQ (.object C) n f)) (hi : i = nI j) (hj : j < n) (hn : n < 2 ^ 31) (kk : tri g d bk bn P M (pc + 1) ls (va_rf (f j) :: st)) : tri g d bk bn P M pc ls (.int i :: .ref a :: st) := by
  intro p e R s m args below meth c H locs cells slots lsA hb hc hS hr hl
  subst hi
  obtain ⟨hBa, cA, ⟨hA1, hA2⟩, hcell⟩ := hr a _ hM
  have hin := vp_in_nI hj hn
  have hcl : (nI j).toNatClampNeg = j := nI_clamp (by omega)
  have hP : va_P g.D vwCl [(a, .inl (cA, n, .inr (.inr (.inr (.inr f)))))] H := fun j q hq => by
    have hz : j < 1 := (List.getElem?_eq_some_iff.mp hq).1
    rw [show j = 0 by omega] at hq
    cases hq
    exact hcell
  have hK : va_K g.D vwCl [(cA, .object C)] s := ⟨hb.2.2.2.2.2.2.2.1.1, fun j q hq => by
    have hz : j < 1 := (List.getElem?_eq_some_iff.mp hq).1
    rw [show j = 0 by omega] at hq
    cases hq
    exact ⟨hA1, hA2⟩⟩
  refine va_aldq hb.1.1 hb.1.2 hK hP 0 0 rfl rfl hin hd ?_
  rw [hcl]
  exact kk p e R s m args below meth c H locs cells slots lsA hb hc hS hr hl
theorem z_arraylength {a : Nat} {ty : FieldType} {x : vp_A} (hd : decode d.cc pc = .ok (.arraylength, 1)) (hM : M a = some (.inl (ty, x))) (kk : tri g d bk bn P M (pc + 1) ls (.int (nI x.1) :: st)) : tri g d bk bn P M pc ls (.ref a :: st) := by
  intro p e R s m args below meth c H locs cells slots lsA hb hc hS hr hl
  obtain ⟨hBa, cA, ⟨hA1, hA2⟩, hcell⟩ := hr a _ hM
  have hP : va_P g.D vwCl [(a, .inl (cA, x))] H := fun j q hq => by
    have hz : j < 1 := (List.getElem?_eq_some_iff.mp hq).1
    rw [show j = 0 by omega] at hq
    cases hq
    exact hcell
  have hK : va_K g.D vwCl [(cA, ty)] s := ⟨hb.2.2.2.2.2.2.2.1.1, fun j q hq => by
    have hz : j < 1 := (List.getElem?_eq_some_iff.mp hq).1
    rw [show j = 0 by omega] at hq
    cases hq
    exact ⟨hA1, hA2⟩⟩
  exact va_alen hb.1.1 hb.1.2 hK hP 0 0 rfl rfl rfl hd (kk p e R s m args below meth c H locs cells slots lsA hb hc hS hr hl)
theorem z_iastore {a n j : Nat} {f : Nat → Int32} {i : Int32} {x : Int32} (hd : decode d.cc pc = .ok (.iastore, 1)) (hM : M a = some (aI .int n f)) (hi : i = nI j) (hj : j < n) (hn : n < 2 ^ 31) (kk : tri g d bk bn P (mset M a (aI .int n (upd f j x))) (pc + 1) ls st) : tri g d bk bn P M pc ls (.int x :: .int i :: .ref a :: st) := by
  intro p e R s m args below meth c H locs cells slots lsA hb hc hS hr hl
  subst hi
  obtain ⟨hBa, cA, ⟨hA1, hA2⟩, hcell⟩ := hr a _ hM
  have hin := vp_in_nI hj hn
  have hcl : (nI j).toNatClampNeg = j := nI_clamp (by omega)
  refine W.iast hb.1.1 hb.1.2 hcell (hA1 n (fun j => .int (f j))) (fun q => by cases q) (by show ¬ (nI j < 0 ∨ (arrV _ _ _).slots.size ≤ _); rw [arrV_size]; exact hin) rfl rfl hd fun H1 e1 z oq => ?_
  refine kk p e R s m args below meth c H1 _ cells slots lsA hb hc (hS.put z oq hBa) (hr.set hBa ⟨cA, ⟨hA1, hA2⟩, ?_⟩ oq) hl
  rw [e1, vp_cell_i, vp_cell_i, arrV_store, hcl]
  congr 2
  funext q
  by_cases hq : q = j
  · subst hq
    simp [updV, upd, vp_nar, narrow]
  · simp [updV, upd, hq]
theorem z_zastore {a n j : Nat} {f : Nat → Int32} {i : Int32} {x : Int32} (hd : decode d.cc pc = .ok (.bastore, 1)) (hM : M a = some (aI .boolean n f)) (hi : i = nI j) (hj : j < n) (hn : n < 2 ^ 31) (kk : tri g d bk bn P (mset M a (aI .boolean n (upd f j (x &&& 1)))) (pc + 1) ls st) : tri g d bk bn P M pc ls (.int x :: .int i :: .ref a :: st) := by
  intro p e R s m args below meth c H locs cells slots lsA hb hc hS hr hl
  subst hi
  obtain ⟨hBa, cA, ⟨hA1, hA2⟩, hcell⟩ := hr a _ hM
  have hin := vp_in_nI hj hn
  have hcl : (nI j).toNatClampNeg = j := nI_clamp (by omega)
  refine W.zast hb.1.1 hb.1.2 hcell (hA1 n (fun j => .int (f j))) (fun q => by cases q) (by show ¬ (nI j < 0 ∨ (arrV _ _ _).slots.size ≤ _); rw [arrV_size]; exact hin) rfl rfl hd fun H1 e1 z oq => ?_
  refine kk p e R s m args below meth c H1 _ cells slots lsA hb hc (hS.put z oq hBa) (hr.set hBa ⟨cA, ⟨hA1, hA2⟩, ?_⟩ oq) hl
  rw [e1, vp_cell_i, vp_cell_i, arrV_store, hcl]
  congr 2
  funext q
  by_cases hq : q = j
  · subst hq
    simp [updV, upd, vp_nar, narrow]
  · simp [updV, upd, hq]
theorem z_lastore {a n j : Nat} {f : Nat → Int64} {i : Int32} {x : Int64} (hd : decode d.cc pc = .ok (.lastore, 1)) (hM : M a = some (aJ n f)) (hi : i = nI j) (hj : j < n) (hn : n < 2 ^ 31) (kk : tri g d bk bn P (mset M a (aJ n (vp_updL f j x))) (pc + 1) ls st) : tri g d bk bn P M pc ls (.long x :: .int i :: .ref a :: st) := by
  intro p e R s m args below meth c H locs cells slots lsA hb hc hS hr hl
  subst hi
  obtain ⟨hBa, cA, ⟨hA1, hA2⟩, hcell⟩ := hr a _ hM
  have hin := vp_in_nI hj hn
  have hcl : (nI j).toNatClampNeg = j := nI_clamp (by omega)
  refine W.last hb.1.1 hb.1.2 hcell (hA1 n (fun j => .long (f j))) (fun q => by cases q) (by show ¬ (nI j < 0 ∨ (arrV _ _ _).slots.size ≤ _); rw [arrV_size]; exact hin) rfl rfl hd fun H1 e1 z oq => ?_
  refine kk p e R s m args below meth c H1 _ cells slots lsA hb hc (hS.put z oq hBa) (hr.set hBa ⟨cA, ⟨hA1, hA2⟩, ?_⟩ oq) hl
  rw [e1, vp_cell_l, vp_cell_l, arrV_store, hcl]
  congr 2
  funext q
  by_cases hq : q = j
  · subst hq
    simp [updV, vp_updL, vp_nar, narrow]
  · simp [updV, vp_updL, hq]
theorem z_new {index ci n : Nat} {fs : List Value} (hd : decode d.cc pc = .ok (.new index, 3)) (hf : nwk d.y.cls index ci fs n) (h1 : 1 ≤ bk) (h2 : n ≤ bn) (kk : ∀ a : Nat, M a = none → tri g d (bk - 1) (bn - n) P (mset M a (ob ci fs)) (pc + 3) ls (.ref a :: st)) : tri g d bk bn P M pc ls st := by
  intro p e R s m args below meth c H locs cells slots lsA hb hc hS hr hl
  obtain ⟨C, T, ty, ⟨g1, g2, g3, g4⟩, hcl, hins, hini, hdf⟩ := hf
  have hts := hb.2.2.2.1
  have hKn := hb.2.2.2.2.2.2.2.1.1 ci _ g1
  have hBH : g.B ≤ H.size := Nat.le_trans hb.2.2.2.2.2.2.1.1 hS.1
  refine W.newcK hb.1.1 hb.1.2 hb.2.2.1 (hts _ hcl) (hts _ hins) (hts _ hini) rfl hd (by omega) (by omega) hKn.2.1 rfl fun H1 kC hkC e1 z1 o1 => ?_
  have o2 : ∀ q, q ≠ H.size → M q ≠ none → H1[q]? = H[q]? := fun q _ hq => by
    cases hMq : M q with
    | none => exact absurd hMq hq
    | some e => exact o1 q (hr q e hMq).2.lt
  have hr1 : rep g s (mset M H.size (ob ci fs)) H1 := by
    intro q e' hq
    by_cases hqa : q = H.size
    · subst hqa
      rw [mset_eq] at hq
      cases hq
      exact ⟨hBH, _, g1, (u_born ty hts g2 hKn hkC e1 g3).to hdf⟩
    · rw [mset_ne hqa] at hq
      exact ⟨(hr q e' hq).1, (hr q e' hq).2.kept (o1 q (hr q e' hq).2.lt)⟩
  exact kk H.size hr.fresh p e R s m args below meth c H1 locs (cells + 1) (slots + n) lsA hb ⟨by omega, by omega⟩ ⟨Nat.le_trans hS.1 (by omega), fun x h1 h2 => (o1 x (Nat.lt_of_lt_of_le h1 hS.1)).trans (hS.2.1 x h1 h2), hS.2.2⟩ hr1 hl
theorem z_newarray_int {n : Nat} {i : Int32} (hd : decode d.cc pc = .ok (.newarray .int, 2)) (hw : Cond.arrayClass .int ∈ GT) (hi : i = nI n) (hn : n < 65536) (h1 : 1 ≤ bk) (h2 : n ≤ bn) (kk : ∀ a : Nat, M a = none → tri g d (bk - 1) (bn - n) P (mset M a (aI .int n (fun _ => 0))) (pc + 2) ls (.ref a :: st)) : tri g d bk bn P M pc ls (.int i :: st) := by
  intro p e R s m args below meth c H locs cells slots lsA hb hc hS hr hl
  subst hi
  have hts := hb.2.2.2.1
  have hcl : (nI n).toNatClampNeg = n := nI_clamp (by omega)
  have hBH : g.B ≤ H.size := Nat.le_trans hb.2.2.2.2.2.2.1.1 hS.1
  have hby : n * componentBytes .int ≤ 536870912 := Nat.le_trans (Nat.mul_le_mul (Nat.le_of_lt hn) (by decide : componentBytes .int ≤ 8)) (by decide)
  refine va_newaK (atype := .int) hb.1.1 hb.1.2 (hts _ hw) rfl hd rfl (nI_pos (by omega)) hcl hby (by omega) (by omega) rfl fun H1 cA e1 z1 o1 hAr hNm => ?_
  have hr1 : rep g s (mset M H.size (aI .int n (fun _ => 0))) H1 := by
    intro q e' hq
    by_cases hqa : q = H.size
    · subst hqa
      rw [mset_eq] at hq
      cases hq
      exact ⟨hBH, cA, ⟨hAr, hNm⟩, e1⟩
    · rw [mset_ne hqa] at hq
      exact ⟨(hr q e' hq).1, (hr q e' hq).2.kept (o1 q (hr q e' hq).2.lt)⟩
  exact kk H.size hr.fresh p e R s m args below meth c H1 locs (cells + 1) (slots + n) lsA hb ⟨by omega, by omega⟩ ⟨Nat.le_trans hS.1 (by omega), fun x h1 h2 => (o1 x (Nat.lt_of_lt_of_le h1 hS.1)).trans (hS.2.1 x h1 h2), hS.2.2⟩ hr1 hl
theorem z_newarray_bool {n : Nat} {i : Int32} (hd : decode d.cc pc = .ok (.newarray .boolean, 2)) (hw : Cond.arrayClass .boolean ∈ GT) (hi : i = nI n) (hn : n < 65536) (h1 : 1 ≤ bk) (h2 : n ≤ bn) (kk : ∀ a : Nat, M a = none → tri g d (bk - 1) (bn - n) P (mset M a (aI .boolean n (fun _ => 0))) (pc + 2) ls (.ref a :: st)) : tri g d bk bn P M pc ls (.int i :: st) := by
  intro p e R s m args below meth c H locs cells slots lsA hb hc hS hr hl
  subst hi
  have hts := hb.2.2.2.1
  have hcl : (nI n).toNatClampNeg = n := nI_clamp (by omega)
  have hBH : g.B ≤ H.size := Nat.le_trans hb.2.2.2.2.2.2.1.1 hS.1
  have hby : n * componentBytes .boolean ≤ 536870912 := Nat.le_trans (Nat.mul_le_mul (Nat.le_of_lt hn) (by decide : componentBytes .boolean ≤ 8)) (by decide)
  refine va_newaK (atype := .boolean) hb.1.1 hb.1.2 (hts _ hw) rfl hd rfl (nI_pos (by omega)) hcl hby (by omega) (by omega) rfl fun H1 cA e1 z1 o1 hAr hNm => ?_
  have hr1 : rep g s (mset M H.size (aI .boolean n (fun _ => 0))) H1 := by
    intro q e' hq
    by_cases hqa : q = H.size
    · subst hqa
      rw [mset_eq] at hq
      cases hq
      exact ⟨hBH, cA, ⟨hAr, hNm⟩, e1⟩
    · rw [mset_ne hqa] at hq
      exact ⟨(hr q e' hq).1, (hr q e' hq).2.kept (o1 q (hr q e' hq).2.lt)⟩
  exact kk H.size hr.fresh p e R s m args below meth c H1 locs (cells + 1) (slots + n) lsA hb ⟨by omega, by omega⟩ ⟨Nat.le_trans hS.1 (by omega), fun x h1 h2 => (o1 x (Nat.lt_of_lt_of_le h1 hS.1)).trans (hS.2.1 x h1 h2), hS.2.2⟩ hr1 hl
theorem z_newarray_long {n : Nat} {i : Int32} (hd : decode d.cc pc = .ok (.newarray .long, 2)) (hw : Cond.arrayClass .long ∈ GT) (hi : i = nI n) (hn : n < 65536) (h1 : 1 ≤ bk) (h2 : n ≤ bn) (kk : ∀ a : Nat, M a = none → tri g d (bk - 1) (bn - n) P (mset M a (aJ n (fun _ => 0))) (pc + 2) ls (.ref a :: st)) : tri g d bk bn P M pc ls (.int i :: st) := by
  intro p e R s m args below meth c H locs cells slots lsA hb hc hS hr hl
  subst hi
  have hts := hb.2.2.2.1
  have hcl : (nI n).toNatClampNeg = n := nI_clamp (by omega)
  have hBH : g.B ≤ H.size := Nat.le_trans hb.2.2.2.2.2.2.1.1 hS.1
  have hby : n * componentBytes .long ≤ 536870912 := Nat.le_trans (Nat.mul_le_mul (Nat.le_of_lt hn) (by decide : componentBytes .long ≤ 8)) (by decide)
  refine va_newaK (atype := .long) hb.1.1 hb.1.2 (hts _ hw) rfl hd rfl (nI_pos (by omega)) hcl hby (by omega) (by omega) rfl fun H1 cA e1 z1 o1 hAr hNm => ?_
  have hr1 : rep g s (mset M H.size (aJ n (fun _ => 0))) H1 := by
    intro q e' hq
    by_cases hqa : q = H.size
    · subst hqa
      rw [mset_eq] at hq
      cases hq
      exact ⟨hBH, cA, ⟨hAr, hNm⟩, e1⟩
    · rw [mset_ne hqa] at hq
      exact ⟨(hr q e' hq).1, (hr q e' hq).2.kept (o1 q (hr q e' hq).2.lt)⟩
  exact kk H.size hr.fresh p e R s m args below meth c H1 locs (cells + 1) (slots + n) lsA hb ⟨by omega, by omega⟩ ⟨Nat.le_trans hS.1 (by omega), fun x h1 h2 => (o1 x (Nat.lt_of_lt_of_le h1 hS.1)).trans (hS.2.1 x h1 h2), hS.2.2⟩ hr1 hl
end RULES2
