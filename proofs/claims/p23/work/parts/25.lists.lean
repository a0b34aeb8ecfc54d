/-! the JDK's lists: rules for rows of references, class objects, casts -/
/-- a class whose objects may stand in a row of Object -/
def cvO (ci : Nat) : Prop := ∃ r : vw_C, vwCl[ci]? = some r ∧ Cond.castable r.1 "java/lang/Object" ∈ GT
section RULES3
variable {g : GG} {d : MD} {bk bn : Nat} {P : PO} {M : Mem} {pc : Nat} {ls : List (Nat × Value)} {st : List Value}
theorem z_dup_x1 {va vb : Value} (hd : decode d.cc pc = .ok (.dup_x1, 1)) (h1 : va.category = 1) (h2 : vb.category = 1) (kk : tri g d bk bn P M (pc + 1) ls (va :: vb :: va :: st)) : tri g d bk bn P M pc ls (va :: vb :: st) := by
  intro p e R s m args below meth c H locs cells slots lsA hb hc hS hr hl
  exact lv_dup_x1 hb.1.1 hb.1.2 hd h1 h2 (kk p e R s m args below meth c H locs cells slots lsA hb hc hS hr hl)
theorem z_empty {index : Nat} (hd : decode d.cc pc = .ok (.getstatic index, 3)) (hw : Cond.fieldLink d.y.cls index "java/util/ArrayList" "DEFAULTCAPACITY_EMPTY_ELEMENTDATA" "[Ljava/lang/Object;" ∈ GT) (kk : tri g d bk bn P M (pc + 3) ls (.ref g.E :: st)) : tri g d bk bn P M pc ls st := by
  intro p e R s m args below meth c H locs cells slots lsA hb hc hS hr hl
  exact va_gets hb.1.1 hb.1.2 hb.2.2.2.2.2.2.2.2.2.2.1.1 hS hb.2.2.1 (hb.2.2.2.1 _ hw) (fun _ h => h) hd (kk p e R s m args below meth c H locs cells slots lsA hb hc hS hr hl)
theorem z_elen (hd : decode d.cc pc = .ok (.arraylength, 1)) (kk : tri g d bk bn P M (pc + 1) ls (.int (nI 0) :: st)) : tri g d bk bn P M pc ls (.ref g.E :: st) := by
  intro p e R s m args below meth c H locs cells slots lsA hb hc hS hr hl
  exact va_tlen hb.1.1 hb.1.2 hb.2.2.2.2.2.2.2.2.2.2.1.2 hS rfl hd (kk p e R s m args below meth c H locs cells slots lsA hb hc hS hr hl)
theorem z_anewarray {index n : Nat} {i : Int32} (hd : decode d.cc pc = .ok (.anewarray index, 3)) (hw : Cond.classLink d.y.cls index "java/lang/Object" ∈ GT) (hi : i = nI n) (hn : n < 65536) (h1 : 1 ≤ bk) (h2 : n ≤ bn) (kk : ∀ a : Nat, M a = none → tri g d (bk - 1) (bn - n) P (mset M a (aQ tO n (fun _ => none))) (pc + 3) ls (.ref a :: st)) : tri g d bk bn P M pc ls (.int i :: st) := by
  intro p e R s m args below meth c H locs cells slots lsA hb hc hS hr hl
  subst hi
  have hcl : (nI n).toNatClampNeg = n := nI_clamp (by omega)
  have hBH : g.B ≤ H.size := Nat.le_trans hb.2.2.2.2.2.2.1.1 hS.1
  refine W.anew hb.1.1 hb.1.2 hb.2.2.1 (hb.2.2.2.1 _ hw) (va_AO.use hb.2.2.2.2.2.2.2.2.2.2.2.1.1.1) rfl hd rfl (nI_pos (by omega)) (by rw [hcl]; omega) (by omega) (by rw [hcl]; omega) fun cA kA comp f1 f2 f3 f4 => ?_
  rw [hcl]
  generalize hH1 : H.push ({ cls := cA, slots := Array.replicate n .null, vm := .none } : Cell) = H1
  have z1 : H1.size = H.size + 1 := by rw [← hH1, Array.size_push]
  have e1 : H1[H.size]? = some (arrV cA n (fun _ => .null)) := by rw [← hH1, Array.getElem?_push_size, ← arrV_new]
  have o1 : ∀ q : Nat, q < H.size → H1[q]? = H[q]? := fun q hq => by rw [← hH1, Array.getElem?_push, if_neg (Nat.ne_of_lt hq)]
  have hAr : ArrOfT s cA tO := fun N z => ⟨(fun k h => by cases h), kA, f2, comp, f3⟩
  have hr1 : rep g s (mset M H.size (aQ tO n (fun _ => none))) H1 := by
    intro q e' hq
    by_cases hqa : q = H.size
    · subst hqa
      rw [mset_eq] at hq
      cases hq
      refine ⟨hBH, cA, ⟨hAr, kA, comp, f2, f3, f4, f1⟩, ?_⟩
      rw [vp_cell_q]
      exact e1
    · rw [mset_ne hqa] at hq
      exact ⟨(hr q e' hq).1, (hr q e' hq).2.kept (o1 q (hr q e' hq).2.lt)⟩
  exact kk H.size hr.fresh p e R s m args below meth c H1 locs (cells + 1) (slots + n) lsA hb ⟨by omega, by omega⟩ ⟨Nat.le_trans hS.1 (by omega), fun x h1 h2 => (o1 x (Nat.lt_of_lt_of_le h1 hS.1)).trans (hS.2.1 x h1 h2), hS.2.2⟩ hr1 hl
/-- an own object: its cell, and that it may stand where an Object stands -/
theorem cvO.use {s : State} {H : Heap} {ci v : Nat} {fs : List Value} (hK : va_K g.D vwCl [] s) (hts : ∀ w ∈ GT, w.before #[] s = true) (hca : cvO ci) (hv : gcell g s v (ob ci fs) H) : ∃ (r : vw_C) (cV : Cell), H[v]? = some cV ∧ cV.vm = .none ∧ s.vm.findClass r.1 = some cV.cls ∧ vwCl[ci]? = some r ∧ ∃ t, s.vm.findClass "java/lang/Object" = some t ∧ s.vm.assignable cV.cls t = true := by
  obtain ⟨r, hr, hw⟩ := hca
  obtain ⟨r', hr', cellV, g1, g2, g3, -⟩ := hv
  have hcls := (hK.1 ci r hr).2
  obtain ⟨c0, t0, f1, f2, f3⟩ := Cond.castable_spec (hts _ hw)
  have e : c0 = g.D.1 ci := Option.some.inj (f1.symm.trans hcls.1)
  exact ⟨r, cellV, g1, g3, by rw [g2]; exact hcls.1, hr, t0, f2, by rw [g2, ← e]; exact f3⟩
theorem z_aastore {a n j v ci : Nat} {f : Nat → Option Nat} {fs : List Value} {i : Int32} (hd : decode d.cc pc = .ok (.aastore, 1)) (hM : M a = some (aQ tO n f)) (hv : M v = some (ob ci fs)) (hca : cvO ci) (hi : i = nI j) (hj : j < n) (hn : n < 2 ^ 31) (kk : tri g d bk bn P (mset M a (aQ tO n (f1 f j (some v)))) (pc + 1) ls st) : tri g d bk bn P M pc ls (.ref v :: .int i :: .ref a :: st) := by
  intro p e R s m args below meth c H locs cells slots lsA hb hc hS hr hl
  subst hi
  obtain ⟨hBa, cA, ⟨hA1, ⟨kA, comp, k1, k2, k3, k4⟩⟩, hcell⟩ := hr a _ hM
  have hin := vp_in_nI hj hn
  have hcl : (nI j).toNatClampNeg = j := nI_clamp (by omega)
  obtain ⟨r, cV, g1, g3, g2, -, t, ht, hasg⟩ := cvO.use hb.2.2.2.2.2.2.2.1 (fun w hw => by rw [gt_at (State.WarmedH.refl s) (gt_mem hw) (hb.2.2.2.1 w hw)]) hca (hr v _ hv).2
  have ec : t = comp := Option.some.inj (ht.symm.trans k3)
  subst ec
  obtain ⟨kE, hkE, -⟩ := Vm.findClass_spec k3
  obtain ⟨kC, hkC, -⟩ := Vm.findClass_spec g2
  refine W.aast hb.1.1 hb.1.2 hcell (fun q h => by cases h) (fun h => by cases h) k1 k2 rfl hkE ⟨nI_pos (by omega), by show _ < (arrV _ _ _).slots.size; rw [arrV_size, hcl]; exact hj⟩ g1 (fun q h => by rw [g3] at h; cases h) hkC hasg rfl rfl hd fun H1 e1 z oq => ?_
  refine kk p e R s m args below meth c H1 _ cells slots lsA hb hc (hS.put z oq hBa) (hr.set hBa ⟨cA, ⟨hA1, ⟨kA, _, k1, k2, k3, k4⟩⟩, ?_⟩ oq) hl
  rw [e1, vp_cell_q, vp_cell_q, arrV_store, hcl]
  congr 2
  funext q
  by_cases hq : q = j
  · subst hq
    simp [updV, f1, va_rf]
  · simp [updV, f1, hq]
theorem z_getClass {index a n : Nat} {f : Nat → Option Nat} (hd : decode d.cc pc = .ok (.invokevirtual index, 3)) (hw : Cond.methodLink d.y.cls index ⟨"java/lang/Object", "getClass", "()Ljava/lang/Class;"⟩ ∈ GT ∧ Cond.declares ⟨"java/lang/Object", "getClass", "()Ljava/lang/Class;"⟩ ∈ GT ∧ Cond.selects "[Ljava/lang/Object;" ⟨"java/lang/Object", "getClass", "()Ljava/lang/Class;"⟩ ⟨"java/lang/Object", "getClass", "()Ljava/lang/Class;"⟩ ∈ GT ∧ Cond.instanceMethod ⟨"java/lang/Object", "getClass", "()Ljava/lang/Class;"⟩ ∈ GT ∧ Cond.native ⟨"java/lang/Object", "getClass", "()Ljava/lang/Class;"⟩ ∈ GT) (hM : M a = some (aQ tO n f)) (hfr : 1 ≤ d.fr ∧ 22 ≤ d.lo) (hst : (st.map fun v => v.category).sum ≤ 8) (kk : tri g d bk bn P M (pc + 3) ls (.ref g.mi :: st)) : tri g d bk bn P M pc ls (.ref a :: st) := by
  intro p e R s m args below meth c H locs cells slots lsA hb hc hS hr hl
  have hts := hb.2.2.2.1
  obtain ⟨hBa, cA, ⟨hA1, hA2⟩, hcell⟩ := hr a _ hM
  have hRm := hb.2.2.2.2.2.1.2
  refine va_getC hb.1.1 hb.1.2 (hb.2.1.2.trans hl.1.1.symm) hb.2.2.1 (hts _ hw.1) (hts _ hw.2.1) (hts _ hw.2.2.1) (hts _ hw.2.2.2.1) (hts _ hw.2.2.2.2) hb.2.2.2.2.2.2.2.2.2.2.2.1.1.2 ⟨_, hcell, rfl, va_nmO hA2 (by decide)⟩ (by omega) (by omega) hd (kk p e R s m args below meth c H locs cells slots lsA hb hc hS hr hl)
theorem z_ldcO {index : Nat} (hd : decode d.cc pc = .ok (.ldc index, 2)) (hw : Cond.classLink d.y.cls index "[Ljava/lang/Object;" ∈ GT) (kk : tri g d bk bn P M (pc + 2) ls (.ref g.mi :: st)) : tri g d bk bn P M pc ls st := by
  intro p e R s m args below meth c H locs cells slots lsA hb hc hS hr hl
  exact va_ldcM hb.1.1 hb.1.2 hb.2.2.1 (hb.2.2.2.1 _ hw) hb.2.2.2.2.2.2.2.2.2.2.2.1.1.2 hd (kk p e R s m args below meth c H locs cells slots lsA hb hc hS hr hl)
theorem z_objInit {index a : Nat} (hd : decode d.cc pc = .ok (.invokespecial index, 3)) (hw : Cond.methodLink d.y.cls index Lib.objectInit ∈ GT ∧ Cond.instanceMethod Lib.objectInit ∈ GT ∧ Cond.code Lib.objectInit ⟨#[0xb1]⟩ 1 none ∈ GT) (hfr : 1 ≤ d.fr ∧ 20 ≤ d.lo) (hst : (st.map fun v => v.category).sum ≤ 8) (kk : tri g d bk bn P M (pc + 3) ls st) : tri g d bk bn P M pc ls (.ref a :: st) := by
  intro p e R s m args below meth c H locs cells slots lsA hb hc hS hr hl
  have hts := hb.2.2.2.1
  have hRm := hb.2.2.2.2.2.1.2
  exact W.objInit hb.1.1 hb.1.2 hb.2.2.1 (hts _ hw.1) (hts _ hw.2.1) (hts _ hw.2.2) rfl (hl.1.1.trans hb.2.1.2.symm) rfl hd (by omega) (by show 2 * 0 + _ + _ ≤ _; omega) (kk p e R s m args below meth c H locs cells slots lsA hb hc hS hr hl)
theorem z_cast {index a ci : Nat} {fs : List Value} {r : vw_C} (hd : decode d.cc pc = .ok (.checkcast index, 3)) (hM : M a = some (ob ci fs)) (hci : vwCl[ci]? = some r) (hw : Cond.classLink d.y.cls index r.1 ∈ GT) (kk : tri g d bk bn P M (pc + 3) ls (.ref a :: st)) : tri g d bk bn P M pc ls (.ref a :: st) := by
  intro p e R s m args below meth c H locs cells slots lsA hb hc hS hr hl
  obtain ⟨r', hr', cellV, g1, g2, g3, -⟩ := (hr a _ hM).2
  have hcls := (hb.2.2.2.2.2.2.2.1.1 ci r hci).2
  exact va_castS hb.1.1 hb.1.2 hb.2.2.1 (hb.2.2.2.1 _ hw) hcls ⟨cellV, g1, by rw [g3]; rfl, by rw [g2]; exact hcls.1⟩ hd (kk p e R s m args below meth c H locs cells slots lsA hb hc hS hr hl)
theorem z_castN {index : Nat} (hd : decode d.cc pc = .ok (.checkcast index, 3)) (kk : tri g d bk bn P M (pc + 3) ls (.null :: st)) : tri g d bk bn P M pc ls (.null :: st) := by
  intro p e R s m args below meth c H locs cells slots lsA hb hc hS hr hl
  exact lv_castN hb.1.1 hb.1.2 hd (kk p e R s m args below meth c H locs cells slots lsA hb hc hS hr hl)
theorem vp_cl0 : (nI 0).toNatClampNeg = 0 := nI_clamp (by decide)
theorem nI_int {n : Nat} (h : n < 2 ^ 31) : (nI n).toInt = (n : Int) := by
  have h0 : (0 : Int) ≤ (nI n).toInt := by
    have h1 := Int32.not_lt.mp (nI_pos h)
    simpa using Int32.le_iff_toInt_le.mp h1
  have h2 : (nI n).toInt.toNat = n := nI_clamp h
  omega
/-- System.arraycopy between two rows of Object, from their starts -/
theorem z_arraycopy {index a0 a n0 n1 k ci : Nat} {f h : Nat → Option Nat} (hd : decode d.cc pc = .ok (.invokestatic index, 3)) (hw : Cond.methodLink d.y.cls index arraycopyName ∈ GT ∧ Cond.native arraycopyName ∈ GT ∧ Cond.static arraycopyName ∈ GT ∧ Cond.initialized "java/lang/System" ∈ GT) (hM0 : M a0 = some (aQ tO n0 f)) (hM : M a = some (aQ tO n1 h)) (hca : cvO ci) (hel : ∀ i, i < k → ∀ y, f i = some y → ∃ fs, M y = some (ob ci fs)) (h0 : k ≤ n0) (h1 : k ≤ n1) (hk : k < 2 ^ 31) (hfr : 1 ≤ d.fr ∧ nativeFrameWords "java/lang/System" "arraycopy" 5 + 19 ≤ d.lo) (hst : (st.map fun v => v.category).sum ≤ 8) (kk : tri g d bk bn P (mset M a (aQ tO n1 (va_cpy f h 0 0 k))) (pc + 3) ls st) : tri g d bk bn P M pc ls (.int (nI k) :: .int (nI 0) :: .ref a :: .int (nI 0) :: .ref a0 :: st) := by
  intro p e R s m args below meth c H locs cells slots lsA hb hc hS hr hl T hT X
  have hts := hb.2.2.2.1
  have hRm := hb.2.2.2.2.2.1.2
  have hK := hb.2.2.2.2.2.2.2.1
  have hGT0 : ∀ w ∈ GT, w.before #[] s = true := fun w hw => gt_at (State.WarmedH.refl s) (gt_mem hw) (hb.2.2.2.1 w hw)
  obtain ⟨hB0, c0, ⟨hA0, hR0⟩, hc0⟩ := hr a0 _ hM0
  obtain ⟨hBa, c1, ⟨hA1, ⟨kA, comp, r1, r2, r3, r4⟩⟩, hc1⟩ := hr a _ hM
  obtain ⟨-, k0, hk0, cm0, hkk0⟩ := hA0 n0 (fun j => va_rf (f j))
  have hcl : (nI k).toNatClampNeg = k := nI_clamp hk
  obtain ⟨vm', X', step⟩ := X.arraycopy hb.1.1 hb.2.2.1 (hts _ hw.1) (hts _ hw.2.1) (hts _ hw.2.2.1) (hts _ hw.2.2.2) (src := a0) (dst := a) (cs := vp_cell c0 (n0, .inr (.inr (.inr (.inr f))))) (cd := vp_cell c1 (n1, .inr (.inr (.inr (.inr h))))) (srcPos := nI 0) (destPos := nI 0) (n := nI k) (by rw [hT]; exact hc0) (by rw [hT]; exact hc1)
    (fun _ h => by cases h) (fun _ h => by cases h) (fun h => by cases h) (fun h => by cases h) hk0 r1 hkk0 r2 rfl (nI_pos (by decide)) (nI_pos (by decide)) (nI_pos hk)
    (by rw [nI_int (by decide), nI_int hk]; show ¬ _ > ((arrV c0 n0 (fun j => va_rf (f j))).slots.size : Int); rw [arrV_size]; omega)
    (by rw [nI_int (by decide), nI_int hk]; show ¬ _ > ((arrV c1 n1 (fun j => va_rf (h j))).slots.size : Int); rw [arrV_size]; omega)
    (fun vm₁ hal i hi => by
      rw [hcl] at hi
      have ev : (vp_cell c0 (n0, .inr (.inr (.inr (.inr f))))).slots.getD ((nI 0).toNatClampNeg + i) .null = va_rf (f i) := by
        show (arrV c0 n0 (fun j => va_rf (f j))).slots.getD _ _ = _
        rw [vp_cl0, Nat.zero_add, Array.getD_eq_getD_getElem?, arrV_read _ _ (by omega)]
        rfl
      rw [ev]
      cases hy : f i with
      | none => exact ⟨rfl, trivial⟩
      | some y =>
        obtain ⟨fs, hfs⟩ := hel i hi y hy
        obtain ⟨r, cV, g1, g2, g3, -, t, ht, hasg⟩ := cvO.use hK hGT0 hca (hr y _ hfs).2
        have ec : t = comp := Option.some.inj (ht.symm.trans r3)
        subst ec
        obtain ⟨kC, hkC, -⟩ := Vm.findClass_spec g3
        obtain ⟨kE, hkE, -⟩ := Vm.findClass_spec r3
        obtain ⟨kC', hkC', -⟩ := hal.2.2 _ _ hkC
        obtain ⟨kE', hkE', -⟩ := hal.2.2 _ _ hkE
        refine ⟨rfl, cV, (show T.heap[y]? = some cV by rw [hT]; exact g1), (fun q h => by rw [h] at g2; cases g2), ⟨kC', hkC'⟩, ⟨kE', hkE'⟩, ?_⟩
        show vm₁.assignable _ _ = true
        rw [hal.assignable]
        exact hasg)
    (g := F0 m pc lsA (.int (nI k) :: .int (nI 0) :: .ref a :: .int (nI 0) :: .ref a0 :: st)) rfl (hl.1.1.trans hb.2.1.2.symm) (rest := st) rfl (by rw [hb.1.2]; exact hd) (by omega) (by show 2 * 0 + _ + _ ≤ _; omega)
  have e1 : copied (vp_cell c0 (n0, .inr (.inr (.inr (.inr f))))) (vp_cell c1 (n1, .inr (.inr (.inr (.inr h))))) (nI 0) (nI 0) (nI k) = vp_cell c1 (n1, .inr (.inr (.inr (.inr (va_cpy f h 0 0 k))))) := by
    rw [vp_cell_q, vp_cell_q, vp_cell_q]
    have hv := va_copied (dp := 0) (n1 := n1) (fun z => va_rf z) c0 c1 f h (n0 := n0) (sp := 0) (n := k) (by omega)
    unfold copied
    rw [vp_cl0, hcl]
    exact hv
  rw [e1] at X' step
  have hlt : a < H.size := (Array.getElem?_eq_some_iff.mp hc1).1
  have hheap : ((T.setVm vm').setCell a (vp_cell c1 (n1, .inr (.inr (.inr (.inr (va_cpy f h 0 0 k))))))).heap = H.setIfInBounds a (vp_cell c1 (n1, .inr (.inr (.inr (.inr (va_cpy f h 0 0 k)))))) := by rw [← hT]; rfl
  have oq : ∀ q : Nat, q ≠ a → (H.setIfInBounds a (vp_cell c1 (n1, .inr (.inr (.inr (.inr (va_cpy f h 0 0 k)))))))[q]? = H[q]? := fun q hq => by simp [Array.getElem?_setIfInBounds, Ne.symm hq]
  obtain ⟨t, a1, b1⟩ := kk p e R s m args below meth c _ _ cells slots lsA hb hc ⟨by simp; exact hS.1, fun q g1 g2 => by
      rw [oq q (fun e => g2 (by rw [e]; exact hBa))]
      exact hS.2.1 q g1 g2, fun q hq => by
      rcases List.mem_append.mp hq with h | h
      · exact hS.2.2 q h
      · obtain ⟨z, -, hz⟩ := List.mem_map.mp h
        rw [← hz]
        exact hBa⟩ (hr.set hBa ⟨c1, ⟨hA1, ⟨kA, comp, r1, r2, r3, r4⟩⟩, show (H.setIfInBounds a _)[a]? = some _ by simp [Array.getElem?_setIfInBounds, hlt]⟩ oq) hl _ hheap X'
  exact ⟨t, step t a1, b1⟩
end RULES3
