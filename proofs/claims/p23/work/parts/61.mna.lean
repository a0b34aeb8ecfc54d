/-! new cells in a row: what constructors make -/
theorem arrV_ext (c : ClassId) {N : Nat} {f h : Nat → Value} (hq : ∀ j, j < N → f j = h j) : arrV c N f = arrV c N h := by
  unfold arrV
  rw [show (fun j : Fin N => f j.val) = (fun j : Fin N => h j.val) from funext fun j => hq j.1 j.2]
/-- n cells alike from the address q on -/
def mrow (q : Nat) (e : GE) : Nat → Mem → Mem
  | 0, M => M
  | n + 1, M => mset (mrow q e n M) (q + n) e
theorem mrow_in {q : Nat} {e : GE} {M : Mem} : ∀ n j, j < n → mrow q e n M (q + j) = some e
  | 0, j, h => absurd h (Nat.not_lt_zero j)
  | n + 1, j, h => by
    unfold mrow
    by_cases hj : j = n
    · rw [hj, mset_eq]
    · rw [mset_ne (by omega), mrow_in n j (by omega)]
theorem mrow_out {q z : Nat} {e : GE} {M : Mem} : ∀ n, (∀ j, j < n → z ≠ q + j) → mrow q e n M z = M z
  | 0, _ => rfl
  | n + 1, h => by
    unfold mrow
    rw [mset_ne (h n (Nat.lt_succ_self n)), mrow_out n (fun j hj => h j (by omega))]
section MNA
variable {g : GG} {d : MD} {bk bn : Nat} {P : PO} {M : Mem} {pc : Nat} {ls : List (Nat × Value)} {st : List Value}
theorem z_mna {index N K : Nat} {i k : Int32} (hd : decode d.cc pc = .ok (.multianewarray index 2, 4)) (hw : Cond.classLink d.y.cls index ("[" ++ (FieldType.array .int).toString) ∈ GT) (hi : i = nI N) (hk : k = nI K) (hN : N < 65536) (hK : K < 65536) (h1 : 1 + N ≤ bk) (h2 : N + N * K ≤ bn)
    (kk : ∀ a : Nat, M a = none → (∀ j, j < N → M (a + 1 + j) = none) → tri g d (bk - (1 + N)) (bn - (N + N * K)) P (mset (mrow (a + 1) (aI .int K (fun _ => 0)) N M) a (aQ (.array .int) N (fun j => some (a + 1 + j)))) (pc + 4) ls (.ref a :: st)) : tri g d bk bn P M pc ls (.int k :: .int i :: st) := by
  intro p e R s m args below meth c H locs cells slots lsA hb hc hS hr hl
  subst hi
  subst hk
  have hts := hb.2.2.2.1
  have hNc : (nI N).toNatClampNeg = N := nI_clamp (by omega)
  have hKc : (nI K).toNatClampNeg = K := nI_clamp (by omega)
  have hBH : g.B ≤ H.size := Nat.le_trans hb.2.2.2.2.2.2.1.1 hS.1
  have hby : K * componentBytes .int ≤ 536870912 := Nat.le_trans (Nat.mul_le_mul (Nat.le_of_lt hK) (by decide : componentBytes .int ≤ 8)) (by decide)
  have hover : (Cond.arrayOver (.array .int)).before args s = true := hb.2.2.2.2.2.2.2.2.2.2.2.1.2
  intro T hT Xs
  obtain ⟨vm₁, cA, comp, hW1, fA, fC, hO, hI, X', step⟩ := Xs.multianewarray2F (ty := .int) hb.1.1 hb.2.2.1 (hts _ hw) hover (hts _ ac_int) (g := F0 m pc lsA (.int (nI K) :: .int (nI N) :: st)) rfl (by rw [hb.1.2]; exact hd) rfl (nI_pos (by omega)) (nI_pos (by omega)) (by rw [hNc]; omega) (by rw [hKc]; exact hby) (by rw [hKc]; omega) (by decide) (by decide) (by rw [hNc]; omega) (by rw [hNc, hKc]; omega)
  rw [hNc, hKc] at X' step
  have hTh : (T.setVm vm₁).heap = H := hT
  generalize hF : Jvm.Free.Multi.fill (T.setVm vm₁) cA comp N K (defaultValue .int) N = F at X' step
  obtain ⟨f1, f2, -, -⟩ := Jvm.Free.Multi.fill_facts (T.setVm vm₁) cA comp N K (defaultValue .int) N
  rw [hF, hTh] at f1 f2
  have hold : ∀ x : Nat, x < H.size → F.heap[x]? = H[x]? := fun x hx => by
    have := Jvm.Free.Multi.fill_old (T.setVm vm₁) cA comp N K (defaultValue .int) (a := x) (by rw [hTh]; exact hx) N
    rw [hF, hTh] at this
    exact this
  have hrow : ∀ j : Nat, j < N → F.heap[H.size + 1 + j]? = some (Jvm.Free.Multi.innerC comp K (defaultValue .int)) := fun j hj => by
    have := Jvm.Free.Multi.fill_inner (T.setVm vm₁) cA comp N K (defaultValue .int) N j hj
    rw [hF, hTh] at this
    exact this
  have hA1 : ArrOfT s cA (.array .int) := fun N9 z9 => by
    obtain ⟨-, k9, hk9, cm9, hkk9⟩ := (hO 0 0 0).1
    exact ⟨(fun q hq => by cases hq), k9, hk9, cm9, hkk9⟩
  have hA2 : ArrOfT s comp .int := fun N9 z9 => by
    obtain ⟨-, k9, hk9, cm9, hkk9⟩ := (hI 0 (defaultValue .int)).1
    exact ⟨(fun q hq => by cases hq), k9, hk9, cm9, hkk9⟩
  have hnone : ∀ z, H.size ≤ z → M z = none := fun z hz => by
    cases hq : M z with
    | none => rfl
    | some e' => exact absurd (hr z e' hq).2.lt (Nat.not_lt.mpr hz)
  have hr1 : rep g s (mset (mrow (H.size + 1) (aI .int K (fun _ => 0)) N M) H.size (aQ (.array .int) N (fun j => some (H.size + 1 + j)))) F.heap := by
    intro q e' hq
    by_cases hqa : q = H.size
    · subst hqa
      rw [mset_eq] at hq
      cases hq
      refine ⟨hBH, cA, ⟨hA1, fA⟩, ?_⟩
      rw [vp_cell_q]
      refine f2.trans (congrArg some ((vr_outer cA N H.size N).trans (arrV_ext cA fun j hj => ?_)))
      rw [if_pos hj]
    · rw [mset_ne hqa] at hq
      by_cases hin : ∃ j, j < N ∧ q = H.size + 1 + j
      · obtain ⟨j, hj, rfl⟩ := hin
        rw [mrow_in N j hj] at hq
        cases hq
        refine ⟨by omega, comp, ⟨hA2, fC⟩, ?_⟩
        rw [vp_cell_i]
        exact (hrow j hj).trans (congrArg some (arrV_new comp K (.int 0)))
      · rw [mrow_out N (fun j hj e => hin ⟨j, hj, e⟩)] at hq
        exact ⟨(hr q e' hq).1, (hr q e' hq).2.kept (hold q (hr q e' hq).2.lt)⟩
  obtain ⟨t, a1, b1⟩ := kk H.size (hnone _ (Nat.le_refl _)) (fun j _ => hnone _ (by omega)) p e R s m args below meth c F.heap locs (cells + 1 + N) (slots + N + N * K) lsA hb ⟨by omega, by omega⟩ ⟨by have := hS.1; omega, fun x h1 h2 => (hold x (Nat.lt_of_lt_of_le h1 hS.1)).trans (hS.2.1 x h1 h2), hS.2.2⟩ hr1 hl F rfl X'
  refine ⟨t, step t ?_, b1⟩
  rw [hT]
  exact a1
end MNA
/-- new cells l over M: apart, new, told; all else as in M but at the places ch -/
def INI (ch : Nat → Prop) (M : Mem) (l : List (Nat × GE)) (M' : Mem) : Prop := (l.map Prod.fst).Nodup ∧ (∀ p, p ∈ l → M p.1 = none) ∧ (∀ p, p ∈ l → M' p.1 = some p.2) ∧ (∀ z, z ∉ l.map Prod.fst → ¬ ch z → M' z = M z) ∧ ∀ z, ch z → M z ≠ none ∧ M' z ≠ none
section INIS
variable {ch : Nat → Prop} {M M' M2 : Mem} {l l1 l2 : List (Nat × GE)} {q a : Nat} {e e0 x : GE}
theorem INI.nil (h : ∀ z, ch z → M z ≠ none) : INI ch M [] M := ⟨List.nodup_nil, fun _ h => (List.not_mem_nil h).elim, fun _ h => (List.not_mem_nil h).elim, fun _ _ _ => rfl, fun z hz => ⟨h z hz, h z hz⟩⟩
theorem key_mem {p : Nat × GE} (h : p ∈ l) : p.1 ∈ l.map Prod.fst := List.mem_map.mpr ⟨p, h, rfl⟩
theorem INI.key (h : INI ch M l M') {z : Nat} (hz : z ∈ l.map Prod.fst) : M z = none ∧ M' z ≠ none := by
  obtain ⟨p, hp, rfl⟩ := List.mem_map.mp hz
  exact ⟨h.2.1 p hp, by rw [h.2.2.1 p hp]; exact fun e => by cases e⟩
theorem INI.fresh (h : INI ch M l M') (hq : M' q = none) : q ∉ l.map Prod.fst ∧ ¬ ch q ∧ M q = none := by
  have h1 : q ∉ l.map Prod.fst := fun k => (h.key k).2 hq
  have h2 : ¬ ch q := fun k => (h.2.2.2.2 q k).2 hq
  exact ⟨h1, h2, (h.2.2.2.1 q h1 h2).symm.trans hq⟩
theorem INI.new (h : INI ch M l M') (hq : M' q = none) (e : GE) : INI ch M ((q, e) :: l) (mset M' q e) := by
  obtain ⟨f1, f2, f3⟩ := h.fresh hq
  refine ⟨List.nodup_cons.mpr ⟨f1, h.1⟩, fun p hp => ?_, fun p hp => ?_, fun z hz hc => ?_, fun z hz => ⟨(h.2.2.2.2 z hz).1, ?_⟩⟩
  · rcases List.mem_cons.mp hp with rfl | hp
    · exact f3
    · exact h.2.1 p hp
  · rcases List.mem_cons.mp hp with rfl | hp
    · exact mset_eq
    · rw [mset_ne (fun k => f1 (by rw [← k]; exact key_mem hp))]
      exact h.2.2.1 p hp
  · have hz' : z ≠ q ∧ z ∉ l.map Prod.fst := ⟨fun k => hz (by rw [k]; exact List.mem_cons_self), fun k => hz (List.mem_cons_of_mem _ k)⟩
    rw [mset_ne hz'.1]
    exact h.2.2.2.1 z hz'.2 hc
  · rw [mset_ne (fun k => f2 (by rw [← k]; exact hz))]
    exact (h.2.2.2.2 z hz).2
theorem INI.put (h : INI ch M l M') (ha : ch a) (e : GE) : INI ch M l (mset M' a e) := by
  refine ⟨h.1, h.2.1, fun p hp => ?_, fun z hz hc => ?_, fun z hz => ⟨(h.2.2.2.2 z hz).1, ?_⟩⟩
  · rw [mset_ne (fun k => (h.2.2.2.2 a ha).1 (by rw [← k]; exact h.2.1 p hp))]
    exact h.2.2.1 p hp
  · rw [mset_ne (fun k => hc (by rw [k]; exact ha))]
    exact h.2.2.2.1 z hz hc
  · by_cases hz' : z = a
    · rw [hz', mset_eq]
      exact fun k => by cases k
    · rw [mset_ne hz']
      exact (h.2.2.2.2 z hz).2
theorem INI.upd (h : INI ch M (l1 ++ (q, e0) :: l2) M') (e : GE) : INI ch M (l1 ++ (q, e) :: l2) (mset M' q e) := by
  have hk : (l1 ++ (q, e) :: l2).map Prod.fst = (l1 ++ (q, e0) :: l2).map Prod.fst := by simp
  have hin : q ∈ (l1 ++ (q, e0) :: l2).map Prod.fst := key_mem (p := (q, e0)) (List.mem_append_right _ List.mem_cons_self)
  have hnd := h.1
  rw [List.map_append, List.map_cons, List.nodup_append] at hnd
  have hn2 := (List.nodup_cons.mp hnd.2.1).1
  refine ⟨by rw [hk]; exact h.1, fun p hp => ?_, fun p hp => ?_, fun z hz hc => ?_, fun z hz => ⟨(h.2.2.2.2 z hz).1, ?_⟩⟩
  · have : p.1 ∈ (l1 ++ (q, e0) :: l2).map Prod.fst := by rw [← hk]; exact key_mem hp
    exact (h.key this).1
  · rcases List.mem_append.mp hp with hp | hp
    · rw [mset_ne (fun k => hnd.2.2 p.1 (key_mem hp) q List.mem_cons_self k)]
      exact h.2.2.1 p (List.mem_append_left _ hp)
    · rcases List.mem_cons.mp hp with rfl | hp
      · exact mset_eq
      · rw [mset_ne (fun k => hn2 (by have hk2 := key_mem hp; rw [k] at hk2; exact hk2))]
        exact h.2.2.1 p (List.mem_append_right _ (List.mem_cons_of_mem _ hp))
  · rw [hk] at hz
    rw [mset_ne (fun k => hz (by rw [k]; exact hin))]
    exact h.2.2.2.1 z hz hc
  · rw [mset_ne (fun k => (h.2.2.2.2 z hz).1 (by rw [k]; exact (h.key hin).1))]
    exact (h.2.2.2.2 z hz).2
/-- behind a constructor of the object at a -/
def CTR (M : Mem) (a : Nat) (e : GE) (l : List (Nat × GE)) (M' : Mem) : Prop := INI (fun z => z = a) M l M' ∧ M' a = some e
theorem INI.call (h : INI ch M ((q, e0) :: l) M') (k : CTR M' q e l1 M2) : INI ch M (l1 ++ (q, e) :: l) M2 := by
  obtain ⟨k, kq⟩ := k
  have hnd := List.nodup_cons.mp h.1
  have hd : ∀ z, z ∈ l1.map Prod.fst → z ∉ ((q, e0) :: l).map Prod.fst ∧ ¬ ch z ∧ M z = none := fun z hz => h.fresh (k.key hz).1
  have hqM : M q = none := h.2.1 (q, e0) List.mem_cons_self
  refine ⟨?_, fun p hp => ?_, fun p hp => ?_, fun z hz hc => ?_, fun z hz => ⟨(h.2.2.2.2 z hz).1, ?_⟩⟩
  · rw [List.map_append, List.nodup_append]
    exact ⟨k.1, h.1, fun x hx y hy e9 => (hd x hx).1 (by rw [e9]; exact hy)⟩
  · rcases List.mem_append.mp hp with hp | hp
    · exact (hd p.1 (key_mem hp)).2.2
    · rcases List.mem_cons.mp hp with rfl | hp
      · exact hqM
      · exact h.2.1 p (List.mem_cons_of_mem _ hp)
  · rcases List.mem_append.mp hp with hp | hp
    · exact k.2.2.1 p hp
    · rcases List.mem_cons.mp hp with rfl | hp
      · exact kq
      · rw [k.2.2.2.1 p.1 (fun z => (hd p.1 z).1 (List.mem_cons_of_mem _ (key_mem hp))) (fun z => hnd.1 (by have hk2 := key_mem hp; rw [z] at hk2; exact hk2))]
        exact h.2.2.1 p (List.mem_cons_of_mem _ hp)
  · rw [List.map_append, List.mem_append] at hz
    have h1 : z ∉ l1.map Prod.fst := fun z9 => hz (Or.inl z9)
    have h2 : z ∉ ((q, e0) :: l).map Prod.fst := fun z9 => hz (Or.inr z9)
    rw [k.2.2.2.1 z h1 (fun z9 => h2 (by rw [z9]; exact List.mem_cons_self))]
    exact h.2.2.2.1 z h2 hc
  · have hzM := h.2.2.2.2 z hz
    rw [k.2.2.2.1 z (fun z9 => (hd z z9).2.1 hz) (fun z9 => hzM.1 (by rw [z9]; exact hqM))]
    exact hzM.2
theorem INI.at (h : INI ch M ((q, x) :: l) M') : M' q = some x := h.2.2.1 (q, x) List.mem_cons_self
/-- rows of cells alike -/
def rws (q : Nat) (x : GE) : Nat → List (Nat × GE)
  | 0 => []
  | n + 1 => (q + n, x) :: rws q x n
theorem INI.rows (h : INI ch M l M') : ∀ n, (∀ j, j < n → M' (q + j) = none) → INI ch M (rws q x n ++ l) (mrow q x n M')
  | 0, _ => h
  | n + 1, hf => INI.new (INI.rows h n (fun j hj => hf j (by omega))) ((mrow_out n (fun j hj => by omega)).trans (hf n (Nat.lt_succ_self n))) x
theorem CTR.one (h : M a = some e) : CTR M a e [] M := ⟨INI.nil (fun z hz => by rw [hz, h]; exact fun k => by cases k), h⟩
theorem CTR.new (h : CTR M a e l M') (hq : M' q = none) (x : GE) : CTR M a e ((q, x) :: l) (mset M' q x) := ⟨h.1.new hq x, by
  rw [mset_ne (fun k => by rw [← k, h.2] at hq; cases hq)]
  exact h.2⟩
theorem CTR.put (h : CTR M a e l M') (x : GE) : CTR M a x l (mset M' a x) := ⟨h.1.put rfl x, mset_eq⟩
theorem CTR.call (h : CTR M a e ((q, e0) :: l) M') (k : CTR M' q x l1 M2) : CTR M a e (l1 ++ (q, x) :: l) M2 := ⟨h.1.call k, by
  have hn : a ≠ q := fun e9 => (h.1.2.2.2.2 a rfl).1 (by rw [e9]; exact h.1.2.1 (q, e0) List.mem_cons_self)
  rw [k.1.2.2.2.1 a (fun z => by have h3 := h.2; rw [(k.1.key z).1] at h3; cases h3) hn]
  exact h.2⟩
theorem CTR.mna {N : Nat} {x y : GE} (h : CTR M a e l M') (hq : M' q = none) (hr : ∀ j, j < N → M' (q + 1 + j) = none) : CTR M a e ((q, y) :: (rws (q + 1) x N ++ l)) (mset (mrow (q + 1) x N M') q y) := by
  have h1 : CTR M a e (rws (q + 1) x N ++ l) (mrow (q + 1) x N M') := ⟨h.1.rows N hr, (mrow_out N (fun j hj k => by have := hr j hj; rw [← k, h.2] at this; cases this)).trans h.2⟩
  exact h1.new ((mrow_out N (fun j hj => by omega)).trans hq) y
end INIS
