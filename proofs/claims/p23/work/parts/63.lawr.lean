/-! rules for the law: calls of its helpers with handlers, its script -/
section LAWC
variable {g : GG} {d : MD} {bk bn : Nat} {P : PO} {M : Mem} {pc : Nat} {ls : List (Nat × Value)} {st : List Value}
theorem z_isX {index n bk1 bn1 : Nat} {dd : MD} {as rest : List Value} {P1 : PO} (hd : decode d.cc pc = .ok (.invokestatic index, 3)) (hv : Cond.methodLink d.y.cls index dd.y ∈ GT ∧ Cond.static dd.y ∈ GT ∧ md_w dd ∈ GT ∧ Cond.initialized dd.y.cls ∈ GT) (hww : md_w dd = .codeWith dd.y dd.cc dd.nL dd.rt dd.hh) (hy : dd.y.cls ≠ "java/lang/invoke/MethodHandle" ∧ dd.y.cls ≠ "java/lang/invoke/VarHandle") (hpd : (parseMethodDescriptor dd.y.desc).map (fun d => d.parameters.length) = some n) (hcon : con g dd bk1 bn1 as M P1) (hC : clk d dd bk1 bn1 bk bn) (hn : as.length = n) (hst : st = as.reverse ++ rest) (hw : (rest.map fun v => v.category).sum ≤ 8)
    (kk : ∀ (v : Option Value) (M' : Mem), P1 (.inl v) M' → tri g d (bk - bk1) (bn - bn1) P M' (pc + 3) ls (v.toList ++ rest)) (kx : ∀ (E : String) (M' : Mem), P1 (.inr E) M' → trx g d (bk - bk1) (bn - bn1) P M' pc ls rest E) : tri g d bk bn P M pc ls st := by
  intro p e R s m args below meth c H locs cells slots lsA hb hc hS hr hl
  obtain ⟨l1, l2, w1, w2⟩ := hv
  have hts := hb.2.2.2.1
  have hRm := room_ok hC.1 ⟨hb.2.2.2.2.2.1.2.1, hb.2.2.2.2.2.1.2.2⟩
  refine run_go hb hc hC.2.1 hC.2.2 hS hl (vx_runSX (hh := dd.hh) (bytes := dd.cc) (maxL := dd.nL) (ret := dd.rt) (As := as) (rest := rest) (n := n) ⟨hb.1.1, hb.1.2, hb.2.1.2, hb.2.2.1, hts⟩ hcon ?_ ⟨gP_blind g _ M, gP_start hb.2.2.2.2.2.2 hS hr⟩ rfl hn hl.1.1 hst (lv_room hw) hd ⟨by have := hC.2.1; omega, by have := hC.2.2; omega⟩) kk kx
  refine ⟨⟨rfl, rfl, hRm.1, hRm.2, pay_gt hts w1, by rw [← hww]; exact List.mem_cons_self⟩, by rw [← hww]; exact hts _ w1, hts _ w2, hy, fun sig h => ?_, hts _ l1, hts _ l2⟩
  rw [h] at hpd
  exact (Option.some.inj hpd).symm
theorem z_isXQ {index n bk1 bn1 : Nat} {dd : MD} {as rest : List Value} {v : Option Value} {Q : Mem → Prop} (hd : decode d.cc pc = .ok (.invokestatic index, 3)) (hv : Cond.methodLink d.y.cls index dd.y ∈ GT ∧ Cond.static dd.y ∈ GT ∧ md_w dd ∈ GT ∧ Cond.initialized dd.y.cls ∈ GT) (hww : md_w dd = .codeWith dd.y dd.cc dd.nL dd.rt dd.hh) (hy : dd.y.cls ≠ "java/lang/invoke/MethodHandle" ∧ dd.y.cls ≠ "java/lang/invoke/VarHandle") (hpd : (parseMethodDescriptor dd.y.desc).map (fun d => d.parameters.length) = some n) (hcon : con g dd bk1 bn1 as M (rQ v Q)) (hC : clk d dd bk1 bn1 bk bn) (hn : as.length = n) (hst : st = as.reverse ++ rest) (hw : (rest.map fun v => v.category).sum ≤ 8)
    (kk : ∀ M', Q M' → tri g d (bk - bk1) (bn - bn1) P M' (pc + 3) ls (v.toList ++ rest)) : tri g d bk bn P M pc ls st := by
  refine z_isX hd hv hww hy hpd hcon hC hn hst hw (fun v' M' h => ?_) (fun E M' h => by cases h.1)
  obtain ⟨h1, h2⟩ := h
  cases h1
  exact kk M' h2
theorem z_ivO {index ci n a bk1 bn1 : Nat} {dd : MD} {fs as rest : List Value} {o : OP} {E : Nat → String} {Q : Mem → Prop} (hd : decode d.cc pc = .ok (.invokevirtual index, 3)) (hv : vlk d.y.cls index ci dd n) (hM : M a = some (ob ci fs)) (hcon : con g dd bk1 bn1 (.ref a :: as) M (rO o E Q)) (hC : clk d dd bk1 bn1 bk bn) (hn : as.length = n) (hst : st = as.reverse ++ .ref a :: rest) (hw : (rest.map fun v => v.category).sum ≤ 8)
    (kk : ∀ M', Q M' → o.1 = 0 → tri g d (bk - bk1) (bn - bn1) P M' (pc + 3) ls (.int o.2.1 :: rest)) (kx : ∀ M', Q M' → o.1 ≠ 0 → trx g d (bk - bk1) (bn - bn1) P M' pc ls rest (E o.1)) : tri g d bk bn P M pc ls st := by
  refine z_invokevirtual hd hv hM hcon hC hn hst hw (fun v' M' h => ?_) (fun E' M' h => ?_)
  · obtain ⟨h1, h2 | h2⟩ := h
    · obtain ⟨h3, h4⟩ := h2
      cases h4
      exact kk M' h1 h3
    · cases h2.2
  · obtain ⟨h1, h2 | h2⟩ := h
    · cases h2.2
    · obtain ⟨h3, h4⟩ := h2
      cases h4
      exact kx M' h1 h3
/-- a contract of a method with handlers -/
theorem con_h {as : List Value} (h : tri g d bk bn P M 0 (lv_args 0 as) []) (hp : plainName d.y.cls = true) (hh : md_w d = .codeWith d.y d.cc d.nL d.rt d.hh) (hlen : ((lg_sl as).length.ble d.nL) = true) (hcat : ∀ q ∈ lv_args 0 as, q.2.category = 1) (hnd : lnd (lv_args 0 as)) : con g d bk bn as M P := con_ofW hp hh (Nat.le_of_ble_eq_true hlen) hcat hnd h
end LAWC
theorem cl_28 : Cond.classLink RL 28 xIA ∈ GT := gt_in 220 (by decide +kernel) rfl
theorem cl_30 : Cond.classLink RL 30 xIO ∈ GT := gt_in 221 (by decide +kernel) rfl
theorem cl_32 : Cond.classLink RL 32 xIS ∈ GT := gt_in 222 (by decide +kernel) rfl
theorem cst_xIA : Cond.castable xIA xIA ∈ GT := gt_in 235 (by decide +kernel) rfl
theorem cst_xIS : Cond.castable xIS xIS ∈ GT := gt_in 307 (by decide +kernel) rfl
theorem cst_xIO : Cond.castable xIO xIO ∈ GT := gt_in 348 (by decide +kernel) rfl
theorem oc_addFormat (σ : ST) (p0 : Int32) : (o_addFormat σ p0).1 ≤ 2 := by
  unfold o_addFormat
  repeat' split
  all_goals exact Nat.le_of_ble_eq_true rfl
theorem oc_setRisk (σ : ST) (p0 : Int32) (p1 : Int32) : (o_setRisk σ p0 p1).1 ≤ 2 := by
  unfold o_setRisk
  repeat' split
  all_goals exact Nat.le_of_ble_eq_true rfl
theorem oc_addConversion (σ : ST) (p0 : Int32) (p1 : Int32) (p2 : Int32) : (o_addConversion σ p0 p1 p2).1 ≤ 2 := by
  unfold o_addConversion
  repeat' split
  all_goals exact Nat.le_of_ble_eq_true rfl
theorem oc_bestWay (σ : ST) (p0 : Int32) (p1 : Int32) : (o_bestWay σ p0 p1).1 ≤ 1 := by
  unfold o_bestWay
  repeat' split
  all_goals exact Nat.le_of_ble_eq_true rfl
theorem oc_deposit (σ : ST) (p0 : Int32) (p1 : Int32) (p2 : Int32) : (o_deposit σ p0 p1 p2).1 ≤ 3 := by
  unfold o_deposit
  repeat' split
  all_goals exact Nat.le_of_ble_eq_true rfl
theorem oc_revise (σ : ST) (p0 : Int32) (p1 : Int32) (p2 : Bool) : (o_revise σ p0 p1 p2).1 ≤ 3 := by
  unfold o_revise
  repeat' split
  all_goals exact Nat.le_of_ble_eq_true rfl
theorem oc_convert (σ : ST) (p0 : Int32) (p1 : Int32) : (o_convert σ p0 p1).1 ≤ 2 := by
  unfold o_convert
  repeat' split
  all_goals exact Nat.le_of_ble_eq_true rfl
theorem oc_purge (σ : ST) (p0 : Int32) (p1 : Int32) : (o_purge σ p0 p1).1 ≤ 2 := by
  unfold o_purge
  repeat' split
  all_goals exact Nat.le_of_ble_eq_true rfl
theorem oc_versions (σ : ST) (p0 : Int32) : (o_versions σ p0).1 ≤ 1 := by
  unfold o_versions
  repeat' split
  all_goals exact Nat.le_of_ble_eq_true rfl
theorem oc_unitOf (σ : ST) (p0 : Int32) (p1 : Int32) : (o_unitOf σ p0 p1).1 ≤ 1 := by
  unfold o_unitOf
  repeat' split
  all_goals exact Nat.le_of_ble_eq_true rfl
theorem oc_read (σ : ST) (p0 : Int32) (p1 : Int32) : (o_read σ p0 p1).1 ≤ 2 := by
  unfold o_read
  repeat' split
  all_goals exact Nat.le_of_ble_eq_true rfl
theorem oc_atRisk (σ : ST) (p0 : Int32) : (o_atRisk σ p0).1 ≤ 1 := by
  unfold o_atRisk
  repeat' split
  all_goals exact Nat.le_of_ble_eq_true rfl
theorem oc_sites (σ : ST) (p0 : Int32) : (o_sites σ p0).1 ≤ 1 := by
  unfold o_sites
  repeat' split
  all_goals exact Nat.le_of_ble_eq_true rfl
theorem oc_sound (σ : ST) (p0 : Int32) : (o_sound σ p0).1 ≤ 1 := by
  unfold o_sound
  repeat' split
  all_goals exact Nat.le_of_ble_eq_true rfl
theorem oc_damage (σ : ST) (p0 : Int32) (p1 : Int32) (p2 : Int32) : (o_damage σ p0 p1 p2).1 ≤ 2 := by
  unfold o_damage
  repeat' split
  all_goals exact Nat.le_of_ble_eq_true rfl
theorem oc_toggleSite (σ : ST) (p0 : Int32) : (o_toggleSite σ p0).1 ≤ 1 := by
  unfold o_toggleSite
  repeat' split
  all_goals exact Nat.le_of_ble_eq_true rfl
theorem oc_audit (σ : ST) (p0 : Int32) : (o_audit σ p0).1 ≤ 2 := by
  unfold o_audit
  repeat' split
  all_goals exact Nat.le_of_ble_eq_true rfl
theorem od_damage (σ : ST) (s u c : Int32) : (o_damage σ s u c).2.1 = 0 ∨ (o_damage σ s u c).2.1 = 1 := by
  have hb : ∀ b : Bool, bI b = 0 ∨ bI b = 1 := by decide
  unfold o_damage
  split
  · split
    · exact hb _
    · exact Or.inl rfl
  · exact Or.inl rfl

abbrev mL_law : MD := (yL_law, code, 9, some .boolean, [], 14, 500)
section LAWR
variable {g : GG} {bk bn : Nat} {P : PO} {M : Mem} {pc : Nat} {ls : List (Nat × Value)} {st : List Value}
theorem z_sld {d : MD} {j : Nat} {i : Int32} (hd : decode d.cc pc = .ok (.iaload, 1)) (hi : i = nI j) (hj : j < g.L) (hn : g.L ≤ 2048) (kk : tri g d bk bn P M (pc + 1) ls (.int (g.xs j) :: st)) : tri g d bk bn P M pc ls (.int i :: .ref g.b :: st) := by
  intro p e R s m args below meth c H locs cells slots lsA hb hc hS hr hl
  subst hi
  have hG := hb.2.2.2.2.2.2
  have hX := hG.2.2.2.2.2.2
  have hcl : (nI j).toNatClampNeg = j := nI_clamp (by omega)
  refine va_sld hb.1.1 hb.1.2 hX.1 (Nat.lt_of_lt_of_le hX.2 hG.1.1) (Nat.not_le.mpr hX.2) hS (vp_in_nI hj (by omega)) hd ?_
  rw [hcl]
  exact kk p e R s m args below meth c H locs cells slots lsA hb hc hS hr hl
theorem z_slen {d : MD} (hd : decode d.cc pc = .ok (.arraylength, 1)) (kk : tri g d bk bn P M (pc + 1) ls (.int (nI g.L) :: st)) : tri g d bk bn P M pc ls (.ref g.b :: st) := by
  intro p e R s m args below meth c H locs cells slots lsA hb hc hS hr hl
  have hG := hb.2.2.2.2.2.2
  have hX := hG.2.2.2.2.2.2
  exact va_slen hb.1.1 hb.1.2 hX.1 (Nat.lt_of_lt_of_le hX.2 hG.1.1) (Nat.not_le.mpr hX.2) hS hd (kk p e R s m args below meth c H locs cells slots lsA hb hc hS hr hl)
end LAWR
theorem nz0 {n : Nat} (hn : n ≤ 3) (h : nI n = 0) : n = 0 := (nI_eq (a := n) (b := 0) (by omega) (by decide)).mp h
