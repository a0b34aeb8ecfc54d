/-! the class: units' own methods; the JDK's arithmetic -/
section U0
variable {g : GG} {d : MD} {bk bn : Nat} {P : PO} {M : Mem} {pc : Nat} {ls : List (Nat × Value)} {st : List Value}
theorem z_ldc_w {index : Nat} {v : Int32} (hd : decode d.cc pc = .ok (.ldc_w index, 3)) (hw : Cond.constant d.y.cls index v ∈ GT) (kk : tri g d bk bn P M (pc + 3) ls (.int v :: st)) : tri g d bk bn P M pc ls st := by
  intro p e R s m args below meth c H locs cells slots lsA hb hc hS hr hl
  exact lv_ldcw hb.1.1 hb.1.2 hb.2.2.1 (hb.2.2.2.1 _ hw) hd (kk p e R s m args below meth c H locs cells slots lsA hb hc hS hr hl)
end U0
theorem lc_RJ6_265 : Cond.constant RJ6 265 1431655765 ∈ GT := gt_in 202 (by decide +kernel) rfl
theorem lc_RJ6_266 : Cond.constant RJ6 266 858993459 ∈ GT := gt_in 203 (by decide +kernel) rfl
theorem lc_RJ6_267 : Cond.constant RJ6 267 252645135 ∈ GT := gt_in 204 (by decide +kernel) rfl
/-- a contract of a method of a class that natives stand in (java/lang/Math): the method itself has none -/
theorem con_f {g : GG} {d : MD} {bk bn : Nat} {P : PO} {M : Mem} {as : List Value} (h : tri g d bk bn P M 0 (lv_args 0 as) []) (hp : plainFor d.y = true) (hh : d.hh = []) (hlen : ((lg_sl as).length.ble d.nL) = true) (hcat : ∀ q ∈ lv_args 0 as, q.2.category = 1) (hnd : lnd (lv_args 0 as)) : con g d bk bn as M P := by
  refine MetFree.of_bodySF (code := d.cc) (maxLocals := d.nL) (ret := d.rt) hp ?_ ?_
  · intro args s m h1 hn
    obtain ⟨meth, c, h1, h2, h3, h4, h5, h6, -, -⟩ := Cond.code_spec hn (atoms_spec (ws := md_w d :: GT) h1 _ (by rw [md_w0 hh]; exact List.mem_cons_self))
    exact ⟨meth, c, h1, h2, h3, h4, h5, h6⟩
  · intro p e s m args below meth c s₁ B hml hv _
    have hh0 : s₁.heap = s.heap := by rw [B.state]; rfl
    obtain ⟨rfl, hG, hr⟩ := hv
    have hts := atoms_spec (ws := md_w d :: GT) B.pre
    have hnm := name_of_methodNamed B.named B.method
    have hT : c.exceptionTable.toList = tableOf d.hh := by
      obtain ⟨meth9, c9, h1, h2, -, -, -, -, h7, -⟩ := Cond.code_spec B.named (atoms_spec (ws := md_w d :: GT) B.pre _ (by rw [md_w0 hh]; exact List.mem_cons_self))
      cases Option.some.inj (h1.symm.trans B.method)
      cases Option.some.inj (h2.symm.trans (Stand.of_body B).code)
      rw [Array.isEmpty_iff.mp h7, hh]
      rfl
    have hl := lv_entry as (n := d.nL) (Nat.le_of_ble_eq_true hlen)
    have hW : W p g.l e (headSpec (md_w d :: GT) ({ frames := d.fr, cells := bk, slots := bn, locals := d.lo } : Room)).room s m as.toArray below meth c s.heap [] 0 0 (vx_MQ below (gQ g P) (gX g P) as.toArray s bk bn g.A) (entryFrame m as.toArray d.nL) := by
      rw [lg_entry_eq]
      exact h p e (headSpec (md_w d :: GT) ({ frames := d.fr, cells := bk, slots := bn, locals := d.lo } : Room)).room s m as.toArray below meth c s.heap [] 0 0 _ ⟨⟨B.exec, B.bytes⟩, ⟨B.returns, hml⟩, findClass_of_methodNamed B.named, fun w hw => hts w (List.mem_cons_of_mem _ hw), ⟨B.notSynchronized, hT⟩, ⟨hnm.1, Nat.le_refl _, Nat.le_refl _⟩, hG⟩ ⟨Nat.le_of_eq (Nat.zero_add _), Nat.le_of_eq (Nat.zero_add _)⟩ va_S.rf hr ⟨hl, hcat, hnd⟩
    obtain ⟨t, a1, o, b1, b2, b3⟩ := hW s₁ hh0 (Stand.of_body B)
    exact ⟨t, o, a1, b1, b2, b3⟩
/-- Math.floorMod -/
def fmod (x y : Int32) : Int32 := if 0 ≤ x ^^^ y then x - x / y * y else if x - x / y * y = 0 then x - x / y * y else x - x / y * y + y
theorem c_J9_floorMod (g : GG) (M : Mem) (x y : Int32) (hy : ¬ y = 0) : con g mJ9_floorMod_7cf53 0 0 [.int x, .int y] M (rI (fmod x y) M) := by
  refine con_f ?_ (by decide +kernel) rfl rfl (by simp [lv_args, Value.category]) (by simp [lv_args, lnd, Value.category])
  refine z_iload_n dJ9_floorMod_7cf53_0 rfl ?_
  refine z_iload_n dJ9_floorMod_7cf53_1 rfl ?_
  refine z_irem dJ9_floorMod_7cf53_2 hy ?_
  refine z_istore_n dJ9_floorMod_7cf53_3 (by decide) ?_
  refine z_iload_n dJ9_floorMod_7cf53_4 rfl ?_
  refine z_iload_n dJ9_floorMod_7cf53_5 rfl ?_
  refine z_ixor dJ9_floorMod_7cf53_6 ?_
  refine z_if_ge (tgt := 18) dJ9_floorMod_7cf53_7 (by decide) (fun h7 => ?_) (fun h7 => ?_)
  · refine z_iload_n dJ9_floorMod_7cf53_18 rfl ?_
    refine z_ireturn dJ9_floorMod_7cf53_19 rfl (by first | rfl | exact bI_nar _) ?_
    exact rI_of (by unfold fmod; rw [if_pos h7])
  · refine z_iload_n dJ9_floorMod_7cf53_10 rfl ?_
    refine z_if_eq (tgt := 18) dJ9_floorMod_7cf53_11 (by decide) (fun h11 => ?_) (fun h11 => ?_)
    · refine z_iload_n dJ9_floorMod_7cf53_18 rfl ?_
      refine z_ireturn dJ9_floorMod_7cf53_19 rfl (by first | rfl | exact bI_nar _) ?_
      exact rI_of (by unfold fmod; rw [if_neg h7, if_pos h11])
    · refine z_iload_n dJ9_floorMod_7cf53_14 rfl ?_
      refine z_iload_n dJ9_floorMod_7cf53_15 rfl ?_
      refine z_iadd dJ9_floorMod_7cf53_16 ?_
      refine z_ireturn dJ9_floorMod_7cf53_17 rfl (by first | rfl | exact bI_nar _) ?_
      exact rI_of (by unfold fmod; rw [if_neg h7, if_neg h11])
theorem c_J9_max (g : GG) (M : Mem) (x y : Int32) : con g mJ9_max_7cf53 0 0 [.int x, .int y] M (rI (if x < y then y else x) M) := by
  refine con_f ?_ (by decide +kernel) rfl rfl (by simp [lv_args, Value.category]) (by simp [lv_args, lnd, Value.category])
  refine z_iload_n dJ9_max_7cf53_0 rfl ?_
  refine z_iload_n dJ9_max_7cf53_1 rfl ?_
  refine z_icmp_lt (tgt := 9) dJ9_max_7cf53_2 (by decide) (fun h2 => ?_) (fun h2 => ?_)
  · refine z_iload_n dJ9_max_7cf53_9 rfl ?_
    refine z_ireturn dJ9_max_7cf53_10 rfl (by first | rfl | exact bI_nar _) ?_
    exact rI_of (by rw [if_pos h2])
  · refine z_iload_n dJ9_max_7cf53_5 rfl ?_
    refine z_goto (tgt := 10) dJ9_max_7cf53_6 (by decide) ?_
    refine z_ireturn dJ9_max_7cf53_10 rfl (by first | rfl | exact bI_nar _) ?_
    exact rI_of (by rw [if_neg h2])
theorem c_J9_min (g : GG) (M : Mem) (x y : Int32) : con g mJ9_min_7cf53 0 0 [.int x, .int y] M (rI (if y < x then y else x) M) := by
  refine con_f ?_ (by decide +kernel) rfl rfl (by simp [lv_args, Value.category]) (by simp [lv_args, lnd, Value.category])
  refine z_iload_n dJ9_min_7cf53_0 rfl ?_
  refine z_iload_n dJ9_min_7cf53_1 rfl ?_
  refine z_icmp_gt (tgt := 9) dJ9_min_7cf53_2 (by decide) (fun h2 => ?_) (fun h2 => ?_)
  · refine z_iload_n dJ9_min_7cf53_9 rfl ?_
    refine z_ireturn dJ9_min_7cf53_10 rfl (by first | rfl | exact bI_nar _) ?_
    exact rI_of (by rw [if_pos h2])
  · refine z_iload_n dJ9_min_7cf53_5 rfl ?_
    refine z_goto (tgt := 10) dJ9_min_7cf53_6 (by decide) ?_
    refine z_ireturn dJ9_min_7cf53_10 rfl (by first | rfl | exact bI_nar _) ?_
    exact rI_of (by rw [if_neg h2])
def ush (x y : Int32) : Int32 := (x.toUInt32 >>> (y.toUInt32 &&& Int32.toUInt32 31)).toInt32
def bct (i : Int32) : Int32 :=
  let a := i - (ush i (nI 1) &&& 1431655765)
  let b := (a &&& 858993459) + (ush a (nI 2) &&& 858993459)
  let c := (b + ush b (nI 4)) &&& 252645135
  let d := c + ush c (nI 8)
  let e := d + ush d (nI 16)
  e &&& nI 63
theorem c_J6_bitCount (g : GG) (M : Mem) (x : Int32) : con g mJ6_bitCount_0f7a4 0 0 [.int x] M (rI (bct x) M) := by
  refine con_i ?_ (by decide) rfl rfl (by simp [lv_args, Value.category]) (by simp [lv_args, lnd, Value.category])
  refine z_iload_n dJ6_bitCount_0f7a4_0 rfl ?_
  refine z_iload_n dJ6_bitCount_0f7a4_1 rfl ?_
  refine z_ic ki_1 dJ6_bitCount_0f7a4_2 ?_
  refine z_iushr dJ6_bitCount_0f7a4_3 ?_
  refine z_ldc_w dJ6_bitCount_0f7a4_4 lc_RJ6_265 ?_
  refine z_iand dJ6_bitCount_0f7a4_7 ?_
  refine z_isub dJ6_bitCount_0f7a4_8 ?_
  refine z_istore_n dJ6_bitCount_0f7a4_9 (by decide) ?_
  refine z_iload_n dJ6_bitCount_0f7a4_10 rfl ?_
  refine z_ldc_w dJ6_bitCount_0f7a4_11 lc_RJ6_266 ?_
  refine z_iand dJ6_bitCount_0f7a4_14 ?_
  refine z_iload_n dJ6_bitCount_0f7a4_15 rfl ?_
  refine z_ic ki_2 dJ6_bitCount_0f7a4_16 ?_
  refine z_iushr dJ6_bitCount_0f7a4_17 ?_
  refine z_ldc_w dJ6_bitCount_0f7a4_18 lc_RJ6_266 ?_
  refine z_iand dJ6_bitCount_0f7a4_21 ?_
  refine z_iadd dJ6_bitCount_0f7a4_22 ?_
  refine z_istore_n dJ6_bitCount_0f7a4_23 (by decide) ?_
  refine z_iload_n dJ6_bitCount_0f7a4_24 rfl ?_
  refine z_iload_n dJ6_bitCount_0f7a4_25 rfl ?_
  refine z_ic ki_4 dJ6_bitCount_0f7a4_26 ?_
  refine z_iushr dJ6_bitCount_0f7a4_27 ?_
  refine z_iadd dJ6_bitCount_0f7a4_28 ?_
  refine z_ldc_w dJ6_bitCount_0f7a4_29 lc_RJ6_267 ?_
  refine z_iand dJ6_bitCount_0f7a4_32 ?_
  refine z_istore_n dJ6_bitCount_0f7a4_33 (by decide) ?_
  refine z_iload_n dJ6_bitCount_0f7a4_34 rfl ?_
  refine z_iload_n dJ6_bitCount_0f7a4_35 rfl ?_
  refine z_bi kb_8 dJ6_bitCount_0f7a4_36 ?_
  refine z_iushr dJ6_bitCount_0f7a4_38 ?_
  refine z_iadd dJ6_bitCount_0f7a4_39 ?_
  refine z_istore_n dJ6_bitCount_0f7a4_40 (by decide) ?_
  refine z_iload_n dJ6_bitCount_0f7a4_41 rfl ?_
  refine z_iload_n dJ6_bitCount_0f7a4_42 rfl ?_
  refine z_bi kb_16 dJ6_bitCount_0f7a4_43 ?_
  refine z_iushr dJ6_bitCount_0f7a4_45 ?_
  refine z_iadd dJ6_bitCount_0f7a4_46 ?_
  refine z_istore_n dJ6_bitCount_0f7a4_47 (by decide) ?_
  refine z_iload_n dJ6_bitCount_0f7a4_48 rfl ?_
  refine z_bi kb_63 dJ6_bitCount_0f7a4_49 ?_
  refine z_iand dJ6_bitCount_0f7a4_51 ?_
  refine z_ireturn dJ6_bitCount_0f7a4_52 rfl (by first | rfl | exact bI_nar _) ?_
  exact rI_of (by first | rfl | assumption | simp_all)
/-- Math.floorMod by 97 is the digest -/
theorem xor_neg (x y : Int32) (hy : 0 ≤ y) : (0 ≤ x ^^^ y) ↔ 0 ≤ x := by
  have key : ∀ z : Int32, 0 ≤ z ↔ z.toBitVec.msb = false := fun z => by
    rw [Int32.le_iff_toInt_le]
    show (0 : Int) ≤ z.toBitVec.toInt ↔ _
    rw [BitVec.msb_eq_toInt]
    simp
  rw [key, key]
  have h2 := (key y).mp hy
  show (x.toBitVec ^^^ y.toBitVec).msb = false ↔ _
  rw [BitVec.msb_xor, h2]
  simp
theorem rem_neg {x y : Int32} (hy : 0 < y.toInt) (h : x - x / y * y < 0) : ¬ 0 ≤ x := by
  intro hx
  have h1 := rem_toInt x y
  have h2 := Int32.lt_iff_toInt_lt.mp h
  have h3 := Int32.le_iff_toInt_le.mp hx
  rw [h1] at h2
  have h4 : (0 : Int32).toInt = 0 := rfl
  rw [h4] at h2 h3
  have := Int.tmod_nonneg y.toInt h3
  omega
theorem rem_pos {x y : Int32} (hy : 0 < y.toInt) (h : ¬ x - x / y * y < 0) (h0 : ¬ x - x / y * y = 0) : 0 ≤ x := by
  have h1 := rem_toInt x y
  rw [Int32.le_iff_toInt_le]
  have h4 : (0 : Int32).toInt = 0 := rfl
  rw [h4]
  by_cases hx : 0 ≤ x.toInt
  · exact hx
  · exfalso
    have h5 : ¬ x.toInt.tmod y.toInt < 0 := by
      intro q
      apply h
      rw [Int32.lt_iff_toInt_lt, h1]
      exact q
    have h6 : ¬ x.toInt.tmod y.toInt = 0 := by
      intro q
      apply h0
      apply Int32.toInt_inj.mp
      rw [h1, q]
      rfl
    have h7 : (-x.toInt).tmod y.toInt = -(x.toInt.tmod y.toInt) := Int.neg_tmod _ _
    have h8 := Int.tmod_nonneg y.toInt (show 0 ≤ -x.toInt by omega)
    omega
theorem fmod_eq (x : Int32) {y : Int32} (hy : 0 < y.toInt) : fmod x y = if x - x / y * y < 0 then x - x / y * y + y else x - x / y * y := by
  have hy0 : 0 ≤ y := Int32.le_iff_toInt_le.mpr (by have h4 : (0 : Int32).toInt = 0 := rfl; rw [h4]; omega)
  unfold fmod
  by_cases h : x - x / y * y < 0
  · rw [if_pos h, if_neg (fun q => rem_neg hy h ((xor_neg x y hy0).mp q)), if_neg (fun e => by rw [e] at h; exact absurd h (by decide))]
  · rw [if_neg h]
    by_cases h0 : x - x / y * y = 0
    · rw [if_pos h0]
      simp
    · rw [if_pos ((xor_neg x y hy0).mpr (rem_pos hy h h0))]
theorem fmod97 (x : Int32) : fmod x (nI 97) = dig x := fmod_eq x (by decide)
theorem fmod1k (x : Int32) : fmod x (nI 1000) = rem1k x := fmod_eq x (by decide)
