/-! what holds at the law's entry -/
theorem st_of {own tx : String} {k : Nat} {args : Array Value} {s : State} (h1 : (Cond.stringRef own k tx).before args s = true) (h2 : (Cond.exactly (.string own k) "java/lang/String").before args s = true) : ∃ sa, vk_R own k tx sa s := by
  obtain ⟨a, c, cell, kk, q1, -⟩ := Cond.exactly_spec h2
  exact ⟨a, vk_R.of h1 q1⟩
theorem gt_tbl {args : Array Value} {s : State} (hts : ∀ w ∈ lw_tbl, w.before args s = true) : ∀ w ∈ GT, w.before args s = true := fun w h => hts w (List.mem_filter.mp h).1
section START
variable {s : State} {b L : Nat} {xs : Nat → Int32}
theorem strs_0 (hts : ∀ w ∈ lw_tbl, w.before #[Value.ref b] s = true) (hgv : (Jvm.Cond.and given_1 narrow_1).before #[Value.ref b] s = true) : ∀ q ∈ strs, ∃ sa, vk_R q.1 q.2.1 q.2.2 sa s := by
  have hw : ∀ (i : Nat) (w : Cond), lw_tbl[i]? = some w → w.before #[Value.ref b] s = true := fun i w h => hts w (List.mem_of_getElem? h)
  have hf := flat_of_before _ hgv
  intro q hq
  simp only [strs, List.mem_cons, List.not_mem_nil, or_false] at hq
  rcases hq with rfl | rfl | rfl | rfl | rfl | rfl | rfl | rfl | rfl | rfl | rfl | rfl | rfl | rfl | rfl | rfl | rfl | rfl | rfl | rfl | rfl
  · exact st_of (hw 314 _ (by decide +kernel)) (hf _ (by decide +kernel))
  · exact st_of (hw 367 _ (by decide +kernel)) (hf _ (by decide +kernel))
  · exact st_of (hw 368 _ (by decide +kernel)) (hf _ (by decide +kernel))
  · exact st_of (hw 419 _ (by decide +kernel)) (hf _ (by decide +kernel))
  · exact st_of (hw 420 _ (by decide +kernel)) (hf _ (by decide +kernel))
  · exact st_of (hw 604 _ (by decide +kernel)) (hf _ (by decide +kernel))
  · exact st_of (hw 605 _ (by decide +kernel)) (hf _ (by decide +kernel))
  · exact st_of (hw 650 _ (by decide +kernel)) (hf _ (by decide +kernel))
  · exact st_of (hw 709 _ (by decide +kernel)) (hf _ (by decide +kernel))
  · exact st_of (hw 711 _ (by decide +kernel)) (hf _ (by decide +kernel))
  · exact st_of (hw 729 _ (by decide +kernel)) (hf _ (by decide +kernel))
  · exact st_of (hw 734 _ (by decide +kernel)) (hf _ (by decide +kernel))
  · exact st_of (hw 274 _ (by decide +kernel)) (hf _ (by decide +kernel))
  · exact st_of (hw 418 _ (by decide +kernel)) (hf _ (by decide +kernel))
  · exact st_of (hw 708 _ (by decide +kernel)) (hf _ (by decide +kernel))
  · exact st_of (hw 355 _ (by decide +kernel)) (hf _ (by decide +kernel))
  · exact st_of (hw 595 _ (by decide +kernel)) (hf _ (by decide +kernel))
  · exact st_of (hw 614 _ (by decide +kernel)) (hf _ (by decide +kernel))
  · exact st_of (hw 587 _ (by decide +kernel)) (hf _ (by decide +kernel))
  · exact st_of (hw 640 _ (by decide +kernel)) (hf _ (by decide +kernel))
  · exact st_of (hw 691 _ (by decide +kernel)) (hf _ (by decide +kernel))
theorem ncs_0 (hgv : (Jvm.Cond.and given_1 narrow_1).before #[Value.ref b] s = true) : ∀ q ∈ ncs, va_Nc q.1 q.2 s := by
  have hf := flat_of_before _ hgv
  intro q hq
  simp only [ncs, List.mem_cons, List.not_mem_nil, or_false] at hq
  rcases hq with rfl | rfl | rfl | rfl | rfl | rfl
  · exact va_Nc.of (hf _ (by decide +kernel))
  · exact va_Nc.of (hf _ (by decide +kernel))
  · exact va_Nc.of (hf _ (by decide +kernel))
  · exact va_Nc.of (hf _ (by decide +kernel))
  · exact va_Nc.of (hf _ (by decide +kernel))
  · exact va_Nc.of (hf _ (by decide +kernel))
theorem known_0 (hts : ∀ w ∈ lw_tbl, w.before #[Value.ref b] s = true) : ∃ D : va_G, va_K D vwCl [] s := by
  have hw : ∀ (i : Nat) (w : Cond), lw_tbl[i]? = some w → w.before #[Value.ref b] s = true := fun i w h => hts w (List.mem_of_getElem? h)
  have hgt := gt_tbl hts
  obtain ⟨c0, i0, k0⟩ := u_known (C := RJx4a65c) (T := TJx4a65c) (N := 3) (n := 3) hgt cok_0.2.1 (hw 77 _ (by decide +kernel))
  obtain ⟨c1, i1, k1⟩ := u_known (C := RX0) (T := TX0) (N := 3) (n := 3) hgt cok_1.2.1 (hw 421 _ (by decide +kernel))
  obtain ⟨c2, i2, k2⟩ := u_known (C := RX1) (T := TX1) (N := 4) (n := 4) hgt cok_2.2.1 (hw 49 _ (by decide +kernel))
  obtain ⟨c3, i3, k3⟩ := u_known (C := RX2) (T := TX2) (N := 4) (n := 4) hgt cok_3.2.1 (hw 71 _ (by decide +kernel))
  obtain ⟨c4, i4, k4⟩ := u_known (C := RX3) (T := TX3) (N := 8) (n := 8) hgt cok_4.2.1 (hw 181 _ (by decide +kernel))
  obtain ⟨c5, i5, k5⟩ := u_known (C := RX4) (T := TX4) (N := 5) (n := 5) hgt cok_5.2.1 (hw 528 _ (by decide +kernel))
  obtain ⟨c6, i6, k6⟩ := u_known (C := RX5) (T := TX5) (N := 3) (n := 3) hgt cok_6.2.1 (hw 41 _ (by decide +kernel))
  refine ⟨(fun k => match k with | 0 => c0 | 1 => c1 | 2 => c2 | 3 => c3 | 4 => c4 | 5 => c5 | _ => c6, fun k => match k with | 0 => i0 | 1 => i1 | 2 => i2 | 3 => i3 | 4 => i4 | 5 => i5 | _ => i6), fun k q hq => ?_, fun k q h => by simp at h⟩
  match k, hq with
  | 0, hq => cases hq; exact k0
  | 1, hq => cases hq; exact k1
  | 2, hq => cases hq; exact k2
  | 3, hq => cases hq; exact k3
  | 4, hq => cases hq; exact k4
  | 5, hq => cases hq; exact k5
  | 6, hq => cases hq; exact k6
  | k + 7, hq => simp [vwCl] at hq
theorem gctx_0 {l : Launch} (hflags : l.flags = flags0) (hts : ∀ w ∈ lw_tbl, w.before #[Value.ref b] s = true) (hgv : (Jvm.Cond.and given_1 narrow_1).before #[Value.ref b] s = true) (hX : va_X b L xs s s.heap) (hbl : b < s.heap.size) : ∃ (D : va_G) (E mi : Nat), gctx (l, s.heap.size, D, E, b, L, xs, mi) s s.heap := by
  have hA : ∀ q : Nat, q < s.heap.size → ¬ (s.heap.size ≤ q) := fun q h => Nat.not_le.mpr h
  have hw : ∀ (i : Nat) (w : Cond), lw_tbl[i]? = some w → w.before #[Value.ref b] s = true := fun i w h => hts w (List.mem_of_getElem? h)
  have hf := flat_of_before _ hgv
  obtain ⟨D, hK⟩ := known_0 hts
  obtain ⟨E, hE, hT⟩ := va_Tof (tm := .static "java/util/ArrayList" "DEFAULTCAPACITY_EMPTY_ELEMENTDATA" "[Ljava/lang/Object;") (ty := .object "java/lang/Object") (N := 0) (f := fun _ => .null) (A := fun q => s.heap.size ≤ q) (by decide) (hf _ (by decide +kernel)) (va_eqt (hf (.eq (.length (.static "java/util/ArrayList" "DEFAULTCAPACITY_EMPTY_ELEMENTDATA" "[Ljava/lang/Object;")) (.int 0)) (by decide +kernel))) (fun j hj => absurd hj (Nat.not_lt_zero j)) hA
  obtain ⟨mi, hmi⟩ := va_Mi.of (hf (.isRef (.mirror "[Ljava/lang/Object;")) (by decide +kernel))
  have hU : vx_Zq Bundle.tN "UNASSIGNED_STACK" Bundle.steD (fun q => s.heap.size ≤ q) s s.heap := vx_Zqof (hw 260 _ (by decide +kernel)) (hw 26 _ (by decide +kernel)) (hf _ (by decide +kernel)) hA
  have hN : vx_Zq Bundle.tN "SUPPRESSED_SENTINEL" Bundle.listD (fun q => s.heap.size ≤ q) s s.heap := vx_Zqof (hw 262 _ (by decide +kernel)) (hw 26 _ (by decide +kernel)) (hf _ (by decide +kernel)) hA
  have hZ := va_Zof (A := fun q => s.heap.size ≤ q) (hw 89 _ (by decide +kernel)) (hw 23 _ (by decide +kernel)) hE hA
  have hl : l.stackTraces = false := by
    unfold Launch.stackTraces
    rw [hflags]
    decide
  exact ⟨D, E, mi, ⟨Nat.le_refl _, hl⟩, hK, ⟨hU, hN⟩, ⟨strs_0 hts hgv, ncs_0 hgv⟩, ⟨hZ, hT⟩, ⟨⟨va_AO.of (hw 517 _ (by decide +kernel)), hmi⟩, hw 55 (.arrayOver (.array .int)) (by decide +kernel)⟩, hX, hbl⟩
end START
