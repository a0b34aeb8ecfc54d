/-! the class's calls, from invariant to invariant: replication, versions, objects, purges -/
theorem rpS_off (σ : ST) : ∀ (n : Nat) {u : Nat}, n ≤ u → (rpS σ n).cp u = σ.cp u ∧ (rpS σ n).hs u = σ.hs u
  | 0, _, _ => ⟨rfl, rfl⟩
  | n + 1, u, hu => by
    have ih := rpS_off σ n (u := u) (by omega)
    rw [rpS_s]
    split
    · obtain ⟨h1, h2⟩ := plG_off (rpS σ n) n (w := u) (by omega)
      exact ⟨h1.trans ih.1, h2.trans ih.2⟩
    · exact ih
theorem rp_INV {B : Nat} {σ : ST} (hI : INV B σ) : INV B (rpS σ σ.un) ∧ st8 σ (rpS σ σ.un) := by
  obtain ⟨s1, s2, s3, s4, s5⟩ := rpS_same σ σ.un
  obtain ⟨k1, k2⟩ := rpS_LH hI.ld hI.hb σ.un hI.wf.1.2
  have h8 : st8 σ (rpS σ σ.un) := ⟨⟨congrFun s1 1, congrFun s1 2⟩, s2, ⟨congrFun s3 2, congrFun s3 4⟩, ⟨congrFun s4 0, congrFun s4 1, congrFun s4 2⟩⟩
  refine ⟨hI.st8 h8 (hI.li.eq (congrFun s1 0) s5) k1 k2 (fun u s hu => ?_) (Nat.le_of_eq (congrFun s1 0).symm) (Nat.le_trans (Nat.le_of_eq (congrFun s1 3)) hI.sm.2.2), h8⟩
  have hu : σ.un ≤ u := Nat.le_trans (Nat.le_of_eq (congrFun s1 2).symm) hu
  obtain ⟨h1, h2⟩ := rpS_off σ σ.un hu
  rw [h1, h2]
  exact hI.gh.1 u s hu
theorem bsV_bd {B : Nat} {σ : ST} (hI : INV B σ) (hB : 2000000 ≤ B) {bo : Option Nat} (hbo : ∀ b, bo = some b → vok σ b) {c : Int32} (hc : -999999 ≤ c.toInt ∧ c.toInt ≤ 999999) : -(B : Int) ≤ (bsV σ bo c).toInt ∧ (bsV σ bo c).toInt ≤ B := by
  cases bo with
  | none =>
    show -(B : Int) ≤ c.toInt ∧ c.toInt ≤ B
    omega
  | some b =>
    have k := hI.gh.2.2.2.1 b (hbo b rfl)
    show -(B : Int) ≤ (c - σ.i 4 b).toInt ∧ (c - σ.i 4 b).toInt ≤ B
    rw [Int32.toInt_sub, Int.bmod_eq_of_le (by omega) (by omega)]
    omega
theorem INV.nv {B : Nat} {σ : ST} (h : INV B σ) (hB : 2000000 ≤ B) {o fm cap cap2 b : Nat} {bo : Option Nat} {c : Int32} (ho : o < σ.ob) (h10 : σ.a 1 o < 10) (hfm : fm < σ.fo) (hc : -999999 ≤ c.toInt ∧ c.toInt ≤ 999999) (hbo : ∀ b', bo = some b' → b' = b ∧ vok σ b ∧ b / 10 = o ∧ σ.b 0 b = true)
    (hcap : σ.un + 1 ≤ cap ∧ cap ≤ 150) (hcap2 : σ.a 1 o + 1 ≤ cap2 ∧ cap2 ≤ 150) : INV B (nvS (mkS σ (σ.a 0 o) bo c cap) o fm (adF σ bo.isSome (bsV σ bo c)) b c cap2) ∧ ∀ (rb : Nat → Int32) (y : Int32), (bo.isSome = true → y = nI b) → rbk σ rb → rbk (nvS (mkS σ (σ.a 0 o) bo c cap) o fm (adF σ bo.isSome (bsV σ bo c)) b c cap2) (f1 rb (10 * o + σ.a 1 o) y) := by
  obtain ⟨m1, m2, m3⟩ := mkS_s6 σ (σ.a 0 o) bo c cap
  obtain ⟨t1, t2, t3, t4, t5, t6, t7, t8⟩ := obS_old σ (σ.a 0 o) bo.isSome (bsV σ bo c) cap
  have eT1 : (mkS σ (σ.a 0 o) bo c cap).a 1 o = σ.a 1 o := (congrFun (m2 1 (by decide)) o).trans (congrFun (t2 1 (by decide)) o)
  have ea : ∀ k, k < 5 → ∀ j, (mkS σ (σ.a 0 o) bo c cap).a k j = σ.a k j := fun k hk j => (congrFun (m2 k (by omega)) j).trans (congrFun (t2 k hk) j)
  have eb : ∀ j, (mkS σ (σ.a 0 o) bo c cap).b 0 j = σ.b 0 j := fun j => (congrArg (fun z => z.2.1 0 j) m3).trans (congrFun t6 j)
  have ei : ∀ j, (mkS σ (σ.a 0 o) bo c cap).i 4 j = σ.i 4 j := fun j => (congrArg (fun z => z.1 4 j) m3).trans (congrFun t4 j)
  have eob : (mkS σ (σ.a 0 o) bo c cap).ob = σ.ob := mkS_ob σ (σ.a 0 o) bo c cap
  have hok : ∀ b', bo = some b' → vok σ b' := fun b' hb' => by
    obtain ⟨k1, k2, -⟩ := hbo b' hb'
    rw [k1]
    exact k2
  have hCS := obS_CAP h.cap (σ.a 0 o) bo.isSome (bsV σ bo c) hcap.1 hcap.2
  have hCT : CAP (mkS σ (σ.a 0 o) bo c cap) := (mkS_agr σ (σ.a 0 o) bo c cap).CAP hCS
  have e8 : ∀ j, (nvS (mkS σ (σ.a 0 o) bo c cap) o fm (adF σ bo.isSome (bsV σ bo c)) b c cap2).a 8 j = if j = 2 + o then cap2 else (mkS σ (σ.a 0 o) bo c cap).a 8 j := fun j => by
    unfold nvS
    simp [ST.a, ST.b, ST.i, ST.n, ST.sn, ST.sa, ST.sb, ST.si, f2]
    try rfl
  have e1 : ∀ j, (nvS (mkS σ (σ.a 0 o) bo c cap) o fm (adF σ bo.isSome (bsV σ bo c)) b c cap2).a 1 j = if j = o then σ.a 1 o + 1 else σ.a 1 j := fun j => by
    rw [← ea 1 (by decide) o, ← ea 1 (by decide) j]
    unfold nvS
    simp [ST.a, ST.b, ST.i, ST.n, ST.sn, ST.sa, ST.sb, ST.si, f2]
    try rfl
  refine h.come (d := bo.isSome) (val := bsV σ bo c) (w := σ.a 0 o) (c := c) (cap := cap) (o := o) (fm := fm) (f := adF σ bo.isSome (bsV σ bo c)) (b := b) (v0 := 10 * o + σ.a 1 o) (l := bsL σ bo) hB (h.sm.2.1 o) (h.room ho h10) h10 rfl rfl (Or.inl ⟨ho, eob⟩) hfm hc (bsV_bd h hB hok hc) ?_ (fun i _ => congrFun m1 i) (fun j => ?_) e1 (fun j => ?_) (fun j => ?_) (fun j => ?_) ?_ (fun u => ?_) ?_ ?_ ?_ (fun j => ?_) (fun j => ?_) ?_ ?_ ?_ ?_ ?_
  · cases hb : bo with
    | none => exact Or.inr ⟨rfl, rfl, rfl⟩
    | some b' =>
      obtain ⟨k1, k2, k3, k4⟩ := hbo b' hb
      rw [k1]
      exact Or.inl ⟨rfl, k2, k3, k4, rfl, rfl⟩
  · refine Nat.lt_of_le_of_lt (Nat.le_of_eq ?_) (h.sm.2.1 j)
    rw [← ea 0 (by decide) j]
    unfold nvS
    simp [ST.a, ST.b, ST.i, ST.n, ST.sn, ST.sa, ST.sb, ST.si, f2]
    try rfl
  · rw [← ea 2 (by decide) j, ← eT1]
    unfold nvS
    simp [ST.a, ST.b, ST.i, ST.n, ST.sn, ST.sa, ST.sb, ST.si, f2]
    try rfl
  · rw [← ea 3 (by decide) j, ← eT1]
    unfold nvS
    simp [ST.a, ST.b, ST.i, ST.n, ST.sn, ST.sa, ST.sb, ST.si, f2]
    try rfl
  · rw [← ea 4 (by decide) j, ← eT1]
    unfold nvS
    simp [ST.a, ST.b, ST.i, ST.n, ST.sn, ST.sa, ST.sb, ST.si, f2]
    try rfl
  · refine Eq.trans ?_ (m2 5 (by decide))
    funext j
    unfold nvS
    simp [ST.a, ST.b, ST.i, ST.n, ST.sn, ST.sa, ST.sb, ST.si, f2]
    try rfl
  · have k : (mkS σ (σ.a 0 o) bo c cap).a 6 u = (obS σ (σ.a 0 o) bo.isSome (bsV σ bo c) cap).a 6 u + (if adF σ bo.isSome (bsV σ bo c) = u then 1 else 0) + cnL σ u (bsL σ bo) := by
      unfold mkS
      have e9 : cnL ((obS σ (σ.a 0 o) bo.isSome (bsV σ bo c) cap).sa 6 (adF σ bo.isSome (bsV σ bo c)) ((obS σ (σ.a 0 o) bo.isSome (bsV σ bo c) cap).a 6 (adF σ bo.isSome (bsV σ bo c)) + 1)) u (bsL σ bo) = cnL σ u (bsL σ bo) := cnL_at _ (fun w _ => congrFun (t2 3 (by decide)) w)
      rw [clm_a6, sa6_at, e9]
      by_cases hq : u = adF σ bo.isSome (bsV σ bo c)
      · rw [if_pos hq, if_pos hq.symm, hq]
      · rw [if_neg hq, if_neg (fun e => hq e.symm), Nat.add_zero]
    rw [← k]
    unfold nvS
    simp [ST.a, ST.b, ST.i, ST.n, ST.sn, ST.sa, ST.sb, ST.si, f2]
    try rfl
  · refine Eq.trans ?_ (m2 7 (by decide))
    funext j
    unfold nvS
    simp [ST.a, ST.b, ST.i, ST.n, ST.sn, ST.sa, ST.sb, ST.si, f2]
    try rfl
  · obtain ⟨c1, c2, c3, c4, c5⟩ := hCT
    have q0 : ¬ 0 = 2 + o := by omega
    have q1 : ¬ 1 = 2 + o := by omega
    refine ⟨?_, ?_, ?_, ?_, fun o' ho' => ?_⟩
    · rw [e8, if_neg q0]
      exact c1
    · rw [e8, if_neg q0]
      exact c2
    · rw [e8, if_neg q1]
      exact c3
    · rw [e8, if_neg q1]
      exact c4
    · rw [e1, e8]
      by_cases hq : o' = o
      · rw [if_pos hq, if_pos (by omega)]
        omega
      · rw [if_neg hq, if_neg (by omega), ← ea 1 (by decide) o']
        exact c5 o' ho'
  · refine Eq.trans ?_ (congrArg (fun z => z.1 2) m3)
    funext j
    unfold nvS
    simp [ST.a, ST.b, ST.i, ST.n, ST.sn, ST.sa, ST.sb, ST.si, f2]
    try rfl
  · rw [← ei j, ← eT1]
    unfold nvS
    simp [ST.a, ST.b, ST.i, ST.n, ST.sn, ST.sa, ST.sb, ST.si, f2]
    try rfl
  · rw [← eb j, ← eT1]
    show f2 (mkS σ (σ.a 0 o) bo c cap).2.2.2.1 0 (10 * o + (mkS σ (σ.a 0 o) bo c cap).a 1 o) true 0 j = _
    by_cases hq : j = 10 * o + (mkS σ (σ.a 0 o) bo c cap).a 1 o
    · rw [← hq, f2_s, if_pos rfl]
    · rw [f2_n (fun z => hq z.2), if_neg hq]
      rfl
  · refine Eq.trans ?_ (congrArg (fun z => z.2.1 1) m3)
    funext j
    unfold nvS
    simp [ST.a, ST.b, ST.i, ST.n, ST.sn, ST.sa, ST.sb, ST.si, f2]
    try rfl
  · refine Eq.trans ?_ (congrArg (fun z => z.2.1 2) m3)
    funext j
    unfold nvS
    simp [ST.a, ST.b, ST.i, ST.n, ST.sn, ST.sa, ST.sb, ST.si, f2]
    try rfl
  · exact congrArg (fun z => z.2.2.1) m3
  · exact congrArg (fun z => z.2.2.2.1) m3
  · exact congrArg (fun z => z.2.2.2.2) m3
theorem INV.no {B : Nat} {σ : ST} (h : INV B σ) (hB : 2000000 ≤ B) {fm cap cap2 cap3 w : Nat} {c : Int32} (hob : σ.ob < 10) (hw30 : w < 2 ^ 30) (hfm : fm < σ.fo) (hc : -999999 ≤ c.toInt ∧ c.toInt ≤ 999999)
    (hcap : σ.un + 1 ≤ cap ∧ cap ≤ 150) (hcap2 : 1 ≤ cap2 ∧ cap2 ≤ 150) (hcap3 : σ.ob + 1 ≤ cap3 ∧ cap3 ≤ 150) : INV B (noS (mkS σ w none c cap) σ.ob w fm (adF σ false c) 0 c cap2 cap3) ∧ ∀ (rb : Nat → Int32) (y : Int32), rbk σ rb → rbk (noS (mkS σ w none c cap) σ.ob w fm (adF σ false c) 0 c cap2 cap3) (f1 rb (10 * σ.ob + σ.a 1 σ.ob) y) := by
  obtain ⟨m1, m2, m3⟩ := mkS_s6 σ w none c cap
  obtain ⟨t1, t2, t3, t4, t5, t6, t7, t8⟩ := obS_old σ w (none : Option Nat).isSome (bsV σ none c) cap
  obtain ⟨hun, hz⟩ := h.room0 hob
  have ea : ∀ k, k < 5 → ∀ j, (mkS σ w none c cap).a k j = σ.a k j := fun k hk j => (congrFun (m2 k (by omega)) j).trans (congrFun (t2 k hk) j)
  have eb : ∀ j, (mkS σ w none c cap).b 0 j = σ.b 0 j := fun j => (congrArg (fun z => z.2.1 0 j) m3).trans (congrFun t6 j)
  have ei : ∀ j, (mkS σ w none c cap).i 4 j = σ.i 4 j := fun j => (congrArg (fun z => z.1 4 j) m3).trans (congrFun t4 j)
  have eob : (mkS σ w none c cap).ob = σ.ob := mkS_ob σ w none c cap
  have hCS := obS_CAP h.cap w (none : Option Nat).isSome (bsV σ none c) hcap.1 hcap.2
  have hCT : CAP (mkS σ w none c cap) := (mkS_agr σ w none c cap).CAP hCS
  have ev : 10 * σ.ob + σ.a 1 σ.ob = 10 * σ.ob := by omega
  have q2 : ∀ z, ¬ 2 + z = 1 := fun z => by omega
  have q3 : ∀ z, ¬ 2 + z = 0 := fun z => by omega
  have e8 : ∀ j, (noS (mkS σ w none c cap) σ.ob w fm (adF σ false c) 0 c cap2 cap3).a 8 j = if j = 1 then cap3 else if j = 2 + σ.ob then cap2 else (mkS σ w none c cap).a 8 j := fun j => by
    unfold noS
    simp [ST.a, ST.b, ST.i, ST.n, ST.sn, ST.sa, ST.sb, ST.si, f2]
    try rfl
  have e1 : ∀ j, (noS (mkS σ w none c cap) σ.ob w fm (adF σ false c) 0 c cap2 cap3).a 1 j = if j = σ.ob then σ.a 1 σ.ob + 1 else σ.a 1 j := fun j => by
    rw [hz, ← ea 1 (by decide) j]
    unfold noS
    simp [ST.a, ST.b, ST.i, ST.n, ST.sn, ST.sa, ST.sb, ST.si, f2]
    try rfl
  have eo2 : (noS (mkS σ w none c cap) σ.ob w fm (adF σ false c) 0 c cap2 cap3).ob = σ.ob + 1 := by
    unfold noS
    simp [ST.a, ST.b, ST.i, ST.n, ST.sn, ST.sa, ST.sb, ST.si, f1, f2]
    try rfl
  refine (fun k => ⟨k.1, fun rb y hr => k.2 rb y (fun q => by cases q) hr⟩ : (INV B _ ∧ ∀ (rb : Nat → Int32) (y : Int32), (false = true → y = nI 0) → rbk σ rb → rbk _ (f1 rb (10 * σ.ob + σ.a 1 σ.ob) y)) → _) ?_
  refine h.come (d := false) (val := c) (w := w) (c := c) (cap := cap) (o := σ.ob) (fm := fm) (f := adF σ false c) (b := 0) (v0 := 10 * σ.ob + σ.a 1 σ.ob) (l := []) hB hw30 hun (by omega) rfl rfl (Or.inr ⟨rfl, eo2, hob⟩) hfm hc (by omega) (Or.inr ⟨rfl, rfl, rfl⟩) (fun i hi => ?_) (fun j => ?_) e1 (fun j => ?_) (fun j => ?_) (fun j => ?_) ?_ (fun u => ?_) ?_ ?_ ?_ (fun j => ?_) (fun j => ?_) ?_ ?_ ?_ ?_ ?_
  · refine Eq.trans ?_ (congrFun m1 i)
    unfold noS
    simp [ST.a, ST.b, ST.i, ST.n, ST.sn, ST.sa, ST.sb, ST.si, f1, f2, hi]
    try rfl
  · have e0 : (noS (mkS σ w none c cap) σ.ob w fm (adF σ false c) 0 c cap2 cap3).a 0 j = if j = σ.ob then w else (mkS σ w none c cap).a 0 j := by
      unfold noS
      simp [ST.a, ST.b, ST.i, ST.n, ST.sn, ST.sa, ST.sb, ST.si, f2]
      try rfl
    rw [e0]
    split
    · exact hw30
    · rw [ea 0 (by decide)]
      exact h.sm.2.1 j
  · rw [ev, ← ea 2 (by decide) j]
    unfold noS
    simp [ST.a, ST.b, ST.i, ST.n, ST.sn, ST.sa, ST.sb, ST.si, f2]
    try rfl
  · rw [ev, ← ea 3 (by decide) j]
    unfold noS
    simp [ST.a, ST.b, ST.i, ST.n, ST.sn, ST.sa, ST.sb, ST.si, f2]
    try rfl
  · rw [ev, ← ea 4 (by decide) j]
    unfold noS
    simp [ST.a, ST.b, ST.i, ST.n, ST.sn, ST.sa, ST.sb, ST.si, f2]
    try rfl
  · refine Eq.trans ?_ (m2 5 (by decide))
    funext j
    unfold noS
    simp [ST.a, ST.b, ST.i, ST.n, ST.sn, ST.sa, ST.sb, ST.si, f2]
    try rfl
  · have k : (mkS σ w none c cap).a 6 u = (obS σ w false c cap).a 6 u + (if adF σ false c = u then 1 else 0) + cnL σ u [] := by
      unfold mkS
      rw [clm_a6, sa6_at]
      show (if u = adF σ false c then (obS σ w false c cap).a 6 (adF σ false c) + 1 else (obS σ w false c cap).a 6 u) + 0 = (obS σ w false c cap).a 6 u + (if adF σ false c = u then 1 else 0) + 0
      by_cases hq : u = adF σ false c
      · rw [if_pos hq, if_pos hq.symm, hq]
      · rw [if_neg hq, if_neg (fun e => hq e.symm)]
    rw [← k]
    unfold noS
    simp [ST.a, ST.b, ST.i, ST.n, ST.sn, ST.sa, ST.sb, ST.si, f2]
    try rfl
  · refine Eq.trans ?_ (m2 7 (by decide))
    funext j
    unfold noS
    simp [ST.a, ST.b, ST.i, ST.n, ST.sn, ST.sa, ST.sb, ST.si, f2]
    try rfl
  · obtain ⟨c1, c2, c3, c4, c5⟩ := hCT
    have q0 : ¬ 0 = 2 + σ.ob := by omega
    refine ⟨?_, ?_, ?_, ?_, fun o' ho' => ?_⟩
    · rw [e8, if_neg (by decide), if_neg q0]
      exact c1
    · rw [e8, if_neg (by decide), if_neg q0]
      exact c2
    · rw [e8, if_pos rfl, eo2]
      exact Or.inl hcap3.1
    · rw [e8, if_pos rfl]
      exact hcap3.2
    · rw [eo2] at ho'
      rw [e1, e8, if_neg (q2 o')]
      by_cases hq : o' = σ.ob
      · rw [if_pos hq, if_pos (by omega)]
        omega
      · rw [if_neg hq, if_neg (by omega), ← ea 1 (by decide) o']
        exact c5 o' (by rw [eob]; omega)
  · refine Eq.trans ?_ (congrArg (fun z => z.1 2) m3)
    funext j
    unfold noS
    simp [ST.a, ST.b, ST.i, ST.n, ST.sn, ST.sa, ST.sb, ST.si, f2]
    try rfl
  · rw [ev, ← ei j]
    unfold noS
    simp [ST.a, ST.b, ST.i, ST.n, ST.sn, ST.sa, ST.sb, ST.si, f2]
    try rfl
  · rw [ev, ← eb j]
    show f2 (mkS σ w none c cap).2.2.2.1 0 (10 * σ.ob) true 0 j = _
    by_cases hq : j = 10 * σ.ob
    · rw [← hq, f2_s, if_pos rfl]
    · rw [f2_n (fun z => hq z.2), if_neg hq]
      rfl
  · refine Eq.trans ?_ (congrArg (fun z => z.2.1 1) m3)
    funext j
    unfold noS
    simp [ST.a, ST.b, ST.i, ST.n, ST.sn, ST.sa, ST.sb, ST.si, f2]
    try rfl
  · refine Eq.trans ?_ (congrArg (fun z => z.2.1 2) m3)
    funext j
    unfold noS
    simp [ST.a, ST.b, ST.i, ST.n, ST.sn, ST.sa, ST.sb, ST.si, f2]
    try rfl
  · exact congrArg (fun z => z.2.2.1) m3
  · exact congrArg (fun z => z.2.2.2.1) m3
  · exact congrArg (fun z => z.2.2.2.2) m3
