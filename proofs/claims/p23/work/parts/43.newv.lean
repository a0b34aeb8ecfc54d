/-! the class: a version comes to stand in the world -/
def nvA (A : Nat → Nat → Nat) (o v q r : Nat) : Nat → Nat → Nat := fun k i => if k = 18 ∧ i = o then r else if k = 19 ∧ i = v then q else A k i
def nvS (τ : ST) (o fm f b : Nat) (c : Int32) (cap : Nat) : ST := (((((((τ.sb 0 (10 * o + τ.a 1 o) true).sa 2 (10 * o + τ.a 1 o) fm).sa 3 (10 * o + τ.a 1 o) f).sa 4 (10 * o + τ.a 1 o) b).sa 1 o (τ.a 1 o + 1)).si 4 (10 * o + τ.a 1 o) c).sa 8 (2 + o) cap).sa 9 (2 + o) (τ.a 9 (2 + o) + 1)
theorem W2.newVersion {g : GG} {A : Nat → Nat → Nat} {τ ρ : ST} {x : XT} {M M' : Mem} (h : W2 g A τ ρ x M) (hw : WF τ) {o n v q r cap fm f b : Nat} {c : Int32} (ho : o < τ.ob) (en : τ.a 1 o = n) (hn1 : 1 ≤ n) (hn : n < 10) (ev : 10 * o + n = v) (hf : f < τ.un) (hb : τ.b 2 f = true → vok τ b) (fq : M q = none) (fr : M r = none ∨ r = A 18 o) (hrq : r ≠ q)
    (h17 : M' (A 17 o) = some (lst (nI (τ.a 9 (2 + o) + 1)) r (n + 1))) (h18 : M' r = some (lrw (f1 (fun j => A 19 (10 * o + j)) n q) (n + 1) cap))
    (hq : M' q = some (ob 5 [.ref (A 13 f), if τ.b 2 f = true then .ref (A 19 b) else .null, .int (nI fm), .int c, .int (bI true)]))
    (hs : ∀ z e, M z = some e → z ≠ A 17 o → z ≠ r → z ≠ q → M' z = some e) : W2 g (nvA A o v q r) (nvS τ o fm f b c cap) ρ x M' := by
  have hsome : ∀ k i, wdom τ k i → M (A k i) ≠ none := fun k i hd => by rw [h.1 k i hd]; exact fun e => by cases e
  have nfq : ∀ k i, wdom τ k i → A k i ≠ q := fun k i hd e => hsome k i hd (by rw [e]; exact fq)
  have nr : ∀ k i, wdom τ k i → ¬ (k = 18 ∧ i = o) → A k i ≠ r := fun k i hd h8 e => by
    rcases fr with fr | fr
    · exact hsome k i hd (by rw [e]; exact fr)
    · exact h8 (h.2 k i 18 o hd ho (e.trans fr))
  have hold : ∀ k i, wdom τ k i → ¬ (k = 17 ∧ i = o) → ¬ (k = 18 ∧ i = o) → M' (A k i) = some (wcell g A τ ρ x k i) := fun k i hd h7 h8 =>
    hs _ _ (h.1 k i hd) (fun e => h7 (h.2 k i 17 o hd ho e)) (nr k i hd h8) (nfq k i hd)
  have evn : 10 * o + τ.a 1 o = v := by rw [en]; exact ev
  have c18 : ∀ i, i ≠ o → nvA A o v q r 18 i = A 18 i := fun i hi => by simp [nvA, hi]
  have c19 : ∀ i, i ≠ v → nvA A o v q r 19 i = A 19 i := fun i hi => by simp [nvA, hi]
  have n18 : nvA A o v q r 18 o = r := by simp [nvA]
  have n19 : nvA A o v q r 19 v = q := by simp [nvA]
  have eS : nvS τ o fm f b c cap = (((((((τ.sb 0 v true).sa 2 v fm).sa 3 v f).sa 4 v b).sa 1 o (n + 1)).si 4 v c).sa 8 (2 + o) cap).sa 9 (2 + o) (τ.a 9 (2 + o) + 1) := by
    unfold nvS
    rw [evn, en]
  have s0 : ∀ i, i ≠ v → (nvS τ o fm f b c cap).b 0 i = τ.b 0 i := fun i hi => by rw [eS]; simp [ST.a, ST.b, ST.i, ST.n, ST.sn, ST.sa, ST.sb, ST.si, f2, hi]
  have s2 : ∀ i, i ≠ v → (nvS τ o fm f b c cap).a 2 i = τ.a 2 i := fun i hi => by rw [eS]; simp [ST.a, ST.b, ST.i, ST.n, ST.sn, ST.sa, ST.sb, ST.si, f2, hi]
  have s3 : ∀ i, i ≠ v → (nvS τ o fm f b c cap).a 3 i = τ.a 3 i := fun i hi => by rw [eS]; simp [ST.a, ST.b, ST.i, ST.n, ST.sn, ST.sa, ST.sb, ST.si, f2, hi]
  have s4 : ∀ i, i ≠ v → (nvS τ o fm f b c cap).a 4 i = τ.a 4 i := fun i hi => by rw [eS]; simp [ST.a, ST.b, ST.i, ST.n, ST.sn, ST.sa, ST.sb, ST.si, f2, hi]
  have si4 : ∀ i, i ≠ v → (nvS τ o fm f b c cap).i 4 i = τ.i 4 i := fun i hi => by rw [eS]; simp [ST.a, ST.b, ST.i, ST.n, ST.sn, ST.sa, ST.sb, ST.si, f2, hi]
  have t0 : (nvS τ o fm f b c cap).b 0 v = true := by rw [eS]; simp [ST.a, ST.b, ST.i, ST.n, ST.sn, ST.sa, ST.sb, ST.si, f2]
  have t2 : (nvS τ o fm f b c cap).a 2 v = fm := by rw [eS]; simp [ST.a, ST.b, ST.i, ST.n, ST.sn, ST.sa, ST.sb, ST.si, f2]
  have t3 : (nvS τ o fm f b c cap).a 3 v = f := by rw [eS]; simp [ST.a, ST.b, ST.i, ST.n, ST.sn, ST.sa, ST.sb, ST.si, f2]
  have t4 : (nvS τ o fm f b c cap).a 4 v = b := by rw [eS]; simp [ST.a, ST.b, ST.i, ST.n, ST.sn, ST.sa, ST.sb, ST.si, f2]
  have ti4 : (nvS τ o fm f b c cap).i 4 v = c := by rw [eS]; simp [ST.a, ST.b, ST.i, ST.n, ST.sn, ST.sa, ST.sb, ST.si, f2]
  have s1 : ∀ i, i ≠ o → (nvS τ o fm f b c cap).a 1 i = τ.a 1 i := fun i hi => by rw [eS]; simp [ST.a, ST.b, ST.i, ST.n, ST.sn, ST.sa, ST.sb, ST.si, f2, hi]
  have t1 : (nvS τ o fm f b c cap).a 1 o = n + 1 := by rw [eS]; simp [ST.a, ST.b, ST.i, ST.n, ST.sn, ST.sa, ST.sb, ST.si, f2]
  have s8 : ∀ i, i ≠ o → (nvS τ o fm f b c cap).a 8 (2 + i) = τ.a 8 (2 + i) := fun i hi => by rw [eS]; simp [ST.a, ST.b, ST.i, ST.n, ST.sn, ST.sa, ST.sb, ST.si, f2, hi]
  have s9 : ∀ i, i ≠ o → (nvS τ o fm f b c cap).a 9 (2 + i) = τ.a 9 (2 + i) := fun i hi => by rw [eS]; simp [ST.a, ST.b, ST.i, ST.n, ST.sn, ST.sa, ST.sb, ST.si, f2, hi]
  have u90 : (nvS τ o fm f b c cap).a 9 0 = τ.a 9 0 := by rw [eS]; simp [ST.a, ST.b, ST.i, ST.n, ST.sn, ST.sa, ST.sb, ST.si, f2]; omega
  have u91 : (nvS τ o fm f b c cap).a 9 1 = τ.a 9 1 := by rw [eS]; simp [ST.a, ST.b, ST.i, ST.n, ST.sn, ST.sa, ST.sb, ST.si, f2]; omega
  have u80 : (nvS τ o fm f b c cap).a 8 0 = τ.a 8 0 := by rw [eS]; simp [ST.a, ST.b, ST.i, ST.n, ST.sn, ST.sa, ST.sb, ST.si, f2]; omega
  have u81 : (nvS τ o fm f b c cap).a 8 1 = τ.a 8 1 := by rw [eS]; simp [ST.a, ST.b, ST.i, ST.n, ST.sn, ST.sa, ST.sb, ST.si, f2]; omega
  have t8 : (nvS τ o fm f b c cap).a 8 (2 + o) = cap := by rw [eS]; simp [ST.a, ST.b, ST.i, ST.n, ST.sn, ST.sa, ST.sb, ST.si, f2]
  have t9 : (nvS τ o fm f b c cap).a 9 (2 + o) = τ.a 9 (2 + o) + 1 := by rw [eS]; simp [ST.a, ST.b, ST.i, ST.n, ST.sn, ST.sa, ST.sb, ST.si, f2]
  have hv10 : v / 10 = o ∧ v % 10 = n := ⟨by omega, by omega⟩
  have hd19 : ∀ i, wdom (nvS τ o fm f b c cap) 19 i → i = v ∨ vok τ i := fun i hd => by
    have hd : i / 10 < τ.ob ∧ i % 10 < (nvS τ o fm f b c cap).a 1 (i / 10) := hd
    by_cases hi : i / 10 = o
    · rw [hi, t1] at hd
      by_cases hm : i % 10 = n
      · left; omega
      · right
        refine ⟨hd.1 |> fun _ => by rw [hi]; exact ho, ?_⟩
        rw [hi, en]
        omega
    · rw [s1 _ hi] at hd
      exact Or.inr hd
  have vne : ∀ i, vok τ i → i ≠ v := fun i hi e => by
    have := hi.2
    rw [e, hv10.1, hv10.2, en] at this
    omega
  have key : ∀ k i, wdom (nvS τ o fm f b c cap) k i → M' (nvA A o v q r k i) = some (wcell g (nvA A o v q r) (nvS τ o fm f b c cap) ρ x k i) := by
    intro k i hd
    match k, hd with
    | 0, hd => exact hold 0 i hd (fun z => absurd z.1 (by decide)) (fun z => absurd z.1 (by decide))
    | 1, hd => exact hold 1 i hd (fun z => absurd z.1 (by decide)) (fun z => absurd z.1 (by decide))
    | 2, hd => exact hold 2 i hd (fun z => absurd z.1 (by decide)) (fun z => absurd z.1 (by decide))
    | 3, hd => exact hold 3 i hd (fun z => absurd z.1 (by decide)) (fun z => absurd z.1 (by decide))
    | 4, hd => exact hold 4 i hd (fun z => absurd z.1 (by decide)) (fun z => absurd z.1 (by decide))
    | 5, hd => exact hold 5 i hd (fun z => absurd z.1 (by decide)) (fun z => absurd z.1 (by decide))
    | 6, hd => exact hold 6 i hd (fun z => absurd z.1 (by decide)) (fun z => absurd z.1 (by decide))
    | 7, hd =>
      have k := hold 7 i hd (fun z => absurd z.1 (by decide)) (fun z => absurd z.1 (by decide))
      show M' (A 7 i) = some (ob 0 [.int (nI ((nvS τ o fm f b c cap).a 9 0)), if τ.un = 0 then .ref g.E else .ref (A 8 0), .int (nI τ.un)])
      rw [u90]
      exact k
    | 8, hd =>
      have k := hold 8 i hd (fun z => absurd z.1 (by decide)) (fun z => absurd z.1 (by decide))
      show M' (A 8 i) = some (lrow A 13 0 τ.un ((nvS τ o fm f b c cap).a 8 0))
      rw [u80]
      exact k
    | 9, hd => exact hold 9 i hd (fun z => absurd z.1 (by decide)) (fun z => absurd z.1 (by decide))
    | 10, hd => exact hold 10 i hd (fun z => absurd z.1 (by decide)) (fun z => absurd z.1 (by decide))
    | 11, hd =>
      have k := hold 11 i hd (fun z => absurd z.1 (by decide)) (fun z => absurd z.1 (by decide))
      show M' (A 11 i) = some (ob 0 [.int (nI ((nvS τ o fm f b c cap).a 9 1)), if τ.ob = 0 then .ref g.E else .ref (A 12 0), .int (nI τ.ob)])
      rw [u91]
      exact k
    | 12, hd =>
      have k := hold 12 i hd (fun z => absurd z.1 (by decide)) (fun z => absurd z.1 (by decide))
      show M' (A 12 i) = some (lrow A 16 0 τ.ob ((nvS τ o fm f b c cap).a 8 1))
      rw [u81]
      exact k
    | 13, hd => exact hold 13 i hd (fun z => absurd z.1 (by decide)) (fun z => absurd z.1 (by decide))
    | 14, hd => exact hold 14 i hd (fun z => absurd z.1 (by decide)) (fun z => absurd z.1 (by decide))
    | 15, hd => exact hold 15 i hd (fun z => absurd z.1 (by decide)) (fun z => absurd z.1 (by decide))
    | 16, hd =>
      have k := hold 16 i hd (fun z => absurd z.1 (by decide)) (fun z => absurd z.1 (by decide))
      have hne : 10 * i ≠ v := by
        by_cases hi : i = o
        · omega
        · omega
      show M' (A 16 i) = some (ob 1 [.int (nI (τ.a 0 i)), .ref (nvA A o v q r 19 (10 * i)), .ref (A 17 i)])
      rw [c19 _ hne]
      exact k
    | 17, hd =>
      show M' (A 17 i) = some (ob 0 [.int (nI ((nvS τ o fm f b c cap).a 9 (2 + i))), .ref (nvA A o v q r 18 i), .int (nI ((nvS τ o fm f b c cap).a 1 i))])
      by_cases hi : i = o
      · rw [hi, t9, n18, t1]
        exact h17
      · rw [s9 i hi, c18 i hi, s1 i hi]
        exact hold 17 i hd (fun z => hi z.2) (fun z => hi z.2)
    | 18, hd =>
      show M' (nvA A o v q r 18 i) = some (aQ tO ((nvS τ o fm f b c cap).a 8 (2 + i)) (fun j => if j < (nvS τ o fm f b c cap).a 1 i then some (nvA A o v q r 19 (10 * i + j)) else none))
      by_cases hi : i = o
      · rw [hi, n18, t8, t1, h18]
        refine congrArg some (congrArg (aQ tO cap) (funext fun j => ?_))
        by_cases hj : j < n + 1
        · rw [if_pos hj, if_pos hj]
          by_cases hjn : j = n
          · rw [hjn, f1_s, ev, n19]
          · rw [f1_n hjn, c19 _ (by omega)]
        · rw [if_neg hj, if_neg hj]
      · have k := hold 18 i hd (fun z => hi z.2) (fun z => hi z.2)
        have h10 := hw.2.1 i hd
        rw [c18 i hi, s8 i hi, s1 i hi, k]
        refine congrArg some (congrArg (aQ tO (τ.a 8 (2 + i))) (funext fun j => ?_))
        by_cases hj : j < τ.a 1 i
        · rw [if_pos hj, if_pos hj, c19 _ (by omega)]
        · rw [if_neg hj, if_neg hj]
    | 19, hd =>
      show M' (nvA A o v q r 19 i) = some (ob 5 [.ref (A 13 ((nvS τ o fm f b c cap).a 3 i)), if τ.b 2 ((nvS τ o fm f b c cap).a 3 i) = true then .ref (nvA A o v q r 19 ((nvS τ o fm f b c cap).a 4 i)) else .null, .int (nI ((nvS τ o fm f b c cap).a 2 i)), .int ((nvS τ o fm f b c cap).i 4 i), .int (bI ((nvS τ o fm f b c cap).b 0 i))])
      rcases hd19 i hd with hi | hi
      · rw [hi, n19, t3, t4, t2, ti4, t0, hq]
        refine congrArg some (congrArg (fun z => ob 5 [.ref (A 13 f), z, .int (nI fm), .int c, .int (bI true)]) ?_)
        by_cases hd2 : τ.b 2 f = true
        · rw [if_pos hd2, if_pos hd2, c19 _ (vne _ (hb hd2))]
        · rw [if_neg hd2, if_neg hd2]
      · have hiv := vne i hi
        have k := hold 19 i hi (fun z => absurd z.1 (by decide)) (fun z => absurd z.1 (by decide))
        rw [c19 i hiv, s3 i hiv, s4 i hiv, s2 i hiv, si4 i hiv, s0 i hiv, k]
        refine congrArg some (congrArg (fun z => ob 5 [.ref (A 13 (τ.a 3 i)), z, .int (nI (τ.a 2 i)), .int (τ.i 4 i), .int (bI (τ.b 0 i))]) ?_)
        by_cases hd2 : τ.b 2 (τ.a 3 i) = true
        · rw [if_pos hd2, if_pos hd2, c19 _ (vne _ (hw.bas hi hd2).2)]
        · rw [if_neg hd2, if_neg hd2]
    | 20, hd => exact hold 20 i hd (fun z => absurd z.1 (by decide)) (fun z => absurd z.1 (by decide))
    | 21, hd => exact hold 21 i hd (fun z => absurd z.1 (by decide)) (fun z => absurd z.1 (by decide))
    | 22, hd => exact hold 22 i hd (fun z => absurd z.1 (by decide)) (fun z => absurd z.1 (by decide))
    | n + 23, hd => exact absurd hd.1 (by omega)
  have hcl : ∀ k i, wdom (nvS τ o fm f b c cap) k i → (wdom τ k i ∧ nvA A o v q r k i = A k i) ∨ ((k = 18 ∧ i = o ∧ nvA A o v q r k i = r ∧ M r = none) ∨ (k = 19 ∧ i = v ∧ nvA A o v q r k i = q)) := by
    intro k i hd
    match k, hd with
    | 0, hd => exact Or.inl ⟨hd, rfl⟩
    | 1, hd => exact Or.inl ⟨hd, rfl⟩
    | 2, hd => exact Or.inl ⟨hd, rfl⟩
    | 3, hd => exact Or.inl ⟨hd, rfl⟩
    | 4, hd => exact Or.inl ⟨hd, rfl⟩
    | 5, hd => exact Or.inl ⟨hd, rfl⟩
    | 6, hd => exact Or.inl ⟨hd, rfl⟩
    | 7, hd => exact Or.inl ⟨hd, rfl⟩
    | 8, hd => exact Or.inl ⟨hd, rfl⟩
    | 9, hd => exact Or.inl ⟨hd, rfl⟩
    | 10, hd => exact Or.inl ⟨hd, rfl⟩
    | 11, hd => exact Or.inl ⟨hd, rfl⟩
    | 12, hd => exact Or.inl ⟨hd, rfl⟩
    | 13, hd => exact Or.inl ⟨hd, rfl⟩
    | 14, hd => exact Or.inl ⟨hd, rfl⟩
    | 15, hd => exact Or.inl ⟨hd, rfl⟩
    | 16, hd => exact Or.inl ⟨hd, rfl⟩
    | 17, hd => exact Or.inl ⟨hd, rfl⟩
    | 18, hd =>
      by_cases hi : i = o
      · rw [hi]
        rcases fr with fr | fr
        · exact Or.inr (Or.inl ⟨rfl, rfl, n18, fr⟩)
        · exact Or.inl ⟨ho, by rw [n18]; exact fr⟩
      · exact Or.inl ⟨hd, c18 i hi⟩
    | 19, hd =>
      rcases hd19 i hd with hi | hi
      · exact Or.inr (Or.inr ⟨rfl, hi, by rw [hi]; exact n19⟩)
      · exact Or.inl ⟨hi, c19 i (vne i hi)⟩
    | 20, hd => exact Or.inl ⟨hd, rfl⟩
    | 21, hd => exact Or.inl ⟨hd, rfl⟩
    | 22, hd => exact Or.inl ⟨hd, rfl⟩
    | n + 23, hd => exact absurd hd.1 (by omega)
  refine ⟨key, inj_ext h.2 hsome (fun k i hd => ?_) (fun k i k' i' hd hd' hn hn' e => ?_)⟩
  · rcases hcl k i hd with h1 | ⟨-, -, h1, h2⟩ | ⟨-, -, h1⟩
    · exact Or.inl h1
    · exact Or.inr (by rw [h1]; exact h2)
    · exact Or.inr (by rw [h1]; exact fq)
  · rcases hcl k i hd with ⟨z1, z2⟩ | ⟨k1, i1, h1, -⟩ | ⟨k1, i1, h1⟩
    · exact absurd (by rw [z2] at hn; exact hn) (hsome k i z1)
    all_goals
      rcases hcl k' i' hd' with ⟨z1, z2⟩ | ⟨k2, i2, h2, -⟩ | ⟨k2, i2, h2⟩
      · exact absurd (by rw [z2] at hn'; exact hn') (hsome k' i' z1)
      all_goals
        first
          | exact ⟨k1.trans k2.symm, i1.trans i2.symm⟩
          | (exfalso; exact hrq (h1.symm.trans (e.trans h2)))
          | (exfalso; exact hrq (h2.symm.trans (e.symm.trans h1)))
