/-! the class: an object comes to stand in the world -/
def noA (A : Nat → Nat → Nat) (n d l r q rr : Nat) : Nat → Nat → Nat := fun k i => if k = 12 then rr else if k = 16 ∧ i = n then d else if k = 17 ∧ i = n then l else if k = 18 ∧ i = n then r else if k = 19 ∧ i = 10 * n then q else A k i
def noS (τ : ST) (n w fm f b : Nat) (c : Int32) (cap cap2 : Nat) : ST := (((((((((((τ.sa 0 n w).sb 0 (10 * n) true).sa 2 (10 * n) fm).sa 3 (10 * n) f).sa 4 (10 * n) b).sa 1 n 1).sn 1 (n + 1)).si 4 (10 * n) c).sa 8 (2 + n) cap).sa 9 (2 + n) 1).sa 8 1 cap2).sa 9 1 (τ.a 9 1 + 1)
theorem W2.newObject {g : GG} {A : Nat → Nat → Nat} {τ ρ : ST} {x : XT} {M M' : Mem} (h : W2 g A τ ρ x M) (hw : WF τ) {n d l r q rr w fm f b cap cap2 : Nat} {c : Int32} (en : τ.ob = n) (hn : n < 10) (hf : f < τ.un) (hb : τ.b 2 f = false) (fd : M d = none) (fl : M l = none) (fr : M r = none) (fq : M q = none) (frr : M rr = none ∨ (rr = A 12 0 ∧ 1 ≤ n))
    (hdl : d ≠ l) (hdr : d ≠ r) (hdq : d ≠ q) (hlr : l ≠ r) (hlq : l ≠ q) (hrq : r ≠ q) (xd : rr ≠ d) (xl : rr ≠ l) (xr : rr ≠ r) (xq : rr ≠ q)
    (h11 : M' (A 11 0) = some (lst (nI (τ.a 9 1 + 1)) rr (n + 1))) (h12 : M' rr = some (lrw (f1 (fun j => A 16 j) n d) (n + 1) cap2)) (hd' : M' d = some (ob 1 [.int (nI w), .ref q, .ref l])) (hl' : M' l = some (lst (nI 1) r 1)) (hr' : M' r = some (lrw (fun _ => q) 1 cap))
    (hq' : M' q = some (ob 5 [.ref (A 13 f), .null, .int (nI fm), .int c, .int (bI true)])) (hs : ∀ z e, M z = some e → z ≠ A 11 0 → z ≠ rr → z ≠ d → z ≠ l → z ≠ r → z ≠ q → M' z = some e) : W2 g (noA A n d l r q rr) (noS τ n w fm f b c cap cap2) ρ x M' := by
  have hsome : ∀ k i, wdom τ k i → M (A k i) ≠ none := fun k i hd => by rw [h.1 k i hd]; exact fun e => by cases e
  have nf : ∀ k i z, wdom τ k i → M z = none → A k i ≠ z := fun k i z hd hz e => hsome k i hd (by rw [e]; exact hz)
  have nr : ∀ k i, wdom τ k i → k ≠ 12 → A k i ≠ rr := fun k i hd h8 e => by
    rcases frr with fr | ⟨fr, fu⟩
    · exact nf k i rr hd fr e
    · exact h8 (h.2 k i 12 0 hd ⟨rfl, by rw [en]; exact fu⟩ (e.trans fr)).1
  have hold : ∀ k i, wdom τ k i → k ≠ 11 → k ≠ 12 → M' (A k i) = some (wcell g A τ ρ x k i) := fun k i hd h7 h8 =>
    hs _ _ (h.1 k i hd) (fun e => h7 (h.2 k i 11 0 hd ⟨by decide, rfl⟩ e).1) (nr k i hd h8) (nf k i d hd fd) (nf k i l hd fl) (nf k i r hd fr) (nf k i q hd fq)
  have c16 : ∀ i, i ≠ n → noA A n d l r q rr 16 i = A 16 i := fun i hi => by simp [noA, hi]
  have n16 : noA A n d l r q rr 16 n = d := by simp [noA]
  have c17 : ∀ i, i ≠ n → noA A n d l r q rr 17 i = A 17 i := fun i hi => by simp [noA, hi]
  have n17 : noA A n d l r q rr 17 n = l := by simp [noA]
  have c18 : ∀ i, i ≠ n → noA A n d l r q rr 18 i = A 18 i := fun i hi => by simp [noA, hi]
  have n18 : noA A n d l r q rr 18 n = r := by simp [noA]
  have c19 : ∀ i, i ≠ 10 * n → noA A n d l r q rr 19 i = A 19 i := fun i hi => by simp [noA, hi]
  have n19 : noA A n d l r q rr 19 (10 * n) = q := by simp [noA]
  have s0 : ∀ i, i ≠ 10 * n → (noS τ n w fm f b c cap cap2).b 0 i = τ.b 0 i := fun i hi => by unfold noS; simp [ST.a, ST.b, ST.i, ST.n, ST.sn, ST.sa, ST.sb, ST.si, f1, f2, hi]
  have s2 : ∀ i, i ≠ 10 * n → (noS τ n w fm f b c cap cap2).a 2 i = τ.a 2 i := fun i hi => by unfold noS; simp [ST.a, ST.b, ST.i, ST.n, ST.sn, ST.sa, ST.sb, ST.si, f1, f2, hi]
  have s3 : ∀ i, i ≠ 10 * n → (noS τ n w fm f b c cap cap2).a 3 i = τ.a 3 i := fun i hi => by unfold noS; simp [ST.a, ST.b, ST.i, ST.n, ST.sn, ST.sa, ST.sb, ST.si, f1, f2, hi]
  have s4 : ∀ i, i ≠ 10 * n → (noS τ n w fm f b c cap cap2).a 4 i = τ.a 4 i := fun i hi => by unfold noS; simp [ST.a, ST.b, ST.i, ST.n, ST.sn, ST.sa, ST.sb, ST.si, f1, f2, hi]
  have si4 : ∀ i, i ≠ 10 * n → (noS τ n w fm f b c cap cap2).i 4 i = τ.i 4 i := fun i hi => by unfold noS; simp [ST.a, ST.b, ST.i, ST.n, ST.sn, ST.sa, ST.sb, ST.si, f1, f2, hi]
  have t0 : (noS τ n w fm f b c cap cap2).b 0 (10 * n) = true := by unfold noS; simp [ST.a, ST.b, ST.i, ST.n, ST.sn, ST.sa, ST.sb, ST.si, f1, f2]
  have t2 : (noS τ n w fm f b c cap cap2).a 2 (10 * n) = fm := by unfold noS; simp [ST.a, ST.b, ST.i, ST.n, ST.sn, ST.sa, ST.sb, ST.si, f1, f2]
  have t3 : (noS τ n w fm f b c cap cap2).a 3 (10 * n) = f := by unfold noS; simp [ST.a, ST.b, ST.i, ST.n, ST.sn, ST.sa, ST.sb, ST.si, f1, f2]
  have ti4 : (noS τ n w fm f b c cap cap2).i 4 (10 * n) = c := by unfold noS; simp [ST.a, ST.b, ST.i, ST.n, ST.sn, ST.sa, ST.sb, ST.si, f1, f2]
  have s1 : ∀ i, i ≠ n → (noS τ n w fm f b c cap cap2).a 1 i = τ.a 1 i := fun i hi => by unfold noS; simp [ST.a, ST.b, ST.i, ST.n, ST.sn, ST.sa, ST.sb, ST.si, f1, f2, hi]
  have t1 : (noS τ n w fm f b c cap cap2).a 1 n = 1 := by unfold noS; simp [ST.a, ST.b, ST.i, ST.n, ST.sn, ST.sa, ST.sb, ST.si, f1, f2]
  have z0 : ∀ i, i ≠ n → (noS τ n w fm f b c cap cap2).a 0 i = τ.a 0 i := fun i hi => by unfold noS; simp [ST.a, ST.b, ST.i, ST.n, ST.sn, ST.sa, ST.sb, ST.si, f1, f2, hi]
  have w0' : (noS τ n w fm f b c cap cap2).a 0 n = w := by unfold noS; simp [ST.a, ST.b, ST.i, ST.n, ST.sn, ST.sa, ST.sb, ST.si, f1, f2]
  have s8 : ∀ i, i ≠ n → (noS τ n w fm f b c cap cap2).a 8 (2 + i) = τ.a 8 (2 + i) := fun i hi => by
    have q1 : ¬ 2 + i = 1 := by omega
    unfold noS; simp [ST.a, ST.b, ST.i, ST.n, ST.sn, ST.sa, ST.sb, ST.si, f1, f2, hi, q1]
  have u80 : (noS τ n w fm f b c cap cap2).a 8 0 = τ.a 8 0 := by
    have q1 : ¬ 0 = 2 + n := by omega
    unfold noS; simp [ST.a, ST.b, ST.i, ST.n, ST.sn, ST.sa, ST.sb, ST.si, f1, f2, q1]
  have s9 : ∀ i, i ≠ n → (noS τ n w fm f b c cap cap2).a 9 (2 + i) = τ.a 9 (2 + i) := fun i hi => by
    have q1 : ¬ 2 + i = 1 := by omega
    unfold noS; simp [ST.a, ST.b, ST.i, ST.n, ST.sn, ST.sa, ST.sb, ST.si, f1, f2, hi, q1]
  have u90 : (noS τ n w fm f b c cap cap2).a 9 0 = τ.a 9 0 := by
    have q1 : ¬ 0 = 2 + n := by omega
    unfold noS; simp [ST.a, ST.b, ST.i, ST.n, ST.sn, ST.sa, ST.sb, ST.si, f1, f2, q1]
  have t8 : (noS τ n w fm f b c cap cap2).a 8 (2 + n) = cap := by
    have q1 : ¬ 2 + n = 1 := by omega
    unfold noS; simp [ST.a, ST.b, ST.i, ST.n, ST.sn, ST.sa, ST.sb, ST.si, f1, f2, q1]
  have t9 : (noS τ n w fm f b c cap cap2).a 9 (2 + n) = 1 := by
    have q1 : ¬ 2 + n = 1 := by omega
    unfold noS; simp [ST.a, ST.b, ST.i, ST.n, ST.sn, ST.sa, ST.sb, ST.si, f1, f2, q1]
  have u81 : (noS τ n w fm f b c cap cap2).a 8 1 = cap2 := by unfold noS; simp [ST.a, ST.b, ST.i, ST.n, ST.sn, ST.sa, ST.sb, ST.si, f1, f2]
  have u91 : (noS τ n w fm f b c cap cap2).a 9 1 = τ.a 9 1 + 1 := by unfold noS; simp [ST.a, ST.b, ST.i, ST.n, ST.sn, ST.sa, ST.sb, ST.si, f1, f2]
  have eob : (noS τ n w fm f b c cap cap2).ob = n + 1 := by unfold noS; simp [ST.a, ST.b, ST.i, ST.n, ST.sn, ST.sa, ST.sb, ST.si, f1, f2]
  have hd19 : ∀ i, wdom (noS τ n w fm f b c cap cap2) 19 i → i = 10 * n ∨ vok τ i := fun i hd => by
    have hd : i / 10 < (noS τ n w fm f b c cap cap2).ob ∧ i % 10 < (noS τ n w fm f b c cap cap2).a 1 (i / 10) := hd
    rw [eob] at hd
    by_cases hi : i / 10 = n
    · rw [hi, t1] at hd
      left
      omega
    · rw [s1 _ hi] at hd
      exact Or.inr ⟨by rw [en]; omega, hd.2⟩
  have vne : ∀ i, vok τ i → i ≠ 10 * n := fun i hi e => by
    have := hi.1
    rw [en] at this
    omega
  have key : ∀ k i, wdom (noS τ n w fm f b c cap cap2) k i → M' (noA A n d l r q rr k i) = some (wcell g (noA A n d l r q rr) (noS τ n w fm f b c cap cap2) ρ x k i) := by
    intro k i hd
    match k, hd with
    | 0, hd => exact hold 0 i hd (by decide) (by decide)
    | 1, hd => exact hold 1 i hd (by decide) (by decide)
    | 2, hd => exact hold 2 i hd (by decide) (by decide)
    | 3, hd => exact hold 3 i hd (by decide) (by decide)
    | 4, hd => exact hold 4 i hd (by decide) (by decide)
    | 5, hd => exact hold 5 i hd (by decide) (by decide)
    | 6, hd => exact hold 6 i hd (by decide) (by decide)
    | 7, hd =>
      have k := hold 7 i hd (by decide) (by decide)
      show M' (A 7 i) = some (ob 0 [.int (nI ((noS τ n w fm f b c cap cap2).a 9 0)), if τ.un = 0 then .ref g.E else .ref (A 8 0), .int (nI τ.un)])
      rw [u90]
      exact k
    | 8, hd =>
      have k := hold 8 i hd (by decide) (by decide)
      show M' (A 8 i) = some (lrow A 13 0 τ.un ((noS τ n w fm f b c cap cap2).a 8 0))
      rw [u80]
      exact k
    | 9, hd => exact hold 9 i hd (by decide) (by decide)
    | 10, hd => exact hold 10 i hd (by decide) (by decide)
    | 11, hd =>
      have hi : i = 0 := hd.2
      rw [hi]
      show M' (A 11 0) = some (ob 0 [.int (nI ((noS τ n w fm f b c cap cap2).a 9 1)), if (noS τ n w fm f b c cap cap2).ob = 0 then .ref g.E else .ref rr, .int (nI (noS τ n w fm f b c cap cap2).ob)])
      rw [eob, if_neg (Nat.succ_ne_zero _), h11, u91]
    | 12, hd =>
      show M' rr = some (aQ tO ((noS τ n w fm f b c cap cap2).a 8 1) (fun j => if j < (noS τ n w fm f b c cap cap2).ob then some (noA A n d l r q rr 16 (0 + j)) else none))
      rw [eob, u81, h12]
      refine congrArg some (congrArg (aQ tO cap2) (funext fun j => ?_))
      rw [Nat.zero_add]
      by_cases hj : j = n
      · rw [hj, n16, f1_s]
      · rw [c16 j hj, f1_n hj]
    | 13, hd => exact hold 13 i hd (by decide) (by decide)
    | 14, hd => exact hold 14 i hd (by decide) (by decide)
    | 15, hd => exact hold 15 i hd (by decide) (by decide)
    | 16, hd =>
      have hd : i < (noS τ n w fm f b c cap cap2).ob := hd
      rw [eob] at hd
      show M' (noA A n d l r q rr 16 i) = some (ob 1 [.int (nI ((noS τ n w fm f b c cap cap2).a 0 i)), .ref (noA A n d l r q rr 19 (10 * i)), .ref (noA A n d l r q rr 17 i)])
      by_cases hi : i = n
      · rw [hi, n16, n19, n17, w0']
        exact hd'
      · rw [c16 i hi, c17 i hi, z0 i hi, c19 _ (by omega)]
        exact hold 16 i (show i < τ.ob by rw [en]; omega) (by decide) (by decide)
    | 17, hd =>
      have hd : i < (noS τ n w fm f b c cap cap2).ob := hd
      rw [eob] at hd
      show M' (noA A n d l r q rr 17 i) = some (ob 0 [.int (nI ((noS τ n w fm f b c cap cap2).a 9 (2 + i))), .ref (noA A n d l r q rr 18 i), .int (nI ((noS τ n w fm f b c cap cap2).a 1 i))])
      by_cases hi : i = n
      · rw [hi, n17, n18, t9, t1]
        exact hl'
      · rw [c17 i hi, c18 i hi, s9 i hi, s1 i hi]
        exact hold 17 i (show i < τ.ob by rw [en]; omega) (by decide) (by decide)
    | 18, hd =>
      have hd : i < (noS τ n w fm f b c cap cap2).ob := hd
      rw [eob] at hd
      show M' (noA A n d l r q rr 18 i) = some (aQ tO ((noS τ n w fm f b c cap cap2).a 8 (2 + i)) (fun j => if j < (noS τ n w fm f b c cap cap2).a 1 i then some (noA A n d l r q rr 19 (10 * i + j)) else none))
      by_cases hi : i = n
      · rw [hi, n18, t8, t1, hr']
        refine congrArg some (congrArg (aQ tO cap) (funext fun j => ?_))
        by_cases hj : j < 1
        · rw [if_pos hj, if_pos hj, show 10 * n + j = 10 * n by omega, n19]
        · rw [if_neg hj, if_neg hj]
      · have hio : i < τ.ob := by rw [en]; omega
        have k := hold 18 i hio (by decide) (by decide)
        have h10 := hw.2.1 i hio
        rw [c18 i hi, s8 i hi, s1 i hi, k]
        refine congrArg some (congrArg (aQ tO (τ.a 8 (2 + i))) (funext fun j => ?_))
        by_cases hj : j < τ.a 1 i
        · rw [if_pos hj, if_pos hj, c19 _ (by omega)]
        · rw [if_neg hj, if_neg hj]
    | 19, hd =>
      show M' (noA A n d l r q rr 19 i) = some (ob 5 [.ref (A 13 ((noS τ n w fm f b c cap cap2).a 3 i)), if τ.b 2 ((noS τ n w fm f b c cap cap2).a 3 i) = true then .ref (noA A n d l r q rr 19 ((noS τ n w fm f b c cap cap2).a 4 i)) else .null, .int (nI ((noS τ n w fm f b c cap cap2).a 2 i)), .int ((noS τ n w fm f b c cap cap2).i 4 i), .int (bI ((noS τ n w fm f b c cap cap2).b 0 i))])
      rcases hd19 i hd with hi | hi
      · rw [hi, n19, t3, t2, ti4, t0, hq', if_neg (by rw [hb]; decide)]
      · have hiv := vne i hi
        have k := hold 19 i hi (by decide) (by decide)
        rw [c19 i hiv, s3 i hiv, s4 i hiv, s2 i hiv, si4 i hiv, s0 i hiv, k]
        refine congrArg some (congrArg (fun z => ob 5 [.ref (A 13 (τ.a 3 i)), z, .int (nI (τ.a 2 i)), .int (τ.i 4 i), .int (bI (τ.b 0 i))]) ?_)
        by_cases hd2 : τ.b 2 (τ.a 3 i) = true
        · rw [if_pos hd2, if_pos hd2, c19 _ (vne _ (hw.bas hi hd2).2)]
        · rw [if_neg hd2, if_neg hd2]
    | 20, hd => exact hold 20 i hd (by decide) (by decide)
    | 21, hd => exact hold 21 i hd (by decide) (by decide)
    | 22, hd => exact hold 22 i hd (by decide) (by decide)
    | n + 23, hd => exact absurd hd.1 (by omega)
  have hcl : ∀ k i, wdom (noS τ n w fm f b c cap cap2) k i → (wdom τ k i ∧ noA A n d l r q rr k i = A k i) ∨ ((k = 12 ∧ i = 0 ∧ noA A n d l r q rr k i = rr ∧ M rr = none) ∨ (k = 16 ∧ i = n ∧ noA A n d l r q rr k i = d) ∨ (k = 17 ∧ i = n ∧ noA A n d l r q rr k i = l) ∨ (k = 18 ∧ i = n ∧ noA A n d l r q rr k i = r) ∨ (k = 19 ∧ i = 10 * n ∧ noA A n d l r q rr k i = q)) := by
    intro k i hd
    match k, hd with
    | 0, hd => exact Or.inl ⟨hd, rfl⟩
    | 1, hd => exact Or.inl ⟨hd, rfl⟩
    | 2, hd => exact Or.inl ⟨hd, rfl⟩
    | 3, hd => exact Or.inl ⟨hd, rfl⟩
    | 4, hd => exact Or.inl ⟨hd, rfl⟩
    | 5, hd => exact Or.inl ⟨hd, rfl⟩
    | 6, hd => exact Or.inl ⟨hd, rfl⟩
    | 7, hd => exact Or.inl ⟨hd, rfl⟩
    | 8, hd => exact Or.inl ⟨hd, rfl⟩
    | 9, hd => exact Or.inl ⟨hd, rfl⟩
    | 10, hd => exact Or.inl ⟨hd, rfl⟩
    | 11, hd => exact Or.inl ⟨hd, rfl⟩
    | 12, hd =>
      have hi : i = 0 := hd.1
      rw [hi]
      rcases frr with fr | ⟨fr, fu⟩
      · exact Or.inr (Or.inl ⟨rfl, rfl, rfl, fr⟩)
      · exact Or.inl ⟨⟨rfl, by rw [en]; exact fu⟩, fr⟩
    | 13, hd => exact Or.inl ⟨hd, rfl⟩
    | 14, hd => exact Or.inl ⟨hd, rfl⟩
    | 15, hd => exact Or.inl ⟨hd, rfl⟩
    | 16, hd =>
      have hd : i < (noS τ n w fm f b c cap cap2).ob := hd
      rw [eob] at hd
      by_cases hi : i = n
      · exact Or.inr (Or.inr (Or.inl ⟨rfl, hi, by rw [hi]; exact n16⟩))
      · exact Or.inl ⟨show i < τ.ob by rw [en]; omega, c16 i hi⟩
    | 17, hd =>
      have hd : i < (noS τ n w fm f b c cap cap2).ob := hd
      rw [eob] at hd
      by_cases hi : i = n
      · exact Or.inr (Or.inr (Or.inr (Or.inl ⟨rfl, hi, by rw [hi]; exact n17⟩)))
      · exact Or.inl ⟨show i < τ.ob by rw [en]; omega, c17 i hi⟩
    | 18, hd =>
      have hd : i < (noS τ n w fm f b c cap cap2).ob := hd
      rw [eob] at hd
      by_cases hi : i = n
      · exact Or.inr (Or.inr (Or.inr (Or.inr (Or.inl ⟨rfl, hi, by rw [hi]; exact n18⟩))))
      · exact Or.inl ⟨show i < τ.ob by rw [en]; omega, c18 i hi⟩
    | 19, hd =>
      rcases hd19 i hd with hi | hi
      · exact Or.inr (Or.inr (Or.inr (Or.inr (Or.inr ⟨rfl, hi, by rw [hi]; exact n19⟩))))
      · exact Or.inl ⟨hi, c19 i (vne i hi)⟩
    | 20, hd => exact Or.inl ⟨hd, rfl⟩
    | 21, hd => exact Or.inl ⟨hd, rfl⟩
    | 22, hd => exact Or.inl ⟨hd, rfl⟩
    | n + 23, hd => exact absurd hd.1 (by omega)
  refine ⟨key, inj_ext h.2 hsome (fun k i hd => ?_) (fun k i k' i' hd hd' hn hn' e => ?_)⟩
  · rcases hcl k i hd with h1 | ⟨-, -, h1, h2⟩ | ⟨-, -, h1⟩ | ⟨-, -, h1⟩ | ⟨-, -, h1⟩ | ⟨-, -, h1⟩
    · exact Or.inl h1
    · exact Or.inr (by rw [h1]; exact h2)
    · exact Or.inr (by rw [h1]; exact fd)
    · exact Or.inr (by rw [h1]; exact fl)
    · exact Or.inr (by rw [h1]; exact fr)
    · exact Or.inr (by rw [h1]; exact fq)
  · rcases hcl k i hd with ⟨z1, z2⟩ | ⟨k1, i1, h1, -⟩ | ⟨k1, i1, h1⟩ | ⟨k1, i1, h1⟩ | ⟨k1, i1, h1⟩ | ⟨k1, i1, h1⟩
    · exact absurd (by rw [z2] at hn; exact hn) (hsome k i z1)
    all_goals
      rcases hcl k' i' hd' with ⟨z1, z2⟩ | ⟨k2, i2, h2, -⟩ | ⟨k2, i2, h2⟩ | ⟨k2, i2, h2⟩ | ⟨k2, i2, h2⟩ | ⟨k2, i2, h2⟩
      · exact absurd (by rw [z2] at hn'; exact hn') (hsome k' i' z1)
      all_goals
        first
          | exact ⟨k1.trans k2.symm, i1.trans i2.symm⟩
          | (exfalso; exact hdl (h1.symm.trans (e.trans h2)))
          | (exfalso; exact hdl (h2.symm.trans (e.symm.trans h1)))
          | (exfalso; exact hdr (h1.symm.trans (e.trans h2)))
          | (exfalso; exact hdr (h2.symm.trans (e.symm.trans h1)))
          | (exfalso; exact hdq (h1.symm.trans (e.trans h2)))
          | (exfalso; exact hdq (h2.symm.trans (e.symm.trans h1)))
          | (exfalso; exact hlr (h1.symm.trans (e.trans h2)))
          | (exfalso; exact hlr (h2.symm.trans (e.symm.trans h1)))
          | (exfalso; exact hlq (h1.symm.trans (e.trans h2)))
          | (exfalso; exact hlq (h2.symm.trans (e.symm.trans h1)))
          | (exfalso; exact hrq (h1.symm.trans (e.trans h2)))
          | (exfalso; exact hrq (h2.symm.trans (e.symm.trans h1)))
          | (exfalso; exact xd (h1.symm.trans (e.trans h2)))
          | (exfalso; exact xd (h2.symm.trans (e.symm.trans h1)))
          | (exfalso; exact xl (h1.symm.trans (e.trans h2)))
          | (exfalso; exact xl (h2.symm.trans (e.symm.trans h1)))
          | (exfalso; exact xr (h1.symm.trans (e.trans h2)))
          | (exfalso; exact xr (h2.symm.trans (e.symm.trans h1)))
          | (exfalso; exact xq (h1.symm.trans (e.trans h2)))
          | (exfalso; exact xq (h2.symm.trans (e.symm.trans h1)))
