/-! the class: new units -/
theorem c_X3_init (g : GG) {M : Mem} {a n : Nat} (d : Bool) (v : Int32) (hM : M a = some (ob 4 [.int 0, .int 0, .int 0, .int 0, .null, .null, .int 0, .int 0])) : con g mX3_init 2 8 [.ref a, .int (nI n), .int (bI d), .int v] M (rQ none (fun M' => ∃ p q, (M p = none ∧ M q = none ∧ p ≠ q) ∧ M' a = some (ob 4 [.int (nI n), .int (bI d), .int v, .int (dig v), .ref p, .ref q, .int 0, .int 0]) ∧ M' p = some (aI .boolean 4 (fun _ => 0)) ∧ M' q = some (aI .int 4 (fun _ => 0)) ∧ ∀ r, r ≠ a → r ≠ p → r ≠ q → M' r = M r)) := by
  refine con_i ?_ (by decide) rfl rfl (by simp [lv_args, Value.category]) (by simp [lv_args, lnd, Value.category])
  refine z_aload_n dX3_init_0 rfl rfl ?_
  refine z_objInit dX3_init_1 ⟨gt_in 442 (by decide +kernel) rfl, gt_in 46 (by decide +kernel) rfl, gt_in 47 (by decide +kernel) rfl⟩ ⟨by decide, by decide⟩ (by decide) ?_
  refine z_aload_n dX3_init_4 rfl rfl ?_
  refine z_ic ki_4 dX3_init_5 ?_
  refine z_newarray_bool dX3_init_6 ac_bool rfl (by decide) (by decide) (by decide) (fun q6 hq6 => ?_)
  have ha6 : a ≠ q6 := fun e => by rw [e, hq6] at hM; cases hM
  have hM1 := (mset_ne (e := aI .boolean 4 (fun _ => 0)) ha6).trans hM
  refine z_putfield dX3_init_8 (fpi_RX3_9) hM1 (Nat.le_of_ble_eq_true rfl) rfl rfl ?_
  refine z_aload_n dX3_init_11 rfl rfl ?_
  refine z_ic ki_4 dX3_init_12 ?_
  refine z_newarray_int dX3_init_13 ac_int rfl (by decide) (by decide) (by decide) (fun q13 hq13 => ?_)
  have h13a : q13 ≠ a := fun e => by rw [e, mset_eq] at hq13; cases hq13
  rw [mset_ne h13a] at hq13
  have h136 : q13 ≠ q6 := fun e => by rw [e, mset_eq] at hq13; cases hq13
  rw [mset_ne h136] at hq13
  refine z_putfield dX3_init_15 (fpi_RX3_15) ((mset_ne (Ne.symm h13a)).trans mset_eq) (Nat.le_of_ble_eq_true rfl) rfl rfl ?_
  refine z_aload_n dX3_init_18 rfl rfl ?_
  refine z_iload_n dX3_init_19 rfl ?_
  refine z_putfield dX3_init_20 (fpi_RX3_19) mset_eq (Nat.le_of_ble_eq_true rfl) rfl rfl ?_
  refine z_aload_n dX3_init_23 rfl rfl ?_
  refine z_iload_n dX3_init_24 rfl ?_
  refine z_putfield dX3_init_25 fpi_RX3_23 mset_eq (Nat.le_of_ble_eq_true rfl) (bI_nar d) (by cases d <;> rfl) ?_
  refine z_aload_n dX3_init_28 rfl rfl ?_
  refine z_iload_n dX3_init_29 rfl ?_
  refine z_putfield dX3_init_30 (fpi_RX3_27) mset_eq (Nat.le_of_ble_eq_true rfl) rfl rfl ?_
  refine z_aload_n dX3_init_33 rfl rfl ?_
  refine z_iload_n dX3_init_34 rfl ?_
  refine z_bi kb_97 dX3_init_35 ?_
  refine z_isI dX3_init_37 cs_RX3_30 (c_J9_floorMod g _ _ _ (by decide)) ⟨⟨by decide, by decide⟩, (by first | exact Nat.zero_le _ | decide | omega), (by first | exact Nat.zero_le _ | decide | omega)⟩ rfl rfl (Nat.le_of_ble_eq_true rfl) ?_
  rw [fmod97]
  refine z_putfield dX3_init_40 (fpi_RX3_36) mset_eq (Nat.le_of_ble_eq_true rfl) rfl rfl ?_
  refine z_return dX3_init_43 rfl ?_
  refine rQ_of ⟨q6, q13, ⟨hq6, hq13, Ne.symm h136⟩, mset_eq, ?_, ?_, fun r h1 h2 h3 => ?_⟩
  · rw [mset_ne (Ne.symm ha6), mset_ne (Ne.symm ha6), mset_ne (Ne.symm ha6), mset_ne (Ne.symm ha6), mset_ne (Ne.symm ha6), mset_ne (Ne.symm h136), mset_ne (Ne.symm ha6), mset_eq]
  · rw [mset_ne h13a, mset_ne h13a, mset_ne h13a, mset_ne h13a, mset_ne h13a, mset_eq]
  · rw [mset_ne h1, mset_ne h1, mset_ne h1, mset_ne h1, mset_ne h1, mset_ne h3, mset_ne h1, mset_ne h2]
/-- new addresses are apart from the old ones, and from each other -/
theorem inj_ext {D D' : Nat → Nat → Prop} {A A' : Nat → Nat → Nat} {M : Mem} (h : ∀ k i k' i', D k i → D k' i' → A k i = A k' i' → k = k' ∧ i = i') (hM : ∀ k i, D k i → M (A k i) ≠ none) (hD : ∀ k i, D' k i → (D k i ∧ A' k i = A k i) ∨ M (A' k i) = none) (hN : ∀ k i k' i', D' k i → D' k' i' → M (A' k i) = none → M (A' k' i') = none → A' k i = A' k' i' → k = k' ∧ i = i') : ∀ k i k' i', D' k i → D' k' i' → A' k i = A' k' i' → k = k' ∧ i = i' := by
  intro k i k' i' h1 h2 e
  rcases hD k i h1 with ⟨d1, e1⟩ | n1
  · rcases hD k' i' h2 with ⟨d2, e2⟩ | n2
    · exact h k i k' i' d1 d2 (by rw [← e1, ← e2, e])
    · exact absurd (by rw [← e1, e]; exact n2) (hM k i d1)
  · rcases hD k' i' h2 with ⟨d2, e2⟩ | n2
    · exact absurd (by rw [← e2, ← e]; exact n1) (hM k' i' d2)
    · exact hN k i k' i' h1 h2 n1 n2 e
def nuA (A : Nat → Nat → Nat) (n a p q r : Nat) : Nat → Nat → Nat := fun k i => if k = 8 then r else if k = 13 ∧ i = n then a else if k = 14 ∧ i = n then p else if k = 15 ∧ i = n then q else A k i
def nuS (σ : ST) (d : Bool) (v : Int32) (w cap : Nat) : ST := ((((((((σ.sb 1 σ.un true).sb 2 σ.un d).si 2 σ.un v).sn 2 (σ.un + 1)).sa 5 σ.un w).sa 6 σ.un 0).sa 8 0 cap).sa 9 0 (σ.a 9 0 + 1))
theorem W2.newUnit {g : GG} {A : Nat → Nat → Nat} {σ ρ : ST} {x : XT} {M M' : Mem} (h : W2 g A σ ρ x M) (hw : WF σ) {a p q r cap w : Nat} {d : Bool} {v : Int32} (fa : M a = none) (fp : M p = none) (fq : M q = none) (fr : M r = none ∨ (r = A 8 0 ∧ 1 ≤ σ.un))
    (hap : a ≠ p) (haq : a ≠ q) (hpq : p ≠ q) (hra : r ≠ a) (hrp : r ≠ p) (hrq : r ≠ q)
    (h7 : M' (A 7 0) = some (lst (nI (σ.a 9 0 + 1)) r (σ.un + 1))) (h8 : M' r = some (lrw (f1 (fun j => A 13 j) σ.un a) (σ.un + 1) cap))
    (ha : M' a = some (ob 4 [.int (nI σ.un), .int (bI d), .int v, .int (dig v), .ref p, .ref q, .int (nI w), .int (nI 0)])) (hp : M' p = some (aI .boolean 4 (fun _ => 0))) (hq : M' q = some (aI .int 4 (fun _ => 0)))
    (hs : ∀ z, z ≠ A 7 0 → z ≠ r → z ≠ a → z ≠ p → z ≠ q → M' z = M z) (zc : ∀ s, σ.cp σ.un s = false) (zh : ∀ s, σ.hs σ.un s = 0) : W2 g (nuA A σ.un a p q r) (nuS σ d v w cap) ρ x M' := by
  have hsome : ∀ k i, wdom σ k i → M (A k i) ≠ none := fun k i hd => by rw [h.1 k i hd]; exact fun e => by cases e
  have nf : ∀ k i z, wdom σ k i → M z = none → A k i ≠ z := fun k i z hd hz e => hsome k i hd (by rw [e]; exact hz)
  have nr : ∀ k i, wdom σ k i → k ≠ 8 → A k i ≠ r := fun k i hd h8 e => by
    rcases fr with fr | ⟨fr, fu⟩
    · exact nf k i r hd fr e
    · exact h8 (h.2 k i 8 0 hd ⟨rfl, fu⟩ (e.trans fr)).1
  have hold : ∀ k i, wdom σ k i → k ≠ 7 → k ≠ 8 → M' (A k i) = some (wcell g A σ ρ x k i) := fun k i hd h7 h8 => by
    rw [hs _ (fun e => h7 (h.2 k i 7 0 hd ⟨by decide, rfl⟩ e).1) (nr k i hd h8) (nf k i a hd fa) (nf k i p hd fp) (nf k i q hd fq)]
    exact h.1 k i hd
  have c13 : ∀ i, i ≠ σ.un → nuA A σ.un a p q r 13 i = A 13 i := fun i hi => by simp [nuA, hi]
  have c14 : ∀ i, i ≠ σ.un → nuA A σ.un a p q r 14 i = A 14 i := fun i hi => by simp [nuA, hi]
  have c15 : ∀ i, i ≠ σ.un → nuA A σ.un a p q r 15 i = A 15 i := fun i hi => by simp [nuA, hi]
  have n13 : nuA A σ.un a p q r 13 σ.un = a := by simp [nuA]
  have n14 : nuA A σ.un a p q r 14 σ.un = p := by simp [nuA]
  have n15 : nuA A σ.un a p q r 15 σ.un = q := by simp [nuA]
  have eun : (nuS σ d v w cap).un = σ.un + 1 := by simp [nuS, ST.n, ST.sn, ST.sa, ST.sb, ST.si, f1]
  have s2 : ∀ i, i ≠ σ.un → (nuS σ d v w cap).b 2 i = σ.b 2 i := fun i hi => by simp [nuS, ST.b, ST.sn, ST.sa, ST.sb, ST.si, f2, hi]
  have si2 : ∀ i, i ≠ σ.un → (nuS σ d v w cap).i 2 i = σ.i 2 i := fun i hi => by simp [nuS, ST.i, ST.sn, ST.sa, ST.sb, ST.si, f2, hi]
  have s5 : ∀ i, i ≠ σ.un → (nuS σ d v w cap).a 5 i = σ.a 5 i := fun i hi => by simp [nuS, ST.a, ST.sn, ST.sa, ST.sb, ST.si, f2, hi]
  have s6 : ∀ i, i ≠ σ.un → (nuS σ d v w cap).a 6 i = σ.a 6 i := fun i hi => by simp [nuS, ST.a, ST.sn, ST.sa, ST.sb, ST.si, f2, hi]
  have t2 : (nuS σ d v w cap).b 2 σ.un = d := by simp [nuS, ST.b, ST.sn, ST.sa, ST.sb, ST.si, f2]
  have ti2 : (nuS σ d v w cap).i 2 σ.un = v := by simp [nuS, ST.i, ST.sn, ST.sa, ST.sb, ST.si, f2]
  have t5 : (nuS σ d v w cap).a 5 σ.un = w := by simp [nuS, ST.a, ST.sn, ST.sa, ST.sb, ST.si, f2]
  have t6 : (nuS σ d v w cap).a 6 σ.un = 0 := by simp [nuS, ST.a, ST.sn, ST.sa, ST.sb, ST.si, f2]
  have s9 : ∀ i, (nuS σ d v w cap).a 9 (2 + i) = σ.a 9 (2 + i) := fun i => by simp [nuS, ST.a, ST.sn, ST.sa, ST.sb, ST.si, f2]
  have s8 : ∀ i, (nuS σ d v w cap).a 8 (2 + i) = σ.a 8 (2 + i) := fun i => by simp [nuS, ST.a, ST.sn, ST.sa, ST.sb, ST.si, f2]
  have key : ∀ k i, wdom (nuS σ d v w cap) k i → M' (nuA A σ.un a p q r k i) = some (wcell g (nuA A σ.un a p q r) (nuS σ d v w cap) ρ x k i) := by
    intro k i hd
    match k, hd with
    | 0, hd => exact hold 0 i hd (by decide) (by decide)
    | 1, hd => exact hold 1 i hd (by decide) (by decide)
    | 2, hd => exact hold 2 i hd (by decide) (by decide)
    | 3, hd => exact hold 3 i hd (by decide) (by decide)
    | 4, hd => exact hold 4 i hd (by decide) (by decide)
    | 5, hd => exact hold 5 i hd (by decide) (by decide)
    | 6, hd => exact hold 6 i hd (by decide) (by decide)
    | 7, hd =>
      have hi : i = 0 := hd.2
      rw [hi]
      show M' (A 7 0) = some (ob 0 [.int (nI ((nuS σ d v w cap).a 9 0)), if (nuS σ d v w cap).un = 0 then .ref g.E else .ref r, .int (nI (nuS σ d v w cap).un)])
      rw [eun, if_neg (Nat.succ_ne_zero _), h7]
      rfl
    | 8, hd =>
      have hi : i = 0 := hd.1
      rw [hi]
      show M' r = some (aQ tO cap (fun j => if j < (nuS σ d v w cap).un then some (nuA A σ.un a p q r 13 (0 + j)) else none))
      rw [eun, h8]
      refine congrArg some (congrArg (aQ tO cap) (funext fun j => ?_))
      rw [Nat.zero_add]
      by_cases hj : j = σ.un
      · rw [hj, n13, f1_s]
      · rw [c13 j hj, f1_n hj]
    | 9, hd => exact hold 9 i hd (by decide) (by decide)
    | 10, hd => exact hold 10 i hd (by decide) (by decide)
    | 11, hd => exact hold 11 i hd (by decide) (by decide)
    | 12, hd => exact hold 12 i hd (by decide) (by decide)
    | 13, hd =>
      have hd : i < (nuS σ d v w cap).un := hd
      rw [eun] at hd
      show M' (nuA A σ.un a p q r 13 i) = some (ob 4 [.int (nI i), .int (bI ((nuS σ d v w cap).b 2 i)), .int ((nuS σ d v w cap).i 2 i), .int (dig ((nuS σ d v w cap).i 2 i)), .ref (nuA A σ.un a p q r 14 i), .ref (nuA A σ.un a p q r 15 i), .int (nI ((nuS σ d v w cap).a 5 i)), .int (nI ((nuS σ d v w cap).a 6 i))])
      by_cases hi : i = σ.un
      · rw [hi, n13, n14, n15, t2, ti2, t5, t6]
        exact ha
      · rw [c13 i hi, c14 i hi, c15 i hi, s2 i hi, si2 i hi, s5 i hi, s6 i hi]
        exact hold 13 i (show i < σ.un by omega) (by decide) (by decide)
    | 14, hd =>
      have hd : i < (nuS σ d v w cap).un := hd
      rw [eun] at hd
      show M' (nuA A σ.un a p q r 14 i) = some (aI .boolean 4 (fun s => bI (σ.cp i s)))
      by_cases hi : i = σ.un
      · rw [hi, n14, hp]
        exact congrArg some (congrArg (aI .boolean 4) (funext fun s => by rw [zc s]; rfl))
      · rw [c14 i hi]
        exact hold 14 i (show i < σ.un by omega) (by decide) (by decide)
    | 15, hd =>
      have hd : i < (nuS σ d v w cap).un := hd
      rw [eun] at hd
      show M' (nuA A σ.un a p q r 15 i) = some (aI .int 4 (σ.hs i))
      by_cases hi : i = σ.un
      · rw [hi, n15, hq]
        exact congrArg some (congrArg (aI .int 4) (funext fun s => by rw [zh s]))
      · rw [c15 i hi]
        exact hold 15 i (show i < σ.un by omega) (by decide) (by decide)
    | 16, hd => exact hold 16 i hd (by decide) (by decide)
    | 17, hd =>
      have k := hold 17 i hd (by decide) (by decide)
      show M' (A 17 i) = some (ob 0 [.int (nI ((nuS σ d v w cap).a 9 (2 + i))), .ref (A 18 i), .int (nI (σ.a 1 i))])
      rw [s9 i]
      exact k
    | 18, hd =>
      have k := hold 18 i hd (by decide) (by decide)
      show M' (A 18 i) = some (lrow A 19 (10 * i) (σ.a 1 i) ((nuS σ d v w cap).a 8 (2 + i)))
      rw [s8 i]
      exact k
    | 19, hd =>
      have hu : σ.a 3 i ≠ σ.un := Nat.ne_of_lt (hw.2.2.1 i hd).1
      have k := hold 19 i hd (by decide) (by decide)
      show M' (A 19 i) = some (ob 5 [.ref (nuA A σ.un a p q r 13 (σ.a 3 i)), if (nuS σ d v w cap).b 2 (σ.a 3 i) = true then .ref (A 19 (σ.a 4 i)) else .null, .int (nI (σ.a 2 i)), .int (σ.i 4 i), .int (bI (σ.b 0 i))])
      rw [c13 _ hu, s2 _ hu]
      exact k
    | 20, hd => exact hold 20 i hd (by decide) (by decide)
    | 21, hd => exact hold 21 i hd (by decide) (by decide)
    | 22, hd => exact hold 22 i hd (by decide) (by decide)
    | n + 23, hd => exact absurd hd.1 (by omega)
  have hcl : ∀ k i, wdom (nuS σ d v w cap) k i → (wdom σ k i ∧ nuA A σ.un a p q r k i = A k i) ∨ ((k = 8 ∧ i = 0 ∧ nuA A σ.un a p q r k i = r ∧ M r = none) ∨ (k = 13 ∧ i = σ.un ∧ nuA A σ.un a p q r k i = a) ∨ (k = 14 ∧ i = σ.un ∧ nuA A σ.un a p q r k i = p) ∨ (k = 15 ∧ i = σ.un ∧ nuA A σ.un a p q r k i = q)) := by
    intro k i hd
    match k, hd with
    | 0, hd => exact Or.inl ⟨hd, rfl⟩
    | 1, hd => exact Or.inl ⟨hd, rfl⟩
    | 2, hd => exact Or.inl ⟨hd, rfl⟩
    | 3, hd => exact Or.inl ⟨hd, rfl⟩
    | 4, hd => exact Or.inl ⟨hd, rfl⟩
    | 5, hd => exact Or.inl ⟨hd, rfl⟩
    | 6, hd => exact Or.inl ⟨hd, rfl⟩
    | 7, hd => exact Or.inl ⟨hd, rfl⟩
    | 8, hd =>
      have hi : i = 0 := hd.1
      rw [hi]
      rcases fr with fr | ⟨fr, fu⟩
      · exact Or.inr (Or.inl ⟨rfl, rfl, rfl, fr⟩)
      · exact Or.inl ⟨⟨rfl, fu⟩, fr⟩
    | 9, hd => exact Or.inl ⟨hd, rfl⟩
    | 10, hd => exact Or.inl ⟨hd, rfl⟩
    | 11, hd => exact Or.inl ⟨hd, rfl⟩
    | 12, hd => exact Or.inl ⟨hd, rfl⟩
    | 13, hd =>
      have hd : i < (nuS σ d v w cap).un := hd
      rw [eun] at hd
      by_cases hi : i = σ.un
      · exact Or.inr (Or.inr (Or.inl ⟨rfl, hi, by rw [hi]; exact n13⟩))
      · exact Or.inl ⟨show i < σ.un by omega, c13 i hi⟩
    | 14, hd =>
      have hd : i < (nuS σ d v w cap).un := hd
      rw [eun] at hd
      by_cases hi : i = σ.un
      · exact Or.inr (Or.inr (Or.inr (Or.inl ⟨rfl, hi, by rw [hi]; exact n14⟩)))
      · exact Or.inl ⟨show i < σ.un by omega, c14 i hi⟩
    | 15, hd =>
      have hd : i < (nuS σ d v w cap).un := hd
      rw [eun] at hd
      by_cases hi : i = σ.un
      · exact Or.inr (Or.inr (Or.inr (Or.inr ⟨rfl, hi, by rw [hi]; exact n15⟩)))
      · exact Or.inl ⟨show i < σ.un by omega, c15 i hi⟩
    | 16, hd => exact Or.inl ⟨hd, rfl⟩
    | 17, hd => exact Or.inl ⟨hd, rfl⟩
    | 18, hd => exact Or.inl ⟨hd, rfl⟩
    | 19, hd => exact Or.inl ⟨hd, rfl⟩
    | 20, hd => exact Or.inl ⟨hd, rfl⟩
    | 21, hd => exact Or.inl ⟨hd, rfl⟩
    | 22, hd => exact Or.inl ⟨hd, rfl⟩
    | n + 23, hd => exact absurd hd.1 (by omega)
  refine ⟨key, inj_ext h.2 hsome (fun k i hd => ?_) (fun k i k' i' hd hd' hn hn' e => ?_)⟩
  · rcases hcl k i hd with h1 | ⟨-, -, h1, h2⟩ | ⟨-, -, h1⟩ | ⟨-, -, h1⟩ | ⟨-, -, h1⟩
    · exact Or.inl h1
    · exact Or.inr (by rw [h1]; exact h2)
    · exact Or.inr (by rw [h1]; exact fa)
    · exact Or.inr (by rw [h1]; exact fp)
    · exact Or.inr (by rw [h1]; exact fq)
  · rcases hcl k i hd with ⟨z1, z2⟩ | ⟨k1, i1, h1, -⟩ | ⟨k1, i1, h1⟩ | ⟨k1, i1, h1⟩ | ⟨k1, i1, h1⟩
    · exact absurd (by rw [z2] at hn; exact hn) (hsome k i z1)
    all_goals
      rcases hcl k' i' hd' with ⟨z1, z2⟩ | ⟨k2, i2, h2, -⟩ | ⟨k2, i2, h2⟩ | ⟨k2, i2, h2⟩ | ⟨k2, i2, h2⟩
      · exact absurd (by rw [z2] at hn'; exact hn') (hsome k' i' z1)
      all_goals
        first
          | exact ⟨k1.trans k2.symm, i1.trans i2.symm⟩
          | (exfalso; exact hap (h1.symm.trans (e.trans h2)))
          | (exfalso; exact haq (h1.symm.trans (e.trans h2)))
          | (exfalso; exact hpq (h1.symm.trans (e.trans h2)))
          | (exfalso; exact hra (h1.symm.trans (e.trans h2)))
          | (exfalso; exact hrp (h1.symm.trans (e.trans h2)))
          | (exfalso; exact hrq (h1.symm.trans (e.trans h2)))
          | (exfalso; exact hap (h2.symm.trans (e.symm.trans h1)))
          | (exfalso; exact haq (h2.symm.trans (e.symm.trans h1)))
          | (exfalso; exact hpq (h2.symm.trans (e.symm.trans h1)))
          | (exfalso; exact hra (h2.symm.trans (e.symm.trans h1)))
          | (exfalso; exact hrp (h2.symm.trans (e.symm.trans h1)))
          | (exfalso; exact hrq (h2.symm.trans (e.symm.trans h1)))
