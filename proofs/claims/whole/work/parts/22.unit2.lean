/-! the class: units' methods over the world -/
def cntB (f : Nat → Bool) : Nat → Nat
  | 0 => 0
  | n + 1 => cntB f n + (if f n = true then 1 else 0)
theorem cntB_cpc (σ : ST) (u : Nat) : ∀ n, cntB (σ.cp u) n = cpc σ u n
  | 0 => rfl
  | n + 1 => by unfold cntB cpc; rw [cntB_cpc σ u n]
theorem cntB_many (σ : ST) (o : Nat) : ∀ n, cntB (fun k => σ.b 0 (10 * o + k)) n = many σ o n
  | 0 => rfl
  | n + 1 => by unfold cntB many; rw [cntB_many σ o n]
def bs4 (a b c d : Bool) : Int32 := ((((nI 0 ||| (if a = true then nI 1 <<< (nI 0 &&& 31) else nI 0)) ||| (if b = true then nI 1 <<< (nI 1 &&& 31) else nI 0)) ||| (if c = true then nI 1 <<< (nI 2 &&& 31) else nI 0)) ||| (if d = true then nI 1 <<< (nI 3 &&& 31) else nI 0))
theorem bct4a : ∀ a b c d : Bool, bct (bs4 a b c d) = nI ((((0 + (if a = true then 1 else 0)) + (if b = true then 1 else 0)) + (if c = true then 1 else 0)) + (if d = true then 1 else 0)) := by decide +kernel
theorem bct4 (f : Nat → Bool) : bct (bset f 4) = nI (cntB f 4) := bct4a (f 0) (f 1) (f 2) (f 3)
def bs10 (a b c d e f g h i j : Bool) : Int32 := ((((((bs4 a b c d ||| (if e = true then nI 1 <<< (nI 4 &&& 31) else nI 0)) ||| (if f = true then nI 1 <<< (nI 5 &&& 31) else nI 0)) ||| (if g = true then nI 1 <<< (nI 6 &&& 31) else nI 0)) ||| (if h = true then nI 1 <<< (nI 7 &&& 31) else nI 0)) ||| (if i = true then nI 1 <<< (nI 8 &&& 31) else nI 0)) ||| (if j = true then nI 1 <<< (nI 9 &&& 31) else nI 0))
theorem bct10a : ∀ a b c d e f g h i j : Bool, bct (bs10 a b c d e f g h i j) = nI ((((((((((0 + (if a = true then 1 else 0)) + (if b = true then 1 else 0)) + (if c = true then 1 else 0)) + (if d = true then 1 else 0)) + (if e = true then 1 else 0)) + (if f = true then 1 else 0)) + (if g = true then 1 else 0)) + (if h = true then 1 else 0)) + (if i = true then 1 else 0)) + (if j = true then 1 else 0)) := by decide +kernel
theorem bct10 (f : Nat → Bool) : bct (bset f 10) = nI (cntB f 10) := bct10a (f 0) (f 1) (f 2) (f 3) (f 4) (f 5) (f 6) (f 7) (f 8) (f 9)
theorem or_nI0 (x : Int32) : x ||| nI 0 = x := by
  show x ||| 0 = x
  simp
/-- placed copies with a value, of the first n sites -/
def cntU (P : Nat → Bool) (C : Nat → Int32) (h : Int32) : Nat → Nat
  | 0 => 0
  | n + 1 => cntU P C h n + (if P n = true ∧ C n = h then 1 else 0)
theorem cntU_le (P : Nat → Bool) (C : Nat → Int32) (h : Int32) : ∀ n, cntU P C h n ≤ n
  | 0 => Nat.le_refl 0
  | n + 1 => by
    have h := cntU_le P C h n
    unfold cntU
    split <;> omega
theorem cnt_alk {σ : ST} {u s : Nat} (hs : snd σ u s = true) : ∀ n, cntU (σ.cp u) (σ.hs u) (σ.hs u s) n = alk σ u s n
  | 0 => rfl
  | n + 1 => by
    unfold cntU alk
    rw [cnt_alk hs n]
    have h1 : σ.cp u n = true ∧ σ.hs u n = σ.hs u s → snd σ u n = true := fun q => by
      unfold snd at hs ⊢
      rw [Bool.and_eq_true, decide_eq_true_iff] at hs ⊢
      exact ⟨q.1, by rw [q.2]; exact hs.2⟩
    have h2 : snd σ u n = true → σ.cp u n = true := fun q => by
      unfold snd at q
      rw [Bool.and_eq_true] at q
      exact q.1
    by_cases q : σ.cp u n = true ∧ σ.hs u n = σ.hs u s
    · rw [if_pos q, if_pos ⟨hs, h1 q, q.2⟩]
    · rw [if_neg q, if_neg (fun q2 => q ⟨h2 q2.2.1, q2.2.2⟩)]
theorem alk_0 {σ : ST} {u s : Nat} (hs : snd σ u s = false) : ∀ n, alk σ u s n = 0
  | 0 => rfl
  | n + 1 => by
    unfold alk
    rw [alk_0 hs n, if_neg (fun q => by rw [hs] at q; exact absurd q.1 (by decide))]
abbrev noV : Int32 := -2147483648
def gvO (σ : ST) (u : Nat) (o : Option Nat) : Int32 := match o with
  | none => noV
  | some s => σ.hs u s
/-- what goodValue answers -/
abbrev gvC (σ : ST) (u : Nat) : Int32 := gvO σ u (good σ u)
def okV (σ : ST) (u : Nat) : Prop := ∀ f, good σ u = some f → σ.hs u f ≠ noV
theorem gvC_none {σ : ST} {u : Nat} (h : okV σ u) (e : gvC σ u = noV) : good σ u = none := by
  cases hg : good σ u with
  | none => rfl
  | some f =>
    unfold gvC gvO at e
    rw [hg] at e
    exact absurd e (h f hg)
section U2
variable (g : GG) {A : Nat → Nat → Nat} {σ ρ : ST} {x : XT} {M : Mem}
theorem c_X3_isNeeded (hW : W2 g A σ ρ x M) {u : Nat} (hu : u < σ.un) (hn : σ.a 6 u < 2 ^ 30) : con g mX3_isNeeded 0 0 [.ref (A 13 u)] M (rI (bI (decide (0 < σ.a 6 u))) M) := by
  refine con_i ?_ (by decide) rfl rfl (by simp [lv_args, Value.category]) (by simp [lv_args, lnd, Value.category])
  have hU := hW.unit hu
  refine z_aload_n dX3_isNeeded_0 rfl rfl ?_
  refine z_getfield dX3_isNeeded_1 fg_RX3_32 (by assumption) rfl ?_
  refine z_if_le (tgt := 11) dX3_isNeeded_4 (by decide) (fun h4 => ?_) (fun h4 => ?_)
  · refine z_ic ki_0 dX3_isNeeded_11 ?_
    refine z_ireturn dX3_isNeeded_12 rfl (by first | rfl | exact bI_nar _) ?_
    exact rI_of (by rw [decide_eq_false (fun q => absurd h4 (nI_nle q (by omega)))]; rfl)
  · refine z_ic ki_1 dX3_isNeeded_7 ?_
    refine z_goto (tgt := 12) dX3_isNeeded_8 (by decide) ?_
    refine z_ireturn dX3_isNeeded_12 rfl (by first | rfl | exact bI_nar _) ?_
    exact rI_of (by
      rw [decide_eq_true (Nat.pos_of_ne_zero (fun q => h4 (by rw [q]; decide)))]
      rfl)
theorem c_X3_isAlike (hW : W2 g A σ ρ x M) {u : Nat} (hu : u < σ.un) (d : Bool) (v : Int32) : con g mX3_isAlike 0 0 [.ref (A 13 u), .int (bI d), .int v] M (rI (bI (decide (σ.b 2 u = d ∧ σ.i 2 u = v))) M) := by
  refine con_i ?_ (by decide) rfl rfl (by simp [lv_args, Value.category]) (by simp [lv_args, lnd, Value.category])
  have hU := hW.unit hu
  refine z_aload_n dX3_isAlike_0 rfl rfl ?_
  refine z_getfield dX3_isAlike_1 fg_RX3_25 (by assumption) rfl ?_
  refine z_iload_n dX3_isAlike_4 rfl ?_
  refine z_icmp_ne (tgt := 20) dX3_isAlike_5 (by decide) (fun h5 => ?_) (fun h5 => ?_)
  · refine z_ic ki_0 dX3_isAlike_20 ?_
    refine z_ireturn dX3_isAlike_21 rfl (by first | rfl | exact bI_nar _) ?_
    exact rI_of (by rw [decide_eq_false (fun q => h5 (by rw [q.1]))]; rfl)
  · refine z_aload_n dX3_isAlike_8 rfl rfl ?_
    refine z_getfield dX3_isAlike_9 fg_RX3_29 (by assumption) rfl ?_
    refine z_iload_n dX3_isAlike_12 rfl ?_
    refine z_icmp_ne (tgt := 20) dX3_isAlike_13 (by decide) (fun h13 => ?_) (fun h13 => ?_)
    · refine z_ic ki_0 dX3_isAlike_20 ?_
      refine z_ireturn dX3_isAlike_21 rfl (by first | rfl | exact bI_nar _) ?_
      exact rI_of (by rw [decide_eq_false (fun q => h13 q.2)]; rfl)
    · refine z_ic ki_1 dX3_isAlike_16 ?_
      refine z_goto (tgt := 21) dX3_isAlike_17 (by decide) ?_
      refine z_ireturn dX3_isAlike_21 rfl (by first | rfl | exact bI_nar _) ?_
      have hd : σ.b 2 u = d := by
        cases h1 : σ.b 2 u <;> cases d <;> rw [h1] at h5 <;> first | rfl | exact absurd h5 (by decide)
      exact rI_of (by rw [decide_eq_true ⟨hd, h13⟩]; rfl)
theorem c_X3_hasCopyAt (hW : W2 g A σ ρ x M) {u s : Nat} (hu : u < σ.un) (hs : s < 4) : con g mX3_hasCopyAt 0 0 [.ref (A 13 u), .int (nI s)] M (rI (bI (σ.cp u s)) M) := by
  refine con_i ?_ (by decide) rfl rfl (by simp [lv_args, Value.category]) (by simp [lv_args, lnd, Value.category])
  have hU := hW.unit hu
  have hP := hW.placed hu
  refine z_iload_n dX3_hasCopyAt_0 rfl ?_
  refine z_if_lt (tgt := 22) dX3_hasCopyAt_1 (by decide) (fun h1 => absurd h1 (nI_pos (by omega))) (fun h1 => ?_)
  refine z_iload_n dX3_hasCopyAt_4 rfl ?_
  refine z_ic ki_4 dX3_hasCopyAt_5 ?_
  refine z_icmp_ge (tgt := 22) dX3_hasCopyAt_6 (by decide) (fun h6 => absurd h6 (nI_ge hs (by omega))) (fun h6 => ?_)
  refine z_aload_n dX3_hasCopyAt_9 rfl rfl ?_
  refine z_getfield dX3_hasCopyAt_10 fg_RX3_11 (by assumption) rfl ?_
  refine z_iload_n dX3_hasCopyAt_13 rfl ?_
  refine z_zaload dX3_hasCopyAt_14 hP rfl hs (by decide) ?_
  refine z_if_eq (tgt := 22) dX3_hasCopyAt_15 (by decide) (fun h15 => ?_) (fun h15 => ?_)
  · refine z_ic ki_0 dX3_hasCopyAt_22 ?_
    refine z_ireturn dX3_hasCopyAt_23 rfl (by first | rfl | exact bI_nar _) ?_
    exact rI_of (by rw [bI_eq0.mp h15]; rfl)
  · refine z_ic ki_1 dX3_hasCopyAt_18 ?_
    refine z_goto (tgt := 23) dX3_hasCopyAt_19 (by decide) ?_
    refine z_ireturn dX3_hasCopyAt_23 rfl (by first | rfl | exact bI_nar _) ?_
    exact rI_of (by rw [bI_ne0.mp h15]; rfl)
theorem c_X3_isSoundAt (hW : W2 g A σ ρ x M) {u s : Nat} (hu : u < σ.un) (hs : s < 4) : con g mX3_isSoundAt 0 0 [.ref (A 13 u), .int (nI s)] M (rI (bI (snd σ u s)) M) := by
  refine con_i ?_ (by decide) rfl rfl (by simp [lv_args, Value.category]) (by simp [lv_args, lnd, Value.category])
  have hU := hW.unit hu
  have hC := hW.copies hu
  refine z_aload_n dX3_isSoundAt_0 rfl rfl ?_
  refine z_iload_n dX3_isSoundAt_1 rfl ?_
  refine z_ivI dX3_isSoundAt_2 cv_RX3_35 hU (c_X3_hasCopyAt g hW hu hs) ⟨⟨by decide, by decide⟩, by decide, by decide⟩ rfl rfl (Nat.le_of_ble_eq_true rfl) ?_
  refine z_if_eq (tgt := 31) dX3_isSoundAt_5 (by decide) (fun h5 => ?_) (fun h5 => ?_)
  · refine z_ic ki_0 dX3_isSoundAt_31 ?_
    refine z_ireturn dX3_isSoundAt_32 rfl (by first | rfl | exact bI_nar _) ?_
    exact rI_of (by unfold snd; rw [bI_eq0.mp h5]; rfl)
  · refine z_aload_n dX3_isSoundAt_8 rfl rfl ?_
    refine z_getfield dX3_isSoundAt_9 fg_RX3_17 (by assumption) rfl ?_
    refine z_iload_n dX3_isSoundAt_12 rfl ?_
    refine z_iaload dX3_isSoundAt_13 hC rfl hs (by decide) ?_
    refine z_isI dX3_isSoundAt_14 cs_RX3_39 (c_X3_digestOf g M _) ⟨⟨by decide, by decide⟩, by decide, by decide⟩ rfl rfl (Nat.le_of_ble_eq_true rfl) ?_
    refine z_aload_n dX3_isSoundAt_17 rfl rfl ?_
    refine z_getfield dX3_isSoundAt_18 fg_RX3_29 (by assumption) rfl ?_
    refine z_isI dX3_isSoundAt_21 cs_RX3_39 (c_X3_digestOf g M _) ⟨⟨by decide, by decide⟩, by decide, by decide⟩ rfl rfl (Nat.le_of_ble_eq_true rfl) ?_
    refine z_icmp_ne (tgt := 31) dX3_isSoundAt_24 (by decide) (fun h24 => ?_) (fun h24 => ?_)
    · refine z_ic ki_0 dX3_isSoundAt_31 ?_
      refine z_ireturn dX3_isSoundAt_32 rfl (by first | rfl | exact bI_nar _) ?_
      rw [fmod97, fmod97] at h24
      exact rI_of (by unfold snd; rw [decide_eq_false h24, Bool.and_false]; rfl)
    · refine z_ic ki_1 dX3_isSoundAt_27 ?_
      refine z_goto (tgt := 32) dX3_isSoundAt_28 (by decide) ?_
      refine z_ireturn dX3_isSoundAt_32 rfl (by first | rfl | exact bI_nar _) ?_
      rw [fmod97, fmod97] at h24
      exact rI_of (by unfold snd; rw [bI_ne0.mp h5, decide_eq_true h24]; rfl)
theorem c_X3_changeAt (hW : W2 g A σ ρ x M) {u s : Nat} (hu : u < σ.un) (hs : s < 4) (hc : σ.cp u s = true) (v : Int32) : con g mX3_changeAt 0 0 [.ref (A 13 u), .int (nI s), .int v] M (rQ none (W2 g A (σ.sh u s (σ.hs u s + v)) ρ x)) := by
  refine con_i ?_ (by decide) rfl rfl (by simp [lv_args, Value.category]) (by simp [lv_args, lnd, Value.category])
  have hU := hW.unit hu
  have hC := hW.copies hu
  refine z_aload_n dX3_changeAt_0 rfl rfl ?_
  refine z_iload_n dX3_changeAt_1 rfl ?_
  refine z_ivI dX3_changeAt_2 cv_RX3_35 hU (c_X3_hasCopyAt g hW hu hs) ⟨⟨by decide, by decide⟩, by decide, by decide⟩ rfl rfl (Nat.le_of_ble_eq_true rfl) ?_
  refine z_if_eq (tgt := 18) dX3_changeAt_5 (by decide) (fun h5 => absurd h5 (by rw [hc]; decide)) (fun h5 => ?_)
  refine z_aload_n dX3_changeAt_8 rfl rfl ?_
  refine z_getfield dX3_changeAt_9 fg_RX3_17 (by assumption) rfl ?_
  refine z_iload_n dX3_changeAt_12 rfl ?_
  refine z_dup2 dX3_changeAt_13 rfl rfl ?_
  refine z_iaload dX3_changeAt_14 hC rfl hs (by decide) ?_
  refine z_iload_n dX3_changeAt_15 rfl ?_
  refine z_iadd dX3_changeAt_16 ?_
  refine z_iastore dX3_changeAt_17 hC rfl hs (by decide) ?_
  refine z_return dX3_changeAt_18 rfl ?_
  exact rQ_of (hW.chs u s hu _)
theorem c_X3_placeAt (hW : W2 g A σ ρ x M) {u s : Nat} (hu : u < σ.un) (hs : s < 4) (v : Int32) : con g mX3_placeAt 0 0 [.ref (A 13 u), .int (nI s), .int v] M (rQ none (W2 g A ((σ.sc u s true).sh u s v) ρ x)) := by
  refine con_i ?_ (by decide) rfl rfl (by simp [lv_args, Value.category]) (by simp [lv_args, lnd, Value.category])
  have hU := hW.unit hu
  have hP := hW.placed hu
  refine z_iload_n dX3_placeAt_0 rfl ?_
  refine z_if_lt (tgt := 23) dX3_placeAt_1 (by decide) (fun h1 => absurd h1 (nI_pos (by omega))) (fun h1 => ?_)
  refine z_iload_n dX3_placeAt_4 rfl ?_
  refine z_ic ki_4 dX3_placeAt_5 ?_
  refine z_icmp_ge (tgt := 23) dX3_placeAt_6 (by decide) (fun h6 => absurd h6 (nI_ge hs (by omega))) (fun h6 => ?_)
  refine z_aload_n dX3_placeAt_9 rfl rfl ?_
  refine z_getfield dX3_placeAt_10 fg_RX3_11 (by assumption) rfl ?_
  refine z_iload_n dX3_placeAt_13 rfl ?_
  refine z_ic ki_1 dX3_placeAt_14 ?_
  refine z_zastore dX3_placeAt_15 hP rfl hs (by decide) ?_
  have hW1 := hW.ccp u s hu true
  have hU1 := hW1.unit hu
  have hC1 := hW1.copies hu
  refine z_aload_n dX3_placeAt_16 rfl rfl ?_
  refine z_getfield dX3_placeAt_17 fg_RX3_17 hU1 rfl ?_
  refine z_iload_n dX3_placeAt_20 rfl ?_
  refine z_iload_n dX3_placeAt_21 rfl ?_
  refine z_iastore dX3_placeAt_22 hC1 rfl hs (by decide) ?_
  refine z_return dX3_placeAt_23 rfl ?_
  exact rQ_of (hW1.chs u s hu v)
theorem c_X3_dropAt (hW : W2 g A σ ρ x M) {u s : Nat} (hu : u < σ.un) (hs : s < 4) : con g mX3_dropAt 0 0 [.ref (A 13 u), .int (nI s)] M (rQ none (W2 g A (σ.sc u s false) ρ x)) := by
  refine con_i ?_ (by decide) rfl rfl (by simp [lv_args, Value.category]) (by simp [lv_args, lnd, Value.category])
  have hU := hW.unit hu
  have hP := hW.placed hu
  refine z_iload_n dX3_dropAt_0 rfl ?_
  refine z_if_lt (tgt := 16) dX3_dropAt_1 (by decide) (fun h1 => absurd h1 (nI_pos (by omega))) (fun h1 => ?_)
  refine z_iload_n dX3_dropAt_4 rfl ?_
  refine z_ic ki_4 dX3_dropAt_5 ?_
  refine z_icmp_ge (tgt := 16) dX3_dropAt_6 (by decide) (fun h6 => absurd h6 (nI_ge hs (by omega))) (fun h6 => ?_)
  refine z_aload_n dX3_dropAt_9 rfl rfl ?_
  refine z_getfield dX3_dropAt_10 fg_RX3_11 (by assumption) rfl ?_
  refine z_iload_n dX3_dropAt_13 rfl ?_
  refine z_ic ki_0 dX3_dropAt_14 ?_
  refine z_zastore dX3_dropAt_15 hP rfl hs (by decide) ?_
  refine z_return dX3_dropAt_16 rfl ?_
  exact rQ_of (hW.ccp u s hu false)
theorem c_X3_siteSet (hW : W2 g A σ ρ x M) {u : Nat} (hu : u < σ.un) : con g mX3_siteSet 0 0 [.ref (A 13 u)] M (rI (bset (σ.cp u) 4) M) := by
  refine con_i ?_ (by decide) rfl rfl (by simp [lv_args, Value.category]) (by simp [lv_args, lnd, Value.category])
  have hU := hW.unit hu
  have hP := hW.placed hu
  have loop : ∀ j, j ≤ 4 → ∀ x1 x2, x1 = bset (σ.cp u) j → x2 = nI j → tri g mX3_siteSet 0 0 (rI (bset (σ.cp u) 4) M) M 4 [(0, .ref (A 13 u)), (1, .int x1), (2, .int x2)] [] := by
    refine lp_up 4 ?_ ?_
    · intro x1 x2 e1 e2
      subst e2
      refine z_iload_n dX3_siteSet_4 rfl ?_
      refine z_ic ki_4 dX3_siteSet_5 ?_
      refine z_icmp_ge (tgt := 30) dX3_siteSet_6 (by decide) (fun h6 => ?_) (fun h6 => absurd (nI_le (by omega) (by omega)) h6)
      refine z_iload_n dX3_siteSet_30 rfl ?_
      refine z_ireturn dX3_siteSet_31 rfl (by first | rfl | exact bI_nar _) ?_
      exact rI_of (by first | rfl | assumption | simp_all)
    · intro j hj ih x1 x2 e1 e2
      subst e2
      refine z_iload_n dX3_siteSet_4 rfl ?_
      refine z_ic ki_4 dX3_siteSet_5 ?_
      refine z_icmp_ge (tgt := 30) dX3_siteSet_6 (by decide) (fun h6 => absurd h6 (nI_ge hj (by omega))) (fun h6 => ?_)
      refine z_aload_n dX3_siteSet_9 rfl rfl ?_
      refine z_getfield dX3_siteSet_10 fg_RX3_11 (by assumption) rfl ?_
      refine z_iload_n dX3_siteSet_13 rfl ?_
      refine z_zaload dX3_siteSet_14 hP rfl hj (by decide) ?_
      refine z_if_eq (tgt := 24) dX3_siteSet_15 (by decide) (fun h15 => ?_) (fun h15 => ?_)
      · refine z_inc ki_1 dX3_siteSet_24 rfl (by decide) ?_
        refine z_goto (tgt := 4) dX3_siteSet_27 (by decide) ?_
        exact ih _ _ (by rw [e1, bset, if_neg (nt h15), or_nI0]) (nI_add j 1)
      · refine z_iload_n dX3_siteSet_18 rfl ?_
        refine z_ic ki_1 dX3_siteSet_19 ?_
        refine z_iload_n dX3_siteSet_20 rfl ?_
        refine z_ishl dX3_siteSet_21 ?_
        refine z_ior dX3_siteSet_22 ?_
        refine z_istore_n dX3_siteSet_23 (by decide) ?_
        refine z_inc ki_1 dX3_siteSet_24 rfl (by decide) ?_
        refine z_goto (tgt := 4) dX3_siteSet_27 (by decide) ?_
        exact ih _ _ (by rw [e1, bset, if_pos (yt h15)]) (nI_add j 1)
  refine z_ic ki_0 dX3_siteSet_0 ?_
  refine z_istore_n dX3_siteSet_1 (by decide) ?_
  refine z_ic ki_0 dX3_siteSet_2 ?_
  refine z_istore_n dX3_siteSet_3 (by decide) ?_
  exact loop 0 (by omega) _ _ rfl rfl
theorem c_X3_countLacking (hW : W2 g A σ ρ x M) {u : Nat} (hu : u < σ.un) (hn : σ.a 5 u < 2 ^ 30) : con g mX3_countLacking 0 0 [.ref (A 13 u)] M (rI (nI (σ.a 5 u - cpc σ u 4)) M) := by
  refine con_i ?_ (by decide) rfl rfl (by simp [lv_args, Value.category]) (by simp [lv_args, lnd, Value.category])
  have hU := hW.unit hu
  have hcl := cpc_le σ u 4
  refine z_ic ki_0 dX3_countLacking_0 ?_
  refine z_aload_n dX3_countLacking_1 rfl rfl ?_
  refine z_getfield dX3_countLacking_2 fg_RX3_49 (by assumption) rfl ?_
  refine z_aload_n dX3_countLacking_5 rfl rfl ?_
  refine z_ivI dX3_countLacking_6 cv_RX3_52 hU (c_X3_siteSet g hW hu) ⟨⟨by decide, by decide⟩, by decide, by decide⟩ rfl rfl (Nat.le_of_ble_eq_true rfl) ?_
  refine z_isI dX3_countLacking_9 cs_RX3_56 (c_J6_bitCount g M _) ⟨⟨by decide, by decide⟩, by decide, by decide⟩ rfl rfl (Nat.le_of_ble_eq_true rfl) ?_
  rw [bct4, cntB_cpc]
  refine z_isub dX3_countLacking_12 ?_
  refine z_isI dX3_countLacking_13 cs_RX3_59 (c_J9_max g M _ _) ⟨⟨by decide, by decide⟩, by decide, by decide⟩ rfl rfl (Nat.le_of_ble_eq_true rfl) ?_
  refine z_ireturn dX3_countLacking_16 rfl (by first | rfl | exact bI_nar _) ?_
  refine rI_of ?_
  by_cases hq : cpc σ u 4 ≤ σ.a 5 u
  · rw [pk_sub hq]
    by_cases h0 : σ.a 5 u - cpc σ u 4 = 0
    · rw [h0]
      rfl
    · rw [if_pos (nI_lt (by omega) (by omega))]
  · rw [if_neg (fun q => absurd (Int32.lt_trans q (pk_sneg (by omega) (by omega))) (by decide)), show σ.a 5 u - cpc σ u 4 = 0 by omega]
theorem c_X3_countSound (hW : W2 g A σ ρ x M) {u : Nat} (hu : u < σ.un) : con g mX3_countSound 0 0 [.ref (A 13 u)] M (rI (nI (snn σ u 4)) M) := by
  refine con_i ?_ (by decide) rfl rfl (by simp [lv_args, Value.category]) (by simp [lv_args, lnd, Value.category])
  have hU := hW.unit hu
  have loop : ∀ j, j ≤ 4 → ∀ x1 x2, x1 = nI (snn σ u j) → x2 = nI j → tri g mX3_countSound 0 0 (rI (nI (snn σ u 4)) M) M 4 [(0, .ref (A 13 u)), (1, .int x1), (2, .int x2)] [] := by
    refine lp_up 4 ?_ ?_
    · intro x1 x2 e1 e2
      subst e2
      refine z_iload_n dX3_countSound_4 rfl ?_
      refine z_ic ki_4 dX3_countSound_5 ?_
      refine z_icmp_ge (tgt := 26) dX3_countSound_6 (by decide) (fun h6 => ?_) (fun h6 => absurd (nI_le (by omega) (by omega)) h6)
      refine z_iload_n dX3_countSound_26 rfl ?_
      refine z_ireturn dX3_countSound_27 rfl (by first | rfl | exact bI_nar _) ?_
      exact rI_of (by first | rfl | assumption | simp_all)
    · intro j hj ih x1 x2 e1 e2
      subst e2
      refine z_iload_n dX3_countSound_4 rfl ?_
      refine z_ic ki_4 dX3_countSound_5 ?_
      refine z_icmp_ge (tgt := 26) dX3_countSound_6 (by decide) (fun h6 => absurd h6 (nI_ge hj (by omega))) (fun h6 => ?_)
      refine z_aload_n dX3_countSound_9 rfl rfl ?_
      refine z_iload_n dX3_countSound_10 rfl ?_
      refine z_ivI dX3_countSound_11 cv_RX3_62 hU (c_X3_isSoundAt g hW hu hj) ⟨⟨by decide, by decide⟩, by decide, by decide⟩ rfl rfl (Nat.le_of_ble_eq_true rfl) ?_
      refine z_if_eq (tgt := 20) dX3_countSound_14 (by decide) (fun h14 => ?_) (fun h14 => ?_)
      · refine z_inc ki_1 dX3_countSound_20 rfl (by decide) ?_
        refine z_goto (tgt := 4) dX3_countSound_23 (by decide) ?_
        exact ih _ _ (by rw [e1, snn, if_neg (nt h14)]; rfl) (nI_add j 1)
      · refine z_inc ki_1 dX3_countSound_17 rfl (by decide) ?_
        refine z_inc ki_1 dX3_countSound_20 rfl (by decide) ?_
        refine z_goto (tgt := 4) dX3_countSound_23 (by decide) ?_
        exact ih _ _ (by rw [e1, nI_add, snn, if_pos (yt h14)]) (nI_add j 1)
  refine z_ic ki_0 dX3_countSound_0 ?_
  refine z_istore_n dX3_countSound_1 (by decide) ?_
  refine z_ic ki_0 dX3_countSound_2 ?_
  refine z_istore_n dX3_countSound_3 (by decide) ?_
  exact loop 0 (by omega) _ _ rfl rfl
theorem c_X3_countOf (hW : W2 g A σ ρ x M) {u : Nat} (hu : u < σ.un) (h : Int32) : con g mX3_countOf 0 0 [.ref (A 13 u), .int h] M (rI (nI (cntU (σ.cp u) (σ.hs u) h 4)) M) := by
  refine con_i ?_ (by decide) rfl rfl (by simp [lv_args, Value.category]) (by simp [lv_args, lnd, Value.category])
  have hU := hW.unit hu
  have hP := hW.placed hu
  have hC := hW.copies hu
  have loop : ∀ j, j ≤ 4 → ∀ x2 x3, x2 = nI (cntU (σ.cp u) (σ.hs u) h j) → x3 = nI j → tri g mX3_countOf 0 0 (rI (nI (cntU (σ.cp u) (σ.hs u) h 4)) M) M 4 [(0, .ref (A 13 u)), (1, .int h), (2, .int x2), (3, .int x3)] [] := by
    refine lp_up 4 ?_ ?_
    · intro x2 x3 e2 e3
      subst e3
      refine z_iload_n dX3_countOf_4 rfl ?_
      refine z_ic ki_4 dX3_countOf_5 ?_
      refine z_icmp_ge (tgt := 37) dX3_countOf_6 (by decide) (fun h6 => ?_) (fun h6 => absurd (nI_le (by omega) (by omega)) h6)
      refine z_iload_n dX3_countOf_37 rfl ?_
      refine z_ireturn dX3_countOf_38 rfl (by first | rfl | exact bI_nar _) ?_
      exact rI_of (by first | rfl | assumption | simp_all)
    · intro j hj ih x2 x3 e2 e3
      subst e3
      refine z_iload_n dX3_countOf_4 rfl ?_
      refine z_ic ki_4 dX3_countOf_5 ?_
      refine z_icmp_ge (tgt := 37) dX3_countOf_6 (by decide) (fun h6 => absurd h6 (nI_ge hj (by omega))) (fun h6 => ?_)
      refine z_aload_n dX3_countOf_9 rfl rfl ?_
      refine z_getfield dX3_countOf_10 fg_RX3_11 (by assumption) rfl ?_
      refine z_iload_n dX3_countOf_13 rfl ?_
      refine z_zaload dX3_countOf_14 hP rfl hj (by decide) ?_
      refine z_if_eq (tgt := 31) dX3_countOf_15 (by decide) (fun h15 => ?_) (fun h15 => ?_)
      · refine z_inc ki_1 dX3_countOf_31 rfl (by decide) ?_
        refine z_goto (tgt := 4) dX3_countOf_34 (by decide) ?_
        exact ih _ _ (by rw [e2]; simp [cntU, bI_eq0.mp h15]) (nI_add j 1)
      · refine z_aload_n dX3_countOf_18 rfl rfl ?_
        refine z_getfield dX3_countOf_19 fg_RX3_17 (by assumption) rfl ?_
        refine z_iload_n dX3_countOf_22 rfl ?_
        refine z_iaload dX3_countOf_23 hC rfl hj (by decide) ?_
        refine z_iload_n dX3_countOf_24 rfl ?_
        refine z_icmp_ne (tgt := 31) dX3_countOf_25 (by decide) (fun h25 => ?_) (fun h25 => ?_)
        · refine z_inc ki_1 dX3_countOf_31 rfl (by decide) ?_
          refine z_goto (tgt := 4) dX3_countOf_34 (by decide) ?_
          exact ih _ _ (by rw [e2]; simp [cntU, h25]) (nI_add j 1)
        · refine z_inc ki_1 dX3_countOf_28 rfl (by decide) ?_
          refine z_inc ki_1 dX3_countOf_31 rfl (by decide) ?_
          refine z_goto (tgt := 4) dX3_countOf_34 (by decide) ?_
          exact ih _ _ (by rw [e2, nI_add]; simp [cntU, h25, bI_ne0.mp h15]) (nI_add j 1)
  refine z_ic ki_0 dX3_countOf_0 ?_
  refine z_istore_n dX3_countOf_1 (by decide) ?_
  refine z_ic ki_0 dX3_countOf_2 ?_
  refine z_istore_n dX3_countOf_3 (by decide) ?_
  exact loop 0 (by omega) _ _ rfl rfl
theorem c_X3_goodValue (hW : W2 g A σ ρ x M) {u : Nat} (hu : u < σ.un) : con g mX3_goodValue 0 0 [.ref (A 13 u)] M (rI (gvC σ u) M) := by
  refine con_i ?_ (by decide) rfl rfl (by simp [lv_args, Value.category]) (by simp [lv_args, lnd, Value.category])
  have hU := hW.unit hu
  have hC := hW.copies hu
  have loop : ∀ j, j ≤ 4 → ∀ x1 x2 x3, x1 = gvO σ u (gdn σ u j) → x2 = nI (gal σ u (gdn σ u j)) → x3 = nI j → tri g mX3_goodValue 0 0 (rI (gvC σ u) M) M 7 [(0, .ref (A 13 u)), (1, .int x1), (2, .int x2), (3, .int x3)] [] := by
    refine lp_up 4 ?_ ?_
    · intro x1 x2 x3 e1 e2 e3
      subst e3
      refine z_iload_n dX3_goodValue_7 rfl ?_
      refine z_ic ki_4 dX3_goodValue_8 ?_
      refine z_icmp_ge (tgt := 53) dX3_goodValue_9 (by decide) (fun h9 => ?_) (fun h9 => absurd (nI_le (by omega) (by omega)) h9)
      refine z_iload_n dX3_goodValue_53 rfl ?_
      refine z_ireturn dX3_goodValue_54 rfl (by first | rfl | exact bI_nar _) ?_
      exact rI_of (by first | rfl | assumption | simp_all)
    · intro j hj ih x1 x2 x3 e1 e2 e3
      subst e3
      have hal := alk_le σ u j 4
      have hgl : gal σ u (gdn σ u j) ≤ 4 := by
        cases gdn σ u j with
        | none => exact Nat.zero_le _
        | some f => exact alk_le σ u f 4
      refine z_iload_n dX3_goodValue_7 rfl ?_
      refine z_ic ki_4 dX3_goodValue_8 ?_
      refine z_icmp_ge (tgt := 53) dX3_goodValue_9 (by decide) (fun h9 => absurd h9 (nI_ge hj (by omega))) (fun h9 => ?_)
      refine z_aload_n dX3_goodValue_12 rfl rfl ?_
      refine z_iload_n dX3_goodValue_13 rfl ?_
      refine z_ivI dX3_goodValue_14 cv_RX3_62 hU (c_X3_isSoundAt g hW hu hj) ⟨⟨by decide, by decide⟩, by decide, by decide⟩ rfl rfl (Nat.le_of_ble_eq_true rfl) ?_
      refine z_if_eq (tgt := 47) dX3_goodValue_17 (by decide) (fun h17 => ?_) (fun h17 => ?_)
      · refine z_inc ki_1 dX3_goodValue_47 rfl (by decide) ?_
        refine z_goto (tgt := 7) dX3_goodValue_50 (by decide) ?_
        have hs0 := bI_eq0.mp h17
        have hg0 : gdn σ u (j + 1) = gdn σ u j := by rw [gdn, if_neg (by rw [alk_0 hs0]; omega)]
        exact ih _ _ _ (by rw [hg0]; exact e1) (by rw [hg0]; exact e2) (nI_add j 1)
      · refine z_aload_n dX3_goodValue_20 rfl rfl ?_
        refine z_aload_n dX3_goodValue_21 rfl rfl ?_
        refine z_getfield dX3_goodValue_22 fg_RX3_17 (by assumption) rfl ?_
        refine z_iload_n dX3_goodValue_25 rfl ?_
        refine z_iaload dX3_goodValue_26 hC rfl hj (by decide) ?_
        refine z_ivI dX3_goodValue_27 cv_RX3_66 hU (c_X3_countOf g hW hu _) ⟨⟨by decide, by decide⟩, by decide, by decide⟩ rfl rfl (Nat.le_of_ble_eq_true rfl) ?_
        refine z_iload_n dX3_goodValue_30 rfl ?_
        refine z_icmp_le (tgt := 47) dX3_goodValue_31 (by decide) (fun h31 => ?_) (fun h31 => ?_)
        · refine z_inc ki_1 dX3_goodValue_47 rfl (by decide) ?_
          refine z_goto (tgt := 7) dX3_goodValue_50 (by decide) ?_
          rw [cnt_alk (yt h17), e2] at h31
          have hc := (nI_leI (by omega) (by omega)).mp h31
          have hg0 : gdn σ u (j + 1) = gdn σ u j := by rw [gdn, if_neg (by omega)]
          exact ih _ _ _ (by rw [hg0]; exact e1) (by rw [hg0]; exact e2) (nI_add j 1)
        · refine z_aload_n dX3_goodValue_34 rfl rfl ?_
          refine z_getfield dX3_goodValue_35 fg_RX3_17 (by assumption) rfl ?_
          refine z_iload_n dX3_goodValue_38 rfl ?_
          refine z_iaload dX3_goodValue_39 hC rfl hj (by decide) ?_
          refine z_istore_n dX3_goodValue_40 (by decide) ?_
          refine z_aload_n dX3_goodValue_41 rfl rfl ?_
          refine z_iload_n dX3_goodValue_42 rfl ?_
          refine z_ivI dX3_goodValue_43 cv_RX3_66 hU (c_X3_countOf g hW hu _) ⟨⟨by decide, by decide⟩, by decide, by decide⟩ rfl rfl (Nat.le_of_ble_eq_true rfl) ?_
          refine z_istore_n dX3_goodValue_46 (by decide) ?_
          refine z_inc ki_1 dX3_goodValue_47 rfl (by decide) ?_
          refine z_goto (tgt := 7) dX3_goodValue_50 (by decide) ?_
          rw [cnt_alk (yt h17), e2] at h31
          have hc : ¬ _ ≤ _ := fun q => h31 ((nI_leI (by omega) (by omega)).mpr q)
          have hg0 : gdn σ u (j + 1) = some j := by rw [gdn, if_pos (by omega)]
          exact ih _ _ _ (by rw [hg0]; rfl) (by rw [hg0, cnt_alk (yt h17)]; rfl) (nI_add j 1)
  refine z_ldc dX3_goodValue_0 lc_RX3_65 ?_
  refine z_istore_n dX3_goodValue_2 (by decide) ?_
  refine z_ic ki_0 dX3_goodValue_3 ?_
  refine z_istore_n dX3_goodValue_4 (by decide) ?_
  refine z_ic ki_0 dX3_goodValue_5 ?_
  refine z_istore_n dX3_goodValue_6 (by decide) ?_
  exact loop 0 (by omega) _ _ _ rfl rfl rfl
/-- a copy is repaired -/
def rpB (σ : ST) (u s : Nat) : Bool := match good σ u with
  | none => false
  | some f => !decide (σ.hs u s = σ.hs u f)
def rpT (σ : ST) (u s : Nat) : ST := match good σ u with
  | none => σ
  | some f => if σ.hs u s = σ.hs u f then σ else σ.sh u s (σ.hs u f)
theorem c_X3_repairAt (hW : W2 g A σ ρ x M) {u s : Nat} (hu : u < σ.un) (hs : s < 4) (hc : σ.cp u s = true) (hv : okV σ u) : con g mX3_repairAt 0 0 [.ref (A 13 u), .int (nI s)] M (rQ (some (.int (bI (rpB σ u s)))) (W2 g A (rpT σ u s) ρ x)) := by
  refine con_i ?_ (by decide) rfl rfl (by simp [lv_args, Value.category]) (by simp [lv_args, lnd, Value.category])
  have hU := hW.unit hu
  have hC := hW.copies hu
  refine z_aload_n dX3_repairAt_0 rfl rfl ?_
  refine z_ivI dX3_repairAt_1 cv_RX3_69 hU (c_X3_goodValue g hW hu) ⟨⟨by decide, by decide⟩, by decide, by decide⟩ rfl rfl (Nat.le_of_ble_eq_true rfl) ?_
  refine z_istore_n dX3_repairAt_4 (by decide) ?_
  refine z_iload_n dX3_repairAt_5 rfl ?_
  refine z_ldc dX3_repairAt_6 lc_RX3_65 ?_
  refine z_icmp_eq (tgt := 29) dX3_repairAt_8 (by decide) (fun h8 => ?_) (fun h8 => ?_)
  · refine z_ic ki_0 dX3_repairAt_29 ?_
    refine z_ireturn dX3_repairAt_30 rfl (by first | rfl | exact bI_nar _) ?_
    have hn := gvC_none hv h8
    rw [show rpB σ u s = false by unfold rpB; rw [hn], show rpT σ u s = σ by unfold rpT; rw [hn]]
    exact rQ_of hW
  · have hsm : ∃ f, good σ u = some f := by
      cases hg : good σ u with
      | none => exact absurd (show gvC σ u = noV by unfold gvC gvO; rw [hg]) h8
      | some f => exact ⟨f, rfl⟩
    obtain ⟨f, hf⟩ := hsm
    have eg : gvC σ u = σ.hs u f := by unfold gvC gvO; rw [hf]
    rw [eg]
    refine z_aload_n dX3_repairAt_11 rfl rfl ?_
    refine z_iload_n dX3_repairAt_12 rfl ?_
    refine z_ivI dX3_repairAt_13 cv_RX3_35 hU (c_X3_hasCopyAt g hW hu hs) ⟨⟨by decide, by decide⟩, by decide, by decide⟩ rfl rfl (Nat.le_of_ble_eq_true rfl) ?_
    refine z_if_eq (tgt := 29) dX3_repairAt_16 (by decide) (fun h16 => absurd h16 (by rw [hc]; decide)) (fun h16 => ?_)
    refine z_aload_n dX3_repairAt_19 rfl rfl ?_
    refine z_getfield dX3_repairAt_20 fg_RX3_17 (by assumption) rfl ?_
    refine z_iload_n dX3_repairAt_23 rfl ?_
    refine z_iaload dX3_repairAt_24 hC rfl hs (by decide) ?_
    refine z_iload_n dX3_repairAt_25 rfl ?_
    refine z_icmp_ne (tgt := 31) dX3_repairAt_26 (by decide) (fun h26 => ?_) (fun h26 => ?_)
    · refine z_aload_n dX3_repairAt_31 rfl rfl ?_
      refine z_getfield dX3_repairAt_32 fg_RX3_17 (by assumption) rfl ?_
      refine z_iload_n dX3_repairAt_35 rfl ?_
      refine z_iload_n dX3_repairAt_36 rfl ?_
      refine z_iastore dX3_repairAt_37 hC rfl hs (by decide) ?_
      refine z_ic ki_1 dX3_repairAt_38 ?_
      refine z_ireturn dX3_repairAt_39 rfl (by first | rfl | exact bI_nar _) ?_
      rw [show rpB σ u s = true by unfold rpB; rw [hf]; simp only []; rw [decide_eq_false h26]; rfl, show rpT σ u s = σ.sh u s (σ.hs u f) by unfold rpT; rw [hf]; simp only []; rw [if_neg h26]]
      exact rQ_of (hW.chs u s hu _)
    · refine z_ic ki_0 dX3_repairAt_29 ?_
      refine z_ireturn dX3_repairAt_30 rfl (by first | rfl | exact bI_nar _) ?_
      rw [show rpB σ u s = false by unfold rpB; rw [hf]; simp only []; rw [decide_eq_true h26]; rfl, show rpT σ u s = σ by unfold rpT; rw [hf]; simp only []; rw [if_pos h26]]
      exact rQ_of hW
end U2
