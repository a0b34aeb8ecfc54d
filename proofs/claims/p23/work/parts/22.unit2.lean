/-! the class: units' methods over the world -/
def cntB (f : Nat → Bool) : Nat → Nat
  | 0 => 0
  | n + 1 => cntB f n + (if f n = true then 1 else 0)
theorem cntB_cpc (σ : ST) (u : Nat) : ∀ n, cntB (σ.cp u) n = cpc σ u n
  | 0 => rfl
  | n + 1 => by unfold cntB cpc; rw [cntB_cpc σ u n]
theorem cntB_many (σ : ST) (o : Nat) : ∀ n, cntB (fun k => σ.b 0 (10 * o + k)) n = many σ o n
  | 0 => rfl
  | n + 1 => by unfold cntB many; rw [cntB_many σ o n]
def bs4 (a b c d : Bool) : Int32 := ((((nI 0 ||| (if a = true then nI 1 <<< (nI 0 &&& 31) else nI 0)) ||| (if b = true then nI 1 <<< (nI 1 &&& 31) else nI 0)) ||| (if c = true then nI 1 <<< (nI 2 &&& 31) else nI 0)) ||| (if d = true then nI 1 <<< (nI 3 &&& 31) else nI 0))
theorem bct4a : ∀ a b c d : Bool, bct (bs4 a b c d) = nI ((((0 + (if a = true then 1 else 0)) + (if b = true then 1 else 0)) + (if c = true then 1 else 0)) + (if d = true then 1 else 0)) := by decide +kernel
theorem bct4 (f : Nat → Bool) : bct (bset f 4) = nI (cntB f 4) := bct4a (f 0) (f 1) (f 2) (f 3)
def bs10 (a b c d e f g h i j : Bool) : Int32 := ((((((bs4 a b c d ||| (if e = true then nI 1 <<< (nI 4 &&& 31) else nI 0)) ||| (if f = true then nI 1 <<< (nI 5 &&& 31) else nI 0)) ||| (if g = true then nI 1 <<< (nI 6 &&& 31) else nI 0)) ||| (if h = true then nI 1 <<< (nI 7 &&& 31) else nI 0)) ||| (if i = true then nI 1 <<< (nI 8 &&& 31) else nI 0)) ||| (if j = true then nI 1 <<< (nI 9 &&& 31) else nI 0))
theorem bct10a : ∀ a b c d e f g h i j : Bool, bct (bs10 a b c d e f g h i j) = nI ((((((((((0 + (if a = true then 1 else 0)) + (if b = true then 1 else 0)) + (if c = true then 1 else 0)) + (if d = true then 1 else 0)) + (if e = true then 1 else 0)) + (if f = true then 1 else 0)) + (if g = true then 1 else 0)) + (if h = true then 1 else 0)) + (if i = true then 1 else 0)) + (if j = true then 1 else 0)) := by decide +kernel
theorem bct10 (f : Nat → Bool) : bct (bset f 10) = nI (cntB f 10) := bct10a (f 0) (f 1) (f 2) (f 3) (f 4) (f 5) (f 6) (f 7) (f 8) (f 9)
theorem or_nI0 (x : Int32) : x ||| nI 0 = x := by
  show x ||| 0 = x
  simp
/-- placed copies with a value, of the first n sites -/
def cntU (P : Nat → Bool) (C : Nat → Int32) (h : Int32) : Nat → Nat
  | 0 => 0
  | n + 1 => cntU P C h n + (if P n = true ∧ C n = h then 1 else 0)
theorem cntU_le (P : Nat → Bool) (C : Nat → Int32) (h : Int32) : ∀ n, cntU P C h n ≤ n
  | 0 => Nat.le_refl 0
  | n + 1 => by
    have h := cntU_le P C h n
    unfold cntU
    split <;> omega
theorem cnt_alk {σ : ST} {u s : Nat} (hs : snd σ u s = true) : ∀ n, cntU (σ.cp u) (σ.hs u) (σ.hs u s) n = alk σ u s n
  | 0 => rfl
  | n + 1 => by
    unfold cntU alk
    rw [cnt_alk hs n]
    have h1 : σ.cp u n = true ∧ σ.hs u n = σ.hs u s → snd σ u n = true := fun q => by
      unfold snd at hs ⊢
      rw [Bool.and_eq_true, decide_eq_true_iff] at hs ⊢
      exact ⟨q.1, by rw [q.2]; exact hs.2⟩
    have h2 : snd σ u n = true → σ.cp u n = true := fun q => by
      unfold snd at q
      rw [Bool.and_eq_true] at q
      exact q.1
    by_cases q : σ.cp u n = true ∧ σ.hs u n = σ.hs u s
    · rw [if_pos q, if_pos ⟨hs, h1 q, q.2⟩]
    · rw [if_neg q, if_neg (fun q2 => q ⟨h2 q2.2.1, q2.2.2⟩)]
theorem alk_0 {σ : ST} {u s : Nat} (hs : snd σ u s = false) : ∀ n, alk σ u s n = 0
  | 0 => rfl
  | n + 1 => by
    unfold alk
    rw [alk_0 hs n, if_neg (fun q => by rw [hs] at q; exact absurd q.1 (by decide))]
theorem good_lt {σ : ST} {u : Nat} : ∀ n f, gdn σ u n = some f → f < n
  | 0, f, h => by cases h
  | n + 1, f, h => by
    unfold gdn at h
    split at h
    · cases h
      exact Nat.lt_succ_self n
    · exact Nat.lt_succ_of_lt (good_lt n f h)
theorem good_cp {σ : ST} {u : Nat} : ∀ n f, gdn σ u n = some f → σ.cp u f = true
  | 0, f, h => by cases h
  | n + 1, f, h => by
    unfold gdn at h
    split at h
    · rename_i hq
      cases h
      have hs : snd σ u n = true := by
        cases hs : snd σ u n with
        | true => rfl
        | false => rw [alk_0 hs 4] at hq; exact absurd hq (Nat.not_lt_zero _)
      unfold snd at hs
      rw [Bool.and_eq_true] at hs
      exact hs.1
    · exact good_cp n f h
def gvO (σ : ST) (u : Nat) (o : Option Nat) : Int32 := match o with
  | none => nI 0
  | some s => σ.hs u s
/-- what goodValue answers -/
abbrev gvC (σ : ST) (u : Nat) : Int32 := gvO σ u (good σ u)
section U2
variable (g : GG) {A : Nat → Nat → Nat} {σ ρ : ST} {x : XT} {M : Mem}
theorem c_X3_isNeeded (hW : W2 g A σ ρ x M) {u : Nat} (hu : u < σ.un) (hn : σ.a 6 u < 2 ^ 30) : con g mX3_isNeeded 0 0 [.ref (A 13 u)] M (rI (bI (decide (0 < σ.a 6 u))) M) := by
  refine con_i ?_ (by decide) rfl rfl (by simp [lv_args, Value.category]) (by simp [lv_args, lnd, Value.category])
  have hU := hW.unit hu
  refine z_aload_n dX3_isNeeded_0 rfl rfl ?_
  refine z_getfield dX3_isNeeded_1 fg_RX3_39 (by assumption) rfl ?_
  refine z_if_le (tgt := 11) dX3_isNeeded_4 (by decide) (fun h4 => ?_) (fun h4 => ?_)
  · refine z_ic ki_0 dX3_isNeeded_11 ?_
    refine z_ireturn dX3_isNeeded_12 rfl (by first | rfl | exact bI_nar _) ?_
    exact rI_of (by rw [decide_eq_false (fun q => absurd h4 (nI_nle q (by omega)))]; rfl)
  · refine z_ic ki_1 dX3_isNeeded_7 ?_
    refine z_goto (tgt := 12) dX3_isNeeded_8 (by decide) ?_
    refine z_ireturn dX3_isNeeded_12 rfl (by first | rfl | exact bI_nar _) ?_
    exact rI_of (by
      rw [decide_eq_true (Nat.pos_of_ne_zero (fun q => h4 (by rw [q]; decide)))]
      rfl)
theorem c_X3_isAlike (hW : W2 g A σ ρ x M) {u : Nat} (hu : u < σ.un) (d : Bool) (v : Int32) : con g mX3_isAlike 0 0 [.ref (A 13 u), .int (bI d), .int v] M (rI (bI (decide (σ.b 2 u = d ∧ σ.i 2 u = v))) M) := by
  refine con_i ?_ (by decide) rfl rfl (by simp [lv_args, Value.category]) (by simp [lv_args, lnd, Value.category])
  have hU := hW.unit hu
  refine z_aload_n dX3_isAlike_0 rfl rfl ?_
  refine z_getfield dX3_isAlike_1 fg_RX3_23 (by assumption) rfl ?_
  refine z_iload_n dX3_isAlike_4 rfl ?_
  refine z_icmp_ne (tgt := 20) dX3_isAlike_5 (by decide) (fun h5 => ?_) (fun h5 => ?_)
  · refine z_ic ki_0 dX3_isAlike_20 ?_
    refine z_ireturn dX3_isAlike_21 rfl (by first | rfl | exact bI_nar _) ?_
    exact rI_of (by rw [decide_eq_false (fun q => h5 (by rw [q.1]))]; rfl)
  · refine z_aload_n dX3_isAlike_8 rfl rfl ?_
    refine z_getfield dX3_isAlike_9 fg_RX3_27 (by assumption) rfl ?_
    refine z_iload_n dX3_isAlike_12 rfl ?_
    refine z_icmp_ne (tgt := 20) dX3_isAlike_13 (by decide) (fun h13 => ?_) (fun h13 => ?_)
    · refine z_ic ki_0 dX3_isAlike_20 ?_
      refine z_ireturn dX3_isAlike_21 rfl (by first | rfl | exact bI_nar _) ?_
      exact rI_of (by rw [decide_eq_false (fun q => h13 q.2)]; rfl)
    · refine z_ic ki_1 dX3_isAlike_16 ?_
      refine z_goto (tgt := 21) dX3_isAlike_17 (by decide) ?_
      refine z_ireturn dX3_isAlike_21 rfl (by first | rfl | exact bI_nar _) ?_
      have hd : σ.b 2 u = d := by
        cases h1 : σ.b 2 u <;> cases d <;> rw [h1] at h5 <;> first | rfl | exact absurd h5 (by decide)
      exact rI_of (by rw [decide_eq_true ⟨hd, h13⟩]; rfl)
theorem c_X3_hasCopyAt (hW : W2 g A σ ρ x M) {u s : Nat} (hu : u < σ.un) (hs : s < 4) : con g mX3_hasCopyAt 0 0 [.ref (A 13 u), .int (nI s)] M (rI (bI (σ.cp u s)) M) := by
  refine con_i ?_ (by decide) rfl rfl (by simp [lv_args, Value.category]) (by simp [lv_args, lnd, Value.category])
  have hU := hW.unit hu
  have hP := hW.placed hu
  refine z_iload_n dX3_hasCopyAt_0 rfl ?_
  refine z_if_lt (tgt := 22) dX3_hasCopyAt_1 (by decide) (fun h1 => absurd h1 (nI_pos (by omega))) (fun h1 => ?_)
  refine z_iload_n dX3_hasCopyAt_4 rfl ?_
  refine z_ic ki_4 dX3_hasCopyAt_5 ?_
  refine z_icmp_ge (tgt := 22) dX3_hasCopyAt_6 (by decide) (fun h6 => absurd h6 (nI_ge hs (by omega))) (fun h6 => ?_)
  refine z_aload_n dX3_hasCopyAt_9 rfl rfl ?_
  refine z_getfield dX3_hasCopyAt_10 fg_RX3_9 (by assumption) rfl ?_
  refine z_iload_n dX3_hasCopyAt_13 rfl ?_
  refine z_zaload dX3_hasCopyAt_14 hP rfl hs (by decide) ?_
  refine z_if_eq (tgt := 22) dX3_hasCopyAt_15 (by decide) (fun h15 => ?_) (fun h15 => ?_)
  · refine z_ic ki_0 dX3_hasCopyAt_22 ?_
    refine z_ireturn dX3_hasCopyAt_23 rfl (by first | rfl | exact bI_nar _) ?_
    exact rI_of (by rw [bI_eq0.mp h15]; rfl)
  · refine z_ic ki_1 dX3_hasCopyAt_18 ?_
    refine z_goto (tgt := 23) dX3_hasCopyAt_19 (by decide) ?_
    refine z_ireturn dX3_hasCopyAt_23 rfl (by first | rfl | exact bI_nar _) ?_
    exact rI_of (by rw [bI_ne0.mp h15]; rfl)
theorem c_X3_hasCopyAt_no (hW : W2 g A σ ρ x M) {u : Nat} (hu : u < σ.un) : con g mX3_hasCopyAt 0 0 [.ref (A 13 u), .int (-1)] M (rI (nI 0) M) := by
  refine con_i ?_ (by decide) rfl rfl (by simp [lv_args, Value.category]) (by simp [lv_args, lnd, Value.category])
  have hU := hW.unit hu
  have hP := hW.placed hu
  refine z_iload_n dX3_hasCopyAt_0 rfl ?_
  refine z_if_lt (tgt := 22) dX3_hasCopyAt_1 (by decide) (fun h1 => ?_) (fun h1 => absurd (by decide) h1)
  refine z_ic ki_0 dX3_hasCopyAt_22 ?_
  refine z_ireturn dX3_hasCopyAt_23 rfl (by first | rfl | exact bI_nar _) ?_
  exact rI_of (by first | rfl | assumption | simp_all)
theorem c_X3_isSoundAt (hW : W2 g A σ ρ x M) {u s : Nat} (hu : u < σ.un) (hs : s < 4) : con g mX3_isSoundAt 0 0 [.ref (A 13 u), .int (nI s)] M (rI (bI (snd σ u s)) M) := by
  refine con_i ?_ (by decide) rfl rfl (by simp [lv_args, Value.category]) (by simp [lv_args, lnd, Value.category])
  have hU := hW.unit hu
  have hC := hW.copies hu
  refine z_aload_n dX3_isSoundAt_0 rfl rfl ?_
  refine z_iload_n dX3_isSoundAt_1 rfl ?_
  refine z_ivI dX3_isSoundAt_2 cv_RX3_42 hU (c_X3_hasCopyAt g hW hu hs) ⟨⟨by decide, by decide⟩, (by first | exact Nat.zero_le _ | decide | omega), (by first | exact Nat.zero_le _ | decide | omega)⟩ rfl rfl (Nat.le_of_ble_eq_true rfl) ?_
  refine z_if_eq (tgt := 30) dX3_isSoundAt_5 (by decide) (fun h5 => ?_) (fun h5 => ?_)
  · refine z_ic ki_0 dX3_isSoundAt_30 ?_
    refine z_ireturn dX3_isSoundAt_31 rfl (by first | rfl | exact bI_nar _) ?_
    exact rI_of (by unfold snd; rw [bI_eq0.mp h5]; rfl)
  · refine z_aload_n dX3_isSoundAt_8 rfl rfl ?_
    refine z_getfield dX3_isSoundAt_9 fg_RX3_15 (by assumption) rfl ?_
    refine z_iload_n dX3_isSoundAt_12 rfl ?_
    refine z_iaload dX3_isSoundAt_13 hC rfl hs (by decide) ?_
    refine z_bi kb_97 dX3_isSoundAt_14 ?_
    refine z_isI dX3_isSoundAt_16 cs_RX3_30 (c_J9_floorMod g M _ _ (by decide)) ⟨⟨by decide, by decide⟩, (by first | exact Nat.zero_le _ | decide | omega), (by first | exact Nat.zero_le _ | decide | omega)⟩ rfl rfl (Nat.le_of_ble_eq_true rfl) ?_
    refine z_aload_n dX3_isSoundAt_19 rfl rfl ?_
    refine z_getfield dX3_isSoundAt_20 fg_RX3_36 (by assumption) rfl ?_
    refine z_icmp_ne (tgt := 30) dX3_isSoundAt_23 (by decide) (fun h23 => ?_) (fun h23 => ?_)
    · refine z_ic ki_0 dX3_isSoundAt_30 ?_
      refine z_ireturn dX3_isSoundAt_31 rfl (by first | rfl | exact bI_nar _) ?_
      rw [fmod97] at h23
      exact rI_of (by unfold snd; rw [decide_eq_false h23, Bool.and_false]; rfl)
    · refine z_ic ki_1 dX3_isSoundAt_26 ?_
      refine z_goto (tgt := 31) dX3_isSoundAt_27 (by decide) ?_
      refine z_ireturn dX3_isSoundAt_31 rfl (by first | rfl | exact bI_nar _) ?_
      rw [fmod97] at h23
      exact rI_of (by unfold snd; rw [bI_ne0.mp h5, decide_eq_true h23]; rfl)
theorem c_X3_changeAt (hW : W2 g A σ ρ x M) {u s : Nat} (hu : u < σ.un) (hs : s < 4) (hc : σ.cp u s = true) (v : Int32) : con g mX3_changeAt 0 0 [.ref (A 13 u), .int (nI s), .int v] M (rQ none (W2 g A (σ.sh u s (σ.hs u s + v)) ρ x)) := by
  refine con_i ?_ (by decide) rfl rfl (by simp [lv_args, Value.category]) (by simp [lv_args, lnd, Value.category])
  have hU := hW.unit hu
  have hC := hW.copies hu
  refine z_aload_n dX3_changeAt_0 rfl rfl ?_
  refine z_iload_n dX3_changeAt_1 rfl ?_
  refine z_ivI dX3_changeAt_2 cv_RX3_42 hU (c_X3_hasCopyAt g hW hu hs) ⟨⟨by decide, by decide⟩, (by first | exact Nat.zero_le _ | decide | omega), (by first | exact Nat.zero_le _ | decide | omega)⟩ rfl rfl (Nat.le_of_ble_eq_true rfl) ?_
  refine z_if_eq (tgt := 18) dX3_changeAt_5 (by decide) (fun h5 => absurd h5 (by rw [hc]; decide)) (fun h5 => ?_)
  refine z_aload_n dX3_changeAt_8 rfl rfl ?_
  refine z_getfield dX3_changeAt_9 fg_RX3_15 (by assumption) rfl ?_
  refine z_iload_n dX3_changeAt_12 rfl ?_
  refine z_dup2 dX3_changeAt_13 rfl rfl ?_
  refine z_iaload dX3_changeAt_14 hC rfl hs (by decide) ?_
  refine z_iload_n dX3_changeAt_15 rfl ?_
  refine z_iadd dX3_changeAt_16 ?_
  refine z_iastore dX3_changeAt_17 hC rfl hs (by decide) ?_
  refine z_return dX3_changeAt_18 rfl ?_
  exact rQ_of (hW.chs u s hu _)
theorem c_X3_placeAt (hW : W2 g A σ ρ x M) {u s : Nat} (hu : u < σ.un) (hs : s < 4) (v : Int32) : con g mX3_placeAt 0 0 [.ref (A 13 u), .int (nI s), .int v] M (rQ none (W2 g A ((σ.sc u s true).sh u s v) ρ x)) := by
  refine con_i ?_ (by decide) rfl rfl (by simp [lv_args, Value.category]) (by simp [lv_args, lnd, Value.category])
  have hU := hW.unit hu
  have hP := hW.placed hu
  refine z_iload_n dX3_placeAt_0 rfl ?_
  refine z_if_lt (tgt := 23) dX3_placeAt_1 (by decide) (fun h1 => absurd h1 (nI_pos (by omega))) (fun h1 => ?_)
  refine z_iload_n dX3_placeAt_4 rfl ?_
  refine z_ic ki_4 dX3_placeAt_5 ?_
  refine z_icmp_ge (tgt := 23) dX3_placeAt_6 (by decide) (fun h6 => absurd h6 (nI_ge hs (by omega))) (fun h6 => ?_)
  refine z_aload_n dX3_placeAt_9 rfl rfl ?_
  refine z_getfield dX3_placeAt_10 fg_RX3_9 (by assumption) rfl ?_
  refine z_iload_n dX3_placeAt_13 rfl ?_
  refine z_ic ki_1 dX3_placeAt_14 ?_
  refine z_zastore dX3_placeAt_15 hP rfl hs (by decide) ?_
  have hW1 := hW.ccp u s hu true
  have hU1 := hW1.unit hu
  have hC1 := hW1.copies hu
  refine z_aload_n dX3_placeAt_16 rfl rfl ?_
  refine z_getfield dX3_placeAt_17 fg_RX3_15 hU1 rfl ?_
  refine z_iload_n dX3_placeAt_20 rfl ?_
  refine z_iload_n dX3_placeAt_21 rfl ?_
  refine z_iastore dX3_placeAt_22 hC1 rfl hs (by decide) ?_
  refine z_return dX3_placeAt_23 rfl ?_
  exact rQ_of (hW1.chs u s hu v)
theorem c_X3_dropAt (hW : W2 g A σ ρ x M) {u s : Nat} (hu : u < σ.un) (hs : s < 4) : con g mX3_dropAt 0 0 [.ref (A 13 u), .int (nI s)] M (rQ none (W2 g A (σ.sc u s false) ρ x)) := by
  refine con_i ?_ (by decide) rfl rfl (by simp [lv_args, Value.category]) (by simp [lv_args, lnd, Value.category])
  have hU := hW.unit hu
  have hP := hW.placed hu
  refine z_iload_n dX3_dropAt_0 rfl ?_
  refine z_if_lt (tgt := 16) dX3_dropAt_1 (by decide) (fun h1 => absurd h1 (nI_pos (by omega))) (fun h1 => ?_)
  refine z_iload_n dX3_dropAt_4 rfl ?_
  refine z_ic ki_4 dX3_dropAt_5 ?_
  refine z_icmp_ge (tgt := 16) dX3_dropAt_6 (by decide) (fun h6 => absurd h6 (nI_ge hs (by omega))) (fun h6 => ?_)
  refine z_aload_n dX3_dropAt_9 rfl rfl ?_
  refine z_getfield dX3_dropAt_10 fg_RX3_9 (by assumption) rfl ?_
  refine z_iload_n dX3_dropAt_13 rfl ?_
  refine z_ic ki_0 dX3_dropAt_14 ?_
  refine z_zastore dX3_dropAt_15 hP rfl hs (by decide) ?_
  refine z_return dX3_dropAt_16 rfl ?_
  exact rQ_of (hW.ccp u s hu false)
theorem c_X3_siteSet (hW : W2 g A σ ρ x M) {u : Nat} (hu : u < σ.un) : con g mX3_siteSet 0 0 [.ref (A 13 u)] M (rI (bset (σ.cp u) 4) M) := by
  refine con_i ?_ (by decide) rfl rfl (by simp [lv_args, Value.category]) (by simp [lv_args, lnd, Value.category])
  have hU := hW.unit hu
  have hP := hW.placed hu
  have loop : ∀ j, j ≤ 4 → ∀ x1 x2, x1 = bset (σ.cp u) j → x2 = nI j → tri g mX3_siteSet 0 0 (rI (bset (σ.cp u) 4) M) M 4 [(0, .ref (A 13 u)), (1, .int x1), (2, .int x2)] [] := by
    refine lp_up 4 ?_ ?_
    · intro x1 x2 e1 e2
      subst e2
      refine z_iload_n dX3_siteSet_4 rfl ?_
      refine z_ic ki_4 dX3_siteSet_5 ?_
      refine z_icmp_ge (tgt := 30) dX3_siteSet_6 (by decide) (fun h6 => ?_) (fun h6 => absurd (nI_le (by omega) (by omega)) h6)
      refine z_iload_n dX3_siteSet_30 rfl ?_
      refine z_ireturn dX3_siteSet_31 rfl (by first | rfl | exact bI_nar _) ?_
      exact rI_of (by first | rfl | assumption | simp_all)
    · intro j hj ih x1 x2 e1 e2
      subst e2
      refine z_iload_n dX3_siteSet_4 rfl ?_
      refine z_ic ki_4 dX3_siteSet_5 ?_
      refine z_icmp_ge (tgt := 30) dX3_siteSet_6 (by decide) (fun h6 => absurd h6 (nI_ge hj (by omega))) (fun h6 => ?_)
      refine z_aload_n dX3_siteSet_9 rfl rfl ?_
      refine z_getfield dX3_siteSet_10 fg_RX3_9 (by assumption) rfl ?_
      refine z_iload_n dX3_siteSet_13 rfl ?_
      refine z_zaload dX3_siteSet_14 hP rfl hj (by decide) ?_
      refine z_if_eq (tgt := 24) dX3_siteSet_15 (by decide) (fun h15 => ?_) (fun h15 => ?_)
      · refine z_inc ki_1 dX3_siteSet_24 rfl (by decide) ?_
        refine z_goto (tgt := 4) dX3_siteSet_27 (by decide) ?_
        exact ih _ _ (by rw [e1, bset, if_neg (nt h15), or_nI0]) (nI_add j 1)
      · refine z_iload_n dX3_siteSet_18 rfl ?_
        refine z_ic ki_1 dX3_siteSet_19 ?_
        refine z_iload_n dX3_siteSet_20 rfl ?_
        refine z_ishl dX3_siteSet_21 ?_
        refine z_ior dX3_siteSet_22 ?_
        refine z_istore_n dX3_siteSet_23 (by decide) ?_
        refine z_inc ki_1 dX3_siteSet_24 rfl (by decide) ?_
        refine z_goto (tgt := 4) dX3_siteSet_27 (by decide) ?_
        exact ih _ _ (by rw [e1, bset, if_pos (yt h15)]) (nI_add j 1)
  refine z_ic ki_0 dX3_siteSet_0 ?_
  refine z_istore_n dX3_siteSet_1 (by decide) ?_
  refine z_ic ki_0 dX3_siteSet_2 ?_
  refine z_istore_n dX3_siteSet_3 (by decide) ?_
  exact loop 0 (by omega) _ _ rfl rfl
theorem c_X3_countLacking (hW : W2 g A σ ρ x M) {u : Nat} (hu : u < σ.un) (hn : σ.a 5 u < 2 ^ 30) : con g mX3_countLacking 0 0 [.ref (A 13 u)] M (rI (nI (σ.a 5 u - cpc σ u 4)) M) := by
  refine con_i ?_ (by decide) rfl rfl (by simp [lv_args, Value.category]) (by simp [lv_args, lnd, Value.category])
  have hU := hW.unit hu
  have hcl := cpc_le σ u 4
  refine z_ic ki_0 dX3_countLacking_0 ?_
  refine z_aload_n dX3_countLacking_1 rfl rfl ?_
  refine z_getfield dX3_countLacking_2 fg_RX3_46 (by assumption) rfl ?_
  refine z_aload_n dX3_countLacking_5 rfl rfl ?_
  refine z_ivI dX3_countLacking_6 cv_RX3_49 hU (c_X3_siteSet g hW hu) ⟨⟨by decide, by decide⟩, (by first | exact Nat.zero_le _ | decide | omega), (by first | exact Nat.zero_le _ | decide | omega)⟩ rfl rfl (Nat.le_of_ble_eq_true rfl) ?_
  refine z_isI dX3_countLacking_9 cs_RX3_53 (c_J6_bitCount g M _) ⟨⟨by decide, by decide⟩, (by first | exact Nat.zero_le _ | decide | omega), (by first | exact Nat.zero_le _ | decide | omega)⟩ rfl rfl (Nat.le_of_ble_eq_true rfl) ?_
  rw [bct4, cntB_cpc]
  refine z_isub dX3_countLacking_12 ?_
  refine z_isI dX3_countLacking_13 cs_RX3_59 (c_J9_max g M _ _) ⟨⟨by decide, by decide⟩, (by first | exact Nat.zero_le _ | decide | omega), (by first | exact Nat.zero_le _ | decide | omega)⟩ rfl rfl (Nat.le_of_ble_eq_true rfl) ?_
  refine z_ireturn dX3_countLacking_16 rfl (by first | rfl | exact bI_nar _) ?_
  refine rI_of ?_
  by_cases hq : cpc σ u 4 ≤ σ.a 5 u
  · rw [pk_sub hq]
    by_cases h0 : σ.a 5 u - cpc σ u 4 = 0
    · rw [h0]
      rfl
    · rw [if_pos (nI_lt (by omega) (by omega))]
  · rw [if_neg (fun q => absurd (Int32.lt_trans q (pk_sneg (by omega) (by omega))) (by decide)), show σ.a 5 u - cpc σ u 4 = 0 by omega]
theorem c_X3_countSound (hW : W2 g A σ ρ x M) {u : Nat} (hu : u < σ.un) : con g mX3_countSound 0 0 [.ref (A 13 u)] M (rI (nI (snn σ u 4)) M) := by
  refine con_i ?_ (by decide) rfl rfl (by simp [lv_args, Value.category]) (by simp [lv_args, lnd, Value.category])
  have hU := hW.unit hu
  have loop : ∀ j, j ≤ 4 → ∀ x1 x2, x1 = nI (snn σ u j) → x2 = nI j → tri g mX3_countSound 0 0 (rI (nI (snn σ u 4)) M) M 4 [(0, .ref (A 13 u)), (1, .int x1), (2, .int x2)] [] := by
    refine lp_up 4 ?_ ?_
    · intro x1 x2 e1 e2
      subst e2
      refine z_iload_n dX3_countSound_4 rfl ?_
      refine z_ic ki_4 dX3_countSound_5 ?_
      refine z_icmp_ge (tgt := 26) dX3_countSound_6 (by decide) (fun h6 => ?_) (fun h6 => absurd (nI_le (by omega) (by omega)) h6)
      refine z_iload_n dX3_countSound_26 rfl ?_
      refine z_ireturn dX3_countSound_27 rfl (by first | rfl | exact bI_nar _) ?_
      exact rI_of (by first | rfl | assumption | simp_all)
    · intro j hj ih x1 x2 e1 e2
      subst e2
      refine z_iload_n dX3_countSound_4 rfl ?_
      refine z_ic ki_4 dX3_countSound_5 ?_
      refine z_icmp_ge (tgt := 26) dX3_countSound_6 (by decide) (fun h6 => absurd h6 (nI_ge hj (by omega))) (fun h6 => ?_)
      refine z_aload_n dX3_countSound_9 rfl rfl ?_
      refine z_iload_n dX3_countSound_10 rfl ?_
      refine z_ivI dX3_countSound_11 cv_RX3_62 hU (c_X3_isSoundAt g hW hu hj) ⟨⟨by decide, by decide⟩, (by first | exact Nat.zero_le _ | decide | omega), (by first | exact Nat.zero_le _ | decide | omega)⟩ rfl rfl (Nat.le_of_ble_eq_true rfl) ?_
      refine z_if_eq (tgt := 20) dX3_countSound_14 (by decide) (fun h14 => ?_) (fun h14 => ?_)
      · refine z_inc ki_1 dX3_countSound_20 rfl (by decide) ?_
        refine z_goto (tgt := 4) dX3_countSound_23 (by decide) ?_
        exact ih _ _ (by rw [e1, snn, if_neg (nt h14)]; rfl) (nI_add j 1)
      · refine z_inc ki_1 dX3_countSound_17 rfl (by decide) ?_
        refine z_inc ki_1 dX3_countSound_20 rfl (by decide) ?_
        refine z_goto (tgt := 4) dX3_countSound_23 (by decide) ?_
        exact ih _ _ (by rw [e1, nI_add, snn, if_pos (yt h14)]) (nI_add j 1)
  refine z_ic ki_0 dX3_countSound_0 ?_
  refine z_istore_n dX3_countSound_1 (by decide) ?_
  refine z_ic ki_0 dX3_countSound_2 ?_
  refine z_istore_n dX3_countSound_3 (by decide) ?_
  exact loop 0 (by omega) _ _ rfl rfl
theorem c_X3_countOf (hW : W2 g A σ ρ x M) {u : Nat} (hu : u < σ.un) (h : Int32) : con g mX3_countOf 0 0 [.ref (A 13 u), .int h] M (rI (nI (cntU (σ.cp u) (σ.hs u) h 4)) M) := by
  refine con_i ?_ (by decide) rfl rfl (by simp [lv_args, Value.category]) (by simp [lv_args, lnd, Value.category])
  have hU := hW.unit hu
  have hP := hW.placed hu
  have hC := hW.copies hu
  have loop : ∀ j, j ≤ 4 → ∀ x2 x3, x2 = nI (cntU (σ.cp u) (σ.hs u) h j) → x3 = nI j → tri g mX3_countOf 0 0 (rI (nI (cntU (σ.cp u) (σ.hs u) h 4)) M) M 4 [(0, .ref (A 13 u)), (1, .int h), (2, .int x2), (3, .int x3)] [] := by
    refine lp_up 4 ?_ ?_
    · intro x2 x3 e2 e3
      subst e3
      refine z_iload_n dX3_countOf_4 rfl ?_
      refine z_ic ki_4 dX3_countOf_5 ?_
      refine z_icmp_ge (tgt := 37) dX3_countOf_6 (by decide) (fun h6 => ?_) (fun h6 => absurd (nI_le (by omega) (by omega)) h6)
      refine z_iload_n dX3_countOf_37 rfl ?_
      refine z_ireturn dX3_countOf_38 rfl (by first | rfl | exact bI_nar _) ?_
      exact rI_of (by first | rfl | assumption | simp_all)
    · intro j hj ih x2 x3 e2 e3
      subst e3
      refine z_iload_n dX3_countOf_4 rfl ?_
      refine z_ic ki_4 dX3_countOf_5 ?_
      refine z_icmp_ge (tgt := 37) dX3_countOf_6 (by decide) (fun h6 => absurd h6 (nI_ge hj (by omega))) (fun h6 => ?_)
      refine z_aload_n dX3_countOf_9 rfl rfl ?_
      refine z_getfield dX3_countOf_10 fg_RX3_9 (by assumption) rfl ?_
      refine z_iload_n dX3_countOf_13 rfl ?_
      refine z_zaload dX3_countOf_14 hP rfl hj (by decide) ?_
      refine z_if_eq (tgt := 31) dX3_countOf_15 (by decide) (fun h15 => ?_) (fun h15 => ?_)
      · refine z_inc ki_1 dX3_countOf_31 rfl (by decide) ?_
        refine z_goto (tgt := 4) dX3_countOf_34 (by decide) ?_
        exact ih _ _ (by rw [e2]; simp [cntU, bI_eq0.mp h15]) (nI_add j 1)
      · refine z_aload_n dX3_countOf_18 rfl rfl ?_
        refine z_getfield dX3_countOf_19 fg_RX3_15 (by assumption) rfl ?_
        refine z_iload_n dX3_countOf_22 rfl ?_
        refine z_iaload dX3_countOf_23 hC rfl hj (by decide) ?_
        refine z_iload_n dX3_countOf_24 rfl ?_
        refine z_icmp_ne (tgt := 31) dX3_countOf_25 (by decide) (fun h25 => ?_) (fun h25 => ?_)
        · refine z_inc ki_1 dX3_countOf_31 rfl (by decide) ?_
          refine z_goto (tgt := 4) dX3_countOf_34 (by decide) ?_
          exact ih _ _ (by rw [e2]; simp [cntU, h25]) (nI_add j 1)
        · refine z_inc ki_1 dX3_countOf_28 rfl (by decide) ?_
          refine z_inc ki_1 dX3_countOf_31 rfl (by decide) ?_
          refine z_goto (tgt := 4) dX3_countOf_34 (by decide) ?_
          exact ih _ _ (by rw [e2, nI_add]; simp [cntU, h25, bI_ne0.mp h15]) (nI_add j 1)
  refine z_ic ki_0 dX3_countOf_0 ?_
  refine z_istore_n dX3_countOf_1 (by decide) ?_
  refine z_ic ki_0 dX3_countOf_2 ?_
  refine z_istore_n dX3_countOf_3 (by decide) ?_
  exact loop 0 (by omega) _ _ rfl rfl
theorem c_X3_goodSite (hW : W2 g A σ ρ x M) {u : Nat} (hu : u < σ.un) : con g mX3_goodSite 0 0 [.ref (A 13 u)] M (rI (oI (good σ u)) M) := by
  refine con_i ?_ (by decide) rfl rfl (by simp [lv_args, Value.category]) (by simp [lv_args, lnd, Value.category])
  have hU := hW.unit hu
  have hC := hW.copies hu
  have loop : ∀ j, j ≤ 4 → ∀ x1 x2 x3, x1 = oI (gdn σ u j) → x2 = nI (gal σ u (gdn σ u j)) → x3 = nI j → tri g mX3_goodSite 0 0 (rI (oI (good σ u)) M) M 6 [(0, .ref (A 13 u)), (1, .int x1), (2, .int x2), (3, .int x3)] [] := by
    refine lp_up 4 ?_ ?_
    · intro x1 x2 x3 e1 e2 e3
      subst e3
      refine z_iload_n dX3_goodSite_6 rfl ?_
      refine z_ic ki_4 dX3_goodSite_7 ?_
      refine z_icmp_ge (tgt := 52) dX3_goodSite_8 (by decide) (fun h8 => ?_) (fun h8 => absurd (nI_le (by omega) (by omega)) h8)
      refine z_iload_n dX3_goodSite_52 rfl ?_
      refine z_ireturn dX3_goodSite_53 rfl (by first | rfl | exact bI_nar _) ?_
      exact rI_of (by first | rfl | assumption | simp_all)
    · intro j hj ih x1 x2 x3 e1 e2 e3
      subst e3
      have hal := alk_le σ u j 4
      have hgl : gal σ u (gdn σ u j) ≤ 4 := by
        cases gdn σ u j with
        | none => exact Nat.zero_le _
        | some f => exact alk_le σ u f 4
      refine z_iload_n dX3_goodSite_6 rfl ?_
      refine z_ic ki_4 dX3_goodSite_7 ?_
      refine z_icmp_ge (tgt := 52) dX3_goodSite_8 (by decide) (fun h8 => absurd h8 (nI_ge hj (by omega))) (fun h8 => ?_)
      refine z_aload_n dX3_goodSite_11 rfl rfl ?_
      refine z_iload_n dX3_goodSite_12 rfl ?_
      refine z_ivI dX3_goodSite_13 cv_RX3_62 hU (c_X3_isSoundAt g hW hu hj) ⟨⟨by decide, by decide⟩, (by first | exact Nat.zero_le _ | decide | omega), (by first | exact Nat.zero_le _ | decide | omega)⟩ rfl rfl (Nat.le_of_ble_eq_true rfl) ?_
      refine z_if_eq (tgt := 46) dX3_goodSite_16 (by decide) (fun h16 => ?_) (fun h16 => ?_)
      · refine z_inc ki_1 dX3_goodSite_46 rfl (by decide) ?_
        refine z_goto (tgt := 6) dX3_goodSite_49 (by decide) ?_
        have hs0 := bI_eq0.mp h16
        have hg0 : gdn σ u (j + 1) = gdn σ u j := by rw [gdn, if_neg (by rw [alk_0 hs0]; omega)]
        exact ih _ _ _ (by rw [hg0]; exact e1) (by rw [hg0]; exact e2) (nI_add j 1)
      · refine z_aload_n dX3_goodSite_19 rfl rfl ?_
        refine z_aload_n dX3_goodSite_20 rfl rfl ?_
        refine z_getfield dX3_goodSite_21 fg_RX3_15 (by assumption) rfl ?_
        refine z_iload_n dX3_goodSite_24 rfl ?_
        refine z_iaload dX3_goodSite_25 hC rfl hj (by decide) ?_
        refine z_ivI dX3_goodSite_26 cv_RX3_65 hU (c_X3_countOf g hW hu _) ⟨⟨by decide, by decide⟩, (by first | exact Nat.zero_le _ | decide | omega), (by first | exact Nat.zero_le _ | decide | omega)⟩ rfl rfl (Nat.le_of_ble_eq_true rfl) ?_
        refine z_iload_n dX3_goodSite_29 rfl ?_
        refine z_icmp_le (tgt := 46) dX3_goodSite_30 (by decide) (fun h30 => ?_) (fun h30 => ?_)
        · refine z_inc ki_1 dX3_goodSite_46 rfl (by decide) ?_
          refine z_goto (tgt := 6) dX3_goodSite_49 (by decide) ?_
          rw [cnt_alk (yt h16), e2] at h30
          have hc := (nI_leI (by omega) (by omega)).mp h30
          have hg0 : gdn σ u (j + 1) = gdn σ u j := by rw [gdn, if_neg (by omega)]
          exact ih _ _ _ (by rw [hg0]; exact e1) (by rw [hg0]; exact e2) (nI_add j 1)
        · refine z_iload_n dX3_goodSite_33 rfl ?_
          refine z_istore_n dX3_goodSite_34 (by decide) ?_
          refine z_aload_n dX3_goodSite_35 rfl rfl ?_
          refine z_aload_n dX3_goodSite_36 rfl rfl ?_
          refine z_getfield dX3_goodSite_37 fg_RX3_15 (by assumption) rfl ?_
          refine z_iload_n dX3_goodSite_40 rfl ?_
          refine z_iaload dX3_goodSite_41 hC rfl hj (by decide) ?_
          refine z_ivI dX3_goodSite_42 cv_RX3_65 hU (c_X3_countOf g hW hu _) ⟨⟨by decide, by decide⟩, (by first | exact Nat.zero_le _ | decide | omega), (by first | exact Nat.zero_le _ | decide | omega)⟩ rfl rfl (Nat.le_of_ble_eq_true rfl) ?_
          refine z_istore_n dX3_goodSite_45 (by decide) ?_
          refine z_inc ki_1 dX3_goodSite_46 rfl (by decide) ?_
          refine z_goto (tgt := 6) dX3_goodSite_49 (by decide) ?_
          rw [cnt_alk (yt h16), e2] at h30
          have hc : ¬ _ ≤ _ := fun q => h30 ((nI_leI (by omega) (by omega)).mpr q)
          have hg0 : gdn σ u (j + 1) = some j := by rw [gdn, if_pos (by omega)]
          exact ih _ _ _ (by rw [hg0]; rfl) (by rw [hg0, cnt_alk (yt h16)]; rfl) (nI_add j 1)
  refine z_ic ki_m1 dX3_goodSite_0 ?_
  refine z_istore_n dX3_goodSite_1 (by decide) ?_
  refine z_ic ki_0 dX3_goodSite_2 ?_
  refine z_istore_n dX3_goodSite_3 (by decide) ?_
  refine z_ic ki_0 dX3_goodSite_4 ?_
  refine z_istore_n dX3_goodSite_5 (by decide) ?_
  exact loop 0 (by omega) _ _ _ rfl rfl rfl
theorem c_X3_heldAt (hW : W2 g A σ ρ x M) {u s : Nat} (hu : u < σ.un) (hs : s < 4) (hc : σ.cp u s = true) : con g mX3_heldAt 0 0 [.ref (A 13 u), .int (nI s)] M (rI (σ.hs u s) M) := by
  refine con_i ?_ (by decide) rfl rfl (by simp [lv_args, Value.category]) (by simp [lv_args, lnd, Value.category])
  have hU := hW.unit hu
  have hC := hW.copies hu
  refine z_aload_n dX3_heldAt_0 rfl rfl ?_
  refine z_iload_n dX3_heldAt_1 rfl ?_
  refine z_ivI dX3_heldAt_2 cv_RX3_42 hU (c_X3_hasCopyAt g hW hu hs) ⟨⟨by decide, by decide⟩, (by first | exact Nat.zero_le _ | decide | omega), (by first | exact Nat.zero_le _ | decide | omega)⟩ rfl rfl (Nat.le_of_ble_eq_true rfl) ?_
  refine z_if_eq (tgt := 17) dX3_heldAt_5 (by decide) (fun h5 => absurd h5 (by rw [hc]; decide)) (fun h5 => ?_)
  refine z_aload_n dX3_heldAt_8 rfl rfl ?_
  refine z_getfield dX3_heldAt_9 fg_RX3_15 (by assumption) rfl ?_
  refine z_iload_n dX3_heldAt_12 rfl ?_
  refine z_iaload dX3_heldAt_13 hC rfl hs (by decide) ?_
  refine z_goto (tgt := 18) dX3_heldAt_14 (by decide) ?_
  refine z_ireturn dX3_heldAt_18 rfl (by first | rfl | exact bI_nar _) ?_
  exact rI_of (by first | rfl | assumption | simp_all)
theorem c_X3_heldAt_no (hW : W2 g A σ ρ x M) {u : Nat} (hu : u < σ.un) : con g mX3_heldAt 0 0 [.ref (A 13 u), .int (-1)] M (rI (nI 0) M) := by
  refine con_i ?_ (by decide) rfl rfl (by simp [lv_args, Value.category]) (by simp [lv_args, lnd, Value.category])
  have hU := hW.unit hu
  refine z_aload_n dX3_heldAt_0 rfl rfl ?_
  refine z_iload_n dX3_heldAt_1 rfl ?_
  refine z_ivI dX3_heldAt_2 cv_RX3_42 hU (c_X3_hasCopyAt_no g hW hu) ⟨⟨by decide, by decide⟩, (by first | exact Nat.zero_le _ | decide | omega), (by first | exact Nat.zero_le _ | decide | omega)⟩ rfl rfl (Nat.le_of_ble_eq_true rfl) ?_
  refine z_if_eq (tgt := 17) dX3_heldAt_5 (by decide) (fun h5 => ?_) (fun h5 => absurd (by decide) h5)
  refine z_ic ki_0 dX3_heldAt_17 ?_
  refine z_ireturn dX3_heldAt_18 rfl (by first | rfl | exact bI_nar _) ?_
  exact rI_of (by first | rfl | assumption | simp_all)
theorem c_X3_goodValue (hW : W2 g A σ ρ x M) {u : Nat} (hu : u < σ.un) : con g mX3_goodValue 0 0 [.ref (A 13 u)] M (rI (gvC σ u) M) := by
  refine con_i ?_ (by decide) rfl rfl (by simp [lv_args, Value.category]) (by simp [lv_args, lnd, Value.category])
  have hU := hW.unit hu
  have hgs := c_X3_goodSite g hW hu
  cases hg : good σ u with
  | none =>
    rw [hg] at hgs
    have eg : gvC σ u = nI 0 := by unfold gvC gvO; rw [hg]
    rw [eg]
    refine z_aload_n dX3_goodValue_0 rfl rfl ?_
    refine z_aload_n dX3_goodValue_1 rfl rfl ?_
    refine z_ivI dX3_goodValue_2 cv_RX3_68 hU (hgs) ⟨⟨by decide, by decide⟩, (by first | exact Nat.zero_le _ | decide | omega), (by first | exact Nat.zero_le _ | decide | omega)⟩ rfl rfl (Nat.le_of_ble_eq_true rfl) ?_
    refine z_ivI dX3_goodValue_5 cv_RX3_71 hU (c_X3_heldAt_no g hW hu) ⟨⟨by decide, by decide⟩, (by first | exact Nat.zero_le _ | decide | omega), (by first | exact Nat.zero_le _ | decide | omega)⟩ rfl rfl (Nat.le_of_ble_eq_true rfl) ?_
    refine z_ireturn dX3_goodValue_8 rfl (by first | rfl | exact bI_nar _) ?_
    exact rI_of (by first | rfl | assumption | simp_all)
  | some f =>
    rw [hg] at hgs
    have hf := good_lt 4 f hg
    have hc := good_cp 4 f hg
    have eg : gvC σ u = σ.hs u f := by unfold gvC gvO; rw [hg]
    rw [eg]
    refine z_aload_n dX3_goodValue_0 rfl rfl ?_
    refine z_aload_n dX3_goodValue_1 rfl rfl ?_
    refine z_ivI dX3_goodValue_2 cv_RX3_68 hU (hgs) ⟨⟨by decide, by decide⟩, (by first | exact Nat.zero_le _ | decide | omega), (by first | exact Nat.zero_le _ | decide | omega)⟩ rfl rfl (Nat.le_of_ble_eq_true rfl) ?_
    refine z_ivI dX3_goodValue_5 cv_RX3_71 hU (c_X3_heldAt g hW hu hf hc) ⟨⟨by decide, by decide⟩, (by first | exact Nat.zero_le _ | decide | omega), (by first | exact Nat.zero_le _ | decide | omega)⟩ rfl rfl (Nat.le_of_ble_eq_true rfl) ?_
    refine z_ireturn dX3_goodValue_8 rfl (by first | rfl | exact bI_nar _) ?_
    exact rI_of (by first | rfl | assumption | simp_all)
/-- a copy is repaired -/
def rpB (σ : ST) (u s : Nat) : Bool := match good σ u with
  | none => false
  | some f => !decide (σ.hs u s = σ.hs u f)
def rpT (σ : ST) (u s : Nat) : ST := match good σ u with
  | none => σ
  | some f => if σ.hs u s = σ.hs u f then σ else σ.sh u s (σ.hs u f)
theorem c_X3_repairAt (hW : W2 g A σ ρ x M) {u s : Nat} (hu : u < σ.un) (hs : s < 4) (hc : σ.cp u s = true) : con g mX3_repairAt 0 0 [.ref (A 13 u), .int (nI s)] M (rQ (some (.int (bI (rpB σ u s)))) (W2 g A (rpT σ u s) ρ x)) := by
  refine con_i ?_ (by decide) rfl rfl (by simp [lv_args, Value.category]) (by simp [lv_args, lnd, Value.category])
  have hU := hW.unit hu
  have hC := hW.copies hu
  have hgs := c_X3_goodSite g hW hu
  cases hf : good σ u with
  | none =>
    rw [hf] at hgs
    rw [show rpB σ u s = false by unfold rpB; rw [hf], show rpT σ u s = σ by unfold rpT; rw [hf]]
    refine z_aload_n dX3_repairAt_0 rfl rfl ?_
    refine z_ivI dX3_repairAt_1 cv_RX3_68 hU (hgs) ⟨⟨by decide, by decide⟩, (by first | exact Nat.zero_le _ | decide | omega), (by first | exact Nat.zero_le _ | decide | omega)⟩ rfl rfl (Nat.le_of_ble_eq_true rfl) ?_
    refine z_istore_n dX3_repairAt_4 (by decide) ?_
    refine z_aload_n dX3_repairAt_5 rfl rfl ?_
    refine z_iload_n dX3_repairAt_6 rfl ?_
    refine z_ivI dX3_repairAt_7 cv_RX3_42 hU (c_X3_hasCopyAt_no g hW hu) ⟨⟨by decide, by decide⟩, (by first | exact Nat.zero_le _ | decide | omega), (by first | exact Nat.zero_le _ | decide | omega)⟩ rfl rfl (Nat.le_of_ble_eq_true rfl) ?_
    refine z_if_eq (tgt := 36) dX3_repairAt_10 (by decide) (fun h10 => ?_) (fun h10 => absurd (by decide) h10)
    refine z_ic ki_0 dX3_repairAt_36 ?_
    refine z_ireturn dX3_repairAt_37 rfl (by first | rfl | exact bI_nar _) ?_
    exact rQ_of hW
  | some f =>
    rw [hf] at hgs
    have hf4 := good_lt 4 f hf
    have hcf := good_cp 4 f hf
    refine z_aload_n dX3_repairAt_0 rfl rfl ?_
    refine z_ivI dX3_repairAt_1 cv_RX3_68 hU (hgs) ⟨⟨by decide, by decide⟩, (by first | exact Nat.zero_le _ | decide | omega), (by first | exact Nat.zero_le _ | decide | omega)⟩ rfl rfl (Nat.le_of_ble_eq_true rfl) ?_
    refine z_istore_n dX3_repairAt_4 (by decide) ?_
    refine z_aload_n dX3_repairAt_5 rfl rfl ?_
    refine z_iload_n dX3_repairAt_6 rfl ?_
    refine z_ivI dX3_repairAt_7 cv_RX3_42 hU (c_X3_hasCopyAt g hW hu hf4) ⟨⟨by decide, by decide⟩, (by first | exact Nat.zero_le _ | decide | omega), (by first | exact Nat.zero_le _ | decide | omega)⟩ rfl rfl (Nat.le_of_ble_eq_true rfl) ?_
    refine z_if_eq (tgt := 36) dX3_repairAt_10 (by decide) (fun h10 => absurd h10 (by rw [hcf]; decide)) (fun h10 => ?_)
    refine z_aload_n dX3_repairAt_13 rfl rfl ?_
    refine z_iload_n dX3_repairAt_14 rfl ?_
    refine z_ivI dX3_repairAt_15 cv_RX3_42 hU (c_X3_hasCopyAt g hW hu hs) ⟨⟨by decide, by decide⟩, (by first | exact Nat.zero_le _ | decide | omega), (by first | exact Nat.zero_le _ | decide | omega)⟩ rfl rfl (Nat.le_of_ble_eq_true rfl) ?_
    refine z_if_eq (tgt := 36) dX3_repairAt_18 (by decide) (fun h18 => absurd h18 (by rw [hc]; decide)) (fun h18 => ?_)
    refine z_aload_n dX3_repairAt_21 rfl rfl ?_
    refine z_getfield dX3_repairAt_22 fg_RX3_15 (by assumption) rfl ?_
    refine z_iload_n dX3_repairAt_25 rfl ?_
    refine z_iaload dX3_repairAt_26 hC rfl hs (by decide) ?_
    refine z_aload_n dX3_repairAt_27 rfl rfl ?_
    refine z_getfield dX3_repairAt_28 fg_RX3_15 (by assumption) rfl ?_
    refine z_iload_n dX3_repairAt_31 rfl ?_
    refine z_iaload dX3_repairAt_32 hC rfl hf4 (by decide) ?_
    refine z_icmp_ne (tgt := 38) dX3_repairAt_33 (by decide) (fun h33 => ?_) (fun h33 => ?_)
    · refine z_aload_n dX3_repairAt_38 rfl rfl ?_
      refine z_getfield dX3_repairAt_39 fg_RX3_15 (by assumption) rfl ?_
      refine z_iload_n dX3_repairAt_42 rfl ?_
      refine z_aload_n dX3_repairAt_43 rfl rfl ?_
      refine z_getfield dX3_repairAt_44 fg_RX3_15 (by assumption) rfl ?_
      refine z_iload_n dX3_repairAt_47 rfl ?_
      refine z_iaload dX3_repairAt_48 hC rfl hf4 (by decide) ?_
      refine z_iastore dX3_repairAt_49 hC rfl hs (by decide) ?_
      refine z_ic ki_1 dX3_repairAt_50 ?_
      refine z_ireturn dX3_repairAt_51 rfl (by first | rfl | exact bI_nar _) ?_
      rw [show rpB σ u s = true by unfold rpB; rw [hf]; simp only []; rw [decide_eq_false h33]; rfl, show rpT σ u s = σ.sh u s (σ.hs u f) by unfold rpT; rw [hf]; simp only []; rw [if_neg h33]]
      exact rQ_of (hW.chs u s hu _)
    · refine z_ic ki_0 dX3_repairAt_36 ?_
      refine z_ireturn dX3_repairAt_37 rfl (by first | rfl | exact bI_nar _) ?_
      rw [show rpB σ u s = false by unfold rpB; rw [hf]; simp only []; rw [decide_eq_true h33]; rfl, show rpT σ u s = σ by unfold rpT; rw [hf]; simp only []; rw [if_pos h33]]
      exact rQ_of hW
end U2
