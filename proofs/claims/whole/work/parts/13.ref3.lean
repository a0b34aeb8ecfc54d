/-! the reference: what is needed, where copies are placed -/
theorem or_any {b : Bool} {x y : Bool} (h : x = y) : (b || x) = (b || y) := by rw [h]
theorem lnd_take : ∀ (n : Nat) {l : List (Nat × Value)}, lnd l → lnd (l.take n)
  | 0, _, _ => trivial
  | _ + 1, [], _ => trivial
  | n + 1, (j, v) :: l, h => ⟨fun q hq => h.1 q (List.mem_of_mem_take hq), lnd_take n h.2⟩
theorem tri.take {g : GG} {d : MD} {bk bn : Nat} {P : PO} {M : Mem} {pc : Nat} {ls : List (Nat × Value)} {st : List Value} (n : Nat) (h : tri g d bk bn P M pc (ls.take n) st) : tri g d bk bn P M pc ls st :=
  fun p e R s m args below meth c H locs cells slots lsA hb hc hS hr hl => h p e R s m args below meth c H locs cells slots lsA hb hc hS hr (hl.sub (fun _ hq => List.mem_of_mem_take hq) (lnd_take n hl.2.2))
section REF3
variable (g : GG) {A : Nat → Nat → Nat} {σ ρ : ST} {x : XT} {M : Mem}
theorem c_X6_is (hW : W2 g A σ ρ x M) (hw : WF ρ) (u : Int32) : con g mX6_is 0 0 [.ref (A 20 0), .int u] M (rI (bI (inR ρ.un u && ρ.b 1 (tN u))) M) := by
  refine con_i ?_ (by decide) rfl rfl (by simp [lv_args, Value.category]) (by simp [lv_args, lnd, Value.category])
  have hm := hW.m
  have w12 := hW.r12
  have hun := hw.1.2
  refine z_iload_n dX6_is_0 rfl ?_
  refine z_ic ki_0 dX6_is_1 ?_
  refine z_aload_n dX6_is_2 rfl rfl ?_
  refine z_getfield dX6_is_3 fg_RX6_113 (by assumption) rfl ?_
  refine z_ic ki_1 dX6_is_6 ?_
  refine z_isub dX6_is_7 ?_
  refine z_isI dX6_is_8 cs_RX6_69 (c_X6_isIn g M _ _ _) ⟨⟨by decide, by decide⟩, (by first | exact Nat.zero_le _ | decide | omega), (by first | exact Nat.zero_le _ | decide | omega)⟩ rfl rfl (Nat.le_of_ble_eq_true rfl) ?_
  refine z_if_eq (tgt := 27) dX6_is_11 (by decide) (fun h11 => ?_) (fun h11 => ?_)
  · refine z_ic ki_0 dX6_is_27 ?_
    refine z_ireturn dX6_is_28 rfl (by first | rfl | exact bI_nar _) ?_
    exact rI_of (by rw [show inR ρ.un u = false from bI_eq0.mp h11]; rfl)
  · have hu : inR ρ.un u = true := bI_ne0.mp h11
    obtain ⟨e1, l1⟩ := inR_of (by omega) hu
    refine z_aload_n dX6_is_14 rfl rfl ?_
    refine z_getfield dX6_is_15 fg_RX6_38 (by assumption) rfl ?_
    refine z_iload_n dX6_is_18 rfl ?_
    refine z_zaload dX6_is_19 w12 e1 (by omega) (by decide) ?_
    refine z_if_eq (tgt := 27) dX6_is_20 (by decide) (fun h20 => ?_) (fun h20 => ?_)
    · refine z_ic ki_0 dX6_is_27 ?_
      refine z_ireturn dX6_is_28 rfl (by first | rfl | exact bI_nar _) ?_
      exact rI_of (by rw [hu, bI_eq0.mp h20]; rfl)
    · refine z_ic ki_1 dX6_is_23 ?_
      refine z_goto (tgt := 28) dX6_is_24 (by decide) ?_
      refine z_ireturn dX6_is_28 rfl (by first | rfl | exact bI_nar _) ?_
      exact rI_of (by rw [hu, bI_ne0.mp h20]; rfl)
theorem c_X6_many (hW : W2 g A σ ρ x M) {o : Nat} (ho : o < 10) : con g mX6_many 0 0 [.ref (A 20 0), .int (nI o)] M (rI (nI (many ρ o 10)) M) := by
  refine con_i ?_ (by decide) rfl rfl (by simp [lv_args, Value.category]) (by simp [lv_args, lnd, Value.category])
  have hm := hW.m
  have w7 := hW.r7
  have loop : ∀ j, j ≤ 10 → ∀ x2 x3, x2 = nI (many ρ o j) → x3 = nI (10 * o + j) → tri g mX6_many 0 0 (rI (nI (many ρ o 10)) M) M 7 [(0, .ref (A 20 0)), (1, .int (nI o)), (2, .int x2), (3, .int x3)] [] := by
    refine lp_up 10 ?_ ?_
    · intro x2 x3 e2 e3
      subst e3
      refine z_iload_n dX6_many_7 rfl ?_
      refine z_bi kb_10 dX6_many_8 ?_
      refine z_iload_n dX6_many_10 rfl ?_
      refine z_imul dX6_many_11 ?_
      refine z_bi kb_10 dX6_many_12 ?_
      refine z_iadd dX6_many_14 ?_
      refine z_icmp_ge (tgt := 41) dX6_many_15 (by decide) (fun h15 => ?_) (fun h15 => absurd (by rw [ix10]; exact nI_le (by omega) (by omega)) h15)
      refine z_iload_n dX6_many_41 rfl ?_
      refine z_ireturn dX6_many_42 rfl (by first | rfl | exact bI_nar _) ?_
      exact rI_of (by first | rfl | assumption | simp_all)
    · intro j hj ih x2 x3 e2 e3
      subst e3
      refine z_iload_n dX6_many_7 rfl ?_
      refine z_bi kb_10 dX6_many_8 ?_
      refine z_iload_n dX6_many_10 rfl ?_
      refine z_imul dX6_many_11 ?_
      refine z_bi kb_10 dX6_many_12 ?_
      refine z_iadd dX6_many_14 ?_
      refine z_icmp_ge (tgt := 41) dX6_many_15 (by decide) (fun h15 => absurd h15 (by rw [ix10]; exact nI_ge (by omega) (by omega))) (fun h15 => ?_)
      refine z_iload_n dX6_many_18 rfl ?_
      refine z_aload_n dX6_many_19 rfl rfl ?_
      refine z_getfield dX6_many_20 fg_RX6_25 (by assumption) rfl ?_
      refine z_iload_n dX6_many_23 rfl ?_
      refine z_zaload dX6_many_24 w7 rfl (by omega) (by decide) ?_
      refine z_if_eq (tgt := 32) dX6_many_25 (by decide) (fun h25 => ?_) (fun h25 => ?_)
      · refine z_ic ki_0 dX6_many_32 ?_
        refine z_iadd dX6_many_33 ?_
        refine z_istore_n dX6_many_34 (by decide) ?_
        refine z_inc ki_1 dX6_many_35 rfl (by decide) ?_
        refine z_goto (tgt := 7) dX6_many_38 (by decide) ?_
        exact ih _ _ (by rw [e2, nI_add]; simp [many, bI_eq0.mp h25]) (nI_add (10 * o + j) 1)
      · refine z_ic ki_1 dX6_many_28 ?_
        refine z_goto (tgt := 33) dX6_many_29 (by decide) ?_
        refine z_iadd dX6_many_33 ?_
        refine z_istore_n dX6_many_34 (by decide) ?_
        refine z_inc ki_1 dX6_many_35 rfl (by decide) ?_
        refine z_goto (tgt := 7) dX6_many_38 (by decide) ?_
        exact ih _ _ (by rw [e2, nI_add]; simp [many, bI_ne0.mp h25]) (nI_add (10 * o + j) 1)
  refine z_ic ki_0 dX6_many_0 ?_
  refine z_istore_n dX6_many_1 (by decide) ?_
  refine z_bi kb_10 dX6_many_2 ?_
  refine z_iload_n dX6_many_4 rfl ?_
  refine z_imul dX6_many_5 ?_
  refine z_istore_n dX6_many_6 (by decide) ?_
  exact loop 0 (by omega) _ _ rfl (by rw [pk_mul]; rfl)
theorem c_X6_isNeeded (hW : W2 g A σ ρ x M) (hw : WF ρ) (hb : rbok ρ x) {u : Nat} (hu : u < 100) : con g mX6_isNeeded 0 0 [.ref (A 20 0), .int (nI u)] M (rI (bI (ndd ρ u 100)) M) := by
  refine con_i ?_ (by decide) rfl rfl (by simp [lv_args, Value.category]) (by simp [lv_args, lnd, Value.category])
  have hm := hW.m
  have w7 := hW.r7
  have w9 := hW.r9
  have w10 := hW.r10
  have w13 := hW.r13
  have loop : ∀ j, j ≤ 100 → ∀ (c : Bool) x2 x3, c = ndd ρ u j → x2 = bI c → x3 = nI j → tri g mX6_isNeeded 0 0 (rI (bI (ndd ρ u 100)) M) M 4 [(0, .ref (A 20 0)), (1, .int (nI u)), (2, .int x2), (3, .int x3)] [] := by
    refine lp_up 100 ?_ ?_
    · intro c x2 x3 ec e2 e3
      subst e3
      subst e2
      refine z_iload_n dX6_isNeeded_4 rfl ?_
      refine z_bi kb_100 dX6_isNeeded_5 ?_
      refine z_icmp_ge (tgt := 87) dX6_isNeeded_7 (by decide) (fun h7 => ?_) (fun h7 => absurd (nI_le (by omega) (by omega)) h7)
      refine z_iload_n dX6_isNeeded_87 rfl ?_
      refine z_ireturn dX6_isNeeded_88 rfl (by first | rfl | exact bI_nar _) ?_
      exact rI_of (by rw [ec])
    · intro j hj ih c x2 x3 ec e2 e3
      subst e3
      subst e2
      have inner : ∀ n w, w < n → vok ρ w → ∀ x4, ((chL ρ j).any (fun v => ρ.a 3 v == u)) = ((chL ρ w).any (fun v => ρ.a 3 v == u)) → ρ.b 0 j = true → x4 = nI w → tri g mX6_isNeeded 0 0 (rI (bI (ndd ρ u 100)) M) M 22 [(0, .ref (A 20 0)), (1, .int (nI u)), (2, .int (bI c)), (3, .int (nI j)), (4, .int x4)] [] := by
        intro n
        induction n with
        | zero => intro w h; omega
        | succ n ihn =>
          intro w hwn hvw x4 ea hbj e4
          subst e4
          have hl := hw.lt hvw
          have huw := hw.un hvw
          have eqn : nI (ρ.a 3 w) = nI u → (ρ.a 3 w == u) = true := fun e => beq_iff_eq.mpr ((nI_eq (by omega) (by omega)).mp e)
          have hT : nI (ρ.a 3 w) = nI u → (chL ρ j).any (fun v => ρ.a 3 v == u) = true := fun e => by
            rw [ea]
            by_cases hd : ρ.b 2 (ρ.a 3 w) = true
            · rw [chL_d hw hvw hd, List.any_cons, eqn e, Bool.true_or]
            · rw [chL_w (by simpa using hd), List.any_cons, eqn e, Bool.true_or]
          have hF : ¬ nI (ρ.a 3 w) = nI u → ρ.b 2 (ρ.a 3 w) = false → (chL ρ j).any (fun v => ρ.a 3 v == u) = false := fun e hd => by
            have hne : (ρ.a 3 w == u) = false := beq_eq_false_iff_ne.mpr (fun q => e (by rw [q]))
            rw [ea, chL_w hd, List.any_cons, hne]
            rfl
          have hN : ∀ b, (chL ρ j).any (fun v => ρ.a 3 v == u) = b → ndd ρ u (j + 1) = (c || b) := fun b e => by
            rw [ndd, e, hbj, ec, Bool.true_and]
          refine z_aload_n dX6_isNeeded_22 rfl rfl ?_
          refine z_getfield dX6_isNeeded_23 fg_RX6_32 (by assumption) rfl ?_
          refine z_iload dX6_isNeeded_26 rfl ?_
          refine z_iaload dX6_isNeeded_28 w9 rfl (by omega) (by decide) ?_
          refine z_iload_n dX6_isNeeded_29 rfl ?_
          refine z_icmp_eq (tgt := 60) dX6_isNeeded_30 (by decide) (fun h30 => ?_) (fun h30 => ?_)
          · refine z_iload_n dX6_isNeeded_60 rfl ?_
            refine z_if_ne (tgt := 75) dX6_isNeeded_61 (by decide) (fun h61 => ?_) (fun h61 => ?_)
            · refine z_ic ki_1 dX6_isNeeded_75 ?_
              refine z_goto (tgt := 80) dX6_isNeeded_76 (by decide) ?_
              refine z_istore_n dX6_isNeeded_80 (by decide) ?_
              refine tri.take 4 ?_
              refine z_inc ki_1 dX6_isNeeded_81 rfl (by decide) ?_
              refine z_goto (tgt := 4) dX6_isNeeded_84 (by decide) ?_
              exact ih true _ _ (by rw [hN _ (hT h30), Bool.or_true]) rfl (nI_add j 1)
            · refine z_aload_n dX6_isNeeded_64 rfl rfl ?_
              refine z_getfield dX6_isNeeded_65 fg_RX6_32 (by assumption) rfl ?_
              refine z_iload dX6_isNeeded_68 rfl ?_
              refine z_iaload dX6_isNeeded_70 w9 rfl (by omega) (by decide) ?_
              refine z_iload_n dX6_isNeeded_71 rfl ?_
              refine z_icmp_ne (tgt := 79) dX6_isNeeded_72 (by decide) (fun h72 => ?_) (fun h72 => ?_)
              · refine z_ic ki_0 dX6_isNeeded_79 ?_
                refine z_istore_n dX6_isNeeded_80 (by decide) ?_
                refine tri.take 4 ?_
                refine z_inc ki_1 dX6_isNeeded_81 rfl (by decide) ?_
                refine z_goto (tgt := 4) dX6_isNeeded_84 (by decide) ?_
                exact absurd h30 h72
              · refine z_ic ki_1 dX6_isNeeded_75 ?_
                refine z_goto (tgt := 80) dX6_isNeeded_76 (by decide) ?_
                refine z_istore_n dX6_isNeeded_80 (by decide) ?_
                refine tri.take 4 ?_
                refine z_inc ki_1 dX6_isNeeded_81 rfl (by decide) ?_
                refine z_goto (tgt := 4) dX6_isNeeded_84 (by decide) ?_
                exact ih true _ _ (by rw [hN _ (hT h30), Bool.or_true]) rfl (nI_add j 1)
          · refine z_aload_n dX6_isNeeded_33 rfl rfl ?_
            refine z_getfield dX6_isNeeded_34 fg_RX6_41 (by assumption) rfl ?_
            refine z_aload_n dX6_isNeeded_37 rfl rfl ?_
            refine z_getfield dX6_isNeeded_38 fg_RX6_32 (by assumption) rfl ?_
            refine z_iload dX6_isNeeded_41 rfl ?_
            refine z_iaload dX6_isNeeded_43 w9 rfl (by omega) (by decide) ?_
            refine z_zaload dX6_isNeeded_44 w13 rfl (by omega) (by decide) ?_
            refine z_if_eq (tgt := 60) dX6_isNeeded_45 (by decide) (fun h45 => ?_) (fun h45 => ?_)
            · refine z_iload_n dX6_isNeeded_60 rfl ?_
              refine z_if_ne (tgt := 75) dX6_isNeeded_61 (by decide) (fun h61 => ?_) (fun h61 => ?_)
              · refine z_ic ki_1 dX6_isNeeded_75 ?_
                refine z_goto (tgt := 80) dX6_isNeeded_76 (by decide) ?_
                refine z_istore_n dX6_isNeeded_80 (by decide) ?_
                refine tri.take 4 ?_
                refine z_inc ki_1 dX6_isNeeded_81 rfl (by decide) ?_
                refine z_goto (tgt := 4) dX6_isNeeded_84 (by decide) ?_
                exact ih true _ _ (by rw [hN _ (hF h30 (bI_eq0.mp h45)), bI_ne0.mp h61]; rfl) rfl (nI_add j 1)
              · refine z_aload_n dX6_isNeeded_64 rfl rfl ?_
                refine z_getfield dX6_isNeeded_65 fg_RX6_32 (by assumption) rfl ?_
                refine z_iload dX6_isNeeded_68 rfl ?_
                refine z_iaload dX6_isNeeded_70 w9 rfl (by omega) (by decide) ?_
                refine z_iload_n dX6_isNeeded_71 rfl ?_
                refine z_icmp_ne (tgt := 79) dX6_isNeeded_72 (by decide) (fun h72 => ?_) (fun h72 => ?_)
                · refine z_ic ki_0 dX6_isNeeded_79 ?_
                  refine z_istore_n dX6_isNeeded_80 (by decide) ?_
                  refine tri.take 4 ?_
                  refine z_inc ki_1 dX6_isNeeded_81 rfl (by decide) ?_
                  refine z_goto (tgt := 4) dX6_isNeeded_84 (by decide) ?_
                  exact ih false _ _ (by rw [hN _ (hF h30 (bI_eq0.mp h45)), bI_eq0.mp h61]; rfl) rfl (nI_add j 1)
                · refine z_ic ki_1 dX6_isNeeded_75 ?_
                  refine z_goto (tgt := 80) dX6_isNeeded_76 (by decide) ?_
                  refine z_istore_n dX6_isNeeded_80 (by decide) ?_
                  refine tri.take 4 ?_
                  refine z_inc ki_1 dX6_isNeeded_81 rfl (by decide) ?_
                  refine z_goto (tgt := 4) dX6_isNeeded_84 (by decide) ?_
                  exact absurd h72 h30
            · refine z_aload_n dX6_isNeeded_48 rfl rfl ?_
              refine z_getfield dX6_isNeeded_49 fg_RX6_35 (by assumption) rfl ?_
              refine z_iload dX6_isNeeded_52 rfl ?_
              refine z_iaload dX6_isNeeded_54 w10 rfl (by omega) (by decide) ?_
              refine z_istore dX6_isNeeded_55 (by decide) ?_
              refine z_goto (tgt := 22) dX6_isNeeded_57 (by decide) ?_
              have hd := bI_ne0.mp h45
              obtain ⟨h3, h4⟩ := hw.bas hvw hd
              refine ihn (ρ.a 4 w) (by omega) h4 _ ?_ hbj (hb w hvw hd)
              have hne : (ρ.a 3 w == u) = false := beq_eq_false_iff_ne.mpr (fun e => h30 (by rw [e]))
              rw [ea, chL_d hw hvw hd, List.any_cons, hne, Bool.false_or]
      refine z_iload_n dX6_isNeeded_4 rfl ?_
      refine z_bi kb_100 dX6_isNeeded_5 ?_
      refine z_icmp_ge (tgt := 87) dX6_isNeeded_7 (by decide) (fun h7 => absurd h7 (nI_ge hj (by omega))) (fun h7 => ?_)
      refine z_aload_n dX6_isNeeded_10 rfl rfl ?_
      refine z_getfield dX6_isNeeded_11 fg_RX6_25 (by assumption) rfl ?_
      refine z_iload_n dX6_isNeeded_14 rfl ?_
      refine z_zaload dX6_isNeeded_15 w7 rfl (by omega) (by decide) ?_
      refine z_if_eq (tgt := 81) dX6_isNeeded_16 (by decide) (fun h16 => ?_) (fun h16 => ?_)
      · refine z_inc ki_1 dX6_isNeeded_81 rfl (by decide) ?_
        refine z_goto (tgt := 4) dX6_isNeeded_84 (by decide) ?_
        exact ih c _ _ (by rw [ndd, bI_eq0.mp h16, Bool.false_and, Bool.or_false, ec]) rfl (nI_add j 1)
      · refine z_iload_n dX6_isNeeded_19 rfl ?_
        refine z_istore dX6_isNeeded_20 (by decide) ?_
        exact inner (j + 1) j (by omega) (hw.2.2.2 j (bI_ne0.mp h16)) _ rfl (bI_ne0.mp h16) rfl
  refine z_ic ki_0 dX6_isNeeded_0 ?_
  refine z_istore_n dX6_isNeeded_1 (by decide) ?_
  refine z_ic ki_0 dX6_isNeeded_2 ?_
  refine z_istore_n dX6_isNeeded_3 (by decide) ?_
  exact loop 0 (by omega) false _ _ rfl rfl rfl
theorem c_X6_place (hW : W2 g A σ ρ x M) {u : Nat} (hu : u < 100) : con g mX6_place 0 0 [.ref (A 20 0), .int (nI u)] M (rI (oI (plc ρ u 4)) M) := by
  refine con_i ?_ (by decide) rfl rfl (by simp [lv_args, Value.category]) (by simp [lv_args, lnd, Value.category])
  have hm := hW.m
  have w16 := hW.r16
  have w18 := hW.r18
  have loop : ∀ j, j ≤ 4 → ∀ x2 x3, x2 = oI (plc ρ u j) → x3 = nI j → tri g mX6_place 0 0 (rI (oI (plc ρ u 4)) M) M 4 [(0, .ref (A 20 0)), (1, .int (nI u)), (2, .int x2), (3, .int x3)] [] := by
    refine lp_up 4 ?_ ?_
    · intro x2 x3 e2 e3
      subst e3
      refine z_iload_n dX6_place_4 rfl ?_
      refine z_ic ki_4 dX6_place_5 ?_
      refine z_icmp_ge (tgt := 73) dX6_place_6 (by decide) (fun h6 => ?_) (fun h6 => absurd (nI_le (by omega) (by omega)) h6)
      refine z_iload_n dX6_place_73 rfl ?_
      refine z_ireturn dX6_place_74 rfl (by first | rfl | exact bI_nar _) ?_
      exact rI_of (by first | rfl | assumption | simp_all)
    · intro j hj ih x2 x3 e2 e3
      subst e3
      have hlj := ldn_le ρ j 100
      refine z_iload_n dX6_place_4 rfl ?_
      refine z_ic ki_4 dX6_place_5 ?_
      refine z_icmp_ge (tgt := 73) dX6_place_6 (by decide) (fun h6 => absurd h6 (nI_ge hj (by omega))) (fun h6 => ?_)
      refine z_aload_n dX6_place_9 rfl rfl ?_
      refine z_getfield dX6_place_10 fg_RX6_56 (by assumption) rfl ?_
      refine z_iload_n dX6_place_13 rfl ?_
      refine z_zaload dX6_place_14 w18 rfl (by omega) (by decide) ?_
      refine z_if_ne (tgt := 35) dX6_place_15 (by decide) (fun h15 => ?_) (fun h15 => ?_)
      · refine z_ic ki_0 dX6_place_35 ?_
        refine z_istore dX6_place_36 (by decide) ?_
        refine z_iload dX6_place_38 rfl ?_
        refine z_if_eq (tgt := 65) dX6_place_40 (by decide) (fun h40 => ?_) (fun h40 => absurd rfl h40)
        refine z_iload_n dX6_place_65 rfl ?_
        refine z_istore_n dX6_place_66 (by decide) ?_
        refine tri.take 4 ?_
        refine z_inc ki_1 dX6_place_67 rfl (by decide) ?_
        refine z_goto (tgt := 4) dX6_place_70 (by decide) ?_
        exact ih _ _ (by rw [e2, plc, if_neg (fun q => by rw [q.1] at h15; exact h15 rfl)]) (nI_add j 1)
      · refine z_aload_n dX6_place_18 rfl rfl ?_
        refine z_getfield dX6_place_19 fg_RX6_50 (by assumption) rfl ?_
        refine z_ic ki_4 dX6_place_22 ?_
        refine z_iload_n dX6_place_23 rfl ?_
        refine z_imul dX6_place_24 ?_
        refine z_iload_n dX6_place_25 rfl ?_
        refine z_iadd dX6_place_26 ?_
        refine z_ldB4 dX6_place_27 w16 (ix4 u j) hj (by omega) (by decide) ?_
        refine z_if_ne (tgt := 35) dX6_place_28 (by decide) (fun h28 => ?_) (fun h28 => ?_)
        · refine z_ic ki_0 dX6_place_35 ?_
          refine z_istore dX6_place_36 (by decide) ?_
          refine z_iload dX6_place_38 rfl ?_
          refine z_if_eq (tgt := 65) dX6_place_40 (by decide) (fun h40 => ?_) (fun h40 => absurd rfl h40)
          refine z_iload_n dX6_place_65 rfl ?_
          refine z_istore_n dX6_place_66 (by decide) ?_
          refine tri.take 4 ?_
          refine z_inc ki_1 dX6_place_67 rfl (by decide) ?_
          refine z_goto (tgt := 4) dX6_place_70 (by decide) ?_
          exact ih _ _ (by rw [e2, plc, if_neg (fun q => by rw [q.2.1] at h28; exact h28 rfl)]) (nI_add j 1)
        · refine z_ic ki_1 dX6_place_31 ?_
          refine z_goto (tgt := 36) dX6_place_32 (by decide) ?_
          refine z_istore dX6_place_36 (by decide) ?_
          refine z_iload dX6_place_38 rfl ?_
          refine z_if_eq (tgt := 65) dX6_place_40 (by decide) (fun h40 => absurd h40 (by decide)) (fun h40 => ?_)
          refine z_iload_n dX6_place_43 rfl ?_
          refine z_ic ki_m1 dX6_place_44 ?_
          refine z_icmp_eq (tgt := 61) dX6_place_45 (by decide) (fun h45 => ?_) (fun h45 => ?_)
          · refine z_iload_n dX6_place_61 rfl ?_
            refine z_goto (tgt := 66) dX6_place_62 (by decide) ?_
            refine z_istore_n dX6_place_66 (by decide) ?_
            refine tri.take 4 ?_
            refine z_inc ki_1 dX6_place_67 rfl (by decide) ?_
            refine z_goto (tgt := 4) dX6_place_70 (by decide) ?_
            have hn := oI_none (e2 ▸ h45) (fun n hn => by have := plc_lt ρ u j n hn; omega)
            refine ih _ _ ?_ (nI_add j 1)
            rw [plc, hn, if_pos ⟨bI_eq0.mp h15, bI_eq0.mp h28, rfl⟩]
            rfl
          · obtain ⟨f, hf⟩ := oI_some (e2 ▸ h45)
            have hf4 : f < 4 := Nat.lt_of_lt_of_le (plc_lt ρ u j f hf) (Nat.le_of_lt hj)
            have hlf := ldn_le ρ f 100
            rw [hf] at e2
            have e2' : x2 = nI f := e2
            subst e2'
            refine z_aload_n dX6_place_48 rfl rfl ?_
            refine z_iload_n dX6_place_49 rfl ?_
            refine z_ivI dX6_place_50 cv_RX6_98 (by assumption) (c_X6_load g hW hj) ⟨⟨by decide, by decide⟩, (by first | exact Nat.zero_le _ | decide | omega), (by first | exact Nat.zero_le _ | decide | omega)⟩ rfl rfl (Nat.le_of_ble_eq_true rfl) ?_
            refine z_aload_n dX6_place_53 rfl rfl ?_
            refine z_iload_n dX6_place_54 rfl ?_
            refine z_ivI dX6_place_55 cv_RX6_98 (by assumption) (c_X6_load g hW hf4) ⟨⟨by decide, by decide⟩, (by first | exact Nat.zero_le _ | decide | omega), (by first | exact Nat.zero_le _ | decide | omega)⟩ rfl rfl (Nat.le_of_ble_eq_true rfl) ?_
            refine z_icmp_ge (tgt := 65) dX6_place_58 (by decide) (fun h58 => ?_) (fun h58 => ?_)
            · refine z_iload_n dX6_place_65 rfl ?_
              refine z_istore_n dX6_place_66 (by decide) ?_
              refine tri.take 4 ?_
              refine z_inc ki_1 dX6_place_67 rfl (by decide) ?_
              refine z_goto (tgt := 4) dX6_place_70 (by decide) ?_
              have hc := (nI_leI (by omega) (by omega)).mp h58
              refine ih _ _ ?_ (nI_add j 1)
              rw [plc, hf, if_neg (fun q => by have q2 := of_decide_eq_true q.2.2; omega)]
              rfl
            · refine z_iload_n dX6_place_61 rfl ?_
              refine z_goto (tgt := 66) dX6_place_62 (by decide) ?_
              refine z_istore_n dX6_place_66 (by decide) ?_
              refine tri.take 4 ?_
              refine z_inc ki_1 dX6_place_67 rfl (by decide) ?_
              refine z_goto (tgt := 4) dX6_place_70 (by decide) ?_
              have hc : ¬ _ ≤ _ := fun q => h58 ((nI_leI (by omega) (by omega)).mpr q)
              refine ih _ _ ?_ (nI_add j 1)
              rw [plc, hf, if_pos ⟨bI_eq0.mp h15, bI_eq0.mp h28, decide_eq_true (by omega)⟩]
              rfl
  refine z_ic ki_m1 dX6_place_0 ?_
  refine z_istore_n dX6_place_1 (by decide) ?_
  refine z_ic ki_0 dX6_place_2 ?_
  refine z_istore_n dX6_place_3 (by decide) ?_
  exact loop 0 (by omega) _ _ rfl rfl
theorem c_X6_places (hW : W2 g A σ ρ x M) {u : Nat} (hu : u < 100) (v : Int32) (hsh : ρ.a 5 u < 2 ^ 30) : con g mX6_places 0 0 [.ref (A 20 0), .int (nI u), .int v] M (rQ (some (.int (nI (plcn u v (ρ.a 5 u - cpc ρ u 4) ρ)))) (W2 g A σ (plcs u v (ρ.a 5 u - cpc ρ u 4) ρ) x)) := by
  refine con_i ?_ (by decide) rfl rfl (by simp [lv_args, Value.category]) (by simp [lv_args, lnd, Value.category])
  have hm := hW.m
  have loop : ∀ (k : Nat) (ρ' : ST) (n : Nat) (M' : Mem), W2 g A σ ρ' x M' → ρ'.a 5 u < 2 ^ 30 → k = ρ'.a 5 u - cpc ρ' u 4 → plcs u v (ρ.a 5 u - cpc ρ u 4) ρ = plcs u v k ρ' → plcn u v (ρ.a 5 u - cpc ρ u 4) ρ = n + plcn u v k ρ' → ∀ x3 x4, x3 = nI n → x4 = oI (plc ρ' u 4) →
      tri g mX6_places 0 0 (rQ (some (.int (nI (plcn u v (ρ.a 5 u - cpc ρ u 4) ρ)))) (W2 g A σ (plcs u v (ρ.a 5 u - cpc ρ u 4) ρ) x)) M' 9 [(0, .ref (A 20 0)), (1, .int (nI u)), (2, .int v), (3, .int x3), (4, .int x4)] [] := by
    intro k
    induction k with
    | zero =>
      intro ρ' n M' hW' hs hk ep en x3 x4 e3 e4
      have hm' := hW'.m
      have w15 := hW'.r15
      have hcl := cpc_le ρ' u 4
      refine z_aload_n dX6_places_9 rfl rfl ?_
      refine z_iload_n dX6_places_10 rfl ?_
      refine z_ivI dX6_places_11 cv_RX6_104 (by assumption) (c_X6_copies g hW' hu) ⟨⟨by decide, by decide⟩, (by first | exact Nat.zero_le _ | decide | omega), (by first | exact Nat.zero_le _ | decide | omega)⟩ rfl rfl (Nat.le_of_ble_eq_true rfl) ?_
      refine z_aload_n dX6_places_14 rfl rfl ?_
      refine z_getfield dX6_places_15 fg_RX6_47 (by assumption) rfl ?_
      refine z_iload_n dX6_places_18 rfl ?_
      refine z_iaload dX6_places_19 w15 rfl (by omega) (by decide) ?_
      refine z_icmp_ge (tgt := 66) dX6_places_20 (by decide) (fun h20 => ?_) (fun h20 => absurd (nI_le (by omega) (by omega)) h20)
      refine z_iload_n dX6_places_66 rfl ?_
      refine z_ireturn dX6_places_67 rfl (by first | rfl | exact bI_nar _) ?_
      rw [ep, en, e3]
      exact rQ_of hW'
    | succ k ih =>
      intro ρ' n M' hW' hs hk ep en x3 x4 e3 e4
      have hm' := hW'.m
      have w15 := hW'.r15
      have w16 := hW'.r16
      have w17 := hW'.r17
      have hcl := cpc_le ρ' u 4
      refine z_aload_n dX6_places_9 rfl rfl ?_
      refine z_iload_n dX6_places_10 rfl ?_
      refine z_ivI dX6_places_11 cv_RX6_104 (by assumption) (c_X6_copies g hW' hu) ⟨⟨by decide, by decide⟩, (by first | exact Nat.zero_le _ | decide | omega), (by first | exact Nat.zero_le _ | decide | omega)⟩ rfl rfl (Nat.le_of_ble_eq_true rfl) ?_
      refine z_aload_n dX6_places_14 rfl rfl ?_
      refine z_getfield dX6_places_15 fg_RX6_47 (by assumption) rfl ?_
      refine z_iload_n dX6_places_18 rfl ?_
      refine z_iaload dX6_places_19 w15 rfl (by omega) (by decide) ?_
      refine z_icmp_ge (tgt := 66) dX6_places_20 (by decide) (fun h20 => absurd h20 (nI_ge (by omega) (by omega))) (fun h20 => ?_)
      refine z_iload dX6_places_23 rfl ?_
      refine z_ic ki_m1 dX6_places_25 ?_
      refine z_icmp_eq (tgt := 66) dX6_places_26 (by decide) (fun h26 => ?_) (fun h26 => ?_)
      · refine z_iload_n dX6_places_66 rfl ?_
        refine z_ireturn dX6_places_67 rfl (by first | rfl | exact bI_nar _) ?_
        have hn := oI_none (e4 ▸ h26) (fun n hn => by have := plc_lt ρ' u 4 n hn; omega)
        rw [ep, en, e3, plcs, plcn, hn]
        exact rQ_of hW'
      · obtain ⟨s, hs4⟩ := oI_some (e4 ▸ h26)
        have hl4 := plc_lt ρ' u 4 s hs4
        have hc0 := (plc_some ρ' u 4 s hs4).1
        rw [hs4] at e4
        have e4' : x4 = nI s := e4
        subst e4'
        refine z_aload_n dX6_places_29 rfl rfl ?_
        refine z_getfield dX6_places_30 fg_RX6_50 (by assumption) rfl ?_
        refine z_ic ki_4 dX6_places_33 ?_
        refine z_iload_n dX6_places_34 rfl ?_
        refine z_imul dX6_places_35 ?_
        refine z_iload dX6_places_36 rfl ?_
        refine z_iadd dX6_places_38 ?_
        refine z_ic ki_1 dX6_places_39 ?_
        refine z_zastore dX6_places_40 w16 (ix4 u s) (by omega) (by decide) ?_
        have hW1 := hW'.pcopy u s hl4 true
        have hm1 := hW1.m
        have w17' := hW1.r17
        refine z_aload_n dX6_places_41 rfl rfl ?_
        refine z_getfield dX6_places_42 fg_RX6_53 hm1 rfl ?_
        refine z_ic ki_4 dX6_places_45 ?_
        refine z_iload_n dX6_places_46 rfl ?_
        refine z_imul dX6_places_47 ?_
        refine z_iload dX6_places_48 rfl ?_
        refine z_iadd dX6_places_50 ?_
        refine z_iload_n dX6_places_51 rfl ?_
        refine z_iastore dX6_places_52 w17' (ix4 u s) (by omega) (by decide) ?_
        have hW2 := (hW1.phas u s hl4 v).pg s (ρ'.a 7 s + 1)
        have hm2 := hW2.m
        refine z_inc ki_1 dX6_places_53 rfl (by decide) ?_
        refine z_aload_n dX6_places_56 rfl rfl ?_
        refine z_iload_n dX6_places_57 rfl ?_
        refine z_ivI dX6_places_58 cv_RX6_101 hm2 (c_X6_place g hW2 hu) ⟨⟨by decide, by decide⟩, (by first | exact Nat.zero_le _ | decide | omega), (by first | exact Nat.zero_le _ | decide | omega)⟩ rfl rfl (Nat.le_of_ble_eq_true rfl) ?_
        refine z_istore dX6_places_61 (by decide) ?_
        refine z_goto (tgt := 9) dX6_places_63 (by decide) ?_
        refine ih (((ρ'.sc u s true).sh u s v).sa 7 s (ρ'.a 7 s + 1)) (n + 1) _ hW2 hs ?_ ?_ ?_ _ _ (by rw [e3]; exact nI_add n 1) rfl
        · show k = ρ'.a 5 u - cpc (ρ'.sc u s true) u 4
          rw [cpc_set ρ' u s hc0, if_pos hl4]
          omega
        · rw [ep, plcs, hs4]
        · have e9 : plcn u v (k + 1) ρ' = plcn u v k (((ρ'.sc u s true).sh u s v).sa 7 s (ρ'.a 7 s + 1)) + 1 := by rw [plcn, hs4]
          rw [en, e9]
          omega
  refine z_ic ki_0 dX6_places_0 ?_
  refine z_istore_n dX6_places_1 (by decide) ?_
  refine z_aload_n dX6_places_2 rfl rfl ?_
  refine z_iload_n dX6_places_3 rfl ?_
  refine z_ivI dX6_places_4 cv_RX6_101 (by assumption) (c_X6_place g hW hu) ⟨⟨by decide, by decide⟩, (by first | exact Nat.zero_le _ | decide | omega), (by first | exact Nat.zero_le _ | decide | omega)⟩ rfl rfl (Nat.le_of_ble_eq_true rfl) ?_
  refine z_istore dX6_places_7 (by decide) ?_
  exact loop _ ρ 0 M hW hsh rfl rfl (Nat.zero_add _).symm _ _ rfl rfl
end REF3
