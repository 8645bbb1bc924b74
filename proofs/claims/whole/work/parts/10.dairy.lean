set_option maxHeartbeats 4000000 in
set_option maxRecDepth 100000 in
theorem ct_X0_wheelAt (l : Launch) (G : GG) (X : XX) (o : OO) (d : Nat) (hd : d < 2) (D : DD) (i : Nat) (hi : i < 4) (p0 : Int32) : CT l yX0_wheelAt cX0_wheelAt 2 (some .int) 0 0 0 0 G [.ref (aX G d (24 + i)), .int p0] (va_up X d D) o (some (.int (wAt (D (28 + i)) p0))) (va_up X d D) o := by
  refine CT_of (own := RX0) (lv := [(0, .ref (aX G d (24 + i))), (1, .int p0)]) (by decide) rfl (Nat.le_of_ble_eq_true rfl) rfl ?_
  intro p e s m args below meth c hr hC
  refine J_iload_n hC (j := 1) dX0_wheelAt_0 rfl rfl ?_
  refine J_if_lt (tgt := 22) hC dX0_wheelAt_1 (by decide) (fun c1 => ?_) (fun c1 => ?_)
  · refine J_iconst (v := (-1)) hC dX0_wheelAt_22 (by decide) ?_
    exact J_iret hC hr (by simp [wAt, c1]) rfl rfl dX0_wheelAt_23
  · refine J_iload_n hC (j := 1) dX0_wheelAt_4 rfl rfl ?_
    refine J_aload_n hC (j := 0) dX0_wheelAt_5 rfl rfl ?_
    refine J_get hC (nl_ce hd hi) (ent_ce hd hi) rfl in0 2 (by decide) rfl qw_74 rfl rfl dX0_wheelAt_6 ?_
    refine J_alen (t := 0) (v := 10) hC (nl_bo hd hi) (ent_bo hd hi) rfl rfl dX0_wheelAt_9 ?_
    refine J_icmp_ge (tgt := 22) hC dX0_wheelAt_10 (by decide) (fun c10 => ?_) (fun c10 => ?_)
    · refine J_iconst (v := (-1)) hC dX0_wheelAt_22 (by decide) ?_
      exact J_iret hC hr (by simp [wAt, c1, c10]) rfl rfl dX0_wheelAt_23
    · refine J_aload_n hC (j := 0) dX0_wheelAt_13 rfl rfl ?_
      refine J_get hC (nl_ce hd hi) (ent_ce hd hi) rfl in0 2 (by decide) rfl qw_74 rfl rfl dX0_wheelAt_14 ?_
      refine J_iload_n hC (j := 1) dX0_wheelAt_17 rfl rfl ?_
      refine J_iald (x := (D (28 + i) (ix p0))) hC (nl_bo hd hi) (ent_bo hd hi) (vp_c (M := 10) (by decide) c1 c10) (iv rF) dX0_wheelAt_18 ?_
      refine J_goto (tgt := 23) hC dX0_wheelAt_19 (by decide) ?_
      exact J_iret hC hr (by simp [wAt, c1, c10]) rfl rfl dX0_wheelAt_23
set_option maxHeartbeats 4000000 in
set_option maxRecDepth 100000 in
theorem ct_X0_putAt (l : Launch) (G : GG) (X : XX) (o : OO) (d : Nat) (hd : d < 2) (D : DD) (i : Nat) (hi : i < 4) (p0 : Int32) (p1 : Int32) : CT l yX0_putAt cX0_putAt 3 none 0 0 0 0 G [.ref (aX G d (24 + i)), .int p0, .int p1] (va_up X d D) o none (va_up X d (va_up D (28 + i) (pAt (D (28 + i)) p0 p1))) o := by
  refine CT_of (own := RX0) (lv := [(0, .ref (aX G d (24 + i))), (1, .int p0), (2, .int p1)]) (by decide) rfl (Nat.le_of_ble_eq_true rfl) rfl ?_
  intro p e s m args below meth c hr hC
  refine J_iload_n hC (j := 1) dX0_putAt_0 rfl rfl ?_
  refine J_if_lt (tgt := 20) hC dX0_putAt_1 (by decide) (fun c1 => ?_) (fun c1 => ?_)
  · exact J_vret hC hr (congrArg (va_up X d) (by simp [pAt, va_up_eq, c1])) rfl dX0_putAt_20
  · refine J_iload_n hC (j := 1) dX0_putAt_4 rfl rfl ?_
    refine J_aload_n hC (j := 0) dX0_putAt_5 rfl rfl ?_
    refine J_get hC (nl_ce hd hi) (ent_ce hd hi) rfl in0 2 (by decide) rfl qw_74 rfl rfl dX0_putAt_6 ?_
    refine J_alen (t := 0) (v := 10) hC (nl_bo hd hi) (ent_bo hd hi) rfl rfl dX0_putAt_9 ?_
    refine J_icmp_ge (tgt := 20) hC dX0_putAt_10 (by decide) (fun c10 => ?_) (fun c10 => ?_)
    · exact J_vret hC hr (congrArg (va_up X d) (by simp [pAt, va_up_eq, c1, c10])) rfl dX0_putAt_20
    · refine J_aload_n hC (j := 0) dX0_putAt_13 rfl rfl ?_
      refine J_get hC (nl_ce hd hi) (ent_ce hd hi) rfl in0 2 (by decide) rfl qw_74 rfl rfl dX0_putAt_14 ?_
      refine J_iload_n hC (j := 1) dX0_putAt_17 rfl rfl ?_
      refine J_iload_n hC (j := 2) dX0_putAt_18 rfl rfl ?_
      refine J_iast (X' := (va_up X d (va_up D (28 + i) (va_up (D (28 + i)) (ix p0) p1)))) hC (nl_bo hd hi) (ent_bo hd hi) (vp_c (M := 10) (by decide) c1 c10) (pu_boF hd hi) dX0_putAt_19 ?_
      exact J_vret hC hr (congrArg (fun w => va_up X d (va_up D (28 + i) w)) (by simp [pAt, va_up_eq, c1, c10])) rfl dX0_putAt_20
set_option maxHeartbeats 4000000 in
set_option maxRecDepth 100000 in
theorem ct_X0_growthThatLeaps (l : Launch) (G : GG) (X : XX) (o : OO) (d : Nat) (hd : d < 2) (D : DD) (i : Nat) (hi : i < 4) : CT l yX0_growthThatLeaps cX0_growthThatLeaps 1 (some .int) 0 0 0 0 G [.ref (aX G d (24 + i))] (va_up X d D) o (some (.int (gtl (D (24 + i))))) (va_up X d D) o := by
  refine CT_of (own := RX0) (lv := [(0, .ref (aX G d (24 + i)))]) (by decide) rfl (Nat.le_of_ble_eq_true rfl) rfl ?_
  intro p e s m args below meth c hr hC
  refine J_aload_n hC (j := 0) dX0_growthThatLeaps_0 rfl rfl ?_
  refine J_get hC (nl_ce hd hi) (ent_ce hd hi) rfl in0 1 (by decide) rfl qw_71 rfl rF dX0_growthThatLeaps_1 ?_
  refine J_bipush (v := 6) hC dX0_growthThatLeaps_4 (by decide) ?_
  refine J_icmp_lt (tgt := 13) hC dX0_growthThatLeaps_6 (by decide) (fun c6 => ?_) (fun c6 => ?_)
  · refine J_iconst (v := 5) hC dX0_growthThatLeaps_13 (by decide) ?_
    exact J_iret hC hr (by simp [gtl, c6]) rfl rfl dX0_growthThatLeaps_14
  · refine J_iconst (v := 3) hC dX0_growthThatLeaps_9 (by decide) ?_
    refine J_goto (tgt := 14) hC dX0_growthThatLeaps_10 (by decide) ?_
    exact J_iret hC hr (by simp [gtl, c6]) rfl rfl dX0_growthThatLeaps_14
set_option maxHeartbeats 4000000 in
set_option maxRecDepth 100000 in
theorem ct_X0_firstFreePlace (l : Launch) (G : GG) (X : XX) (o : OO) (d : Nat) (hd : d < 2) (D : DD) (q : Nat) (hi : q < 4) : CT l yX0_firstFreePlace cX0_firstFreePlace 2 (some .int) 1 21 0 0 G [.ref (aX G d (24 + q))] (va_up X d D) o (some (.int (ffp (D (28 + q)) 10 0))) (va_up X d D) o := by
  refine CT_of (own := RX0) (lv := [(0, .ref (aX G d (24 + q)))]) (by decide) rfl (Nat.le_of_ble_eq_true rfl) rfl ?_
  intro p e s m args below meth c hr hC
  refine J_iconst (v := 0) hC dX0_firstFreePlace_0 (by decide) ?_
  refine J_istore_n (lv' := [(1, .int 0), (0, .ref (aX G d (24 + q)))]) hC dX0_firstFreePlace_1 rfl (by decide) rfl ?_
  have L2 : ∀ n i : Nat, i + n = 10 → (ffp (D (28 + q)) 10 0 = ffp (D (28 + q)) n i) → Jd p l e ({ frames := 1, cells := 0, slots := 0, locals := 21 }) s m args below meth c (MQ below (CQ G (some (.int (ffp (D (28 + q)) 10 0))) (va_up X d D) o) args s 0 0 (gB G)) G 2 0 0 (va_up X d D) o 2 [(1, .int (nI i)), (0, .ref (aX G d (24 + q)))] [] := by
    intro n
    induction n with
    | zero =>
      intro i hn hv
      obtain rfl : i = 10 := by omega
      refine J_iload_n hC (j := 0) dX0_firstFreePlace_2 rfl rfl ?_
      refine J_bipush (v := 10) hC dX0_firstFreePlace_3 (by decide) ?_
      refine J_icmp_ge (tgt := 25) hC dX0_firstFreePlace_5 (by decide) (fun c5 => ?_) (fun c5 => absurd c5 (not_not_intro (le_nI (K := 10) rfl (by omega) (by omega))))
      refine J_iconst (v := (-1)) hC dX0_firstFreePlace_25 (by decide) ?_
      exact J_iret hC hr (by rw [hv]; simp [ffp]) rfl rfl dX0_firstFreePlace_26
    | succ n ih =>
      intro i hn hv
      refine J_iload_n hC (j := 0) dX0_firstFreePlace_2 rfl rfl ?_
      refine J_bipush (v := 10) hC dX0_firstFreePlace_3 (by decide) ?_
      refine J_icmp_ge (tgt := 25) hC dX0_firstFreePlace_5 (by decide) (fun c5 => absurd c5 (nle_nI (K := 10) rfl (by omega) (by omega))) (fun c5 => ?_)
      refine J_aload_n hC (j := 1) dX0_firstFreePlace_8 rfl rfl ?_
      refine J_iload_n hC (j := 0) dX0_firstFreePlace_9 rfl rfl ?_
      refine J_callV hC (ct_X0_wheelAt l G X o d hd D q hi (nI i)) mw_X0_wheelAt qw_624 (nl_ce hd hi) (ent_ce hd hi) rfl rfl rfl (Nat.le_of_ble_eq_true rfl) ⟨Nat.le_of_ble_eq_true rfl, Nat.le_of_ble_eq_true rfl⟩ ⟨Nat.le_of_ble_eq_true rfl, Nat.le_of_ble_eq_true rfl⟩ dX0_firstFreePlace_10 ?_
      refine J_iconst (v := (-1)) hC dX0_firstFreePlace_13 (by decide) ?_
      refine J_icmp_ne (tgt := 19) hC dX0_firstFreePlace_14 (by decide) (fun c14 => ?_) (fun c14 => ?_)
      · refine J_iinc (j := 0) (v := ((nI i) + 1)) (lv' := [(1, .int ((nI i) + 1)), (0, .ref (aX G d (24 + q)))]) hC dX0_firstFreePlace_19 rfl rfl (by decide) rfl ?_
        refine J_goto (tgt := 2) hC dX0_firstFreePlace_22 (by decide) ?_
        refine J_lv [0, 1] (lv' := [(1, .int ((nI i) + 1)), (0, .ref (aX G d (24 + q)))]) rfl ?_
        exact J_cast rfl (by simp [nI_succ, c14]) rfl (ih (i + 1) (by omega) (by rw [hv]; simp [ffp, c14]))
      · refine J_iload_n hC (j := 0) dX0_firstFreePlace_17 rfl rfl ?_
        exact J_iret hC hr (by rw [hv]; simp [ffp, c14]) rfl rfl dX0_firstFreePlace_18
  refine J_lv [0, 1] (lv' := [(1, .int 0), (0, .ref (aX G d (24 + q)))]) rfl ?_
  exact J_cast rfl (by first | rfl | simp []) rfl (L2 10 0 (by omega) rfl)
set_option maxHeartbeats 4000000 in
set_option maxRecDepth 100000 in
theorem ct_J9_floorMod_7cf53 (l : Launch) (G : GG) (X : XX) (o : OO) (p0 p1 : Int32) (hp : ¬ p1 = 0) : CT l yJ9_floorMod_7cf53 cJ9_floorMod_7cf53 3 (some .int) 0 0 0 0 G [.int p0, .int p1] X o (some (.int (fmod p0 p1))) X o := by
  refine CT_ofF (own := RJ9) (lv := [(0, .int p0), (1, .int p1)]) (by decide +kernel) rfl (Nat.le_of_ble_eq_true rfl) rfl ?_
  intro p e s m args below meth c hr hC
  refine J_iload_n hC (j := 0) dJ9_floorMod_7cf53_0 rfl rfl ?_
  refine J_iload_n hC (j := 1) dJ9_floorMod_7cf53_1 rfl rfl ?_
  refine J_irem hC dJ9_floorMod_7cf53_2 hp ?_
  refine J_istore_n (lv' := [(2, .int (irem p0 p1)), (0, .int p0), (1, .int p1)]) hC dJ9_floorMod_7cf53_3 rfl (by decide) rfl ?_
  refine J_iload_n hC (j := 1) dJ9_floorMod_7cf53_4 rfl rfl ?_
  refine J_iload_n hC (j := 2) dJ9_floorMod_7cf53_5 rfl rfl ?_
  refine J_ixor hC dJ9_floorMod_7cf53_6 ?_
  refine J_if_ge (tgt := 18) hC dJ9_floorMod_7cf53_7 (by decide) (fun c7 => ?_) (fun c7 => ?_)
  · refine J_iload_n hC (j := 0) dJ9_floorMod_7cf53_18 rfl rfl ?_
    exact J_iret hC hr (by simp [fmod, c7]) rfl rfl dJ9_floorMod_7cf53_19
  · refine J_iload_n hC (j := 0) dJ9_floorMod_7cf53_10 rfl rfl ?_
    refine J_if_eq (tgt := 18) hC dJ9_floorMod_7cf53_11 (by decide) (fun c11 => ?_) (fun c11 => ?_)
    · refine J_iload_n hC (j := 0) dJ9_floorMod_7cf53_18 rfl rfl ?_
      exact J_iret hC hr (by simp [fmod, c7, c11]) rfl rfl dJ9_floorMod_7cf53_19
    · refine J_iload_n hC (j := 0) dJ9_floorMod_7cf53_14 rfl rfl ?_
      refine J_iload_n hC (j := 2) dJ9_floorMod_7cf53_15 rfl rfl ?_
      refine J_iadd hC dJ9_floorMod_7cf53_16 ?_
      exact J_iret hC hr (by simp [fmod, c7, c11]) rfl rfl dJ9_floorMod_7cf53_17
set_option maxHeartbeats 4000000 in
set_option maxRecDepth 100000 in
theorem ct_X2_workOn (l : Launch) (G : GG) (X : XX) (o : OO) (d : Nat) (hd : d < 2) (D : DD) (i : Nat) (hi : i < 4) (p0 : Int32) : CT l yX2_workOn cX2_workOn 3 (some .int) 1 22 0 0 G [.ref (aX G d (32 + i)), .int p0] (va_up X d D) o (some (.int (wOn (D (36 + i)) p0))) (va_up X d D) o := by
  refine CT_of (own := RX2) (lv := [(0, .ref (aX G d (32 + i))), (1, .int p0)]) (by decide) rfl (Nat.le_of_ble_eq_true rfl) rfl ?_
  intro p e s m args below meth c hr hC
  refine J_iload_n hC (j := 1) dX2_workOn_0 rfl rfl ?_
  refine J_bipush (v := 7) hC dX2_workOn_1 (by decide) ?_
  refine J_callS hC (ct_J9_floorMod_7cf53 l G (va_up X d D) o p0 7 (by decide)) ms_J9_floorMod_7cf53 qw_279 rfl rfl (Nat.le_of_ble_eq_true rfl) ⟨Nat.le_of_ble_eq_true rfl, Nat.le_of_ble_eq_true rfl⟩ ⟨Nat.le_of_ble_eq_true rfl, Nat.le_of_ble_eq_true rfl⟩ dX2_workOn_3 ?_
  refine J_istore_n (lv' := [(2, .int (fmod p0 7)), (0, .ref (aX G d (32 + i))), (1, .int p0)]) hC dX2_workOn_6 rfl (by decide) rfl ?_
  refine J_iload_n hC (j := 0) dX2_workOn_7 rfl rfl ?_
  refine J_if_lt (tgt := 29) hC dX2_workOn_8 (by decide) (fun c8 => ?_) (fun c8 => ?_)
  · refine J_iconst (v := 0) hC dX2_workOn_29 (by decide) ?_
    exact J_iret hC hr (by simp [wOn, c8]) rfl rfl dX2_workOn_30
  · refine J_iload_n hC (j := 0) dX2_workOn_11 rfl rfl ?_
    refine J_aload_n hC (j := 1) dX2_workOn_12 rfl rfl ?_
    refine J_get hC (nl_mk hd hi) (ent_mk hd hi) rfl in2 4 (by decide) rfl qw_140 rfl rfl dX2_workOn_13 ?_
    refine J_alen (t := 0) (v := 7) hC (nl_ro hd hi) (ent_ro hd hi) rfl rfl dX2_workOn_16 ?_
    refine J_icmp_ge (tgt := 29) hC dX2_workOn_17 (by decide) (fun c17 => ?_) (fun c17 => ?_)
    · refine J_iconst (v := 0) hC dX2_workOn_29 (by decide) ?_
      exact J_iret hC hr (by simp [wOn, c8, c17]) rfl rfl dX2_workOn_30
    · refine J_aload_n hC (j := 1) dX2_workOn_20 rfl rfl ?_
      refine J_get hC (nl_mk hd hi) (ent_mk hd hi) rfl in2 4 (by decide) rfl qw_140 rfl rfl dX2_workOn_21 ?_
      refine J_iload_n hC (j := 0) dX2_workOn_24 rfl rfl ?_
      refine J_iald (x := (D (36 + i) (ix (fmod p0 7)))) hC (nl_ro hd hi) (ent_ro hd hi) (vp_c (M := 7) (by decide) c8 c17) (iv rF) dX2_workOn_25 ?_
      refine J_goto (tgt := 30) hC dX2_workOn_26 (by decide) ?_
      exact J_iret hC hr (by simp [wOn, c8, c17]) rfl rfl dX2_workOn_30
set_option maxHeartbeats 4000000 in
set_option maxRecDepth 100000 in
theorem ct_X2_putWork (l : Launch) (G : GG) (X : XX) (o : OO) (d : Nat) (hd : d < 2) (D : DD) (i : Nat) (hi : i < 4) (p0 : Int32) (p1 : Int32) : CT l yX2_putWork cX2_putWork 3 none 0 0 0 0 G [.ref (aX G d (32 + i)), .int p0, .int p1] (va_up X d D) o none (va_up X d (va_up D (36 + i) (pWk (D (36 + i)) p0 p1))) o := by
  refine CT_of (own := RX2) (lv := [(0, .ref (aX G d (32 + i))), (1, .int p0), (2, .int p1)]) (by decide) rfl (Nat.le_of_ble_eq_true rfl) rfl ?_
  intro p e s m args below meth c hr hC
  refine J_iload_n hC (j := 1) dX2_putWork_0 rfl rfl ?_
  refine J_if_lt (tgt := 20) hC dX2_putWork_1 (by decide) (fun c1 => ?_) (fun c1 => ?_)
  · exact J_vret hC hr (congrArg (va_up X d) (by simp [pWk, va_up_eq, c1])) rfl dX2_putWork_20
  · refine J_iload_n hC (j := 1) dX2_putWork_4 rfl rfl ?_
    refine J_aload_n hC (j := 0) dX2_putWork_5 rfl rfl ?_
    refine J_get hC (nl_mk hd hi) (ent_mk hd hi) rfl in2 4 (by decide) rfl qw_140 rfl rfl dX2_putWork_6 ?_
    refine J_alen (t := 0) (v := 7) hC (nl_ro hd hi) (ent_ro hd hi) rfl rfl dX2_putWork_9 ?_
    refine J_icmp_ge (tgt := 20) hC dX2_putWork_10 (by decide) (fun c10 => ?_) (fun c10 => ?_)
    · exact J_vret hC hr (congrArg (va_up X d) (by simp [pWk, va_up_eq, c1, c10])) rfl dX2_putWork_20
    · refine J_aload_n hC (j := 0) dX2_putWork_13 rfl rfl ?_
      refine J_get hC (nl_mk hd hi) (ent_mk hd hi) rfl in2 4 (by decide) rfl qw_140 rfl rfl dX2_putWork_14 ?_
      refine J_iload_n hC (j := 1) dX2_putWork_17 rfl rfl ?_
      refine J_iload_n hC (j := 2) dX2_putWork_18 rfl rfl ?_
      refine J_iast (X' := (va_up X d (va_up D (36 + i) (va_up (D (36 + i)) (ix p0) p1)))) hC (nl_ro hd hi) (ent_ro hd hi) (vp_c (M := 7) (by decide) c1 c10) (pu_roF hd hi) dX2_putWork_19 ?_
      exact J_vret hC hr (congrArg (fun w => va_up X d (va_up D (36 + i) w)) (by simp [pWk, va_up_eq, c1, c10])) rfl dX2_putWork_20
set_option maxHeartbeats 4000000 in
set_option maxRecDepth 100000 in
theorem ct_X2_fact (l : Launch) (G : GG) (X : XX) (o : OO) (d : Nat) (hd : d < 2) (D : DD) (i : Nat) (hi : i < 4) (p0 : Int32) (p1 : Int32) : CT l yX2_fact cX2_fact 3 (some .int) 2 44 0 0 G [.ref (aX G d (32 + i)), .int p0, .int p1] (va_up X d D) o (some (.int (mFact (D (32 + i)) (D (36 + i)) p0 p1))) (va_up X d D) o := by
  refine CT_of (own := RX2) (lv := [(0, .ref (aX G d (32 + i))), (1, .int p0), (2, .int p1)]) (by decide) rfl (Nat.le_of_ble_eq_true rfl) rfl ?_
  intro p e s m args below meth c hr hC
  refine J_iload_n hC (j := 1) dX2_fact_0 rfl rfl ?_
  by_cases c1_0 : p0 = 0
  · refine J_tableIn (off := 31) (tgt := 32) hC dX2_fact_1 (by rw [c1_0]; decide) (by rw [c1_0]; decide) (by rw [c1_0]; decide) (by decide) ?_
    refine J_aload_n hC (j := 0) dX2_fact_32 rfl rfl ?_
    refine J_get hC (nl_mk hd hi) (ent_mk hd hi) rfl in2 0 (by decide) rfl qw_132 rfl rF dX2_fact_33 ?_
    exact J_iret hC hr (by simp [mFact, c1_0]) rfl rfl dX2_fact_36
  by_cases c1_1 : p0 = 1
  · refine J_tableIn (off := 36) (tgt := 37) hC dX2_fact_1 (by rw [c1_1]; decide) (by rw [c1_1]; decide) (by rw [c1_1]; decide) (by decide) ?_
    refine J_aload_n hC (j := 0) dX2_fact_37 rfl rfl ?_
    refine J_get hC (nl_mk hd hi) (ent_mk hd hi) rfl in2 1 (by decide) rfl qw_134 rfl rF dX2_fact_38 ?_
    exact J_iret hC hr (by simp [mFact, c1_0, c1_1]) rfl rfl dX2_fact_41
  by_cases c1_2 : p0 = 2
  · refine J_tableIn (off := 41) (tgt := 42) hC dX2_fact_1 (by rw [c1_2]; decide) (by rw [c1_2]; decide) (by rw [c1_2]; decide) (by decide) ?_
    refine J_aload_n hC (j := 0) dX2_fact_42 rfl rfl ?_
    refine J_get hC (nl_mk hd hi) (ent_mk hd hi) rfl in2 2 (by decide) rfl qw_136 rfl rF dX2_fact_43 ?_
    exact J_iret hC hr (by simp [mFact, c1_0, c1_1, c1_2]) rfl rfl dX2_fact_46
  by_cases c1_3 : p0 = 3
  · refine J_tableIn (off := 46) (tgt := 47) hC dX2_fact_1 (by rw [c1_3]; decide) (by rw [c1_3]; decide) (by rw [c1_3]; decide) (by decide) ?_
    refine J_aload_n hC (j := 0) dX2_fact_47 rfl rfl ?_
    refine J_get hC (nl_mk hd hi) (ent_mk hd hi) rfl in2 3 (by decide) rfl qw_138 rfl rF dX2_fact_48 ?_
    exact J_iret hC hr (by simp [mFact, c1_0, c1_1, c1_2, c1_3]) rfl rfl dX2_fact_51
  refine J_tableOut (tgt := 52) hC dX2_fact_1 (sw4 c1_0 c1_1 c1_2 c1_3) (by decide) ?_
  refine J_aload_n hC (j := 0) dX2_fact_52 rfl rfl ?_
  refine J_iload_n hC (j := 2) dX2_fact_53 rfl rfl ?_
  refine J_callV hC (ct_X2_workOn l G X o d hd D i hi p1) mw_X2_workOn qw_275 (nl_mk hd hi) (ent_mk hd hi) rfl rfl rfl (Nat.le_of_ble_eq_true rfl) ⟨Nat.le_of_ble_eq_true rfl, Nat.le_of_ble_eq_true rfl⟩ ⟨Nat.le_of_ble_eq_true rfl, Nat.le_of_ble_eq_true rfl⟩ dX2_fact_54 ?_
  exact J_iret hC hr (by simp [mFact, c1_0, c1_1, c1_2, c1_3]) rfl rfl dX2_fact_57
set_option maxHeartbeats 4000000 in
set_option maxRecDepth 100000 in
theorem ct_X1_cellarOf (l : Launch) (G : GG) (X : XX) (o : OO) (d : Nat) (hd : d < 2) (D : DD) (p0 : Int32) : CT l yX1_cellarOf cX1_cellarOf 3 (some (.object "CheeseRota$Cellar")) 0 0 0 0 G [.ref (aX G d 40), .int p0] (va_up X d D) o (some (ceV G d D p0)) (va_up X d D) o := by
  refine CT_of (own := RX1) (lv := [(0, .ref (aX G d 40)), (1, .int p0)]) (by decide) rfl (Nat.le_of_ble_eq_true rfl) rfl ?_
  intro p e s m args below meth c hr hC
  refine J_iload_n hC (j := 1) dX1_cellarOf_0 rfl rfl ?_
  refine J_if_lt (tgt := 25) hC dX1_cellarOf_1 (by decide) (fun c1 => ?_) (fun c1 => ?_)
  · refine J_iconst (v := 0) hC dX1_cellarOf_25 (by decide) ?_
    refine J_istore_n (lv' := [(2, .int 0), (0, .ref (aX G d 40)), (1, .int p0)]) hC dX1_cellarOf_26 rfl (by decide) rfl ?_
    refine J_iload_n hC (j := 0) dX1_cellarOf_27 rfl rfl ?_
    refine J_if_eq (tgt := 40) hC dX1_cellarOf_28 (by decide) (fun _ => ?_) (fun h => absurd h (by decide))
    refine J_null hC dX1_cellarOf_40 ?_
    exact J_aret hC hr (Or.inl rfl) (by simp [ceV, inC, c1]) rfl rfl dX1_cellarOf_41
  · refine J_iload_n hC (j := 1) dX1_cellarOf_4 rfl rfl ?_
    refine J_aload_n hC (j := 0) dX1_cellarOf_5 rfl rfl ?_
    refine J_get hC (nl_da hd) (ent_da hd) rfl in1 2 (by decide) rfl qw_156 rfl rF dX1_cellarOf_6 ?_
    refine J_icmp_ge (tgt := 25) hC dX1_cellarOf_9 (by decide) (fun c9 => ?_) (fun c9 => ?_)
    · refine J_iconst (v := 0) hC dX1_cellarOf_25 (by decide) ?_
      refine J_istore_n (lv' := [(2, .int 0), (0, .ref (aX G d 40)), (1, .int p0)]) hC dX1_cellarOf_26 rfl (by decide) rfl ?_
      refine J_iload_n hC (j := 0) dX1_cellarOf_27 rfl rfl ?_
      refine J_if_eq (tgt := 40) hC dX1_cellarOf_28 (by decide) (fun _ => ?_) (fun h => absurd h (by decide))
      refine J_null hC dX1_cellarOf_40 ?_
      exact J_aret hC hr (Or.inl rfl) (by simp [ceV, inC, c1, c9]) rfl rfl dX1_cellarOf_41
    · refine J_iload_n hC (j := 1) dX1_cellarOf_12 rfl rfl ?_
      refine J_aload_n hC (j := 0) dX1_cellarOf_13 rfl rfl ?_
      refine J_get hC (nl_da hd) (ent_da hd) rfl in1 5 (by decide) rfl qw_162 rfl rfl dX1_cellarOf_14 ?_
      refine J_alen (t := 1) (v := 4) hC (nl_ca hd) (ent_ca hd) rfl rfl dX1_cellarOf_17 ?_
      refine J_icmp_ge (tgt := 25) hC dX1_cellarOf_18 (by decide) (fun c18 => ?_) (fun c18 => ?_)
      · refine J_iconst (v := 0) hC dX1_cellarOf_25 (by decide) ?_
        refine J_istore_n (lv' := [(2, .int 0), (0, .ref (aX G d 40)), (1, .int p0)]) hC dX1_cellarOf_26 rfl (by decide) rfl ?_
        refine J_iload_n hC (j := 0) dX1_cellarOf_27 rfl rfl ?_
        refine J_if_eq (tgt := 40) hC dX1_cellarOf_28 (by decide) (fun _ => ?_) (fun h => absurd h (by decide))
        refine J_null hC dX1_cellarOf_40 ?_
        exact J_aret hC hr (Or.inl rfl) (by simp [ceV, inC, c1, c9, c18]) rfl rfl dX1_cellarOf_41
      · refine J_iconst (v := 1) hC dX1_cellarOf_21 (by decide) ?_
        refine J_goto (tgt := 26) hC dX1_cellarOf_22 (by decide) ?_
        refine J_istore_n (lv' := [(2, .int 1), (0, .ref (aX G d 40)), (1, .int p0)]) hC dX1_cellarOf_26 rfl (by decide) rfl ?_
        refine J_iload_n hC (j := 0) dX1_cellarOf_27 rfl rfl ?_
        refine J_if_eq (tgt := 40) hC dX1_cellarOf_28 (by decide) (fun h => absurd h (by decide)) (fun _ => ?_)
        refine J_aload_n hC (j := 1) dX1_cellarOf_31 rfl rfl ?_
        refine J_get hC (nl_da hd) (ent_da hd) rfl in1 5 (by decide) rfl qw_162 rfl rfl dX1_cellarOf_32 ?_
        refine J_iload_n hC (j := 2) dX1_cellarOf_35 rfl rfl ?_
        refine J_aald (t := 1) (a := (aX G d (24 + (ix p0)))) hC (nl_ca hd) (ent_ca hd) rfl (vp_c (M := 4) (by decide) c1 c18) rfl dX1_cellarOf_36 ?_
        refine J_goto (tgt := 41) hC dX1_cellarOf_37 (by decide) ?_
        exact J_aret hC hr (Or.inr ⟨_, rfl⟩) (by simp [ceV, inC, c1, c9, c18]) rfl rfl dX1_cellarOf_41
set_option maxHeartbeats 4000000 in
set_option maxRecDepth 100000 in
theorem ct_X1_wheelOf (l : Launch) (G : GG) (X : XX) (o : OO) (d : Nat) (hd : d < 2) (D : DD) (p0 : Int32) : CT l yX1_wheelOf cX1_wheelOf 3 (some (.object "CheeseRota$Wheel")) 0 0 0 0 G [.ref (aX G d 40), .int p0] (va_up X d D) o (some (whV G d D p0)) (va_up X d D) o := by
  refine CT_of (own := RX1) (lv := [(0, .ref (aX G d 40)), (1, .int p0)]) (by decide) rfl (Nat.le_of_ble_eq_true rfl) rfl ?_
  intro p e s m args below meth c hr hC
  refine J_iload_n hC (j := 1) dX1_wheelOf_0 rfl rfl ?_
  refine J_if_lt (tgt := 25) hC dX1_wheelOf_1 (by decide) (fun c1 => ?_) (fun c1 => ?_)
  · refine J_iconst (v := 0) hC dX1_wheelOf_25 (by decide) ?_
    refine J_istore_n (lv' := [(2, .int 0), (0, .ref (aX G d 40)), (1, .int p0)]) hC dX1_wheelOf_26 rfl (by decide) rfl ?_
    refine J_iload_n hC (j := 0) dX1_wheelOf_27 rfl rfl ?_
    refine J_if_eq (tgt := 40) hC dX1_wheelOf_28 (by decide) (fun _ => ?_) (fun h => absurd h (by decide))
    refine J_null hC dX1_wheelOf_40 ?_
    exact J_aret hC hr (Or.inl rfl) (by simp [whV, inW, c1]) rfl rfl dX1_wheelOf_41
  · refine J_iload_n hC (j := 1) dX1_wheelOf_4 rfl rfl ?_
    refine J_aload_n hC (j := 0) dX1_wheelOf_5 rfl rfl ?_
    refine J_get hC (nl_da hd) (ent_da hd) rfl in1 3 (by decide) rfl qw_158 rfl rF dX1_wheelOf_6 ?_
    refine J_icmp_ge (tgt := 25) hC dX1_wheelOf_9 (by decide) (fun c9 => ?_) (fun c9 => ?_)
    · refine J_iconst (v := 0) hC dX1_wheelOf_25 (by decide) ?_
      refine J_istore_n (lv' := [(2, .int 0), (0, .ref (aX G d 40)), (1, .int p0)]) hC dX1_wheelOf_26 rfl (by decide) rfl ?_
      refine J_iload_n hC (j := 0) dX1_wheelOf_27 rfl rfl ?_
      refine J_if_eq (tgt := 40) hC dX1_wheelOf_28 (by decide) (fun _ => ?_) (fun h => absurd h (by decide))
      refine J_null hC dX1_wheelOf_40 ?_
      exact J_aret hC hr (Or.inl rfl) (by simp [whV, inW, c1, c9]) rfl rfl dX1_wheelOf_41
    · refine J_iload_n hC (j := 1) dX1_wheelOf_12 rfl rfl ?_
      refine J_aload_n hC (j := 0) dX1_wheelOf_13 rfl rfl ?_
      refine J_get hC (nl_da hd) (ent_da hd) rfl in1 6 (by decide) rfl qw_163 rfl rfl dX1_wheelOf_14 ?_
      refine J_alen (t := 2) (v := 24) hC (nl_wa hd) (ent_wa hd) rfl rfl dX1_wheelOf_17 ?_
      refine J_icmp_ge (tgt := 25) hC dX1_wheelOf_18 (by decide) (fun c18 => ?_) (fun c18 => ?_)
      · refine J_iconst (v := 0) hC dX1_wheelOf_25 (by decide) ?_
        refine J_istore_n (lv' := [(2, .int 0), (0, .ref (aX G d 40)), (1, .int p0)]) hC dX1_wheelOf_26 rfl (by decide) rfl ?_
        refine J_iload_n hC (j := 0) dX1_wheelOf_27 rfl rfl ?_
        refine J_if_eq (tgt := 40) hC dX1_wheelOf_28 (by decide) (fun _ => ?_) (fun h => absurd h (by decide))
        refine J_null hC dX1_wheelOf_40 ?_
        exact J_aret hC hr (Or.inl rfl) (by simp [whV, inW, c1, c9, c18]) rfl rfl dX1_wheelOf_41
      · refine J_iconst (v := 1) hC dX1_wheelOf_21 (by decide) ?_
        refine J_goto (tgt := 26) hC dX1_wheelOf_22 (by decide) ?_
        refine J_istore_n (lv' := [(2, .int 1), (0, .ref (aX G d 40)), (1, .int p0)]) hC dX1_wheelOf_26 rfl (by decide) rfl ?_
        refine J_iload_n hC (j := 0) dX1_wheelOf_27 rfl rfl ?_
        refine J_if_eq (tgt := 40) hC dX1_wheelOf_28 (by decide) (fun h => absurd h (by decide)) (fun _ => ?_)
        refine J_aload_n hC (j := 1) dX1_wheelOf_31 rfl rfl ?_
        refine J_get hC (nl_da hd) (ent_da hd) rfl in1 6 (by decide) rfl qw_163 rfl rfl dX1_wheelOf_32 ?_
        refine J_iload_n hC (j := 2) dX1_wheelOf_35 rfl rfl ?_
        refine J_aald (t := 2) (a := (aX G d (ix p0))) hC (nl_wa hd) (ent_wa hd) rfl (vp_c (M := 24) (by decide) c1 c18) rfl dX1_wheelOf_36 ?_
        refine J_goto (tgt := 41) hC dX1_wheelOf_37 (by decide) ?_
        exact J_aret hC hr (Or.inr ⟨_, rfl⟩) (by simp [whV, inW, c1, c9, c18]) rfl rfl dX1_wheelOf_41
set_option maxHeartbeats 4000000 in
set_option maxRecDepth 100000 in
theorem ct_X1_monkOf (l : Launch) (G : GG) (X : XX) (o : OO) (d : Nat) (hd : d < 2) (D : DD) (p0 : Int32) : CT l yX1_monkOf cX1_monkOf 3 (some (.object "CheeseRota$Monk")) 0 0 0 0 G [.ref (aX G d 40), .int p0] (va_up X d D) o (some (mkV G d D p0)) (va_up X d D) o := by
  refine CT_of (own := RX1) (lv := [(0, .ref (aX G d 40)), (1, .int p0)]) (by decide) rfl (Nat.le_of_ble_eq_true rfl) rfl ?_
  intro p e s m args below meth c hr hC
  refine J_iload_n hC (j := 1) dX1_monkOf_0 rfl rfl ?_
  refine J_if_lt (tgt := 25) hC dX1_monkOf_1 (by decide) (fun c1 => ?_) (fun c1 => ?_)
  · refine J_iconst (v := 0) hC dX1_monkOf_25 (by decide) ?_
    refine J_istore_n (lv' := [(2, .int 0), (0, .ref (aX G d 40)), (1, .int p0)]) hC dX1_monkOf_26 rfl (by decide) rfl ?_
    refine J_iload_n hC (j := 0) dX1_monkOf_27 rfl rfl ?_
    refine J_if_eq (tgt := 40) hC dX1_monkOf_28 (by decide) (fun _ => ?_) (fun h => absurd h (by decide))
    refine J_null hC dX1_monkOf_40 ?_
    exact J_aret hC hr (Or.inl rfl) (by simp [mkV, inM, c1]) rfl rfl dX1_monkOf_41
  · refine J_iload_n hC (j := 1) dX1_monkOf_4 rfl rfl ?_
    refine J_aload_n hC (j := 0) dX1_monkOf_5 rfl rfl ?_
    refine J_get hC (nl_da hd) (ent_da hd) rfl in1 4 (by decide) rfl qw_160 rfl rF dX1_monkOf_6 ?_
    refine J_icmp_ge (tgt := 25) hC dX1_monkOf_9 (by decide) (fun c9 => ?_) (fun c9 => ?_)
    · refine J_iconst (v := 0) hC dX1_monkOf_25 (by decide) ?_
      refine J_istore_n (lv' := [(2, .int 0), (0, .ref (aX G d 40)), (1, .int p0)]) hC dX1_monkOf_26 rfl (by decide) rfl ?_
      refine J_iload_n hC (j := 0) dX1_monkOf_27 rfl rfl ?_
      refine J_if_eq (tgt := 40) hC dX1_monkOf_28 (by decide) (fun _ => ?_) (fun h => absurd h (by decide))
      refine J_null hC dX1_monkOf_40 ?_
      exact J_aret hC hr (Or.inl rfl) (by simp [mkV, inM, c1, c9]) rfl rfl dX1_monkOf_41
    · refine J_iload_n hC (j := 1) dX1_monkOf_12 rfl rfl ?_
      refine J_aload_n hC (j := 0) dX1_monkOf_13 rfl rfl ?_
      refine J_get hC (nl_da hd) (ent_da hd) rfl in1 7 (by decide) rfl qw_164 rfl rfl dX1_monkOf_14 ?_
      refine J_alen (t := 3) (v := 4) hC (nl_ma hd) (ent_ma hd) rfl rfl dX1_monkOf_17 ?_
      refine J_icmp_ge (tgt := 25) hC dX1_monkOf_18 (by decide) (fun c18 => ?_) (fun c18 => ?_)
      · refine J_iconst (v := 0) hC dX1_monkOf_25 (by decide) ?_
        refine J_istore_n (lv' := [(2, .int 0), (0, .ref (aX G d 40)), (1, .int p0)]) hC dX1_monkOf_26 rfl (by decide) rfl ?_
        refine J_iload_n hC (j := 0) dX1_monkOf_27 rfl rfl ?_
        refine J_if_eq (tgt := 40) hC dX1_monkOf_28 (by decide) (fun _ => ?_) (fun h => absurd h (by decide))
        refine J_null hC dX1_monkOf_40 ?_
        exact J_aret hC hr (Or.inl rfl) (by simp [mkV, inM, c1, c9, c18]) rfl rfl dX1_monkOf_41
      · refine J_iconst (v := 1) hC dX1_monkOf_21 (by decide) ?_
        refine J_goto (tgt := 26) hC dX1_monkOf_22 (by decide) ?_
        refine J_istore_n (lv' := [(2, .int 1), (0, .ref (aX G d 40)), (1, .int p0)]) hC dX1_monkOf_26 rfl (by decide) rfl ?_
        refine J_iload_n hC (j := 0) dX1_monkOf_27 rfl rfl ?_
        refine J_if_eq (tgt := 40) hC dX1_monkOf_28 (by decide) (fun h => absurd h (by decide)) (fun _ => ?_)
        refine J_aload_n hC (j := 1) dX1_monkOf_31 rfl rfl ?_
        refine J_get hC (nl_da hd) (ent_da hd) rfl in1 7 (by decide) rfl qw_164 rfl rfl dX1_monkOf_32 ?_
        refine J_iload_n hC (j := 2) dX1_monkOf_35 rfl rfl ?_
        refine J_aald (t := 3) (a := (aX G d (32 + (ix p0)))) hC (nl_ma hd) (ent_ma hd) rfl (vp_c (M := 4) (by decide) c1 c18) rfl dX1_monkOf_36 ?_
        refine J_goto (tgt := 41) hC dX1_monkOf_37 (by decide) ?_
        exact J_aret hC hr (Or.inr ⟨_, rfl⟩) (by simp [mkV, inM, c1, c9, c18]) rfl rfl dX1_monkOf_41
set_option maxHeartbeats 4000000 in
set_option maxRecDepth 100000 in
theorem ct_X1_lyingWheel (l : Launch) (G : GG) (X : XX) (o : OO) (d : Nat) (hd : d < 2) (D : DD) (p0 : Int32) : CT l yX1_lyingWheel cX1_lyingWheel 3 (some (.object "CheeseRota$Wheel")) 1 22 0 0 G [.ref (aX G d 40), .int p0] (va_up X d D) o (some (lyV G d D p0)) (va_up X d D) o := by
  refine CT_of (own := RX1) (lv := [(0, .ref (aX G d 40)), (1, .int p0)]) (by decide) rfl (Nat.le_of_ble_eq_true rfl) rfl ?_
  intro p e s m args below meth c hr hC
  refine J_aload_n hC (j := 0) dX1_lyingWheel_0 rfl rfl ?_
  refine J_iload_n hC (j := 1) dX1_lyingWheel_1 rfl rfl ?_
  refine J_callV hC (ct_X1_wheelOf l G X o d hd D p0) mw_X1_wheelOf qw_197 (nl_da hd) (ent_da hd) rfl rfl rfl (Nat.le_of_ble_eq_true rfl) ⟨Nat.le_of_ble_eq_true rfl, Nat.le_of_ble_eq_true rfl⟩ ⟨Nat.le_of_ble_eq_true rfl, Nat.le_of_ble_eq_true rfl⟩ dX1_lyingWheel_2 ?_
  by_cases h2 : inW D p0 = true
  · refine J_tv (whV_p h2) ?_
    refine J_astore_n (lv' := [(2, .ref (aX G d (ix p0))), (0, .ref (aX G d 40)), (1, .int p0)]) hC dX1_lyingWheel_5 rfl (by decide) rfl ?_
    refine J_aload_n hC (j := 0) dX1_lyingWheel_6 rfl rfl ?_
    refine J_ifnull hC dX1_lyingWheel_7 ?_
    refine J_aload_n hC (j := 0) dX1_lyingWheel_10 rfl rfl ?_
    refine J_get hC (nl_wh hd (inW_lt h2)) (ent_wh hd (inW_lt h2)) rfl in3 0 (by decide) rfl qw_89 rfl rF dX1_lyingWheel_11 ?_
    refine J_if_ne (tgt := 21) hC dX1_lyingWheel_14 (by decide) (fun c14 => ?_) (fun c14 => ?_)
    · refine J_null hC dX1_lyingWheel_21 ?_
      exact J_aret hC hr (Or.inl rfl) (by simp [lyV, lies, h2, c14]) rfl rfl dX1_lyingWheel_22
    · refine J_aload_n hC (j := 0) dX1_lyingWheel_17 rfl rfl ?_
      refine J_goto (tgt := 22) hC dX1_lyingWheel_18 (by decide) ?_
      exact J_aret hC hr (Or.inr ⟨_, rfl⟩) (by simp [lyV, lies, h2, c14]) rfl rfl dX1_lyingWheel_22
  · refine J_tv (whV_n h2) ?_
    refine J_astore_nN (lv' := [(2, .null), (0, .ref (aX G d 40)), (1, .int p0)]) hC dX1_lyingWheel_5 rfl (by decide) rfl ?_
    refine J_aload_nN hC (j := 0) dX1_lyingWheel_6 rfl rfl ?_
    refine J_ifnullN (tgt := 21) hC dX1_lyingWheel_7 (by decide) ?_
    refine J_null hC dX1_lyingWheel_21 ?_
    exact J_aret hC hr (Or.inl rfl) (by simp [lyV, lies, h2]) rfl rfl dX1_lyingWheel_22
set_option maxHeartbeats 4000000 in
set_option maxRecDepth 100000 in
theorem ct_X1_liftWheel (l : Launch) (G : GG) (X : XX) (o : OO) (d : Nat) (hd : d < 2) (D : DD) (p0 : Int32) : CT l yX1_liftWheel cX1_liftWheel 4 none 1 22 0 0 G [.ref (aX G d 40), .int p0] (va_up X d D) o none (va_up X d (liftW D p0)) o := by
  refine CT_of (own := RX1) (lv := [(0, .ref (aX G d 40)), (1, .int p0)]) (by decide) rfl (Nat.le_of_ble_eq_true rfl) rfl ?_
  intro p e s m args below meth c hr hC
  refine J_aload_n hC (j := 0) dX1_liftWheel_0 rfl rfl ?_
  refine J_iload_n hC (j := 1) dX1_liftWheel_1 rfl rfl ?_
  refine J_callV hC (ct_X1_wheelOf l G X o d hd D p0) mw_X1_wheelOf qw_197 (nl_da hd) (ent_da hd) rfl rfl rfl (Nat.le_of_ble_eq_true rfl) ⟨Nat.le_of_ble_eq_true rfl, Nat.le_of_ble_eq_true rfl⟩ ⟨Nat.le_of_ble_eq_true rfl, Nat.le_of_ble_eq_true rfl⟩ dX1_liftWheel_2 ?_
  by_cases h2 : inW D p0 = true
  · refine J_tv (whV_p h2) ?_
    refine J_astore_n (lv' := [(2, .ref (aX G d (ix p0))), (0, .ref (aX G d 40)), (1, .int p0)]) hC dX1_liftWheel_5 rfl (by decide) rfl ?_
    refine J_aload_n hC (j := 0) dX1_liftWheel_6 rfl rfl ?_
    refine J_ifnonnull (tgt := 14) hC dX1_liftWheel_7 (by decide) ?_
    refine J_aload_n hC (j := 1) dX1_liftWheel_14 rfl rfl ?_
    refine J_aload_n hC (j := 0) dX1_liftWheel_15 rfl rfl ?_
    refine J_get hC (nl_wh hd (inW_lt h2)) (ent_wh hd (inW_lt h2)) rfl in3 1 (by decide) rfl qw_92 rfl rF dX1_liftWheel_16 ?_
    refine J_callV hC (ct_X1_cellarOf l G X o d hd D (D (ix p0) 1)) mw_X1_cellarOf qw_246 (nl_da hd) (ent_da hd) rfl rfl rfl (Nat.le_of_ble_eq_true rfl) ⟨Nat.le_of_ble_eq_true rfl, Nat.le_of_ble_eq_true rfl⟩ ⟨Nat.le_of_ble_eq_true rfl, Nat.le_of_ble_eq_true rfl⟩ dX1_liftWheel_19 ?_
    by_cases h19 : inC D (D (ix p0) 1) = true
    · refine J_tv (ceV_p h19) ?_
      refine J_astore_n (lv' := [(3, .ref (aX G d (24 + (ix (D (ix p0) 1))))), (2, .ref (aX G d (ix p0))), (0, .ref (aX G d 40)), (1, .int p0)]) hC dX1_liftWheel_22 rfl (by decide) rfl ?_
      refine J_aload_n hC (j := 1) dX1_liftWheel_23 rfl rfl ?_
      refine J_ifnull hC dX1_liftWheel_24 ?_
      refine J_aload_n hC (j := 0) dX1_liftWheel_27 rfl rfl ?_
      refine J_ifnull hC dX1_liftWheel_28 ?_
      refine J_aload_n hC (j := 0) dX1_liftWheel_31 rfl rfl ?_
      refine J_aload_n hC (j := 1) dX1_liftWheel_32 rfl rfl ?_
      refine J_get hC (nl_wh hd (inW_lt h2)) (ent_wh hd (inW_lt h2)) rfl in3 2 (by decide) rfl qw_95 rfl rF dX1_liftWheel_33 ?_
      refine J_iconst (v := (-1)) hC dX1_liftWheel_36 (by decide) ?_
      refine J_callVv hC (ct_X0_putAt l G X o d hd D (ix (D (ix p0) 1)) (inC_lt h19) (D (ix p0) 2) (-1)) mw_X0_putAt qw_432 (nl_ce hd (inC_lt h19)) (ent_ce hd (inC_lt h19)) rfl rfl rfl (Nat.le_of_ble_eq_true rfl) ⟨Nat.le_of_ble_eq_true rfl, Nat.le_of_ble_eq_true rfl⟩ ⟨Nat.le_of_ble_eq_true rfl, Nat.le_of_ble_eq_true rfl⟩ dX1_liftWheel_37 ?_
      refine J_aload_n hC (j := 1) dX1_liftWheel_40 rfl rfl ?_
      refine J_iconst (v := (-1)) hC dX1_liftWheel_41 (by decide) ?_
      refine J_put (X' := (va_up X d (va_up (va_up D (28 + (ix (D (ix p0) 1))) (pAt (D (28 + (ix (D (ix p0) 1)))) (D (ix p0) 2) (-1))) (ix p0) (va_up ((va_up D (28 + (ix (D (ix p0) 1))) (pAt (D (28 + (ix (D (ix p0) 1)))) (D (ix p0) 2) (-1))) (ix p0)) 1 (-1))))) hC (nl_wh hd (inW_lt h2)) (ent_wh hd (inW_lt h2)) rfl in3 tyX3_ok nmX3 1 (by decide) rfl qw_92 rfl (by decide) (Nat.le_of_ble_eq_true rfl) (pu_whF hd (inW_lt h2) (by decide)) dX1_liftWheel_42 ?_
      refine J_aload_n hC (j := 1) dX1_liftWheel_45 rfl rfl ?_
      refine J_iconst (v := (-1)) hC dX1_liftWheel_46 (by decide) ?_
      refine J_put (X' := (va_up X d (va_up (va_up D (28 + (ix (D (ix p0) 1))) (pAt (D (28 + (ix (D (ix p0) 1)))) (D (ix p0) 2) (-1))) (ix p0) (va_up (va_up ((va_up D (28 + (ix (D (ix p0) 1))) (pAt (D (28 + (ix (D (ix p0) 1)))) (D (ix p0) 2) (-1))) (ix p0)) 1 (-1)) 2 (-1))))) hC (nl_wh hd (inW_lt h2)) (ent_wh hd (inW_lt h2)) rfl in3 tyX3_ok nmX3 2 (by decide) rfl qw_95 rfl (by decide) (Nat.le_of_ble_eq_true rfl) (pu_whW hd (inW_lt h2) (by decide)) dX1_liftWheel_47 ?_
      exact J_vret hC hr (congrArg (va_up X d) (by simp [liftW, h2, h19])) rfl dX1_liftWheel_50
    · refine J_tv (ceV_n h19) ?_
      refine J_astore_nN (lv' := [(3, .null), (2, .ref (aX G d (ix p0))), (0, .ref (aX G d 40)), (1, .int p0)]) hC dX1_liftWheel_22 rfl (by decide) rfl ?_
      refine J_aload_n hC (j := 1) dX1_liftWheel_23 rfl rfl ?_
      refine J_ifnull hC dX1_liftWheel_24 ?_
      refine J_aload_nN hC (j := 0) dX1_liftWheel_27 rfl rfl ?_
      refine J_ifnullN (tgt := 50) hC dX1_liftWheel_28 (by decide) ?_
      exact J_vret hC hr (congrArg (va_up X d) (by simp [liftW, h2, h19])) rfl dX1_liftWheel_50
  · refine J_tv (whV_n h2) ?_
    refine J_astore_nN (lv' := [(2, .null), (0, .ref (aX G d 40)), (1, .int p0)]) hC dX1_liftWheel_5 rfl (by decide) rfl ?_
    refine J_aload_nN hC (j := 0) dX1_liftWheel_6 rfl rfl ?_
    refine J_ifnonnullN hC dX1_liftWheel_7 ?_
    refine J_null hC dX1_liftWheel_10 ?_
    refine J_goto (tgt := 22) hC dX1_liftWheel_11 (by decide) ?_
    refine J_astore_nN (lv' := [(3, .null), (2, .null), (0, .ref (aX G d 40)), (1, .int p0)]) hC dX1_liftWheel_22 rfl (by decide) rfl ?_
    refine J_aload_nN hC (j := 1) dX1_liftWheel_23 rfl rfl ?_
    refine J_ifnullN (tgt := 50) hC dX1_liftWheel_24 (by decide) ?_
    exact J_vret hC hr (congrArg (va_up X d) (by simp [liftW, h2])) rfl dX1_liftWheel_50
set_option maxHeartbeats 4000000 in
set_option maxRecDepth 100000 in
theorem ct_X1_putWheel (l : Launch) (G : GG) (X : XX) (o : OO) (d : Nat) (hd : d < 2) (D : DD) (p0 : Int32) (p1 : Int32) (p2 : Int32) : CT l yX1_putWheel cX1_putWheel 6 none 1 22 0 0 G [.ref (aX G d 40), .int p0, .int p1, .int p2] (va_up X d D) o none (va_up X d (putW D p0 p1 p2)) o := by
  refine CT_of (own := RX1) (lv := [(0, .ref (aX G d 40)), (1, .int p0), (2, .int p1), (3, .int p2)]) (by decide) rfl (Nat.le_of_ble_eq_true rfl) rfl ?_
  intro p e s m args below meth c hr hC
  refine J_aload_n hC (j := 0) dX1_putWheel_0 rfl rfl ?_
  refine J_iload_n hC (j := 1) dX1_putWheel_1 rfl rfl ?_
  refine J_callV hC (ct_X1_wheelOf l G X o d hd D p0) mw_X1_wheelOf qw_197 (nl_da hd) (ent_da hd) rfl rfl rfl (Nat.le_of_ble_eq_true rfl) ⟨Nat.le_of_ble_eq_true rfl, Nat.le_of_ble_eq_true rfl⟩ ⟨Nat.le_of_ble_eq_true rfl, Nat.le_of_ble_eq_true rfl⟩ dX1_putWheel_2 ?_
  by_cases h2 : inW D p0 = true
  · refine J_tv (whV_p h2) ?_
    refine J_astore (lv' := [(4, .ref (aX G d (ix p0))), (0, .ref (aX G d 40)), (1, .int p0), (2, .int p1), (3, .int p2)]) hC dX1_putWheel_5 (by decide) rfl ?_
    refine J_aload_n hC (j := 1) dX1_putWheel_7 rfl rfl ?_
    refine J_iload_n hC (j := 3) dX1_putWheel_8 rfl rfl ?_
    refine J_callV hC (ct_X1_cellarOf l G X o d hd D p1) mw_X1_cellarOf qw_246 (nl_da hd) (ent_da hd) rfl rfl rfl (Nat.le_of_ble_eq_true rfl) ⟨Nat.le_of_ble_eq_true rfl, Nat.le_of_ble_eq_true rfl⟩ ⟨Nat.le_of_ble_eq_true rfl, Nat.le_of_ble_eq_true rfl⟩ dX1_putWheel_9 ?_
    by_cases h9 : inC D p1 = true
    · refine J_tv (ceV_p h9) ?_
      refine J_astore (lv' := [(5, .ref (aX G d (24 + (ix p1)))), (4, .ref (aX G d (ix p0))), (0, .ref (aX G d 40)), (1, .int p0), (2, .int p1), (3, .int p2)]) hC dX1_putWheel_12 (by decide) rfl ?_
      refine J_aload hC (j := 1) dX1_putWheel_14 rfl ?_
      refine J_ifnull hC dX1_putWheel_16 ?_
      refine J_aload hC (j := 0) dX1_putWheel_19 rfl ?_
      refine J_ifnull hC dX1_putWheel_21 ?_
      refine J_aload hC (j := 1) dX1_putWheel_24 rfl ?_
      refine J_iload_n hC (j := 4) dX1_putWheel_26 rfl rfl ?_
      refine J_put (X' := (va_up X d (va_up D (ix p0) (va_up (D (ix p0)) 1 p1)))) hC (nl_wh hd (inW_lt h2)) (ent_wh hd (inW_lt h2)) rfl in3 tyX3_ok nmX3 1 (by decide) rfl qw_92 rfl (by decide) (Nat.le_of_ble_eq_true rfl) (pu_whF hd (inW_lt h2) (by decide)) dX1_putWheel_27 ?_
      refine J_aload hC (j := 1) dX1_putWheel_30 rfl ?_
      refine J_iload_n hC (j := 5) dX1_putWheel_32 rfl rfl ?_
      refine J_put (X' := (va_up X d (va_up D (ix p0) (va_up (va_up (D (ix p0)) 1 p1) 2 p2)))) hC (nl_wh hd (inW_lt h2)) (ent_wh hd (inW_lt h2)) rfl in3 tyX3_ok nmX3 2 (by decide) rfl qw_95 rfl (by decide) (Nat.le_of_ble_eq_true rfl) (pu_whW hd (inW_lt h2) (by decide)) dX1_putWheel_33 ?_
      refine J_aload hC (j := 0) dX1_putWheel_36 rfl ?_
      refine J_iload_n hC (j := 5) dX1_putWheel_38 rfl rfl ?_
      refine J_iload_n hC (j := 3) dX1_putWheel_39 rfl rfl ?_
      refine J_callVv hC (ct_X0_putAt l G X o d hd (va_up D (ix p0) (va_up (va_up (D (ix p0)) 1 p1) 2 p2)) (ix p1) (inC_lt h9) p2 p0) mw_X0_putAt qw_432 (nl_ce hd (inC_lt h9)) (ent_ce hd (inC_lt h9)) rfl rfl rfl (Nat.le_of_ble_eq_true rfl) ⟨Nat.le_of_ble_eq_true rfl, Nat.le_of_ble_eq_true rfl⟩ ⟨Nat.le_of_ble_eq_true rfl, Nat.le_of_ble_eq_true rfl⟩ dX1_putWheel_40 ?_
      exact J_vret hC hr (congrArg (va_up X d) (by simp [putW, h2, h9])) rfl dX1_putWheel_43
    · refine J_tv (ceV_n h9) ?_
      refine J_astoreN (lv' := [(5, .null), (4, .ref (aX G d (ix p0))), (0, .ref (aX G d 40)), (1, .int p0), (2, .int p1), (3, .int p2)]) hC dX1_putWheel_12 (by decide) rfl ?_
      refine J_aload hC (j := 1) dX1_putWheel_14 rfl ?_
      refine J_ifnull hC dX1_putWheel_16 ?_
      refine J_aloadN hC (j := 0) dX1_putWheel_19 rfl ?_
      refine J_ifnullN (tgt := 43) hC dX1_putWheel_21 (by decide) ?_
      exact J_vret hC hr (congrArg (va_up X d) (by simp [putW, h2, h9])) rfl dX1_putWheel_43
  · refine J_tv (whV_n h2) ?_
    refine J_astoreN (lv' := [(4, .null), (0, .ref (aX G d 40)), (1, .int p0), (2, .int p1), (3, .int p2)]) hC dX1_putWheel_5 (by decide) rfl ?_
    refine J_aload_n hC (j := 1) dX1_putWheel_7 rfl rfl ?_
    refine J_iload_n hC (j := 3) dX1_putWheel_8 rfl rfl ?_
    refine J_callV hC (ct_X1_cellarOf l G X o d hd D p1) mw_X1_cellarOf qw_246 (nl_da hd) (ent_da hd) rfl rfl rfl (Nat.le_of_ble_eq_true rfl) ⟨Nat.le_of_ble_eq_true rfl, Nat.le_of_ble_eq_true rfl⟩ ⟨Nat.le_of_ble_eq_true rfl, Nat.le_of_ble_eq_true rfl⟩ dX1_putWheel_9 ?_
    by_cases h9 : inC D p1 = true
    · refine J_tv (ceV_p h9) ?_
      refine J_astore (lv' := [(5, .ref (aX G d (24 + (ix p1)))), (4, .null), (0, .ref (aX G d 40)), (1, .int p0), (2, .int p1), (3, .int p2)]) hC dX1_putWheel_12 (by decide) rfl ?_
      refine J_aloadN hC (j := 1) dX1_putWheel_14 rfl ?_
      refine J_ifnullN (tgt := 43) hC dX1_putWheel_16 (by decide) ?_
      exact J_vret hC hr (congrArg (va_up X d) (by simp [putW, h2, h9])) rfl dX1_putWheel_43
    · refine J_tv (ceV_n h9) ?_
      refine J_astoreN (lv' := [(5, .null), (4, .null), (0, .ref (aX G d 40)), (1, .int p0), (2, .int p1), (3, .int p2)]) hC dX1_putWheel_12 (by decide) rfl ?_
      refine J_aloadN hC (j := 1) dX1_putWheel_14 rfl ?_
      refine J_ifnullN (tgt := 43) hC dX1_putWheel_16 (by decide) ?_
      exact J_vret hC hr (congrArg (va_up X d) (by simp [putW, h2, h9])) rfl dX1_putWheel_43
set_option maxHeartbeats 4000000 in
set_option maxRecDepth 100000 in
theorem ct_X1_moveWheel (l : Launch) (G : GG) (X : XX) (o : OO) (d : Nat) (hd : d < 2) (D : DD) (p0 : Int32) (p1 : Int32) (p2 : Int32) : CT l yX1_moveWheel cX1_moveWheel 4 none 2 47 0 0 G [.ref (aX G d 40), .int p0, .int p1, .int p2] (va_up X d D) o none (va_up X d (moveW D p0 p1 p2)) o := by
  refine CT_of (own := RX1) (lv := [(0, .ref (aX G d 40)), (1, .int p0), (2, .int p1), (3, .int p2)]) (by decide) rfl (Nat.le_of_ble_eq_true rfl) rfl ?_
  intro p e s m args below meth c hr hC
  refine J_aload_n hC (j := 0) dX1_moveWheel_0 rfl rfl ?_
  refine J_iload_n hC (j := 1) dX1_moveWheel_1 rfl rfl ?_
  refine J_callVv hC (ct_X1_liftWheel l G X o d hd D p0) mw_X1_liftWheel qw_450 (nl_da hd) (ent_da hd) rfl rfl rfl (Nat.le_of_ble_eq_true rfl) ⟨Nat.le_of_ble_eq_true rfl, Nat.le_of_ble_eq_true rfl⟩ ⟨Nat.le_of_ble_eq_true rfl, Nat.le_of_ble_eq_true rfl⟩ dX1_moveWheel_2 ?_
  refine J_aload_n hC (j := 0) dX1_moveWheel_5 rfl rfl ?_
  refine J_iload_n hC (j := 1) dX1_moveWheel_6 rfl rfl ?_
  refine J_iload_n hC (j := 2) dX1_moveWheel_7 rfl rfl ?_
  refine J_iload_n hC (j := 3) dX1_moveWheel_8 rfl rfl ?_
  refine J_callVv hC (ct_X1_putWheel l G X o d hd (liftW D p0) p0 p1 p2) mw_X1_putWheel qw_428 (nl_da hd) (ent_da hd) rfl rfl rfl (Nat.le_of_ble_eq_true rfl) ⟨Nat.le_of_ble_eq_true rfl, Nat.le_of_ble_eq_true rfl⟩ ⟨Nat.le_of_ble_eq_true rfl, Nat.le_of_ble_eq_true rfl⟩ dX1_moveWheel_9 ?_
  exact J_vret hC hr (congrArg (va_up X d) (by simp [moveW])) rfl dX1_moveWheel_12
set_option maxHeartbeats 4000000 in
set_option maxRecDepth 100000 in
theorem ct_X1_takeAway (l : Launch) (G : GG) (X : XX) (o : OO) (d : Nat) (hd : d < 2) (D : DD) (p0 : Int32) (p1 : Int32) : CT l yX1_takeAway cX1_takeAway 4 none 2 45 0 0 G [.ref (aX G d 40), .int p0, .int p1] (va_up X d D) o none (va_up X d (takeA D p0 p1)) o := by
  refine CT_of (own := RX1) (lv := [(0, .ref (aX G d 40)), (1, .int p0), (2, .int p1)]) (by decide) rfl (Nat.le_of_ble_eq_true rfl) rfl ?_
  intro p e s m args below meth c hr hC
  refine J_aload_n hC (j := 0) dX1_takeAway_0 rfl rfl ?_
  refine J_iload_n hC (j := 1) dX1_takeAway_1 rfl rfl ?_
  refine J_callVv hC (ct_X1_liftWheel l G X o d hd D p0) mw_X1_liftWheel qw_450 (nl_da hd) (ent_da hd) rfl rfl rfl (Nat.le_of_ble_eq_true rfl) ⟨Nat.le_of_ble_eq_true rfl, Nat.le_of_ble_eq_true rfl⟩ ⟨Nat.le_of_ble_eq_true rfl, Nat.le_of_ble_eq_true rfl⟩ dX1_takeAway_2 ?_
  refine J_aload_n hC (j := 0) dX1_takeAway_5 rfl rfl ?_
  refine J_iload_n hC (j := 1) dX1_takeAway_6 rfl rfl ?_
  refine J_callV hC (ct_X1_wheelOf l G X o d hd (liftW D p0) p0) mw_X1_wheelOf qw_197 (nl_da hd) (ent_da hd) rfl rfl rfl (Nat.le_of_ble_eq_true rfl) ⟨Nat.le_of_ble_eq_true rfl, Nat.le_of_ble_eq_true rfl⟩ ⟨Nat.le_of_ble_eq_true rfl, Nat.le_of_ble_eq_true rfl⟩ dX1_takeAway_7 ?_
  by_cases h7 : inW (liftW D p0) p0 = true
  · refine J_tv (whV_p h7) ?_
    refine J_astore_n (lv' := [(3, .ref (aX G d (ix p0))), (0, .ref (aX G d 40)), (1, .int p0), (2, .int p1)]) hC dX1_takeAway_10 rfl (by decide) rfl ?_
    refine J_aload_n hC (j := 0) dX1_takeAway_11 rfl rfl ?_
    refine J_ifnull hC dX1_takeAway_12 ?_
    refine J_aload_n hC (j := 0) dX1_takeAway_15 rfl rfl ?_
    refine J_iload_n hC (j := 3) dX1_takeAway_16 rfl rfl ?_
    refine J_put (X' := (va_up X d (va_up (liftW D p0) (ix p0) (va_up ((liftW D p0) (ix p0)) 0 p1)))) hC (nl_wh hd (inW_lt h7)) (ent_wh hd (inW_lt h7)) rfl in3 tyX3_ok nmX3 0 (by decide) rfl qw_89 rfl (by decide) (Nat.le_of_ble_eq_true rfl) (pu_whF hd (inW_lt h7) (by decide)) dX1_takeAway_17 ?_
    exact J_vret hC hr (congrArg (va_up X d) (by simp [takeA, h7])) rfl dX1_takeAway_20
  · refine J_tv (whV_n h7) ?_
    refine J_astore_nN (lv' := [(3, .null), (0, .ref (aX G d 40)), (1, .int p0), (2, .int p1)]) hC dX1_takeAway_10 rfl (by decide) rfl ?_
    refine J_aload_nN hC (j := 0) dX1_takeAway_11 rfl rfl ?_
    refine J_ifnullN (tgt := 20) hC dX1_takeAway_12 (by decide) ?_
    exact J_vret hC hr (congrArg (va_up X d) (by simp [takeA, h7])) rfl dX1_takeAway_20
set_option maxHeartbeats 4000000 in
set_option maxRecDepth 100000 in
theorem ct_X1_addCellar (l : Launch) (G : GG) (X : XX) (o : OO) (d : Nat) (hd : d < 2) (D : DD) (p0 : Int32) (p1 : Int32) : CT l yX1_addCellar cX1_addCellar 5 (some .int) 1 22 0 0 G [.ref (aX G d 40), .int p0, .int p1] (va_up X d D) o (some (.int (D 40 2))) (va_up X d (addC D p0 p1)) o := by
  refine CT_of (own := RX1) (lv := [(0, .ref (aX G d 40)), (1, .int p0), (2, .int p1)]) (by decide) rfl (Nat.le_of_ble_eq_true rfl) rfl ?_
  intro p e s m args below meth c hr hC
  refine J_aload_n hC (j := 0) dX1_addCellar_0 rfl rfl ?_
  refine J_get hC (nl_da hd) (ent_da hd) rfl in1 2 (by decide) rfl qw_156 rfl rF dX1_addCellar_1 ?_
  refine J_istore_n (lv' := [(3, .int (D 40 2)), (0, .ref (aX G d 40)), (1, .int p0), (2, .int p1)]) hC dX1_addCellar_4 rfl (by decide) rfl ?_
  refine J_aload_n hC (j := 1) dX1_addCellar_5 rfl rfl ?_
  refine J_dup hC dX1_addCellar_6 rfl ?_
  refine J_get hC (nl_da hd) (ent_da hd) rfl in1 2 (by decide) rfl qw_156 rfl rF dX1_addCellar_7 ?_
  refine J_iconst (v := 1) hC dX1_addCellar_10 (by decide) ?_
  refine J_iadd hC dX1_addCellar_11 ?_
  refine J_put (X' := (va_up X d (va_up D 40 (va_up (D 40) 2 ((D 40 2) + 1))))) hC (nl_da hd) (ent_da hd) rfl in1 tyX1_ok nmX1 2 (by decide) rfl qw_156 rfl (by decide) (Nat.le_of_ble_eq_true rfl) (pu_daF hd (by decide)) dX1_addCellar_12 ?_
  refine J_aload_n hC (j := 1) dX1_addCellar_15 rfl rfl ?_
  refine J_iload_n hC (j := 0) dX1_addCellar_16 rfl rfl ?_
  refine J_callV hC (ct_X1_cellarOf l G X o d hd (va_up D 40 (va_up (D 40) 2 ((D 40 2) + 1))) (D 40 2)) mw_X1_cellarOf qw_246 (nl_da hd) (ent_da hd) rfl rfl rfl (Nat.le_of_ble_eq_true rfl) ⟨Nat.le_of_ble_eq_true rfl, Nat.le_of_ble_eq_true rfl⟩ ⟨Nat.le_of_ble_eq_true rfl, Nat.le_of_ble_eq_true rfl⟩ dX1_addCellar_17 ?_
  by_cases h17 : inC (va_up D 40 (va_up (D 40) 2 ((D 40 2) + 1))) (D 40 2) = true
  · refine J_tv (ceV_p h17) ?_
    refine J_astore (lv' := [(4, .ref (aX G d (24 + (ix (D 40 2))))), (3, .int (D 40 2)), (0, .ref (aX G d 40)), (1, .int p0), (2, .int p1)]) hC dX1_addCellar_20 (by decide) rfl ?_
    refine J_aload hC (j := 0) dX1_addCellar_22 rfl ?_
    refine J_ifnull hC dX1_addCellar_24 ?_
    refine J_aload hC (j := 0) dX1_addCellar_27 rfl ?_
    refine J_iload_n hC (j := 3) dX1_addCellar_29 rfl rfl ?_
    refine J_put (X' := (va_up X d (va_up (va_up D 40 (va_up (D 40) 2 ((D 40 2) + 1))) (24 + (ix (D 40 2))) (va_up ((va_up D 40 (va_up (D 40) 2 ((D 40 2) + 1))) (24 + (ix (D 40 2)))) 0 p0)))) hC (nl_ce hd (inC_lt h17)) (ent_ce hd (inC_lt h17)) rfl in0 tyX0_ok nmX0 0 (by decide) rfl qw_70 rfl (by decide) (Nat.le_of_ble_eq_true rfl) (pu_ceF hd (inC_lt h17) (by decide)) dX1_addCellar_30 ?_
    refine J_aload hC (j := 0) dX1_addCellar_33 rfl ?_
    refine J_iload_n hC (j := 4) dX1_addCellar_35 rfl rfl ?_
    refine J_put (X' := (va_up X d (va_up (va_up D 40 (va_up (D 40) 2 ((D 40 2) + 1))) (24 + (ix (D 40 2))) (va_up (va_up ((va_up D 40 (va_up (D 40) 2 ((D 40 2) + 1))) (24 + (ix (D 40 2)))) 0 p0) 1 p1)))) hC (nl_ce hd (inC_lt h17)) (ent_ce hd (inC_lt h17)) rfl in0 tyX0_ok nmX0 1 (by decide) rfl qw_73 rfl (by decide) (Nat.le_of_ble_eq_true rfl) (pu_ceW hd (inC_lt h17) (by decide)) dX1_addCellar_36 ?_
    refine J_iload_n hC (j := 1) dX1_addCellar_39 rfl rfl ?_
    exact J_iret hC hr rfl (congrArg (va_up X d) (by simp [addC, h17])) rfl dX1_addCellar_40
  · refine J_tv (ceV_n h17) ?_
    refine J_astoreN (lv' := [(4, .null), (3, .int (D 40 2)), (0, .ref (aX G d 40)), (1, .int p0), (2, .int p1)]) hC dX1_addCellar_20 (by decide) rfl ?_
    refine J_aloadN hC (j := 0) dX1_addCellar_22 rfl ?_
    refine J_ifnullN (tgt := 39) hC dX1_addCellar_24 (by decide) ?_
    refine J_iload_n hC (j := 1) dX1_addCellar_39 rfl rfl ?_
    exact J_iret hC hr rfl (congrArg (va_up X d) (by simp [addC, h17])) rfl dX1_addCellar_40
set_option maxHeartbeats 4000000 in
set_option maxRecDepth 100000 in
theorem ct_X1_addWheel (l : Launch) (G : GG) (X : XX) (o : OO) (d : Nat) (hd : d < 2) (D : DD) (p0 : Int32) (p1 : Int32) : CT l yX1_addWheel cX1_addWheel 4 (some .int) 2 47 0 0 G [.ref (aX G d 40), .int p0, .int p1] (va_up X d D) o (some (.int (D 40 3))) (va_up X d (addW D p0 p1)) o := by
  refine CT_of (own := RX1) (lv := [(0, .ref (aX G d 40)), (1, .int p0), (2, .int p1)]) (by decide) rfl (Nat.le_of_ble_eq_true rfl) rfl ?_
  intro p e s m args below meth c hr hC
  refine J_aload_n hC (j := 0) dX1_addWheel_0 rfl rfl ?_
  refine J_get hC (nl_da hd) (ent_da hd) rfl in1 3 (by decide) rfl qw_158 rfl rF dX1_addWheel_1 ?_
  refine J_istore_n (lv' := [(3, .int (D 40 3)), (0, .ref (aX G d 40)), (1, .int p0), (2, .int p1)]) hC dX1_addWheel_4 rfl (by decide) rfl ?_
  refine J_aload_n hC (j := 1) dX1_addWheel_5 rfl rfl ?_
  refine J_dup hC dX1_addWheel_6 rfl ?_
  refine J_get hC (nl_da hd) (ent_da hd) rfl in1 3 (by decide) rfl qw_158 rfl rF dX1_addWheel_7 ?_
  refine J_iconst (v := 1) hC dX1_addWheel_10 (by decide) ?_
  refine J_iadd hC dX1_addWheel_11 ?_
  refine J_put (X' := (va_up X d (va_up D 40 (va_up (D 40) 3 ((D 40 3) + 1))))) hC (nl_da hd) (ent_da hd) rfl in1 tyX1_ok nmX1 3 (by decide) rfl qw_158 rfl (by decide) (Nat.le_of_ble_eq_true rfl) (pu_daF hd (by decide)) dX1_addWheel_12 ?_
  refine J_aload_n hC (j := 1) dX1_addWheel_15 rfl rfl ?_
  refine J_iload_n hC (j := 0) dX1_addWheel_16 rfl rfl ?_
  refine J_iload_n hC (j := 2) dX1_addWheel_17 rfl rfl ?_
  refine J_iload_n hC (j := 3) dX1_addWheel_18 rfl rfl ?_
  refine J_callVv hC (ct_X1_putWheel l G X o d hd (va_up D 40 (va_up (D 40) 3 ((D 40 3) + 1))) (D 40 3) p0 p1) mw_X1_putWheel qw_428 (nl_da hd) (ent_da hd) rfl rfl rfl (Nat.le_of_ble_eq_true rfl) ⟨Nat.le_of_ble_eq_true rfl, Nat.le_of_ble_eq_true rfl⟩ ⟨Nat.le_of_ble_eq_true rfl, Nat.le_of_ble_eq_true rfl⟩ dX1_addWheel_19 ?_
  refine J_iload_n hC (j := 0) dX1_addWheel_22 rfl rfl ?_
  exact J_iret hC hr rfl (congrArg (va_up X d) (by simp [addW])) rfl dX1_addWheel_23
set_option maxHeartbeats 4000000 in
set_option maxRecDepth 100000 in
theorem ct_X1_addMonk (l : Launch) (G : GG) (X : XX) (o : OO) (d : Nat) (hd : d < 2) (D : DD) (p0 : Int32) (p1 : Int32) : CT l yX1_addMonk cX1_addMonk 5 (some .int) 1 22 0 0 G [.ref (aX G d 40), .int p0, .int p1] (va_up X d D) o (some (.int (D 40 4))) (va_up X d (addM D p0 p1)) o := by
  refine CT_of (own := RX1) (lv := [(0, .ref (aX G d 40)), (1, .int p0), (2, .int p1)]) (by decide) rfl (Nat.le_of_ble_eq_true rfl) rfl ?_
  intro p e s m args below meth c hr hC
  refine J_aload_n hC (j := 0) dX1_addMonk_0 rfl rfl ?_
  refine J_get hC (nl_da hd) (ent_da hd) rfl in1 4 (by decide) rfl qw_160 rfl rF dX1_addMonk_1 ?_
  refine J_istore_n (lv' := [(3, .int (D 40 4)), (0, .ref (aX G d 40)), (1, .int p0), (2, .int p1)]) hC dX1_addMonk_4 rfl (by decide) rfl ?_
  refine J_aload_n hC (j := 1) dX1_addMonk_5 rfl rfl ?_
  refine J_dup hC dX1_addMonk_6 rfl ?_
  refine J_get hC (nl_da hd) (ent_da hd) rfl in1 4 (by decide) rfl qw_160 rfl rF dX1_addMonk_7 ?_
  refine J_iconst (v := 1) hC dX1_addMonk_10 (by decide) ?_
  refine J_iadd hC dX1_addMonk_11 ?_
  refine J_put (X' := (va_up X d (va_up D 40 (va_up (D 40) 4 ((D 40 4) + 1))))) hC (nl_da hd) (ent_da hd) rfl in1 tyX1_ok nmX1 4 (by decide) rfl qw_160 rfl (by decide) (Nat.le_of_ble_eq_true rfl) (pu_daF hd (by decide)) dX1_addMonk_12 ?_
  refine J_aload_n hC (j := 1) dX1_addMonk_15 rfl rfl ?_
  refine J_iload_n hC (j := 0) dX1_addMonk_16 rfl rfl ?_
  refine J_callV hC (ct_X1_monkOf l G X o d hd (va_up D 40 (va_up (D 40) 4 ((D 40 4) + 1))) (D 40 4)) mw_X1_monkOf qw_493 (nl_da hd) (ent_da hd) rfl rfl rfl (Nat.le_of_ble_eq_true rfl) ⟨Nat.le_of_ble_eq_true rfl, Nat.le_of_ble_eq_true rfl⟩ ⟨Nat.le_of_ble_eq_true rfl, Nat.le_of_ble_eq_true rfl⟩ dX1_addMonk_17 ?_
  by_cases h17 : inM (va_up D 40 (va_up (D 40) 4 ((D 40 4) + 1))) (D 40 4) = true
  · refine J_tv (mkV_p h17) ?_
    refine J_astore (lv' := [(4, .ref (aX G d (32 + (ix (D 40 4))))), (3, .int (D 40 4)), (0, .ref (aX G d 40)), (1, .int p0), (2, .int p1)]) hC dX1_addMonk_20 (by decide) rfl ?_
    refine J_aload hC (j := 0) dX1_addMonk_22 rfl ?_
    refine J_ifnull hC dX1_addMonk_24 ?_
    refine J_aload hC (j := 0) dX1_addMonk_27 rfl ?_
    refine J_iload_n hC (j := 3) dX1_addMonk_29 rfl rfl ?_
    refine J_put (X' := (va_up X d (va_up (va_up D 40 (va_up (D 40) 4 ((D 40 4) + 1))) (32 + (ix (D 40 4))) (va_up ((va_up D 40 (va_up (D 40) 4 ((D 40 4) + 1))) (32 + (ix (D 40 4)))) 0 p0)))) hC (nl_mk hd (inM_lt h17)) (ent_mk hd (inM_lt h17)) rfl in2 tyX2_ok nmX2 0 (by decide) rfl qw_133 rfl (by decide) (Nat.le_of_ble_eq_true rfl) (pu_mkF hd (inM_lt h17) (by decide)) dX1_addMonk_30 ?_
    refine J_aload hC (j := 0) dX1_addMonk_33 rfl ?_
    refine J_iload_n hC (j := 4) dX1_addMonk_35 rfl rfl ?_
    refine J_put (X' := (va_up X d (va_up (va_up D 40 (va_up (D 40) 4 ((D 40 4) + 1))) (32 + (ix (D 40 4))) (va_up (va_up ((va_up D 40 (va_up (D 40) 4 ((D 40 4) + 1))) (32 + (ix (D 40 4)))) 0 p0) 1 p1)))) hC (nl_mk hd (inM_lt h17)) (ent_mk hd (inM_lt h17)) rfl in2 tyX2_ok nmX2 1 (by decide) rfl qw_135 rfl (by decide) (Nat.le_of_ble_eq_true rfl) (pu_mkW hd (inM_lt h17) (by decide)) dX1_addMonk_36 ?_
    refine J_iload_n hC (j := 1) dX1_addMonk_39 rfl rfl ?_
    exact J_iret hC hr rfl (congrArg (va_up X d) (by simp [addM, h17])) rfl dX1_addMonk_40
  · refine J_tv (mkV_n h17) ?_
    refine J_astoreN (lv' := [(4, .null), (3, .int (D 40 4)), (0, .ref (aX G d 40)), (1, .int p0), (2, .int p1)]) hC dX1_addMonk_20 (by decide) rfl ?_
    refine J_aloadN hC (j := 0) dX1_addMonk_22 rfl ?_
    refine J_ifnullN (tgt := 39) hC dX1_addMonk_24 (by decide) ?_
    refine J_iload_n hC (j := 1) dX1_addMonk_39 rfl rfl ?_
    exact J_iret hC hr rfl (congrArg (va_up X d) (by simp [addM, h17])) rfl dX1_addMonk_40
