set_option maxHeartbeats 4000000 in
set_option maxRecDepth 100000 in
theorem ct_X6_thrown (l : Launch) (G : GG) (D E g S A : DD) (o : OO) : CT l yX6_thrown cX6_thrown 1 (some .int) 0 0 0 0 G [.ref (aX G 2 0)] (mk5 D E g S A) o (some (.int (g 0 0))) (mk5 D E g S A) o := by
  refine CT_of (own := RX6) (lv := [(0, .ref (aX G 2 0))]) (by decide) rfl (Nat.le_of_ble_eq_true rfl) rfl ?_
  intro p e s m args below meth c hr hC
  refine J_aload_n hC (j := 0) dX6_thrown_0 rfl rfl ?_
  refine J_get hC nl_m0 ent_m0 rfl in6 0 (by decide) rfl qw_730 rfl (r5 (x := (g 0 0)) rfl) dX6_thrown_1 ?_
  exact J_iret hC hr rfl rfl rfl dX6_thrown_4
set_option maxHeartbeats 4000000 in
set_option maxRecDepth 100000 in
theorem ct_X6_no (l : Launch) (G : GG) (D E g S A : DD) (o : OO) (p0 : Int32) : CT l yX6_no cX6_no 2 (some .int) 0 0 0 0 G [.ref (aX G 2 0), .int p0] (mk5 D E g S A) o (some (.int 0)) (mk5 D E (setT g p0) S A) o := by
  refine CT_of (own := RX6) (lv := [(0, .ref (aX G 2 0)), (1, .int p0)]) (by decide) rfl (Nat.le_of_ble_eq_true rfl) rfl ?_
  intro p e s m args below meth c hr hC
  refine J_aload_n hC (j := 0) dX6_no_0 rfl rfl ?_
  refine J_iload_n hC (j := 1) dX6_no_1 rfl rfl ?_
  refine J_X (X' := (va_up (mk5 D E g S A) 2 g)) m5u2.symm ?_
  refine J_put (X' := (va_up (mk5 D E g S A) 2 (va_up g 0 (va_up (g 0) 0 p0)))) hC nl_m0 ent_m0 rfl in6 tyX6_ok nmX6 0 (by decide) rfl qw_730 rfl (by decide) (Nat.le_of_ble_eq_true rfl) (pu_m0F  (by decide)) dX6_no_2 ?_
  refine J_X (X' := (mk5 D E (va_up g 0 (va_up (g 0) 0 p0)) S A)) m5u2 ?_
  refine J_iconst (v := 0) hC dX6_no_5 (by decide) ?_
  exact J_iret hC hr rfl (by first | (simp [setT, mk5_2]; done) | rfl) rfl dX6_no_6
set_option maxHeartbeats 4000000 in
set_option maxRecDepth 100000 in
theorem ct_X6_isPlace (l : Launch) (G : GG) (X : XX) (o : OO) (p0 : Int32) : CT l yX6_isPlace cX6_isPlace 1 (some .boolean) 1 22 0 0 G [.int p0] X o (some (.int (bI (isPl p0 = true)))) X o := by
  refine CT_of (own := RX6) (lv := [(0, .int p0)]) (by decide) rfl (Nat.le_of_ble_eq_true rfl) rfl ?_
  intro p e s m args below meth c hr hC
  refine J_iload_n hC (j := 0) dX6_isPlace_0 rfl rfl ?_
  refine J_iconst (v := 0) hC dX6_isPlace_1 (by decide) ?_
  refine J_bipush (v := 9) hC dX6_isPlace_2 (by decide) ?_
  refine J_callS hC (ct_X6_isIn l G X o p0 0 9) ms_X6_isIn qw_785 rfl rfl (Nat.le_of_ble_eq_true rfl) ⟨Nat.le_of_ble_eq_true rfl, Nat.le_of_ble_eq_true rfl⟩ ⟨Nat.le_of_ble_eq_true rfl, Nat.le_of_ble_eq_true rfl⟩ dX6_isPlace_4 ?_
  by_cases h4 : wthn p0 0 9 = true
  · refine J_tv (congrArg Value.int (bI_pos h4)) ?_
    exact J_zret hC hr (by decide) (by simp [isPl, h4]) rfl rfl dX6_isPlace_7
  · refine J_tv (congrArg Value.int (bI_neg h4)) ?_
    exact J_zret hC hr (by decide) (by simp [isPl, h4]) rfl rfl dX6_isPlace_7
set_option maxHeartbeats 4000000 in
set_option maxRecDepth 100000 in
theorem ct_X6_isAir (l : Launch) (G : GG) (X : XX) (o : OO) (p0 : Int32) (p1 : Int32) : CT l yX6_isAir cX6_isAir 2 (some .boolean) 1 22 0 0 G [.int p0, .int p1] X o (some (.int (bI (airOk p0 p1 = true)))) X o := by
  refine CT_of (own := RX6) (lv := [(0, .int p0), (1, .int p1)]) (by decide) rfl (Nat.le_of_ble_eq_true rfl) rfl ?_
  intro p e s m args below meth c hr hC
  refine J_iload_n hC (j := 0) dX6_isAir_0 rfl rfl ?_
  refine J_iconst (v := 0) hC dX6_isAir_1 (by decide) ?_
  refine J_bipush (v := 9) hC dX6_isAir_2 (by decide) ?_
  refine J_callS hC (ct_X6_isIn l G X o p0 0 9) ms_X6_isIn qw_785 rfl rfl (Nat.le_of_ble_eq_true rfl) ⟨Nat.le_of_ble_eq_true rfl, Nat.le_of_ble_eq_true rfl⟩ ⟨Nat.le_of_ble_eq_true rfl, Nat.le_of_ble_eq_true rfl⟩ dX6_isAir_4 ?_
  by_cases h4 : wthn p0 0 9 = true
  · refine J_tv (congrArg Value.int (bI_pos h4)) ?_
    refine J_if_eq (tgt := 24) hC dX6_isAir_7 (by decide) (fun h => absurd h (by decide)) (fun _ => ?_)
    refine J_iload_n hC (j := 1) dX6_isAir_10 rfl rfl ?_
    refine J_iconst (v := 0) hC dX6_isAir_11 (by decide) ?_
    refine J_bipush (v := 9) hC dX6_isAir_12 (by decide) ?_
    refine J_callS hC (ct_X6_isIn l G X o p1 0 9) ms_X6_isIn qw_785 rfl rfl (Nat.le_of_ble_eq_true rfl) ⟨Nat.le_of_ble_eq_true rfl, Nat.le_of_ble_eq_true rfl⟩ ⟨Nat.le_of_ble_eq_true rfl, Nat.le_of_ble_eq_true rfl⟩ dX6_isAir_14 ?_
    by_cases h14 : wthn p1 0 9 = true
    · refine J_tv (congrArg Value.int (bI_pos h14)) ?_
      refine J_if_eq (tgt := 24) hC dX6_isAir_17 (by decide) (fun h => absurd h (by decide)) (fun _ => ?_)
      refine J_iconst (v := 1) hC dX6_isAir_20 (by decide) ?_
      refine J_goto (tgt := 25) hC dX6_isAir_21 (by decide) ?_
      exact J_zret hC hr (by decide) (by simp [airOk, h4, h14]) rfl rfl dX6_isAir_25
    · refine J_tv (congrArg Value.int (bI_neg h14)) ?_
      refine J_if_eq (tgt := 24) hC dX6_isAir_17 (by decide) (fun _ => ?_) (fun h => absurd h (by decide))
      refine J_iconst (v := 0) hC dX6_isAir_24 (by decide) ?_
      exact J_zret hC hr (by decide) (by simp [airOk, h4, h14]) rfl rfl dX6_isAir_25
  · refine J_tv (congrArg Value.int (bI_neg h4)) ?_
    refine J_if_eq (tgt := 24) hC dX6_isAir_7 (by decide) (fun _ => ?_) (fun h => absurd h (by decide))
    refine J_iconst (v := 0) hC dX6_isAir_24 (by decide) ?_
    exact J_zret hC hr (by decide) (by simp [airOk, h4]) rfl rfl dX6_isAir_25
set_option maxHeartbeats 4000000 in
set_option maxRecDepth 100000 in
theorem ct_X6_isCellar (l : Launch) (G : GG) (D E g S A : DD) (o : OO) (p0 : Int32) : CT l yX6_isCellar cX6_isCellar 2 (some .boolean) 1 22 0 0 G [.ref (aX G 2 0), .int p0] (mk5 D E g S A) o (some (.int (bI (cI g p0 = true)))) (mk5 D E g S A) o := by
  refine CT_of (own := RX6) (lv := [(0, .ref (aX G 2 0)), (1, .int p0)]) (by decide) rfl (Nat.le_of_ble_eq_true rfl) rfl ?_
  intro p e s m args below meth c hr hC
  refine J_iload_n hC (j := 1) dX6_isCellar_0 rfl rfl ?_
  refine J_iconst (v := 0) hC dX6_isCellar_1 (by decide) ?_
  refine J_aload_n hC (j := 0) dX6_isCellar_2 rfl rfl ?_
  refine J_get hC nl_m0 ent_m0 rfl in6 1 (by decide) rfl qw_731 rfl (r5 (x := (g 0 1)) rfl) dX6_isCellar_3 ?_
  refine J_iconst (v := 1) hC dX6_isCellar_6 (by decide) ?_
  refine J_isub hC dX6_isCellar_7 ?_
  refine J_callS hC (ct_X6_isIn l G (mk5 D E g S A) o p0 0 ((g 0 1) - 1)) ms_X6_isIn qw_785 rfl rfl (Nat.le_of_ble_eq_true rfl) ⟨Nat.le_of_ble_eq_true rfl, Nat.le_of_ble_eq_true rfl⟩ ⟨Nat.le_of_ble_eq_true rfl, Nat.le_of_ble_eq_true rfl⟩ dX6_isCellar_8 ?_
  by_cases h8 : wthn p0 0 ((g 0 1) - 1) = true
  · refine J_tv (congrArg Value.int (bI_pos h8)) ?_
    exact J_zret hC hr (by decide) (by first | (simp [cI, h8, mk5_2]; done) | rfl) rfl rfl dX6_isCellar_11
  · refine J_tv (congrArg Value.int (bI_neg h8)) ?_
    exact J_zret hC hr (by decide) (by first | (simp [cI, h8, mk5_2]; done) | rfl) rfl rfl dX6_isCellar_11
set_option maxHeartbeats 4000000 in
set_option maxRecDepth 100000 in
theorem ct_X6_isWheel (l : Launch) (G : GG) (D E g S A : DD) (o : OO) (p0 : Int32) : CT l yX6_isWheel cX6_isWheel 2 (some .boolean) 1 22 0 0 G [.ref (aX G 2 0), .int p0] (mk5 D E g S A) o (some (.int (bI (wI g p0 = true)))) (mk5 D E g S A) o := by
  refine CT_of (own := RX6) (lv := [(0, .ref (aX G 2 0)), (1, .int p0)]) (by decide) rfl (Nat.le_of_ble_eq_true rfl) rfl ?_
  intro p e s m args below meth c hr hC
  refine J_iload_n hC (j := 1) dX6_isWheel_0 rfl rfl ?_
  refine J_iconst (v := 0) hC dX6_isWheel_1 (by decide) ?_
  refine J_aload_n hC (j := 0) dX6_isWheel_2 rfl rfl ?_
  refine J_get hC nl_m0 ent_m0 rfl in6 4 (by decide) rfl qw_736 rfl (r5 (x := (g 0 4)) rfl) dX6_isWheel_3 ?_
  refine J_iconst (v := 1) hC dX6_isWheel_6 (by decide) ?_
  refine J_isub hC dX6_isWheel_7 ?_
  refine J_callS hC (ct_X6_isIn l G (mk5 D E g S A) o p0 0 ((g 0 4) - 1)) ms_X6_isIn qw_785 rfl rfl (Nat.le_of_ble_eq_true rfl) ⟨Nat.le_of_ble_eq_true rfl, Nat.le_of_ble_eq_true rfl⟩ ⟨Nat.le_of_ble_eq_true rfl, Nat.le_of_ble_eq_true rfl⟩ dX6_isWheel_8 ?_
  by_cases h8 : wthn p0 0 ((g 0 4) - 1) = true
  · refine J_tv (congrArg Value.int (bI_pos h8)) ?_
    exact J_zret hC hr (by decide) (by first | (simp [wI, h8, mk5_2]; done) | rfl) rfl rfl dX6_isWheel_11
  · refine J_tv (congrArg Value.int (bI_neg h8)) ?_
    exact J_zret hC hr (by decide) (by first | (simp [wI, h8, mk5_2]; done) | rfl) rfl rfl dX6_isWheel_11
set_option maxHeartbeats 4000000 in
set_option maxRecDepth 100000 in
theorem ct_X6_isMonk (l : Launch) (G : GG) (D E g S A : DD) (o : OO) (p0 : Int32) : CT l yX6_isMonk cX6_isMonk 2 (some .boolean) 1 22 0 0 G [.ref (aX G 2 0), .int p0] (mk5 D E g S A) o (some (.int (bI (mI g p0 = true)))) (mk5 D E g S A) o := by
  refine CT_of (own := RX6) (lv := [(0, .ref (aX G 2 0)), (1, .int p0)]) (by decide) rfl (Nat.le_of_ble_eq_true rfl) rfl ?_
  intro p e s m args below meth c hr hC
  refine J_iload_n hC (j := 1) dX6_isMonk_0 rfl rfl ?_
  refine J_iconst (v := 0) hC dX6_isMonk_1 (by decide) ?_
  refine J_aload_n hC (j := 0) dX6_isMonk_2 rfl rfl ?_
  refine J_get hC nl_m0 ent_m0 rfl in6 5 (by decide) rfl qw_738 rfl (r5 (x := (g 0 5)) rfl) dX6_isMonk_3 ?_
  refine J_iconst (v := 1) hC dX6_isMonk_6 (by decide) ?_
  refine J_isub hC dX6_isMonk_7 ?_
  refine J_callS hC (ct_X6_isIn l G (mk5 D E g S A) o p0 0 ((g 0 5) - 1)) ms_X6_isIn qw_785 rfl rfl (Nat.le_of_ble_eq_true rfl) ⟨Nat.le_of_ble_eq_true rfl, Nat.le_of_ble_eq_true rfl⟩ ⟨Nat.le_of_ble_eq_true rfl, Nat.le_of_ble_eq_true rfl⟩ dX6_isMonk_8 ?_
  by_cases h8 : wthn p0 0 ((g 0 5) - 1) = true
  · refine J_tv (congrArg Value.int (bI_pos h8)) ?_
    exact J_zret hC hr (by decide) (by first | (simp [mI, h8, mk5_2]; done) | rfl) rfl rfl dX6_isMonk_11
  · refine J_tv (congrArg Value.int (bI_neg h8)) ?_
    exact J_zret hC hr (by decide) (by first | (simp [mI, h8, mk5_2]; done) | rfl) rfl rfl dX6_isMonk_11
set_option maxHeartbeats 4000000 in
set_option maxRecDepth 100000 in
theorem ct_X6_build (l : Launch) (G : GG) (D E g S A : DD) (o : OO) (p0 : Int32) (p1 : Int32) (hg : GG2 (setT g 0)) : CT l yX6_build cX6_build 3 (some .int) 2 43 0 0 G [.ref (aX G 2 0), .int p0, .int p1] (mk5 D E g S A) o (some (.int (vBuildM (setT g 0) p0 p1))) (mk5 D E (mBuild2 (setT g 0) p0 p1) S A) o := by
  refine CT_of (own := RX6) (lv := [(0, .ref (aX G 2 0)), (1, .int p0), (2, .int p1)]) (by decide) rfl (Nat.le_of_ble_eq_true rfl) rfl ?_
  intro p e s m args below meth c hr hC
  refine J_aload_n hC (j := 0) dX6_build_0 rfl rfl ?_
  refine J_iconst (v := 0) hC dX6_build_1 (by decide) ?_
  refine J_X (X' := (va_up (mk5 D E g S A) 2 g)) m5u2.symm ?_
  refine J_put (X' := (va_up (mk5 D E g S A) 2 (va_up g 0 (va_up (g 0) 0 0)))) hC nl_m0 ent_m0 rfl in6 tyX6_ok nmX6 0 (by decide) rfl qw_730 rfl (by decide) (Nat.le_of_ble_eq_true rfl) (pu_m0F  (by decide)) dX6_build_2 ?_
  refine J_X (X' := (mk5 D E (va_up g 0 (va_up (g 0) 0 0)) S A)) m5u2 ?_
  refine J_X (X' := (mk5 D E (setT g 0) S A)) rfl ?_
  refine J_iload_n hC (j := 1) dX6_build_5 rfl rfl ?_
  refine J_iload_n hC (j := 2) dX6_build_6 rfl rfl ?_
  refine J_callS hC (ct_X6_isAir l G (mk5 D E (setT g 0) S A) o p0 p1) ms_X6_isAir qw_782 rfl rfl (Nat.le_of_ble_eq_true rfl) ⟨Nat.le_of_ble_eq_true rfl, Nat.le_of_ble_eq_true rfl⟩ ⟨Nat.le_of_ble_eq_true rfl, Nat.le_of_ble_eq_true rfl⟩ dX6_build_7 ?_
  by_cases h7 : airOk p0 p1 = true
  · refine J_tv (congrArg Value.int (bI_pos h7)) ?_
    refine J_if_ne (tgt := 19) hC dX6_build_10 (by decide) (fun _ => ?_) (fun h => absurd h (by decide))
    refine J_aload_n hC (j := 0) dX6_build_19 rfl rfl ?_
    refine J_get hC nl_m0 ent_m0 rfl in6 1 (by decide) rfl qw_731 rfl (r5 (x := ((setT g 0) 0 1)) rfl) dX6_build_20 ?_
    refine J_iconst (v := 4) hC dX6_build_23 (by decide) ?_
    refine J_icmp_ne (tgt := 33) hC dX6_build_24 (by decide) (fun c24 => ?_) (fun c24 => ?_)
    · refine J_aload_n hC (j := 0) dX6_build_33 rfl rfl ?_
      refine J_get (v' := .ref (aX G 2 1)) hC nl_m0 ent_m0 rfl in6 2 (by decide) rfl qw_732 rfl rfl dX6_build_34 ?_
      refine J_aload_n hC (j := 0) dX6_build_37 rfl rfl ?_
      refine J_get hC nl_m0 ent_m0 rfl in6 1 (by decide) rfl qw_731 rfl (r5 (x := ((setT g 0) 0 1)) rfl) dX6_build_38 ?_
      refine J_iload_n hC (j := 1) dX6_build_41 rfl rfl ?_
      refine J_X (X' := (va_up (mk5 D E (setT g 0) S A) 2 (setT g 0))) m5u2.symm ?_
      refine J_iast (X' := (va_up (mk5 D E (setT g 0) S A) 2 (va_up (setT g 0) 1 (va_up ((setT g 0) 1) (ix ((setT g 0) 0 1)) p0)))) hC (nl_mi (by decide)) (ent_mi1) (full_in (by decide) rfl hg.2.2.2 c24) (pu_mi1F ) dX6_build_42 ?_
      refine J_X (X' := (mk5 D E (va_up (setT g 0) 1 (va_up ((setT g 0) 1) (ix ((setT g 0) 0 1)) p0)) S A)) m5u2 ?_
      refine J_aload_n hC (j := 0) dX6_build_43 rfl rfl ?_
      refine J_get (v' := .ref (aX G 2 2)) hC nl_m0 ent_m0 rfl in6 3 (by decide) rfl qw_734 rfl rfl dX6_build_44 ?_
      refine J_aload_n hC (j := 0) dX6_build_47 rfl rfl ?_
      refine J_get hC nl_m0 ent_m0 rfl in6 1 (by decide) rfl qw_731 rfl (r5 (x := ((setT g 0) 0 1)) (by first | rfl | simp [mk5, va_up])) dX6_build_48 ?_
      refine J_iload_n hC (j := 2) dX6_build_51 rfl rfl ?_
      refine J_X (X' := (va_up (mk5 D E (va_up (setT g 0) 1 (va_up ((setT g 0) 1) (ix ((setT g 0) 0 1)) p0)) S A) 2 (va_up (setT g 0) 1 (va_up ((setT g 0) 1) (ix ((setT g 0) 0 1)) p0)))) m5u2.symm ?_
      refine J_iast (X' := (va_up (mk5 D E (va_up (setT g 0) 1 (va_up ((setT g 0) 1) (ix ((setT g 0) 0 1)) p0)) S A) 2 (va_up (va_up (setT g 0) 1 (va_up ((setT g 0) 1) (ix ((setT g 0) 0 1)) p0)) 2 (va_up ((setT g 0) 2) (ix ((setT g 0) 0 1)) p1)))) hC (nl_mi (by decide)) (ent_mi2) (full_in (by decide) rfl hg.2.2.2 c24) (pu_mi2F ) dX6_build_52 ?_
      refine J_X (X' := (mk5 D E (va_up (va_up (setT g 0) 1 (va_up ((setT g 0) 1) (ix ((setT g 0) 0 1)) p0)) 2 (va_up ((setT g 0) 2) (ix ((setT g 0) 0 1)) p1)) S A)) m5u2 ?_
      refine J_aload_n hC (j := 0) dX6_build_53 rfl rfl ?_
      refine J_dup hC dX6_build_54 rfl ?_
      refine J_get hC nl_m0 ent_m0 rfl in6 1 (by decide) rfl qw_731 rfl (r5 (x := ((setT g 0) 0 1)) (by first | rfl | simp [mk5, va_up])) dX6_build_55 ?_
      refine J_iconst (v := 1) hC dX6_build_58 (by decide) ?_
      refine J_iadd hC dX6_build_59 ?_
      refine J_X (X' := (va_up (mk5 D E (va_up (va_up (setT g 0) 1 (va_up ((setT g 0) 1) (ix ((setT g 0) 0 1)) p0)) 2 (va_up ((setT g 0) 2) (ix ((setT g 0) 0 1)) p1)) S A) 2 (va_up (va_up (setT g 0) 1 (va_up ((setT g 0) 1) (ix ((setT g 0) 0 1)) p0)) 2 (va_up ((setT g 0) 2) (ix ((setT g 0) 0 1)) p1)))) m5u2.symm ?_
      refine J_put (X' := (va_up (mk5 D E (va_up (va_up (setT g 0) 1 (va_up ((setT g 0) 1) (ix ((setT g 0) 0 1)) p0)) 2 (va_up ((setT g 0) 2) (ix ((setT g 0) 0 1)) p1)) S A) 2 (va_up (va_up (va_up (setT g 0) 1 (va_up ((setT g 0) 1) (ix ((setT g 0) 0 1)) p0)) 2 (va_up ((setT g 0) 2) (ix ((setT g 0) 0 1)) p1)) 0 (va_up ((setT g 0) 0) 1 (((setT g 0) 0 1) + 1))))) hC nl_m0 ent_m0 rfl in6 tyX6_ok nmX6 1 (by decide) rfl qw_731 rfl (by decide) (Nat.le_of_ble_eq_true rfl) (pu_m0F  (by decide)) dX6_build_60 ?_
      refine J_X (X' := (mk5 D E (va_up (va_up (va_up (setT g 0) 1 (va_up ((setT g 0) 1) (ix ((setT g 0) 0 1)) p0)) 2 (va_up ((setT g 0) 2) (ix ((setT g 0) 0 1)) p1)) 0 (va_up ((setT g 0) 0) 1 (((setT g 0) 0 1) + 1))) S A)) m5u2 ?_
      refine J_aload_n hC (j := 0) dX6_build_63 rfl rfl ?_
      refine J_get hC nl_m0 ent_m0 rfl in6 1 (by decide) rfl qw_731 rfl (r5 (x := (((setT g 0) 0 1) + 1)) (by first | rfl | simp [mk5, va_up])) dX6_build_64 ?_
      refine J_iconst (v := 1) hC dX6_build_67 (by decide) ?_
      refine J_isub hC dX6_build_68 ?_
      exact J_iret hC hr (by first | (simp [vBuildM, mBuild2, h7, c24, mk5_2]; done) | rfl) (by first | (simp [vBuildM, mBuild2, h7, c24, mk5_2]; done) | rfl) rfl dX6_build_69
    · refine J_aload_n hC (j := 0) dX6_build_27 rfl rfl ?_
      refine J_iconst (v := 2) hC dX6_build_28 (by decide) ?_
      refine J_callV hC (ct_X6_no l G D E (setT g 0) S A o 2) mw_X6_no qw_788 nl_m0 ent_m0 rfl rfl rfl (Nat.le_of_ble_eq_true rfl) ⟨Nat.le_of_ble_eq_true rfl, Nat.le_of_ble_eq_true rfl⟩ ⟨Nat.le_of_ble_eq_true rfl, Nat.le_of_ble_eq_true rfl⟩ dX6_build_29 ?_
      exact J_iret hC hr (by first | (simp [vBuildM, mBuild2, h7, c24, mk5_2]; done) | rfl) (by first | (simp [vBuildM, mBuild2, h7, c24, mk5_2]; done) | rfl) rfl dX6_build_32
  · refine J_tv (congrArg Value.int (bI_neg h7)) ?_
    refine J_if_ne (tgt := 19) hC dX6_build_10 (by decide) (fun h => absurd h (by decide)) (fun _ => ?_)
    refine J_aload_n hC (j := 0) dX6_build_13 rfl rfl ?_
    refine J_iconst (v := 1) hC dX6_build_14 (by decide) ?_
    refine J_callV hC (ct_X6_no l G D E (setT g 0) S A o 1) mw_X6_no qw_788 nl_m0 ent_m0 rfl rfl rfl (Nat.le_of_ble_eq_true rfl) ⟨Nat.le_of_ble_eq_true rfl, Nat.le_of_ble_eq_true rfl⟩ ⟨Nat.le_of_ble_eq_true rfl, Nat.le_of_ble_eq_true rfl⟩ dX6_build_15 ?_
    exact J_iret hC hr (by first | (simp [vBuildM, mBuild2, h7, mk5_2]; done) | rfl) (by first | (simp [vBuildM, mBuild2, h7, mk5_2]; done) | rfl) rfl dX6_build_18
set_option maxHeartbeats 4000000 in
set_option maxRecDepth 100000 in
theorem ct_X6_air (l : Launch) (G : GG) (D E g S A : DD) (o : OO) (p0 : Int32) (p1 : Int32) (p2 : Int32) (hg : GG2 (setT g 0)) : CT l yX6_air cX6_air 5 (some .int) 2 43 0 0 G [.ref (aX G 2 0), .int p0, .int p1, .int p2] (mk5 D E g S A) o (some (.int (vAirM (setT g 0) p0 p1 p2))) (mk5 D E (mAir (setT g 0) p0 p1 p2) S A) o := by
  refine CT_of (own := RX6) (lv := [(0, .ref (aX G 2 0)), (1, .int p0), (2, .int p1), (3, .int p2)]) (by decide) rfl (Nat.le_of_ble_eq_true rfl) rfl ?_
  intro p e s m args below meth c hr hC
  refine J_aload_n hC (j := 0) dX6_air_0 rfl rfl ?_
  refine J_iconst (v := 0) hC dX6_air_1 (by decide) ?_
  refine J_X (X' := (va_up (mk5 D E g S A) 2 g)) m5u2.symm ?_
  refine J_put (X' := (va_up (mk5 D E g S A) 2 (va_up g 0 (va_up (g 0) 0 0)))) hC nl_m0 ent_m0 rfl in6 tyX6_ok nmX6 0 (by decide) rfl qw_730 rfl (by decide) (Nat.le_of_ble_eq_true rfl) (pu_m0F  (by decide)) dX6_air_2 ?_
  refine J_X (X' := (mk5 D E (va_up g 0 (va_up (g 0) 0 0)) S A)) m5u2 ?_
  refine J_X (X' := (mk5 D E (setT g 0) S A)) rfl ?_
  refine J_aload_n hC (j := 0) dX6_air_5 rfl rfl ?_
  refine J_iload_n hC (j := 1) dX6_air_6 rfl rfl ?_
  refine J_callV hC (ct_X6_isCellar l G D E (setT g 0) S A o p0) mw_X6_isCellar qw_796 nl_m0 ent_m0 rfl rfl rfl (Nat.le_of_ble_eq_true rfl) ⟨Nat.le_of_ble_eq_true rfl, Nat.le_of_ble_eq_true rfl⟩ ⟨Nat.le_of_ble_eq_true rfl, Nat.le_of_ble_eq_true rfl⟩ dX6_air_7 ?_
  by_cases h7 : cI (setT g 0) p0 = true
  · refine J_tv (congrArg Value.int (bI_pos h7)) ?_
    refine J_if_ne (tgt := 19) hC dX6_air_10 (by decide) (fun _ => ?_) (fun h => absurd h (by decide))
    refine J_iload_n hC (j := 2) dX6_air_19 rfl rfl ?_
    refine J_iload_n hC (j := 3) dX6_air_20 rfl rfl ?_
    refine J_callS hC (ct_X6_isAir l G (mk5 D E (setT g 0) S A) o p1 p2) ms_X6_isAir qw_782 rfl rfl (Nat.le_of_ble_eq_true rfl) ⟨Nat.le_of_ble_eq_true rfl, Nat.le_of_ble_eq_true rfl⟩ ⟨Nat.le_of_ble_eq_true rfl, Nat.le_of_ble_eq_true rfl⟩ dX6_air_21 ?_
    by_cases h21 : airOk p1 p2 = true
    · refine J_tv (congrArg Value.int (bI_pos h21)) ?_
      refine J_if_ne (tgt := 33) hC dX6_air_24 (by decide) (fun _ => ?_) (fun h => absurd h (by decide))
      refine J_bipush (v := 10) hC dX6_air_33 (by decide) ?_
      refine J_aload_n hC (j := 0) dX6_air_35 rfl rfl ?_
      refine J_get (v' := .ref (aX G 2 1)) hC nl_m0 ent_m0 rfl in6 2 (by decide) rfl qw_732 rfl rfl dX6_air_36 ?_
      refine J_iload_n hC (j := 1) dX6_air_39 rfl rfl ?_
      refine J_iald (x := ((setT g 0) 1 (ix p0))) hC (nl_mi (by decide)) (ent_mi1) (cI_in hg h7) (iv (r5 (x := ((setT g 0) 1 (ix p0))) rfl)) dX6_air_40 ?_
      refine J_imul hC dX6_air_41 ?_
      refine J_aload_n hC (j := 0) dX6_air_42 rfl rfl ?_
      refine J_get (v' := .ref (aX G 2 2)) hC nl_m0 ent_m0 rfl in6 3 (by decide) rfl qw_734 rfl rfl dX6_air_43 ?_
      refine J_iload_n hC (j := 1) dX6_air_46 rfl rfl ?_
      refine J_iald (x := ((setT g 0) 2 (ix p0))) hC (nl_mi (by decide)) (ent_mi2) (cI_in hg h7) (iv (r5 (x := ((setT g 0) 2 (ix p0))) rfl)) dX6_air_47 ?_
      refine J_iadd hC dX6_air_48 ?_
      refine J_istore (lv' := [(4, .int ((10 * ((setT g 0) 1 (ix p0))) + ((setT g 0) 2 (ix p0)))), (0, .ref (aX G 2 0)), (1, .int p0), (2, .int p1), (3, .int p2)]) hC dX6_air_49 (by decide) rfl ?_
      refine J_aload_n hC (j := 1) dX6_air_51 rfl rfl ?_
      refine J_get (v' := .ref (aX G 2 1)) hC nl_m0 ent_m0 rfl in6 2 (by decide) rfl qw_732 rfl rfl dX6_air_52 ?_
      refine J_iload_n hC (j := 2) dX6_air_55 rfl rfl ?_
      refine J_iload_n hC (j := 3) dX6_air_56 rfl rfl ?_
      refine J_X (X' := (va_up (mk5 D E (setT g 0) S A) 2 (setT g 0))) m5u2.symm ?_
      refine J_iast (X' := (va_up (mk5 D E (setT g 0) S A) 2 (va_up (setT g 0) 1 (va_up ((setT g 0) 1) (ix p0) p1)))) hC (nl_mi (by decide)) (ent_mi1) (cI_in hg h7) (pu_mi1F ) dX6_air_57 ?_
      refine J_X (X' := (mk5 D E (va_up (setT g 0) 1 (va_up ((setT g 0) 1) (ix p0) p1)) S A)) m5u2 ?_
      refine J_aload_n hC (j := 1) dX6_air_58 rfl rfl ?_
      refine J_get (v' := .ref (aX G 2 2)) hC nl_m0 ent_m0 rfl in6 3 (by decide) rfl qw_734 rfl rfl dX6_air_59 ?_
      refine J_iload_n hC (j := 2) dX6_air_62 rfl rfl ?_
      refine J_iload_n hC (j := 4) dX6_air_63 rfl rfl ?_
      refine J_X (X' := (va_up (mk5 D E (va_up (setT g 0) 1 (va_up ((setT g 0) 1) (ix p0) p1)) S A) 2 (va_up (setT g 0) 1 (va_up ((setT g 0) 1) (ix p0) p1)))) m5u2.symm ?_
      refine J_iast (X' := (va_up (mk5 D E (va_up (setT g 0) 1 (va_up ((setT g 0) 1) (ix p0) p1)) S A) 2 (va_up (va_up (setT g 0) 1 (va_up ((setT g 0) 1) (ix p0) p1)) 2 (va_up ((setT g 0) 2) (ix p0) p2)))) hC (nl_mi (by decide)) (ent_mi2) (cI_in hg h7) (pu_mi2F ) dX6_air_64 ?_
      refine J_X (X' := (mk5 D E (va_up (va_up (setT g 0) 1 (va_up ((setT g 0) 1) (ix p0) p1)) 2 (va_up ((setT g 0) 2) (ix p0) p2)) S A)) m5u2 ?_
      refine J_iload hC (j := 0) dX6_air_65 rfl ?_
      exact J_iret hC hr (by first | (simp [vAirM, mAir, h7, h21, mk5_2]; done) | rfl) (by first | (simp [vAirM, mAir, h7, h21, mk5_2]; done) | rfl) rfl dX6_air_67
    · refine J_tv (congrArg Value.int (bI_neg h21)) ?_
      refine J_if_ne (tgt := 33) hC dX6_air_24 (by decide) (fun h => absurd h (by decide)) (fun _ => ?_)
      refine J_aload_n hC (j := 0) dX6_air_27 rfl rfl ?_
      refine J_iconst (v := 2) hC dX6_air_28 (by decide) ?_
      refine J_callV hC (ct_X6_no l G D E (setT g 0) S A o 2) mw_X6_no qw_788 nl_m0 ent_m0 rfl rfl rfl (Nat.le_of_ble_eq_true rfl) ⟨Nat.le_of_ble_eq_true rfl, Nat.le_of_ble_eq_true rfl⟩ ⟨Nat.le_of_ble_eq_true rfl, Nat.le_of_ble_eq_true rfl⟩ dX6_air_29 ?_
      exact J_iret hC hr (by first | (simp [vAirM, mAir, h7, h21, mk5_2]; done) | rfl) (by first | (simp [vAirM, mAir, h7, h21, mk5_2]; done) | rfl) rfl dX6_air_32
  · refine J_tv (congrArg Value.int (bI_neg h7)) ?_
    refine J_if_ne (tgt := 19) hC dX6_air_10 (by decide) (fun h => absurd h (by decide)) (fun _ => ?_)
    refine J_aload_n hC (j := 0) dX6_air_13 rfl rfl ?_
    refine J_iconst (v := 1) hC dX6_air_14 (by decide) ?_
    refine J_callV hC (ct_X6_no l G D E (setT g 0) S A o 1) mw_X6_no qw_788 nl_m0 ent_m0 rfl rfl rfl (Nat.le_of_ble_eq_true rfl) ⟨Nat.le_of_ble_eq_true rfl, Nat.le_of_ble_eq_true rfl⟩ ⟨Nat.le_of_ble_eq_true rfl, Nat.le_of_ble_eq_true rfl⟩ dX6_air_15 ?_
    exact J_iret hC hr (by first | (simp [vAirM, mAir, h7, mk5_2]; done) | rfl) (by first | (simp [vAirM, mAir, h7, mk5_2]; done) | rfl) rfl dX6_air_18
set_option maxHeartbeats 4000000 in
set_option maxRecDepth 100000 in
theorem ct_X6_carry (l : Launch) (G : GG) (D E g S A : DD) (o : OO) (p0 : Int32) (p1 : Int32) (p2 : Int32) (hg : GG2 (setT g 0)) (hS : SI S) : CT l yX6_carry cX6_carry 5 (some .int) 2 43 0 0 G [.ref (aX G 2 0), .int p0, .int p1, .int p2] (mk5 D E g S A) o (some (.int (vCarryM (setT g 0) S p0 p1 p2))) (mk5 D E (mCarry (setT g 0) S p0 p1 p2) (sCarry (setT g 0) S p0 p1 p2) A) o := by
  refine CT_of (own := RX6) (lv := [(0, .ref (aX G 2 0)), (1, .int p0), (2, .int p1), (3, .int p2)]) (by decide) rfl (Nat.le_of_ble_eq_true rfl) rfl ?_
  intro p e s m args below meth c hr hC
  refine J_aload_n hC (j := 0) dX6_carry_0 rfl rfl ?_
  refine J_iconst (v := 0) hC dX6_carry_1 (by decide) ?_
  refine J_X (X' := (va_up (mk5 D E g S A) 2 g)) m5u2.symm ?_
  refine J_put (X' := (va_up (mk5 D E g S A) 2 (va_up g 0 (va_up (g 0) 0 0)))) hC nl_m0 ent_m0 rfl in6 tyX6_ok nmX6 0 (by decide) rfl qw_730 rfl (by decide) (Nat.le_of_ble_eq_true rfl) (pu_m0F  (by decide)) dX6_carry_2 ?_
  refine J_X (X' := (mk5 D E (va_up g 0 (va_up (g 0) 0 0)) S A)) m5u2 ?_
  refine J_X (X' := (mk5 D E (setT g 0) S A)) rfl ?_
  refine J_aload_n hC (j := 0) dX6_carry_5 rfl rfl ?_
  refine J_iload_n hC (j := 1) dX6_carry_6 rfl rfl ?_
  refine J_callV hC (ct_X6_isWheel l G D E (setT g 0) S A o p0) mw_X6_isWheel qw_815 nl_m0 ent_m0 rfl rfl rfl (Nat.le_of_ble_eq_true rfl) ⟨Nat.le_of_ble_eq_true rfl, Nat.le_of_ble_eq_true rfl⟩ ⟨Nat.le_of_ble_eq_true rfl, Nat.le_of_ble_eq_true rfl⟩ dX6_carry_7 ?_
  by_cases h7 : wI (setT g 0) p0 = true
  · refine J_tv (congrArg Value.int (bI_pos h7)) ?_
    refine J_if_eq (tgt := 28) hC dX6_carry_10 (by decide) (fun h => absurd h (by decide)) (fun _ => ?_)
    refine J_aload_n hC (j := 0) dX6_carry_13 rfl rfl ?_
    refine J_iload_n hC (j := 2) dX6_carry_14 rfl rfl ?_
    refine J_callV hC (ct_X6_isCellar l G D E (setT g 0) S A o p1) mw_X6_isCellar qw_796 nl_m0 ent_m0 rfl rfl rfl (Nat.le_of_ble_eq_true rfl) ⟨Nat.le_of_ble_eq_true rfl, Nat.le_of_ble_eq_true rfl⟩ ⟨Nat.le_of_ble_eq_true rfl, Nat.le_of_ble_eq_true rfl⟩ dX6_carry_15 ?_
    by_cases h15 : cI (setT g 0) p1 = true
    · refine J_tv (congrArg Value.int (bI_pos h15)) ?_
      refine J_if_eq (tgt := 28) hC dX6_carry_18 (by decide) (fun h => absurd h (by decide)) (fun _ => ?_)
      refine J_iload_n hC (j := 3) dX6_carry_21 rfl rfl ?_
      refine J_callS hC (ct_X6_isPlace l G (mk5 D E (setT g 0) S A) o p2) ms_X6_isPlace qw_804 rfl rfl (Nat.le_of_ble_eq_true rfl) ⟨Nat.le_of_ble_eq_true rfl, Nat.le_of_ble_eq_true rfl⟩ ⟨Nat.le_of_ble_eq_true rfl, Nat.le_of_ble_eq_true rfl⟩ dX6_carry_22 ?_
      by_cases h22 : isPl p2 = true
      · refine J_tv (congrArg Value.int (bI_pos h22)) ?_
        refine J_if_ne (tgt := 34) hC dX6_carry_25 (by decide) (fun _ => ?_) (fun h => absurd h (by decide))
        refine J_aload_n hC (j := 0) dX6_carry_34 rfl rfl ?_
        refine J_get (v' := .ref (aX G 3 0)) hC nl_m0 ent_m0 rfl in6 10 (by decide) rfl qw_747 rfl rfl dX6_carry_35 ?_
        refine J_getN (v' := .ref (aX G 3 2)) hC (nl_s0 (Or.inl rfl)) (ent_s0 (Or.inl rfl)) rfl in5 2 (by decide) rfl nqw_676 rfl rfl dX6_carry_38 ?_
        refine J_iload_n hC (j := 1) dX6_carry_41 rfl rfl ?_
        refine J_iald (x := (S 2 (ix p0))) hC (nl_si2 (Or.inl rfl)) (ent_si2 (Or.inl rfl)) (wI_in hg h7) (iv (r5 (x := (S 2 (ix p0))) rfl)) dX6_carry_42 ?_
        refine J_if_ne (tgt := 64) hC dX6_carry_43 (by decide) (fun c43 => ?_) (fun c43 => ?_)
        · refine J_aload_n hC (j := 0) dX6_carry_64 rfl rfl ?_
          refine J_iconst (v := 2) hC dX6_carry_65 (by decide) ?_
          refine J_callV hC (ct_X6_no l G D E (setT g 0) S A o 2) mw_X6_no qw_788 nl_m0 ent_m0 rfl rfl rfl (Nat.le_of_ble_eq_true rfl) ⟨Nat.le_of_ble_eq_true rfl, Nat.le_of_ble_eq_true rfl⟩ ⟨Nat.le_of_ble_eq_true rfl, Nat.le_of_ble_eq_true rfl⟩ dX6_carry_66 ?_
          exact J_iret hC hr (by first | (simp [cOk, vCarryM, mCarry, sCarry, h7, h15, h22, c43, mk5_2]; done) | rfl) (by first | (simp [cOk, vCarryM, mCarry, sCarry, h7, h15, h22, c43, mk5_2]; done) | rfl) rfl dX6_carry_69
        · refine J_aload_n hC (j := 0) dX6_carry_46 rfl rfl ?_
          refine J_get (v' := .ref (aX G 3 0)) hC nl_m0 ent_m0 rfl in6 10 (by decide) rfl qw_747 rfl rfl dX6_carry_47 ?_
          refine J_getN (v' := .ref (aX G 3 1)) hC (nl_s0 (Or.inl rfl)) (ent_s0 (Or.inl rfl)) rfl in5 1 (by decide) rfl nqw_674 rfl rfl dX6_carry_50 ?_
          refine J_bipush (v := 10) hC dX6_carry_53 (by decide) ?_
          refine J_iload_n hC (j := 2) dX6_carry_55 rfl rfl ?_
          refine J_imul hC dX6_carry_56 ?_
          refine J_iload_n hC (j := 3) dX6_carry_57 rfl rfl ?_
          refine J_iadd hC dX6_carry_58 ?_
          refine J_iald (x := (S 1 (ix ((10 * p1) + p2)))) hC (nl_si1 (Or.inl rfl)) (ent_si1 (Or.inl rfl)) (vp_bd (cI_in hg h15) (pl_in h22)) (iv (r5 (x := (S 1 (ix ((10 * p1) + p2)))) rfl)) dX6_carry_59 ?_
          refine J_iconst (v := (-1)) hC dX6_carry_60 (by decide) ?_
          refine J_icmp_eq (tgt := 70) hC dX6_carry_61 (by decide) (fun c61 => ?_) (fun c61 => ?_)
          · refine J_aload_n hC (j := 0) dX6_carry_70 rfl rfl ?_
            refine J_get (v' := .ref (aX G 3 0)) hC nl_m0 ent_m0 rfl in6 10 (by decide) rfl qw_747 rfl rfl dX6_carry_71 ?_
            refine J_getN (v' := .ref (aX G 3 3)) hC (nl_s0 (Or.inl rfl)) (ent_s0 (Or.inl rfl)) rfl in5 3 (by decide) rfl nqw_678 rfl rfl dX6_carry_74 ?_
            refine J_iload_n hC (j := 1) dX6_carry_77 rfl rfl ?_
            refine J_iald (x := (S 3 (ix p0))) hC (nl_si3 (Or.inl rfl)) (ent_si3 (Or.inl rfl)) (wI_in hg h7) (iv (r5 (x := (S 3 (ix p0))) rfl)) dX6_carry_78 ?_
            refine J_istore (lv' := [(4, .int (S 3 (ix p0))), (0, .ref (aX G 2 0)), (1, .int p0), (2, .int p1), (3, .int p2)]) hC dX6_carry_79 (by decide) rfl ?_
            refine J_aload_n hC (j := 1) dX6_carry_81 rfl rfl ?_
            refine J_get (v' := .ref (aX G 3 0)) hC nl_m0 ent_m0 rfl in6 10 (by decide) rfl qw_747 rfl rfl dX6_carry_82 ?_
            refine J_getN (v' := .ref (aX G 3 1)) hC (nl_s0 (Or.inl rfl)) (ent_s0 (Or.inl rfl)) rfl in5 1 (by decide) rfl nqw_674 rfl rfl dX6_carry_85 ?_
            refine J_iload hC (j := 0) dX6_carry_88 rfl ?_
            refine J_iconst (v := (-1)) hC dX6_carry_90 (by decide) ?_
            refine J_X (X' := (va_up (mk5 D E (setT g 0) S A) 3 S)) m5u3.symm ?_
            refine J_iast (X' := (va_up (mk5 D E (setT g 0) S A) 3 (va_up S 1 (va_up (S 1) (ix (S 3 (ix p0))) (-1))))) hC (nl_si1 (Or.inl rfl)) (ent_si1 (Or.inl rfl)) (hS.1 _ (vp_lt (wI_in hg h7))) (pu_si1F (Or.inl rfl)) dX6_carry_91 ?_
            refine J_X (X' := (mk5 D E (setT g 0) (va_up S 1 (va_up (S 1) (ix (S 3 (ix p0))) (-1))) A)) m5u3 ?_
            refine J_aload_n hC (j := 1) dX6_carry_92 rfl rfl ?_
            refine J_get (v' := .ref (aX G 3 0)) hC nl_m0 ent_m0 rfl in6 10 (by decide) rfl qw_747 rfl rfl dX6_carry_93 ?_
            refine J_iload_n hC (j := 2) dX6_carry_96 rfl rfl ?_
            refine J_bipush (v := 10) hC dX6_carry_97 (by decide) ?_
            refine J_iload_n hC (j := 3) dX6_carry_99 rfl rfl ?_
            refine J_imul hC dX6_carry_100 ?_
            refine J_iload_n hC (j := 4) dX6_carry_101 rfl rfl ?_
            refine J_iadd hC dX6_carry_102 ?_
            refine J_callVv hC (ct_rw (X4 := (mk5 D E (setT g 0) (sPut (va_up S 1 (va_up (S 1) (ix (S 3 (ix p0))) (-1))) p0 ((10 * p1) + p2)) A)) m5u3 m5u3 (ct_X5_put l G (mk5 D E (setT g 0) (va_up S 1 (va_up (S 1) (ix (S 3 (ix p0))) (-1))) A) o 3 (Or.inl rfl) (va_up S 1 (va_up (S 1) (ix (S 3 (ix p0))) (-1))) p0 ((10 * p1) + p2) (wI_in hg h7) (vp_bd (cI_in hg h15) (pl_in h22)))) mw_X5_put qw_807 (nl_s0 (Or.inl rfl)) (ent_s0 (Or.inl rfl)) rfl rfl rfl (Nat.le_of_ble_eq_true rfl) ⟨Nat.le_of_ble_eq_true rfl, Nat.le_of_ble_eq_true rfl⟩ ⟨Nat.le_of_ble_eq_true rfl, Nat.le_of_ble_eq_true rfl⟩ dX6_carry_103 ?_
            refine J_iload hC (j := 0) dX6_carry_106 rfl ?_
            exact J_iret hC hr (by first | (simp [cOk, vCarryM, mCarry, sCarry, h7, h15, h22, c43, c61, mk5_2]; done) | rfl) (by first | (simp [cOk, vCarryM, mCarry, sCarry, h7, h15, h22, c43, c61, mk5_2]; done) | rfl) rfl dX6_carry_108
          · refine J_aload_n hC (j := 0) dX6_carry_64 rfl rfl ?_
            refine J_iconst (v := 2) hC dX6_carry_65 (by decide) ?_
            refine J_callV hC (ct_X6_no l G D E (setT g 0) S A o 2) mw_X6_no qw_788 nl_m0 ent_m0 rfl rfl rfl (Nat.le_of_ble_eq_true rfl) ⟨Nat.le_of_ble_eq_true rfl, Nat.le_of_ble_eq_true rfl⟩ ⟨Nat.le_of_ble_eq_true rfl, Nat.le_of_ble_eq_true rfl⟩ dX6_carry_66 ?_
            exact J_iret hC hr (by first | (simp [cOk, vCarryM, mCarry, sCarry, h7, h15, h22, c43, c61, mk5_2]; done) | rfl) (by first | (simp [cOk, vCarryM, mCarry, sCarry, h7, h15, h22, c43, c61, mk5_2]; done) | rfl) rfl dX6_carry_69
      · refine J_tv (congrArg Value.int (bI_neg h22)) ?_
        refine J_if_ne (tgt := 34) hC dX6_carry_25 (by decide) (fun h => absurd h (by decide)) (fun _ => ?_)
        refine J_aload_n hC (j := 0) dX6_carry_28 rfl rfl ?_
        refine J_iconst (v := 1) hC dX6_carry_29 (by decide) ?_
        refine J_callV hC (ct_X6_no l G D E (setT g 0) S A o 1) mw_X6_no qw_788 nl_m0 ent_m0 rfl rfl rfl (Nat.le_of_ble_eq_true rfl) ⟨Nat.le_of_ble_eq_true rfl, Nat.le_of_ble_eq_true rfl⟩ ⟨Nat.le_of_ble_eq_true rfl, Nat.le_of_ble_eq_true rfl⟩ dX6_carry_30 ?_
        exact J_iret hC hr (by first | (simp [cOk, vCarryM, mCarry, sCarry, h7, h15, h22, mk5_2]; done) | rfl) (by first | (simp [cOk, vCarryM, mCarry, sCarry, h7, h15, h22, mk5_2]; done) | rfl) rfl dX6_carry_33
    · refine J_tv (congrArg Value.int (bI_neg h15)) ?_
      refine J_if_eq (tgt := 28) hC dX6_carry_18 (by decide) (fun _ => ?_) (fun h => absurd h (by decide))
      refine J_aload_n hC (j := 0) dX6_carry_28 rfl rfl ?_
      refine J_iconst (v := 1) hC dX6_carry_29 (by decide) ?_
      refine J_callV hC (ct_X6_no l G D E (setT g 0) S A o 1) mw_X6_no qw_788 nl_m0 ent_m0 rfl rfl rfl (Nat.le_of_ble_eq_true rfl) ⟨Nat.le_of_ble_eq_true rfl, Nat.le_of_ble_eq_true rfl⟩ ⟨Nat.le_of_ble_eq_true rfl, Nat.le_of_ble_eq_true rfl⟩ dX6_carry_30 ?_
      exact J_iret hC hr (by first | (simp [cOk, vCarryM, mCarry, sCarry, h7, h15, mk5_2]; done) | rfl) (by first | (simp [cOk, vCarryM, mCarry, sCarry, h7, h15, mk5_2]; done) | rfl) rfl dX6_carry_33
  · refine J_tv (congrArg Value.int (bI_neg h7)) ?_
    refine J_if_eq (tgt := 28) hC dX6_carry_10 (by decide) (fun _ => ?_) (fun h => absurd h (by decide))
    refine J_aload_n hC (j := 0) dX6_carry_28 rfl rfl ?_
    refine J_iconst (v := 1) hC dX6_carry_29 (by decide) ?_
    refine J_callV hC (ct_X6_no l G D E (setT g 0) S A o 1) mw_X6_no qw_788 nl_m0 ent_m0 rfl rfl rfl (Nat.le_of_ble_eq_true rfl) ⟨Nat.le_of_ble_eq_true rfl, Nat.le_of_ble_eq_true rfl⟩ ⟨Nat.le_of_ble_eq_true rfl, Nat.le_of_ble_eq_true rfl⟩ dX6_carry_30 ?_
    exact J_iret hC hr (by first | (simp [cOk, vCarryM, mCarry, sCarry, h7, mk5_2]; done) | rfl) (by first | (simp [cOk, vCarryM, mCarry, sCarry, h7, mk5_2]; done) | rfl) rfl dX6_carry_33
set_option maxHeartbeats 4000000 in
set_option maxRecDepth 100000 in
theorem ct_X6_infect (l : Launch) (G : GG) (D E g S A : DD) (o : OO) (p0 : Int32) (p1 : Int32) (hg : GG2 (setT g 0)) : CT l yX6_infect cX6_infect 4 (some .int) 2 43 0 0 G [.ref (aX G 2 0), .int p0, .int p1] (mk5 D E g S A) o (some (.int (vInfM (setT g 0) S p0 p1))) (mk5 D E (mInf (setT g 0) S p0 p1) (sInf (setT g 0) S p0 p1) A) o := by
  refine CT_of (own := RX6) (lv := [(0, .ref (aX G 2 0)), (1, .int p0), (2, .int p1)]) (by decide) rfl (Nat.le_of_ble_eq_true rfl) rfl ?_
  intro p e s m args below meth c hr hC
  refine J_aload_n hC (j := 0) dX6_infect_0 rfl rfl ?_
  refine J_iconst (v := 0) hC dX6_infect_1 (by decide) ?_
  refine J_X (X' := (va_up (mk5 D E g S A) 2 g)) m5u2.symm ?_
  refine J_put (X' := (va_up (mk5 D E g S A) 2 (va_up g 0 (va_up (g 0) 0 0)))) hC nl_m0 ent_m0 rfl in6 tyX6_ok nmX6 0 (by decide) rfl qw_730 rfl (by decide) (Nat.le_of_ble_eq_true rfl) (pu_m0F  (by decide)) dX6_infect_2 ?_
  refine J_X (X' := (mk5 D E (va_up g 0 (va_up (g 0) 0 0)) S A)) m5u2 ?_
  refine J_X (X' := (mk5 D E (setT g 0) S A)) rfl ?_
  refine J_aload_n hC (j := 0) dX6_infect_5 rfl rfl ?_
  refine J_iload_n hC (j := 1) dX6_infect_6 rfl rfl ?_
  refine J_callV hC (ct_X6_isWheel l G D E (setT g 0) S A o p0) mw_X6_isWheel qw_815 nl_m0 ent_m0 rfl rfl rfl (Nat.le_of_ble_eq_true rfl) ⟨Nat.le_of_ble_eq_true rfl, Nat.le_of_ble_eq_true rfl⟩ ⟨Nat.le_of_ble_eq_true rfl, Nat.le_of_ble_eq_true rfl⟩ dX6_infect_7 ?_
  by_cases h7 : wI (setT g 0) p0 = true
  · refine J_tv (congrArg Value.int (bI_pos h7)) ?_
    refine J_if_ne (tgt := 19) hC dX6_infect_10 (by decide) (fun _ => ?_) (fun h => absurd h (by decide))
    refine J_iload_n hC (j := 2) dX6_infect_19 rfl rfl ?_
    refine J_iconst (v := 0) hC dX6_infect_20 (by decide) ?_
    refine J_iconst (v := 3) hC dX6_infect_21 (by decide) ?_
    refine J_callS hC (ct_X6_isIn l G (mk5 D E (setT g 0) S A) o p1 0 3) ms_X6_isIn qw_785 rfl rfl (Nat.le_of_ble_eq_true rfl) ⟨Nat.le_of_ble_eq_true rfl, Nat.le_of_ble_eq_true rfl⟩ ⟨Nat.le_of_ble_eq_true rfl, Nat.le_of_ble_eq_true rfl⟩ dX6_infect_22 ?_
    by_cases h22 : wthn p1 0 3 = true
    · refine J_tv (congrArg Value.int (bI_pos h22)) ?_
      refine J_if_ne (tgt := 34) hC dX6_infect_25 (by decide) (fun _ => ?_) (fun h => absurd h (by decide))
      refine J_aload_n hC (j := 0) dX6_infect_34 rfl rfl ?_
      refine J_get (v' := .ref (aX G 3 0)) hC nl_m0 ent_m0 rfl in6 10 (by decide) rfl qw_747 rfl rfl dX6_infect_35 ?_
      refine J_getN (v' := .ref (aX G 3 2)) hC (nl_s0 (Or.inl rfl)) (ent_s0 (Or.inl rfl)) rfl in5 2 (by decide) rfl nqw_676 rfl rfl dX6_infect_38 ?_
      refine J_iload_n hC (j := 1) dX6_infect_41 rfl rfl ?_
      refine J_iald (x := (S 2 (ix p0))) hC (nl_si2 (Or.inl rfl)) (ent_si2 (Or.inl rfl)) (wI_in hg h7) (iv (r5 (x := (S 2 (ix p0))) rfl)) dX6_infect_42 ?_
      refine J_if_eq (tgt := 52) hC dX6_infect_43 (by decide) (fun c43 => ?_) (fun c43 => ?_)
      · refine J_aload_n hC (j := 0) dX6_infect_52 rfl rfl ?_
        refine J_get (v' := .ref (aX G 3 0)) hC nl_m0 ent_m0 rfl in6 10 (by decide) rfl qw_747 rfl rfl dX6_infect_53 ?_
        refine J_getN (v' := .ref (aX G 3 8)) hC (nl_s0 (Or.inl rfl)) (ent_s0 (Or.inl rfl)) rfl in5 8 (by decide) rfl nqw_688 rfl rfl dX6_infect_56 ?_
        refine J_iload_n hC (j := 1) dX6_infect_59 rfl rfl ?_
        refine J_iald (x := (S 8 (ix p0))) hC (nl_si8 (Or.inl rfl)) (ent_si8 (Or.inl rfl)) (wI_in hg h7) (iv (r5 (x := (S 8 (ix p0))) rfl)) dX6_infect_60 ?_
        refine J_istore_n (lv' := [(3, .int (S 8 (ix p0))), (0, .ref (aX G 2 0)), (1, .int p0), (2, .int p1)]) hC dX6_infect_61 rfl (by decide) rfl ?_
        refine J_aload_n hC (j := 1) dX6_infect_62 rfl rfl ?_
        refine J_get (v' := .ref (aX G 3 0)) hC nl_m0 ent_m0 rfl in6 10 (by decide) rfl qw_747 rfl rfl dX6_infect_63 ?_
        refine J_iload_n hC (j := 2) dX6_infect_66 rfl rfl ?_
        refine J_iload_n hC (j := 3) dX6_infect_67 rfl rfl ?_
        refine J_iload_n hC (j := 3) dX6_infect_68 rfl rfl ?_
        refine J_if_le (tgt := 76) hC dX6_infect_69 (by decide) (fun c69 => ?_) (fun c69 => ?_)
        · refine J_iconst (v := 0) hC dX6_infect_76 (by decide) ?_
          refine J_iconst (v := (-1)) hC dX6_infect_77 (by decide) ?_
          refine J_callVv hC (ct_rw (X4 := (mk5 D E (setT g 0) (haveS S p0 p1 0 (-1)) A)) m5u3 m5u3 (ct_X5_have l G (mk5 D E (setT g 0) S A) o 3 (Or.inl rfl) S p0 p1 0 (-1) (wI_in hg h7))) mw_X5_have qw_823 (nl_s0 (Or.inl rfl)) (ent_s0 (Or.inl rfl)) rfl rfl rfl (Nat.le_of_ble_eq_true rfl) ⟨Nat.le_of_ble_eq_true rfl, Nat.le_of_ble_eq_true rfl⟩ ⟨Nat.le_of_ble_eq_true rfl, Nat.le_of_ble_eq_true rfl⟩ dX6_infect_78 ?_
          refine J_iload_n hC (j := 0) dX6_infect_81 rfl rfl ?_
          exact J_iret hC hr (by first | (simp [vInfM, mInf, sInf, h7, h22, c43, c69, mk5_2]; done) | rfl) (by first | (simp [vInfM, mInf, sInf, h7, h22, c43, c69, mk5_2]; done) | rfl) rfl dX6_infect_82
        · refine J_iconst (v := 1) hC dX6_infect_72 (by decide) ?_
          refine J_goto (tgt := 77) hC dX6_infect_73 (by decide) ?_
          refine J_iconst (v := (-1)) hC dX6_infect_77 (by decide) ?_
          refine J_callVv hC (ct_rw (X4 := (mk5 D E (setT g 0) (haveS S p0 p1 1 (-1)) A)) m5u3 m5u3 (ct_X5_have l G (mk5 D E (setT g 0) S A) o 3 (Or.inl rfl) S p0 p1 1 (-1) (wI_in hg h7))) mw_X5_have qw_823 (nl_s0 (Or.inl rfl)) (ent_s0 (Or.inl rfl)) rfl rfl rfl (Nat.le_of_ble_eq_true rfl) ⟨Nat.le_of_ble_eq_true rfl, Nat.le_of_ble_eq_true rfl⟩ ⟨Nat.le_of_ble_eq_true rfl, Nat.le_of_ble_eq_true rfl⟩ dX6_infect_78 ?_
          refine J_iload_n hC (j := 0) dX6_infect_81 rfl rfl ?_
          exact J_iret hC hr (by first | (simp [vInfM, mInf, sInf, h7, h22, c43, c69, mk5_2]; done) | rfl) (by first | (simp [vInfM, mInf, sInf, h7, h22, c43, c69, mk5_2]; done) | rfl) rfl dX6_infect_82
      · refine J_aload_n hC (j := 0) dX6_infect_46 rfl rfl ?_
        refine J_iconst (v := 3) hC dX6_infect_47 (by decide) ?_
        refine J_callV hC (ct_X6_no l G D E (setT g 0) S A o 3) mw_X6_no qw_788 nl_m0 ent_m0 rfl rfl rfl (Nat.le_of_ble_eq_true rfl) ⟨Nat.le_of_ble_eq_true rfl, Nat.le_of_ble_eq_true rfl⟩ ⟨Nat.le_of_ble_eq_true rfl, Nat.le_of_ble_eq_true rfl⟩ dX6_infect_48 ?_
        exact J_iret hC hr (by first | (simp [vInfM, mInf, sInf, h7, h22, c43, mk5_2]; done) | rfl) (by first | (simp [vInfM, mInf, sInf, h7, h22, c43, mk5_2]; done) | rfl) rfl dX6_infect_51
    · refine J_tv (congrArg Value.int (bI_neg h22)) ?_
      refine J_if_ne (tgt := 34) hC dX6_infect_25 (by decide) (fun h => absurd h (by decide)) (fun _ => ?_)
      refine J_aload_n hC (j := 0) dX6_infect_28 rfl rfl ?_
      refine J_iconst (v := 2) hC dX6_infect_29 (by decide) ?_
      refine J_callV hC (ct_X6_no l G D E (setT g 0) S A o 2) mw_X6_no qw_788 nl_m0 ent_m0 rfl rfl rfl (Nat.le_of_ble_eq_true rfl) ⟨Nat.le_of_ble_eq_true rfl, Nat.le_of_ble_eq_true rfl⟩ ⟨Nat.le_of_ble_eq_true rfl, Nat.le_of_ble_eq_true rfl⟩ dX6_infect_30 ?_
      exact J_iret hC hr (by first | (simp [vInfM, mInf, sInf, h7, h22, mk5_2]; done) | rfl) (by first | (simp [vInfM, mInf, sInf, h7, h22, mk5_2]; done) | rfl) rfl dX6_infect_33
  · refine J_tv (congrArg Value.int (bI_neg h7)) ?_
    refine J_if_ne (tgt := 19) hC dX6_infect_10 (by decide) (fun h => absurd h (by decide)) (fun _ => ?_)
    refine J_aload_n hC (j := 0) dX6_infect_13 rfl rfl ?_
    refine J_iconst (v := 1) hC dX6_infect_14 (by decide) ?_
    refine J_callV hC (ct_X6_no l G D E (setT g 0) S A o 1) mw_X6_no qw_788 nl_m0 ent_m0 rfl rfl rfl (Nat.le_of_ble_eq_true rfl) ⟨Nat.le_of_ble_eq_true rfl, Nat.le_of_ble_eq_true rfl⟩ ⟨Nat.le_of_ble_eq_true rfl, Nat.le_of_ble_eq_true rfl⟩ dX6_infect_15 ?_
    exact J_iret hC hr (by first | (simp [vInfM, mInf, sInf, h7, mk5_2]; done) | rfl) (by first | (simp [vInfM, mInf, sInf, h7, mk5_2]; done) | rfl) rfl dX6_infect_18
set_option maxHeartbeats 4000000 in
set_option maxRecDepth 100000 in
theorem ct_X6_sell (l : Launch) (G : GG) (D E g S A : DD) (o : OO) (p0 : Int32) (hg : GG2 (setT g 0)) (hS : SI S) : CT l yX6_sell cX6_sell 2 (some .int) 2 44 0 0 G [.ref (aX G 2 0), .int p0] (mk5 D E g S A) o (some (.int (vSellM (setT g 0) S p0))) (mk5 D E (mSell (setT g 0) S p0) (sSell (setT g 0) S p0) A) o := by
  refine CT_of (own := RX6) (lv := [(0, .ref (aX G 2 0)), (1, .int p0)]) (by decide) rfl (Nat.le_of_ble_eq_true rfl) rfl ?_
  intro p e s m args below meth c hr hC
  refine J_aload_n hC (j := 0) dX6_sell_0 rfl rfl ?_
  refine J_iconst (v := 0) hC dX6_sell_1 (by decide) ?_
  refine J_X (X' := (va_up (mk5 D E g S A) 2 g)) m5u2.symm ?_
  refine J_put (X' := (va_up (mk5 D E g S A) 2 (va_up g 0 (va_up (g 0) 0 0)))) hC nl_m0 ent_m0 rfl in6 tyX6_ok nmX6 0 (by decide) rfl qw_730 rfl (by decide) (Nat.le_of_ble_eq_true rfl) (pu_m0F  (by decide)) dX6_sell_2 ?_
  refine J_X (X' := (mk5 D E (va_up g 0 (va_up (g 0) 0 0)) S A)) m5u2 ?_
  refine J_X (X' := (mk5 D E (setT g 0) S A)) rfl ?_
  refine J_aload_n hC (j := 0) dX6_sell_5 rfl rfl ?_
  refine J_iload_n hC (j := 1) dX6_sell_6 rfl rfl ?_
  refine J_callV hC (ct_X6_isWheel l G D E (setT g 0) S A o p0) mw_X6_isWheel qw_815 nl_m0 ent_m0 rfl rfl rfl (Nat.le_of_ble_eq_true rfl) ⟨Nat.le_of_ble_eq_true rfl, Nat.le_of_ble_eq_true rfl⟩ ⟨Nat.le_of_ble_eq_true rfl, Nat.le_of_ble_eq_true rfl⟩ dX6_sell_7 ?_
  by_cases h7 : wI (setT g 0) p0 = true
  · refine J_tv (congrArg Value.int (bI_pos h7)) ?_
    refine J_if_ne (tgt := 19) hC dX6_sell_10 (by decide) (fun _ => ?_) (fun h => absurd h (by decide))
    refine J_aload_n hC (j := 0) dX6_sell_19 rfl rfl ?_
    refine J_get (v' := .ref (aX G 3 0)) hC nl_m0 ent_m0 rfl in6 10 (by decide) rfl qw_747 rfl rfl dX6_sell_20 ?_
    refine J_getN (v' := .ref (aX G 3 2)) hC (nl_s0 (Or.inl rfl)) (ent_s0 (Or.inl rfl)) rfl in5 2 (by decide) rfl nqw_676 rfl rfl dX6_sell_23 ?_
    refine J_iload_n hC (j := 1) dX6_sell_26 rfl rfl ?_
    refine J_iald (x := (S 2 (ix p0))) hC (nl_si2 (Or.inl rfl)) (ent_si2 (Or.inl rfl)) (wI_in hg h7) (iv (r5 (x := (S 2 (ix p0))) rfl)) dX6_sell_27 ?_
    refine J_if_eq (tgt := 37) hC dX6_sell_28 (by decide) (fun c28 => ?_) (fun c28 => ?_)
    · refine J_aload_n hC (j := 0) dX6_sell_37 rfl rfl ?_
      refine J_get (v' := .ref (aX G 3 0)) hC nl_m0 ent_m0 rfl in6 10 (by decide) rfl qw_747 rfl rfl dX6_sell_38 ?_
      refine J_iload_n hC (j := 1) dX6_sell_41 rfl rfl ?_
      refine J_iconst (v := 1) hC dX6_sell_42 (by decide) ?_
      refine J_callVv hC (ct_rw (X4 := (mk5 D E (setT g 0) (sLeave S p0 1) A)) m5u3 m5u3 (ct_X5_leave l G (mk5 D E (setT g 0) S A) o 3 (Or.inl rfl) S p0 1 (wI_in hg h7) (hS.1 _ (vp_lt (wI_in hg h7))))) mw_X5_leave qw_831 (nl_s0 (Or.inl rfl)) (ent_s0 (Or.inl rfl)) rfl rfl rfl (Nat.le_of_ble_eq_true rfl) ⟨Nat.le_of_ble_eq_true rfl, Nat.le_of_ble_eq_true rfl⟩ ⟨Nat.le_of_ble_eq_true rfl, Nat.le_of_ble_eq_true rfl⟩ dX6_sell_43 ?_
      refine J_aload_n hC (j := 0) dX6_sell_46 rfl rfl ?_
      refine J_dup hC dX6_sell_47 rfl ?_
      refine J_get hC nl_m0 ent_m0 rfl in6 9 (by decide) rfl qw_746 rfl (r5 (x := ((setT g 0) 0 9)) rfl) dX6_sell_48 ?_
      refine J_aload_n hC (j := 0) dX6_sell_51 rfl rfl ?_
      refine J_get (v' := .ref (aX G 3 0)) hC nl_m0 ent_m0 rfl in6 10 (by decide) rfl qw_747 rfl rfl dX6_sell_52 ?_
      refine J_iload_n hC (j := 1) dX6_sell_55 rfl rfl ?_
      refine J_callV hC (ct_rw (X4 := (mk5 D E (setT g 0) (sLeave S p0 1) A)) m5u3 m5u3 (ct_X5_worth l G (mk5 D E (setT g 0) (sLeave S p0 1) A) o 3 (Or.inl rfl) (sLeave S p0 1) p0 (wI_in hg h7))) mw_X5_worth qw_835 (nl_s0 (Or.inl rfl)) (ent_s0 (Or.inl rfl)) rfl rfl rfl (Nat.le_of_ble_eq_true rfl) ⟨Nat.le_of_ble_eq_true rfl, Nat.le_of_ble_eq_true rfl⟩ ⟨Nat.le_of_ble_eq_true rfl, Nat.le_of_ble_eq_true rfl⟩ dX6_sell_56 ?_
      refine J_iadd hC dX6_sell_59 ?_
      refine J_X (X' := (va_up (mk5 D E (setT g 0) (sLeave S p0 1) A) 2 (setT g 0))) m5u2.symm ?_
      refine J_put (X' := (va_up (mk5 D E (setT g 0) (sLeave S p0 1) A) 2 (va_up (setT g 0) 0 (va_up ((setT g 0) 0) 9 (((setT g 0) 0 9) + (sWorth (sLeave S p0 1) p0)))))) hC nl_m0 ent_m0 rfl in6 tyX6_ok nmX6 9 (by decide) rfl qw_746 rfl (by decide) (Nat.le_of_ble_eq_true rfl) (pu_m0F  (by decide)) dX6_sell_60 ?_
      refine J_X (X' := (mk5 D E (va_up (setT g 0) 0 (va_up ((setT g 0) 0) 9 (((setT g 0) 0 9) + (sWorth (sLeave S p0 1) p0)))) (sLeave S p0 1) A)) m5u2 ?_
      refine J_aload_n hC (j := 0) dX6_sell_63 rfl rfl ?_
      refine J_get (v' := .ref (aX G 3 0)) hC nl_m0 ent_m0 rfl in6 10 (by decide) rfl qw_747 rfl rfl dX6_sell_64 ?_
      refine J_iload_n hC (j := 1) dX6_sell_67 rfl rfl ?_
      refine J_callV hC (ct_rw (X4 := (mk5 D E (va_up (setT g 0) 0 (va_up ((setT g 0) 0) 9 (((setT g 0) 0 9) + (sWorth (sLeave S p0 1) p0)))) (sLeave S p0 1) A)) m5u3 m5u3 (ct_X5_worth l G (mk5 D E (va_up (setT g 0) 0 (va_up ((setT g 0) 0) 9 (((setT g 0) 0 9) + (sWorth (sLeave S p0 1) p0)))) (sLeave S p0 1) A) o 3 (Or.inl rfl) (sLeave S p0 1) p0 (wI_in hg h7))) mw_X5_worth qw_835 (nl_s0 (Or.inl rfl)) (ent_s0 (Or.inl rfl)) rfl rfl rfl (Nat.le_of_ble_eq_true rfl) ⟨Nat.le_of_ble_eq_true rfl, Nat.le_of_ble_eq_true rfl⟩ ⟨Nat.le_of_ble_eq_true rfl, Nat.le_of_ble_eq_true rfl⟩ dX6_sell_68 ?_
      exact J_iret hC hr (by first | (simp [vSellM, mSell, sSell, h7, c28, mk5_2]; done) | rfl) (by first | (simp [vSellM, mSell, sSell, h7, c28, mk5_2]; done) | rfl) rfl dX6_sell_71
    · refine J_aload_n hC (j := 0) dX6_sell_31 rfl rfl ?_
      refine J_iconst (v := 2) hC dX6_sell_32 (by decide) ?_
      refine J_callV hC (ct_X6_no l G D E (setT g 0) S A o 2) mw_X6_no qw_788 nl_m0 ent_m0 rfl rfl rfl (Nat.le_of_ble_eq_true rfl) ⟨Nat.le_of_ble_eq_true rfl, Nat.le_of_ble_eq_true rfl⟩ ⟨Nat.le_of_ble_eq_true rfl, Nat.le_of_ble_eq_true rfl⟩ dX6_sell_33 ?_
      exact J_iret hC hr (by first | (simp [vSellM, mSell, sSell, h7, c28, mk5_2]; done) | rfl) (by first | (simp [vSellM, mSell, sSell, h7, c28, mk5_2]; done) | rfl) rfl dX6_sell_36
  · refine J_tv (congrArg Value.int (bI_neg h7)) ?_
    refine J_if_ne (tgt := 19) hC dX6_sell_10 (by decide) (fun h => absurd h (by decide)) (fun _ => ?_)
    refine J_aload_n hC (j := 0) dX6_sell_13 rfl rfl ?_
    refine J_iconst (v := 1) hC dX6_sell_14 (by decide) ?_
    refine J_callV hC (ct_X6_no l G D E (setT g 0) S A o 1) mw_X6_no qw_788 nl_m0 ent_m0 rfl rfl rfl (Nat.le_of_ble_eq_true rfl) ⟨Nat.le_of_ble_eq_true rfl, Nat.le_of_ble_eq_true rfl⟩ ⟨Nat.le_of_ble_eq_true rfl, Nat.le_of_ble_eq_true rfl⟩ dX6_sell_15 ?_
    exact J_iret hC hr (by first | (simp [vSellM, mSell, sSell, h7, mk5_2]; done) | rfl) (by first | (simp [vSellM, mSell, sSell, h7, mk5_2]; done) | rfl) rfl dX6_sell_18
set_option maxHeartbeats 4000000 in
set_option maxRecDepth 100000 in
theorem ct_X6_hire (l : Launch) (G : GG) (D E g S A : DD) (o : OO) (p0 : Int32) (p1 : Int32) (hg : GG2 (setT g 0)) : CT l yX6_hire cX6_hire 3 (some .int) 2 43 0 0 G [.ref (aX G 2 0), .int p0, .int p1] (mk5 D E g S A) o (some (.int (vHireM (setT g 0) p0 p1))) (mk5 D E (mHire (setT g 0) p0 p1) (sHire (setT g 0) S p0 p1) A) o := by
  refine CT_of (own := RX6) (lv := [(0, .ref (aX G 2 0)), (1, .int p0), (2, .int p1)]) (by decide) rfl (Nat.le_of_ble_eq_true rfl) rfl ?_
  intro p e s m args below meth c hr hC
  refine J_aload_n hC (j := 0) dX6_hire_0 rfl rfl ?_
  refine J_iconst (v := 0) hC dX6_hire_1 (by decide) ?_
  refine J_X (X' := (va_up (mk5 D E g S A) 2 g)) m5u2.symm ?_
  refine J_put (X' := (va_up (mk5 D E g S A) 2 (va_up g 0 (va_up (g 0) 0 0)))) hC nl_m0 ent_m0 rfl in6 tyX6_ok nmX6 0 (by decide) rfl qw_730 rfl (by decide) (Nat.le_of_ble_eq_true rfl) (pu_m0F  (by decide)) dX6_hire_2 ?_
  refine J_X (X' := (mk5 D E (va_up g 0 (va_up (g 0) 0 0)) S A)) m5u2 ?_
  refine J_X (X' := (mk5 D E (setT g 0) S A)) rfl ?_
  refine J_aload_n hC (j := 0) dX6_hire_5 rfl rfl ?_
  refine J_iload_n hC (j := 1) dX6_hire_6 rfl rfl ?_
  refine J_callV hC (ct_X6_isCellar l G D E (setT g 0) S A o p0) mw_X6_isCellar qw_796 nl_m0 ent_m0 rfl rfl rfl (Nat.le_of_ble_eq_true rfl) ⟨Nat.le_of_ble_eq_true rfl, Nat.le_of_ble_eq_true rfl⟩ ⟨Nat.le_of_ble_eq_true rfl, Nat.le_of_ble_eq_true rfl⟩ dX6_hire_7 ?_
  by_cases h7 : cI (setT g 0) p0 = true
  · refine J_tv (congrArg Value.int (bI_pos h7)) ?_
    refine J_if_ne (tgt := 19) hC dX6_hire_10 (by decide) (fun _ => ?_) (fun h => absurd h (by decide))
    refine J_iload_n hC (j := 2) dX6_hire_19 rfl rfl ?_
    refine J_iconst (v := 1) hC dX6_hire_20 (by decide) ?_
    refine J_bipush (v := 10) hC dX6_hire_21 (by decide) ?_
    refine J_callS hC (ct_X6_isIn l G (mk5 D E (setT g 0) S A) o p1 1 10) ms_X6_isIn qw_785 rfl rfl (Nat.le_of_ble_eq_true rfl) ⟨Nat.le_of_ble_eq_true rfl, Nat.le_of_ble_eq_true rfl⟩ ⟨Nat.le_of_ble_eq_true rfl, Nat.le_of_ble_eq_true rfl⟩ dX6_hire_23 ?_
    by_cases h23 : wthn p1 1 10 = true
    · refine J_tv (congrArg Value.int (bI_pos h23)) ?_
      refine J_if_ne (tgt := 35) hC dX6_hire_26 (by decide) (fun _ => ?_) (fun h => absurd h (by decide))
      refine J_aload_n hC (j := 0) dX6_hire_35 rfl rfl ?_
      refine J_get hC nl_m0 ent_m0 rfl in6 5 (by decide) rfl qw_738 rfl (r5 (x := ((setT g 0) 0 5)) rfl) dX6_hire_36 ?_
      refine J_iconst (v := 4) hC dX6_hire_39 (by decide) ?_
      refine J_icmp_ne (tgt := 49) hC dX6_hire_40 (by decide) (fun c40 => ?_) (fun c40 => ?_)
      · refine J_aload_n hC (j := 0) dX6_hire_49 rfl rfl ?_
        refine J_get (v' := .ref (aX G 2 3)) hC nl_m0 ent_m0 rfl in6 6 (by decide) rfl qw_740 rfl rfl dX6_hire_50 ?_
        refine J_aload_n hC (j := 0) dX6_hire_53 rfl rfl ?_
        refine J_get hC nl_m0 ent_m0 rfl in6 5 (by decide) rfl qw_738 rfl (r5 (x := ((setT g 0) 0 5)) rfl) dX6_hire_54 ?_
        refine J_iload_n hC (j := 1) dX6_hire_57 rfl rfl ?_
        refine J_X (X' := (va_up (mk5 D E (setT g 0) S A) 2 (setT g 0))) m5u2.symm ?_
        refine J_iast (X' := (va_up (mk5 D E (setT g 0) S A) 2 (va_up (setT g 0) 3 (va_up ((setT g 0) 3) (ix ((setT g 0) 0 5)) p0)))) hC (nl_mi (by decide)) (ent_mi3) (full_in (by decide) rfl hg.2.2.1 c40) (pu_mi3F ) dX6_hire_58 ?_
        refine J_X (X' := (mk5 D E (va_up (setT g 0) 3 (va_up ((setT g 0) 3) (ix ((setT g 0) 0 5)) p0)) S A)) m5u2 ?_
        refine J_aload_n hC (j := 0) dX6_hire_59 rfl rfl ?_
        refine J_get (v' := .ref (aX G 2 4)) hC nl_m0 ent_m0 rfl in6 7 (by decide) rfl qw_742 rfl rfl dX6_hire_60 ?_
        refine J_aload_n hC (j := 0) dX6_hire_63 rfl rfl ?_
        refine J_get hC nl_m0 ent_m0 rfl in6 5 (by decide) rfl qw_738 rfl (r5 (x := ((setT g 0) 0 5)) (by first | rfl | simp [mk5, va_up])) dX6_hire_64 ?_
        refine J_iload_n hC (j := 2) dX6_hire_67 rfl rfl ?_
        refine J_X (X' := (va_up (mk5 D E (va_up (setT g 0) 3 (va_up ((setT g 0) 3) (ix ((setT g 0) 0 5)) p0)) S A) 2 (va_up (setT g 0) 3 (va_up ((setT g 0) 3) (ix ((setT g 0) 0 5)) p0)))) m5u2.symm ?_
        refine J_iast (X' := (va_up (mk5 D E (va_up (setT g 0) 3 (va_up ((setT g 0) 3) (ix ((setT g 0) 0 5)) p0)) S A) 2 (va_up (va_up (setT g 0) 3 (va_up ((setT g 0) 3) (ix ((setT g 0) 0 5)) p0)) 4 (va_up ((setT g 0) 4) (ix ((setT g 0) 0 5)) p1)))) hC (nl_mi (by decide)) (ent_mi4) (full_in (by decide) rfl hg.2.2.1 c40) (pu_mi4F ) dX6_hire_68 ?_
        refine J_X (X' := (mk5 D E (va_up (va_up (setT g 0) 3 (va_up ((setT g 0) 3) (ix ((setT g 0) 0 5)) p0)) 4 (va_up ((setT g 0) 4) (ix ((setT g 0) 0 5)) p1)) S A)) m5u2 ?_
        refine J_aload_n hC (j := 0) dX6_hire_69 rfl rfl ?_
        refine J_get (v' := .ref (aX G 3 0)) hC nl_m0 ent_m0 rfl in6 10 (by decide) rfl qw_747 rfl rfl dX6_hire_70 ?_
        refine J_getN (v' := .ref (aX G 3 12)) hC (nl_s0 (Or.inl rfl)) (ent_s0 (Or.inl rfl)) rfl in5 12 (by decide) rfl nqw_696 rfl rfl dX6_hire_73 ?_
        refine J_aload_n hC (j := 0) dX6_hire_76 rfl rfl ?_
        refine J_get hC nl_m0 ent_m0 rfl in6 5 (by decide) rfl qw_738 rfl (r5 (x := ((setT g 0) 0 5)) (by first | rfl | simp [mk5, va_up])) dX6_hire_77 ?_
        refine J_iconst (v := (-1)) hC dX6_hire_80 (by decide) ?_
        refine J_X (X' := (va_up (mk5 D E (va_up (va_up (setT g 0) 3 (va_up ((setT g 0) 3) (ix ((setT g 0) 0 5)) p0)) 4 (va_up ((setT g 0) 4) (ix ((setT g 0) 0 5)) p1)) S A) 3 S)) m5u3.symm ?_
        refine J_iast (X' := (va_up (mk5 D E (va_up (va_up (setT g 0) 3 (va_up ((setT g 0) 3) (ix ((setT g 0) 0 5)) p0)) 4 (va_up ((setT g 0) 4) (ix ((setT g 0) 0 5)) p1)) S A) 3 (va_up S 12 (va_up (S 12) (ix ((setT g 0) 0 5)) (-1))))) hC (nl_si12 (Or.inl rfl)) (ent_si12 (Or.inl rfl)) (full_in (by decide) rfl hg.2.2.1 c40) (pu_si12F (Or.inl rfl)) dX6_hire_81 ?_
        refine J_X (X' := (mk5 D E (va_up (va_up (setT g 0) 3 (va_up ((setT g 0) 3) (ix ((setT g 0) 0 5)) p0)) 4 (va_up ((setT g 0) 4) (ix ((setT g 0) 0 5)) p1)) (va_up S 12 (va_up (S 12) (ix ((setT g 0) 0 5)) (-1))) A)) m5u3 ?_
        refine J_aload_n hC (j := 0) dX6_hire_82 rfl rfl ?_
        refine J_dup hC dX6_hire_83 rfl ?_
        refine J_get hC nl_m0 ent_m0 rfl in6 5 (by decide) rfl qw_738 rfl (r5 (x := ((setT g 0) 0 5)) (by first | rfl | simp [mk5, va_up])) dX6_hire_84 ?_
        refine J_iconst (v := 1) hC dX6_hire_87 (by decide) ?_
        refine J_iadd hC dX6_hire_88 ?_
        refine J_X (X' := (va_up (mk5 D E (va_up (va_up (setT g 0) 3 (va_up ((setT g 0) 3) (ix ((setT g 0) 0 5)) p0)) 4 (va_up ((setT g 0) 4) (ix ((setT g 0) 0 5)) p1)) (va_up S 12 (va_up (S 12) (ix ((setT g 0) 0 5)) (-1))) A) 2 (va_up (va_up (setT g 0) 3 (va_up ((setT g 0) 3) (ix ((setT g 0) 0 5)) p0)) 4 (va_up ((setT g 0) 4) (ix ((setT g 0) 0 5)) p1)))) m5u2.symm ?_
        refine J_put (X' := (va_up (mk5 D E (va_up (va_up (setT g 0) 3 (va_up ((setT g 0) 3) (ix ((setT g 0) 0 5)) p0)) 4 (va_up ((setT g 0) 4) (ix ((setT g 0) 0 5)) p1)) (va_up S 12 (va_up (S 12) (ix ((setT g 0) 0 5)) (-1))) A) 2 (va_up (va_up (va_up (setT g 0) 3 (va_up ((setT g 0) 3) (ix ((setT g 0) 0 5)) p0)) 4 (va_up ((setT g 0) 4) (ix ((setT g 0) 0 5)) p1)) 0 (va_up ((setT g 0) 0) 5 (((setT g 0) 0 5) + 1))))) hC nl_m0 ent_m0 rfl in6 tyX6_ok nmX6 5 (by decide) rfl qw_738 rfl (by decide) (Nat.le_of_ble_eq_true rfl) (pu_m0F  (by decide)) dX6_hire_89 ?_
        refine J_X (X' := (mk5 D E (va_up (va_up (va_up (setT g 0) 3 (va_up ((setT g 0) 3) (ix ((setT g 0) 0 5)) p0)) 4 (va_up ((setT g 0) 4) (ix ((setT g 0) 0 5)) p1)) 0 (va_up ((setT g 0) 0) 5 (((setT g 0) 0 5) + 1))) (va_up S 12 (va_up (S 12) (ix ((setT g 0) 0 5)) (-1))) A)) m5u2 ?_
        refine J_aload_n hC (j := 0) dX6_hire_92 rfl rfl ?_
        refine J_get hC nl_m0 ent_m0 rfl in6 5 (by decide) rfl qw_738 rfl (r5 (x := (((setT g 0) 0 5) + 1)) (by first | rfl | simp [mk5, va_up])) dX6_hire_93 ?_
        refine J_iconst (v := 1) hC dX6_hire_96 (by decide) ?_
        refine J_isub hC dX6_hire_97 ?_
        exact J_iret hC hr (by first | (simp [vHireM, mHire, sHire, h7, h23, c40, mk5_2]; done) | rfl) (by first | (simp [vHireM, mHire, sHire, h7, h23, c40, mk5_2]; done) | rfl) rfl dX6_hire_98
      · refine J_aload_n hC (j := 0) dX6_hire_43 rfl rfl ?_
        refine J_iconst (v := 3) hC dX6_hire_44 (by decide) ?_
        refine J_callV hC (ct_X6_no l G D E (setT g 0) S A o 3) mw_X6_no qw_788 nl_m0 ent_m0 rfl rfl rfl (Nat.le_of_ble_eq_true rfl) ⟨Nat.le_of_ble_eq_true rfl, Nat.le_of_ble_eq_true rfl⟩ ⟨Nat.le_of_ble_eq_true rfl, Nat.le_of_ble_eq_true rfl⟩ dX6_hire_45 ?_
        exact J_iret hC hr (by first | (simp [vHireM, mHire, sHire, h7, h23, c40, mk5_2]; done) | rfl) (by first | (simp [vHireM, mHire, sHire, h7, h23, c40, mk5_2]; done) | rfl) rfl dX6_hire_48
    · refine J_tv (congrArg Value.int (bI_neg h23)) ?_
      refine J_if_ne (tgt := 35) hC dX6_hire_26 (by decide) (fun h => absurd h (by decide)) (fun _ => ?_)
      refine J_aload_n hC (j := 0) dX6_hire_29 rfl rfl ?_
      refine J_iconst (v := 2) hC dX6_hire_30 (by decide) ?_
      refine J_callV hC (ct_X6_no l G D E (setT g 0) S A o 2) mw_X6_no qw_788 nl_m0 ent_m0 rfl rfl rfl (Nat.le_of_ble_eq_true rfl) ⟨Nat.le_of_ble_eq_true rfl, Nat.le_of_ble_eq_true rfl⟩ ⟨Nat.le_of_ble_eq_true rfl, Nat.le_of_ble_eq_true rfl⟩ dX6_hire_31 ?_
      exact J_iret hC hr (by first | (simp [vHireM, mHire, sHire, h7, h23, mk5_2]; done) | rfl) (by first | (simp [vHireM, mHire, sHire, h7, h23, mk5_2]; done) | rfl) rfl dX6_hire_34
  · refine J_tv (congrArg Value.int (bI_neg h7)) ?_
    refine J_if_ne (tgt := 19) hC dX6_hire_10 (by decide) (fun h => absurd h (by decide)) (fun _ => ?_)
    refine J_aload_n hC (j := 0) dX6_hire_13 rfl rfl ?_
    refine J_iconst (v := 1) hC dX6_hire_14 (by decide) ?_
    refine J_callV hC (ct_X6_no l G D E (setT g 0) S A o 1) mw_X6_no qw_788 nl_m0 ent_m0 rfl rfl rfl (Nat.le_of_ble_eq_true rfl) ⟨Nat.le_of_ble_eq_true rfl, Nat.le_of_ble_eq_true rfl⟩ ⟨Nat.le_of_ble_eq_true rfl, Nat.le_of_ble_eq_true rfl⟩ dX6_hire_15 ?_
    exact J_iret hC hr (by first | (simp [vHireM, mHire, sHire, h7, mk5_2]; done) | rfl) (by first | (simp [vHireM, mHire, sHire, h7, mk5_2]; done) | rfl) rfl dX6_hire_18
set_option maxHeartbeats 4000000 in
set_option maxRecDepth 100000 in
theorem ct_X6_setRota (l : Launch) (G : GG) (D E g S A : DD) (o : OO) (p0 : Int32) (p1 : Int32) (p2 : Int32) (hg : GG2 (setT g 0)) : CT l yX6_setRota cX6_setRota 5 (some .int) 2 43 0 0 G [.ref (aX G 2 0), .int p0, .int p1, .int p2] (mk5 D E g S A) o (some (.int (vRotaM (setT g 0) p0 p1 p2))) (mk5 D E (mRota (setT g 0) p0 p1 p2) S A) o := by
  refine CT_of (own := RX6) (lv := [(0, .ref (aX G 2 0)), (1, .int p0), (2, .int p1), (3, .int p2)]) (by decide) rfl (Nat.le_of_ble_eq_true rfl) rfl ?_
  intro p e s m args below meth c hr hC
  refine J_aload_n hC (j := 0) dX6_setRota_0 rfl rfl ?_
  refine J_iconst (v := 0) hC dX6_setRota_1 (by decide) ?_
  refine J_X (X' := (va_up (mk5 D E g S A) 2 g)) m5u2.symm ?_
  refine J_put (X' := (va_up (mk5 D E g S A) 2 (va_up g 0 (va_up (g 0) 0 0)))) hC nl_m0 ent_m0 rfl in6 tyX6_ok nmX6 0 (by decide) rfl qw_730 rfl (by decide) (Nat.le_of_ble_eq_true rfl) (pu_m0F  (by decide)) dX6_setRota_2 ?_
  refine J_X (X' := (mk5 D E (va_up g 0 (va_up (g 0) 0 0)) S A)) m5u2 ?_
  refine J_X (X' := (mk5 D E (setT g 0) S A)) rfl ?_
  refine J_aload_n hC (j := 0) dX6_setRota_5 rfl rfl ?_
  refine J_iload_n hC (j := 1) dX6_setRota_6 rfl rfl ?_
  refine J_callV hC (ct_X6_isMonk l G D E (setT g 0) S A o p0) mw_X6_isMonk qw_850 nl_m0 ent_m0 rfl rfl rfl (Nat.le_of_ble_eq_true rfl) ⟨Nat.le_of_ble_eq_true rfl, Nat.le_of_ble_eq_true rfl⟩ ⟨Nat.le_of_ble_eq_true rfl, Nat.le_of_ble_eq_true rfl⟩ dX6_setRota_7 ?_
  by_cases h7 : mI (setT g 0) p0 = true
  · refine J_tv (congrArg Value.int (bI_pos h7)) ?_
    refine J_if_eq (tgt := 23) hC dX6_setRota_10 (by decide) (fun h => absurd h (by decide)) (fun _ => ?_)
    refine J_iload_n hC (j := 2) dX6_setRota_13 rfl rfl ?_
    refine J_iconst (v := 0) hC dX6_setRota_14 (by decide) ?_
    refine J_bipush (v := 6) hC dX6_setRota_15 (by decide) ?_
    refine J_callS hC (ct_X6_isIn l G (mk5 D E (setT g 0) S A) o p1 0 6) ms_X6_isIn qw_785 rfl rfl (Nat.le_of_ble_eq_true rfl) ⟨Nat.le_of_ble_eq_true rfl, Nat.le_of_ble_eq_true rfl⟩ ⟨Nat.le_of_ble_eq_true rfl, Nat.le_of_ble_eq_true rfl⟩ dX6_setRota_17 ?_
    by_cases h17 : wthn p1 0 6 = true
    · refine J_tv (congrArg Value.int (bI_pos h17)) ?_
      refine J_if_ne (tgt := 29) hC dX6_setRota_20 (by decide) (fun _ => ?_) (fun h => absurd h (by decide))
      refine J_iload_n hC (j := 3) dX6_setRota_29 rfl rfl ?_
      refine J_iconst (v := 0) hC dX6_setRota_30 (by decide) ?_
      refine J_iconst (v := 3) hC dX6_setRota_31 (by decide) ?_
      refine J_callS hC (ct_X6_isIn l G (mk5 D E (setT g 0) S A) o p2 0 3) ms_X6_isIn qw_785 rfl rfl (Nat.le_of_ble_eq_true rfl) ⟨Nat.le_of_ble_eq_true rfl, Nat.le_of_ble_eq_true rfl⟩ ⟨Nat.le_of_ble_eq_true rfl, Nat.le_of_ble_eq_true rfl⟩ dX6_setRota_32 ?_
      by_cases h32 : wthn p2 0 3 = true
      · refine J_tv (congrArg Value.int (bI_pos h32)) ?_
        refine J_if_ne (tgt := 44) hC dX6_setRota_35 (by decide) (fun _ => ?_) (fun h => absurd h (by decide))
        refine J_aload_n hC (j := 0) dX6_setRota_44 rfl rfl ?_
        refine J_get (v' := .ref (aX G 2 5)) hC nl_m0 ent_m0 rfl in6 8 (by decide) rfl qw_744 rfl rfl dX6_setRota_45 ?_
        refine J_bipush (v := 7) hC dX6_setRota_48 (by decide) ?_
        refine J_iload_n hC (j := 1) dX6_setRota_50 rfl rfl ?_
        refine J_imul hC dX6_setRota_51 ?_
        refine J_iload_n hC (j := 2) dX6_setRota_52 rfl rfl ?_
        refine J_iadd hC dX6_setRota_53 ?_
        refine J_iald (x := ((setT g 0) 5 (ix ((7 * p0) + p1)))) hC (nl_mi (by decide)) (ent_mi5) (vp_rt (mI_in hg h7) (wt_in (N := 7) (n := 7) (by decide) (by decide) h17)) (iv (r5 (x := ((setT g 0) 5 (ix ((7 * p0) + p1)))) rfl)) dX6_setRota_54 ?_
        refine J_istore (lv' := [(4, .int ((setT g 0) 5 (ix ((7 * p0) + p1)))), (0, .ref (aX G 2 0)), (1, .int p0), (2, .int p1), (3, .int p2)]) hC dX6_setRota_55 (by decide) rfl ?_
        refine J_aload_n hC (j := 1) dX6_setRota_57 rfl rfl ?_
        refine J_get (v' := .ref (aX G 2 5)) hC nl_m0 ent_m0 rfl in6 8 (by decide) rfl qw_744 rfl rfl dX6_setRota_58 ?_
        refine J_bipush (v := 7) hC dX6_setRota_61 (by decide) ?_
        refine J_iload_n hC (j := 2) dX6_setRota_63 rfl rfl ?_
        refine J_imul hC dX6_setRota_64 ?_
        refine J_iload_n hC (j := 3) dX6_setRota_65 rfl rfl ?_
        refine J_iadd hC dX6_setRota_66 ?_
        refine J_iload_n hC (j := 4) dX6_setRota_67 rfl rfl ?_
        refine J_X (X' := (va_up (mk5 D E (setT g 0) S A) 2 (setT g 0))) m5u2.symm ?_
        refine J_iast (X' := (va_up (mk5 D E (setT g 0) S A) 2 (va_up (setT g 0) 5 (va_up ((setT g 0) 5) (ix ((7 * p0) + p1)) p2)))) hC (nl_mi (by decide)) (ent_mi5) (vp_rt (mI_in hg h7) (wt_in (N := 7) (n := 7) (by decide) (by decide) h17)) (pu_mi5F ) dX6_setRota_68 ?_
        refine J_X (X' := (mk5 D E (va_up (setT g 0) 5 (va_up ((setT g 0) 5) (ix ((7 * p0) + p1)) p2)) S A)) m5u2 ?_
        refine J_iload hC (j := 0) dX6_setRota_69 rfl ?_
        exact J_iret hC hr (by first | (simp [vRotaM, mRota, h7, h17, h32, mk5_2]; done) | rfl) (by first | (simp [vRotaM, mRota, h7, h17, h32, mk5_2]; done) | rfl) rfl dX6_setRota_71
      · refine J_tv (congrArg Value.int (bI_neg h32)) ?_
        refine J_if_ne (tgt := 44) hC dX6_setRota_35 (by decide) (fun h => absurd h (by decide)) (fun _ => ?_)
        refine J_aload_n hC (j := 0) dX6_setRota_38 rfl rfl ?_
        refine J_iconst (v := 2) hC dX6_setRota_39 (by decide) ?_
        refine J_callV hC (ct_X6_no l G D E (setT g 0) S A o 2) mw_X6_no qw_788 nl_m0 ent_m0 rfl rfl rfl (Nat.le_of_ble_eq_true rfl) ⟨Nat.le_of_ble_eq_true rfl, Nat.le_of_ble_eq_true rfl⟩ ⟨Nat.le_of_ble_eq_true rfl, Nat.le_of_ble_eq_true rfl⟩ dX6_setRota_40 ?_
        exact J_iret hC hr (by first | (simp [vRotaM, mRota, h7, h17, h32, mk5_2]; done) | rfl) (by first | (simp [vRotaM, mRota, h7, h17, h32, mk5_2]; done) | rfl) rfl dX6_setRota_43
    · refine J_tv (congrArg Value.int (bI_neg h17)) ?_
      refine J_if_ne (tgt := 29) hC dX6_setRota_20 (by decide) (fun h => absurd h (by decide)) (fun _ => ?_)
      refine J_aload_n hC (j := 0) dX6_setRota_23 rfl rfl ?_
      refine J_iconst (v := 1) hC dX6_setRota_24 (by decide) ?_
      refine J_callV hC (ct_X6_no l G D E (setT g 0) S A o 1) mw_X6_no qw_788 nl_m0 ent_m0 rfl rfl rfl (Nat.le_of_ble_eq_true rfl) ⟨Nat.le_of_ble_eq_true rfl, Nat.le_of_ble_eq_true rfl⟩ ⟨Nat.le_of_ble_eq_true rfl, Nat.le_of_ble_eq_true rfl⟩ dX6_setRota_25 ?_
      exact J_iret hC hr (by first | (simp [vRotaM, mRota, h7, h17, mk5_2]; done) | rfl) (by first | (simp [vRotaM, mRota, h7, h17, mk5_2]; done) | rfl) rfl dX6_setRota_28
  · refine J_tv (congrArg Value.int (bI_neg h7)) ?_
    refine J_if_eq (tgt := 23) hC dX6_setRota_10 (by decide) (fun _ => ?_) (fun h => absurd h (by decide))
    refine J_aload_n hC (j := 0) dX6_setRota_23 rfl rfl ?_
    refine J_iconst (v := 1) hC dX6_setRota_24 (by decide) ?_
    refine J_callV hC (ct_X6_no l G D E (setT g 0) S A o 1) mw_X6_no qw_788 nl_m0 ent_m0 rfl rfl rfl (Nat.le_of_ble_eq_true rfl) ⟨Nat.le_of_ble_eq_true rfl, Nat.le_of_ble_eq_true rfl⟩ ⟨Nat.le_of_ble_eq_true rfl, Nat.le_of_ble_eq_true rfl⟩ dX6_setRota_25 ?_
    exact J_iret hC hr (by first | (simp [vRotaM, mRota, h7, mk5_2]; done) | rfl) (by first | (simp [vRotaM, mRota, h7, mk5_2]; done) | rfl) rfl dX6_setRota_28
set_option maxHeartbeats 4000000 in
set_option maxRecDepth 100000 in
theorem ct_X6_wheelTold (l : Launch) (G : GG) (D E g S A : DD) (o : OO) (p0 : Int32) (p1 : Int32) (hw : vp_in p0 24) (hk : vp_in p1 11) : CT l yX6_wheelTold cX6_wheelTold 5 (some .int) 2 44 1 11 G [.ref (aX G 2 0), .int p0, .int p1] (mk5 D E g S A) o (some (.int (wTold S p0 p1))) (mk5 D E g S A) o := by
  refine CT_of (own := RX6) (lv := [(0, .ref (aX G 2 0)), (1, .int p0), (2, .int p1)]) (by decide) rfl (Nat.le_of_ble_eq_true rfl) rfl ?_
  intro p e s m args below meth c hr hC
  refine J_aload_n hC (j := 0) dX6_wheelTold_0 rfl rfl ?_
  refine J_get (v' := .ref (aX G 3 0)) hC nl_m0 ent_m0 rfl in6 10 (by decide) rfl qw_747 rfl rfl dX6_wheelTold_1 ?_
  refine J_getN (v' := .ref (aX G 3 2)) hC (nl_s0 (Or.inl rfl)) (ent_s0 (Or.inl rfl)) rfl in5 2 (by decide) rfl nqw_676 rfl rfl dX6_wheelTold_4 ?_
  refine J_iload_n hC (j := 1) dX6_wheelTold_7 rfl rfl ?_
  refine J_iald (x := (S 2 (ix p0))) hC (nl_si2 (Or.inl rfl)) (ent_si2 (Or.inl rfl)) hw (iv (r5 (x := (S 2 (ix p0))) rfl)) dX6_wheelTold_8 ?_
  refine J_if_ne (tgt := 16) hC dX6_wheelTold_9 (by decide) (fun c9 => ?_) (fun c9 => ?_)
  · refine J_iconst (v := 0) hC dX6_wheelTold_16 (by decide) ?_
    refine J_istore_n (lv' := [(3, .int 0), (0, .ref (aX G 2 0)), (1, .int p0), (2, .int p1)]) hC dX6_wheelTold_17 rfl (by decide) rfl ?_
    refine J_bipush (v := 11) hC dX6_wheelTold_18 (by decide) ?_
    refine J_newa hC qw_82 (by decide) (N := 11) rfl (by decide) ⟨Nat.le_of_ble_eq_true rfl, Nat.le_of_ble_eq_true rfl⟩ dX6_wheelTold_20 (fun q20 => ?_)
    refine J_dup hC dX6_wheelTold_22 rfl ?_
    refine J_iconst (v := 0) hC dX6_wheelTold_23 (by decide) ?_
    refine J_aload_n hC (j := 1) dX6_wheelTold_24 rfl rfl ?_
    refine J_get (v' := .ref (aX G 3 0)) hC nl_m0 ent_m0 rfl in6 10 (by decide) rfl qw_747 rfl rfl dX6_wheelTold_25 ?_
    refine J_getN (v' := .ref (aX G 3 2)) hC (nl_s0 (Or.inl rfl)) (ent_s0 (Or.inl rfl)) rfl in5 2 (by decide) rfl nqw_676 rfl rfl dX6_wheelTold_28 ?_
    refine J_iload_n hC (j := 2) dX6_wheelTold_31 rfl rfl ?_
    refine J_iald (x := (S 2 (ix p0))) hC (nl_si2 (Or.inl rfl)) (ent_si2 (Or.inl rfl)) hw (iv (r5 (x := (S 2 (ix p0))) rfl)) dX6_wheelTold_32 ?_
    refine J_lst hC (by unfold vp_in; decide) dX6_wheelTold_33 ?_
    refine J_dup hC dX6_wheelTold_34 rfl ?_
    refine J_iconst (v := 1) hC dX6_wheelTold_35 (by decide) ?_
    refine J_iload_n hC (j := 0) dX6_wheelTold_36 rfl rfl ?_
    refine J_if_eq (tgt := 55) hC dX6_wheelTold_37 (by decide) (fun _ => ?_) (fun h => absurd h (by decide))
    refine J_iconst (v := (-1)) hC dX6_wheelTold_55 (by decide) ?_
    refine J_lst hC (by unfold vp_in; decide) dX6_wheelTold_56 ?_
    refine J_dup hC dX6_wheelTold_57 rfl ?_
    refine J_iconst (v := 2) hC dX6_wheelTold_58 (by decide) ?_
    refine J_iload_n hC (j := 0) dX6_wheelTold_59 rfl rfl ?_
    refine J_if_eq (tgt := 78) hC dX6_wheelTold_60 (by decide) (fun _ => ?_) (fun h => absurd h (by decide))
    refine J_iconst (v := (-1)) hC dX6_wheelTold_78 (by decide) ?_
    refine J_lst hC (by unfold vp_in; decide) dX6_wheelTold_79 ?_
    refine J_dup hC dX6_wheelTold_80 rfl ?_
    refine J_iconst (v := 3) hC dX6_wheelTold_81 (by decide) ?_
    refine J_aload_n hC (j := 1) dX6_wheelTold_82 rfl rfl ?_
    refine J_get (v' := .ref (aX G 3 0)) hC nl_m0 ent_m0 rfl in6 10 (by decide) rfl qw_747 rfl rfl dX6_wheelTold_83 ?_
    refine J_getN (v' := .ref (aX G 3 4)) hC (nl_s0 (Or.inl rfl)) (ent_s0 (Or.inl rfl)) rfl in5 4 (by decide) rfl nqw_680 rfl rfl dX6_wheelTold_86 ?_
    refine J_iload_n hC (j := 2) dX6_wheelTold_89 rfl rfl ?_
    refine J_iald (x := (S 4 (ix p0))) hC (nl_si4 (Or.inl rfl)) (ent_si4 (Or.inl rfl)) hw (iv (r5 (x := (S 4 (ix p0))) rfl)) dX6_wheelTold_90 ?_
    refine J_lst hC (by unfold vp_in; decide) dX6_wheelTold_91 ?_
    refine J_dup hC dX6_wheelTold_92 rfl ?_
    refine J_iconst (v := 4) hC dX6_wheelTold_93 (by decide) ?_
    refine J_aload_n hC (j := 1) dX6_wheelTold_94 rfl rfl ?_
    refine J_get (v' := .ref (aX G 3 0)) hC nl_m0 ent_m0 rfl in6 10 (by decide) rfl qw_747 rfl rfl dX6_wheelTold_95 ?_
    refine J_getN (v' := .ref (aX G 3 5)) hC (nl_s0 (Or.inl rfl)) (ent_s0 (Or.inl rfl)) rfl in5 5 (by decide) rfl nqw_682 rfl rfl dX6_wheelTold_98 ?_
    refine J_iload_n hC (j := 2) dX6_wheelTold_101 rfl rfl ?_
    refine J_iald (x := (S 5 (ix p0))) hC (nl_si5 (Or.inl rfl)) (ent_si5 (Or.inl rfl)) hw (iv (r5 (x := (S 5 (ix p0))) rfl)) dX6_wheelTold_102 ?_
    refine J_lst hC (by unfold vp_in; decide) dX6_wheelTold_103 ?_
    refine J_dup hC dX6_wheelTold_104 rfl ?_
    refine J_iconst (v := 5) hC dX6_wheelTold_105 (by decide) ?_
    refine J_aload_n hC (j := 1) dX6_wheelTold_106 rfl rfl ?_
    refine J_get (v' := .ref (aX G 3 0)) hC nl_m0 ent_m0 rfl in6 10 (by decide) rfl qw_747 rfl rfl dX6_wheelTold_107 ?_
    refine J_getN (v' := .ref (aX G 3 6)) hC (nl_s0 (Or.inl rfl)) (ent_s0 (Or.inl rfl)) rfl in5 6 (by decide) rfl nqw_684 rfl rfl dX6_wheelTold_110 ?_
    refine J_iload_n hC (j := 2) dX6_wheelTold_113 rfl rfl ?_
    refine J_iald (x := (S 6 (ix p0))) hC (nl_si6 (Or.inl rfl)) (ent_si6 (Or.inl rfl)) hw (iv (r5 (x := (S 6 (ix p0))) rfl)) dX6_wheelTold_114 ?_
    refine J_lst hC (by unfold vp_in; decide) dX6_wheelTold_115 ?_
    refine J_dup hC dX6_wheelTold_116 rfl ?_
    refine J_bipush (v := 6) hC dX6_wheelTold_117 (by decide) ?_
    refine J_aload_n hC (j := 1) dX6_wheelTold_119 rfl rfl ?_
    refine J_get (v' := .ref (aX G 3 0)) hC nl_m0 ent_m0 rfl in6 10 (by decide) rfl qw_747 rfl rfl dX6_wheelTold_120 ?_
    refine J_getN (v' := .ref (aX G 3 7)) hC (nl_s0 (Or.inl rfl)) (ent_s0 (Or.inl rfl)) rfl in5 7 (by decide) rfl nqw_686 rfl rfl dX6_wheelTold_123 ?_
    refine J_iload_n hC (j := 2) dX6_wheelTold_126 rfl rfl ?_
    refine J_iald (x := (S 7 (ix p0))) hC (nl_si7 (Or.inl rfl)) (ent_si7 (Or.inl rfl)) hw (iv (r5 (x := (S 7 (ix p0))) rfl)) dX6_wheelTold_127 ?_
    refine J_lst hC (by unfold vp_in; decide) dX6_wheelTold_128 ?_
    refine J_dup hC dX6_wheelTold_129 rfl ?_
    refine J_bipush (v := 7) hC dX6_wheelTold_130 (by decide) ?_
    refine J_aload_n hC (j := 1) dX6_wheelTold_132 rfl rfl ?_
    refine J_get (v' := .ref (aX G 3 0)) hC nl_m0 ent_m0 rfl in6 10 (by decide) rfl qw_747 rfl rfl dX6_wheelTold_133 ?_
    refine J_getN (v' := .ref (aX G 3 8)) hC (nl_s0 (Or.inl rfl)) (ent_s0 (Or.inl rfl)) rfl in5 8 (by decide) rfl nqw_688 rfl rfl dX6_wheelTold_136 ?_
    refine J_iload_n hC (j := 2) dX6_wheelTold_139 rfl rfl ?_
    refine J_iald (x := (S 8 (ix p0))) hC (nl_si8 (Or.inl rfl)) (ent_si8 (Or.inl rfl)) hw (iv (r5 (x := (S 8 (ix p0))) rfl)) dX6_wheelTold_140 ?_
    refine J_lst hC (by unfold vp_in; decide) dX6_wheelTold_141 ?_
    refine J_dup hC dX6_wheelTold_142 rfl ?_
    refine J_bipush (v := 8) hC dX6_wheelTold_143 (by decide) ?_
    refine J_aload_n hC (j := 1) dX6_wheelTold_145 rfl rfl ?_
    refine J_get (v' := .ref (aX G 3 0)) hC nl_m0 ent_m0 rfl in6 10 (by decide) rfl qw_747 rfl rfl dX6_wheelTold_146 ?_
    refine J_getN (v' := .ref (aX G 3 9)) hC (nl_s0 (Or.inl rfl)) (ent_s0 (Or.inl rfl)) rfl in5 9 (by decide) rfl nqw_690 rfl rfl dX6_wheelTold_149 ?_
    refine J_iload_n hC (j := 2) dX6_wheelTold_152 rfl rfl ?_
    refine J_iald (x := (S 9 (ix p0))) hC (nl_si9 (Or.inl rfl)) (ent_si9 (Or.inl rfl)) hw (iv (r5 (x := (S 9 (ix p0))) rfl)) dX6_wheelTold_153 ?_
    refine J_lst hC (by unfold vp_in; decide) dX6_wheelTold_154 ?_
    refine J_dup hC dX6_wheelTold_155 rfl ?_
    refine J_bipush (v := 9) hC dX6_wheelTold_156 (by decide) ?_
    refine J_aload_n hC (j := 1) dX6_wheelTold_158 rfl rfl ?_
    refine J_get (v' := .ref (aX G 3 0)) hC nl_m0 ent_m0 rfl in6 10 (by decide) rfl qw_747 rfl rfl dX6_wheelTold_159 ?_
    refine J_getN (v' := .ref (aX G 3 10)) hC (nl_s0 (Or.inl rfl)) (ent_s0 (Or.inl rfl)) rfl in5 10 (by decide) rfl nqw_692 rfl rfl dX6_wheelTold_162 ?_
    refine J_iload_n hC (j := 2) dX6_wheelTold_165 rfl rfl ?_
    refine J_iald (x := (S 10 (ix p0))) hC (nl_si10 (Or.inl rfl)) (ent_si10 (Or.inl rfl)) hw (iv (r5 (x := (S 10 (ix p0))) rfl)) dX6_wheelTold_166 ?_
    refine J_lst hC (by unfold vp_in; decide) dX6_wheelTold_167 ?_
    refine J_dup hC dX6_wheelTold_168 rfl ?_
    refine J_bipush (v := 10) hC dX6_wheelTold_169 (by decide) ?_
    refine J_aload_n hC (j := 1) dX6_wheelTold_171 rfl rfl ?_
    refine J_get (v' := .ref (aX G 3 0)) hC nl_m0 ent_m0 rfl in6 10 (by decide) rfl qw_747 rfl rfl dX6_wheelTold_172 ?_
    refine J_iload_n hC (j := 2) dX6_wheelTold_175 rfl rfl ?_
    refine J_callV hC (ct_rw (X4 := (mk5 D E g S A)) m5u3 m5u3 (ct_X5_worth l G (mk5 D E g S A) (o.1, o.2 ++ [(q20, eI G 11 (va_up (va_up (va_up (va_up (va_up (va_up (va_up (va_up (va_up (va_up (fun _ => 0) (ix 0) (S 2 (ix p0))) (ix 1) (-1)) (ix 2) (-1)) (ix 3) (S 4 (ix p0))) (ix 4) (S 5 (ix p0))) (ix 5) (S 6 (ix p0))) (ix 6) (S 7 (ix p0))) (ix 7) (S 8 (ix p0))) (ix 8) (S 9 (ix p0))) (ix 9) (S 10 (ix p0))))]) 3 (Or.inl rfl) S p0 hw)) mw_X5_worth qw_835 (nl_s0 (Or.inl rfl)) (ent_s0 (Or.inl rfl)) rfl rfl rfl (Nat.le_of_ble_eq_true rfl) ⟨Nat.le_of_ble_eq_true rfl, Nat.le_of_ble_eq_true rfl⟩ ⟨Nat.le_of_ble_eq_true rfl, Nat.le_of_ble_eq_true rfl⟩ dX6_wheelTold_176 ?_
    refine J_lst hC (by unfold vp_in; decide) dX6_wheelTold_179 ?_
    refine J_astore (lv' := [(4, .ref q20), (3, .int 0), (0, .ref (aX G 2 0)), (1, .int p0), (2, .int p1)]) hC dX6_wheelTold_180 (by decide) rfl ?_
    refine J_aload hC (j := 0) dX6_wheelTold_182 rfl ?_
    refine J_iload_n hC (j := 4) dX6_wheelTold_184 rfl rfl ?_
    refine J_lld hC hk dX6_wheelTold_185 ?_
    refine J_drop ?_ rfl
    refine J_widen (k := 1) (n := 11) (by omega) (by omega) ?_
    exact J_iret hC hr (by first | (simp [wTold, wRow, c9, mk5_2]; done) | rfl) rfl rfl dX6_wheelTold_186
  · refine J_iconst (v := 1) hC dX6_wheelTold_12 (by decide) ?_
    refine J_goto (tgt := 17) hC dX6_wheelTold_13 (by decide) ?_
    refine J_istore_n (lv' := [(3, .int 1), (0, .ref (aX G 2 0)), (1, .int p0), (2, .int p1)]) hC dX6_wheelTold_17 rfl (by decide) rfl ?_
    refine J_bipush (v := 11) hC dX6_wheelTold_18 (by decide) ?_
    refine J_newa hC qw_82 (by decide) (N := 11) rfl (by decide) ⟨Nat.le_of_ble_eq_true rfl, Nat.le_of_ble_eq_true rfl⟩ dX6_wheelTold_20 (fun q20 => ?_)
    refine J_dup hC dX6_wheelTold_22 rfl ?_
    refine J_iconst (v := 0) hC dX6_wheelTold_23 (by decide) ?_
    refine J_aload_n hC (j := 1) dX6_wheelTold_24 rfl rfl ?_
    refine J_get (v' := .ref (aX G 3 0)) hC nl_m0 ent_m0 rfl in6 10 (by decide) rfl qw_747 rfl rfl dX6_wheelTold_25 ?_
    refine J_getN (v' := .ref (aX G 3 2)) hC (nl_s0 (Or.inl rfl)) (ent_s0 (Or.inl rfl)) rfl in5 2 (by decide) rfl nqw_676 rfl rfl dX6_wheelTold_28 ?_
    refine J_iload_n hC (j := 2) dX6_wheelTold_31 rfl rfl ?_
    refine J_iald (x := (S 2 (ix p0))) hC (nl_si2 (Or.inl rfl)) (ent_si2 (Or.inl rfl)) hw (iv (r5 (x := (S 2 (ix p0))) rfl)) dX6_wheelTold_32 ?_
    refine J_lst hC (by unfold vp_in; decide) dX6_wheelTold_33 ?_
    refine J_dup hC dX6_wheelTold_34 rfl ?_
    refine J_iconst (v := 1) hC dX6_wheelTold_35 (by decide) ?_
    refine J_iload_n hC (j := 0) dX6_wheelTold_36 rfl rfl ?_
    refine J_if_eq (tgt := 55) hC dX6_wheelTold_37 (by decide) (fun h => absurd h (by decide)) (fun _ => ?_)
    refine J_aload_n hC (j := 1) dX6_wheelTold_40 rfl rfl ?_
    refine J_get (v' := .ref (aX G 3 0)) hC nl_m0 ent_m0 rfl in6 10 (by decide) rfl qw_747 rfl rfl dX6_wheelTold_41 ?_
    refine J_getN (v' := .ref (aX G 3 3)) hC (nl_s0 (Or.inl rfl)) (ent_s0 (Or.inl rfl)) rfl in5 3 (by decide) rfl nqw_678 rfl rfl dX6_wheelTold_44 ?_
    refine J_iload_n hC (j := 2) dX6_wheelTold_47 rfl rfl ?_
    refine J_iald (x := (S 3 (ix p0))) hC (nl_si3 (Or.inl rfl)) (ent_si3 (Or.inl rfl)) hw (iv (r5 (x := (S 3 (ix p0))) rfl)) dX6_wheelTold_48 ?_
    refine J_bipush (v := 10) hC dX6_wheelTold_49 (by decide) ?_
    refine J_idiv hC dX6_wheelTold_51 (by decide) ?_
    refine J_goto (tgt := 56) hC dX6_wheelTold_52 (by decide) ?_
    refine J_lst hC (by unfold vp_in; decide) dX6_wheelTold_56 ?_
    refine J_dup hC dX6_wheelTold_57 rfl ?_
    refine J_iconst (v := 2) hC dX6_wheelTold_58 (by decide) ?_
    refine J_iload_n hC (j := 0) dX6_wheelTold_59 rfl rfl ?_
    refine J_if_eq (tgt := 78) hC dX6_wheelTold_60 (by decide) (fun h => absurd h (by decide)) (fun _ => ?_)
    refine J_aload_n hC (j := 1) dX6_wheelTold_63 rfl rfl ?_
    refine J_get (v' := .ref (aX G 3 0)) hC nl_m0 ent_m0 rfl in6 10 (by decide) rfl qw_747 rfl rfl dX6_wheelTold_64 ?_
    refine J_getN (v' := .ref (aX G 3 3)) hC (nl_s0 (Or.inl rfl)) (ent_s0 (Or.inl rfl)) rfl in5 3 (by decide) rfl nqw_678 rfl rfl dX6_wheelTold_67 ?_
    refine J_iload_n hC (j := 2) dX6_wheelTold_70 rfl rfl ?_
    refine J_iald (x := (S 3 (ix p0))) hC (nl_si3 (Or.inl rfl)) (ent_si3 (Or.inl rfl)) hw (iv (r5 (x := (S 3 (ix p0))) rfl)) dX6_wheelTold_71 ?_
    refine J_bipush (v := 10) hC dX6_wheelTold_72 (by decide) ?_
    refine J_irem hC dX6_wheelTold_74 (by decide) ?_
    refine J_goto (tgt := 79) hC dX6_wheelTold_75 (by decide) ?_
    refine J_lst hC (by unfold vp_in; decide) dX6_wheelTold_79 ?_
    refine J_dup hC dX6_wheelTold_80 rfl ?_
    refine J_iconst (v := 3) hC dX6_wheelTold_81 (by decide) ?_
    refine J_aload_n hC (j := 1) dX6_wheelTold_82 rfl rfl ?_
    refine J_get (v' := .ref (aX G 3 0)) hC nl_m0 ent_m0 rfl in6 10 (by decide) rfl qw_747 rfl rfl dX6_wheelTold_83 ?_
    refine J_getN (v' := .ref (aX G 3 4)) hC (nl_s0 (Or.inl rfl)) (ent_s0 (Or.inl rfl)) rfl in5 4 (by decide) rfl nqw_680 rfl rfl dX6_wheelTold_86 ?_
    refine J_iload_n hC (j := 2) dX6_wheelTold_89 rfl rfl ?_
    refine J_iald (x := (S 4 (ix p0))) hC (nl_si4 (Or.inl rfl)) (ent_si4 (Or.inl rfl)) hw (iv (r5 (x := (S 4 (ix p0))) rfl)) dX6_wheelTold_90 ?_
    refine J_lst hC (by unfold vp_in; decide) dX6_wheelTold_91 ?_
    refine J_dup hC dX6_wheelTold_92 rfl ?_
    refine J_iconst (v := 4) hC dX6_wheelTold_93 (by decide) ?_
    refine J_aload_n hC (j := 1) dX6_wheelTold_94 rfl rfl ?_
    refine J_get (v' := .ref (aX G 3 0)) hC nl_m0 ent_m0 rfl in6 10 (by decide) rfl qw_747 rfl rfl dX6_wheelTold_95 ?_
    refine J_getN (v' := .ref (aX G 3 5)) hC (nl_s0 (Or.inl rfl)) (ent_s0 (Or.inl rfl)) rfl in5 5 (by decide) rfl nqw_682 rfl rfl dX6_wheelTold_98 ?_
    refine J_iload_n hC (j := 2) dX6_wheelTold_101 rfl rfl ?_
    refine J_iald (x := (S 5 (ix p0))) hC (nl_si5 (Or.inl rfl)) (ent_si5 (Or.inl rfl)) hw (iv (r5 (x := (S 5 (ix p0))) rfl)) dX6_wheelTold_102 ?_
    refine J_lst hC (by unfold vp_in; decide) dX6_wheelTold_103 ?_
    refine J_dup hC dX6_wheelTold_104 rfl ?_
    refine J_iconst (v := 5) hC dX6_wheelTold_105 (by decide) ?_
    refine J_aload_n hC (j := 1) dX6_wheelTold_106 rfl rfl ?_
    refine J_get (v' := .ref (aX G 3 0)) hC nl_m0 ent_m0 rfl in6 10 (by decide) rfl qw_747 rfl rfl dX6_wheelTold_107 ?_
    refine J_getN (v' := .ref (aX G 3 6)) hC (nl_s0 (Or.inl rfl)) (ent_s0 (Or.inl rfl)) rfl in5 6 (by decide) rfl nqw_684 rfl rfl dX6_wheelTold_110 ?_
    refine J_iload_n hC (j := 2) dX6_wheelTold_113 rfl rfl ?_
    refine J_iald (x := (S 6 (ix p0))) hC (nl_si6 (Or.inl rfl)) (ent_si6 (Or.inl rfl)) hw (iv (r5 (x := (S 6 (ix p0))) rfl)) dX6_wheelTold_114 ?_
    refine J_lst hC (by unfold vp_in; decide) dX6_wheelTold_115 ?_
    refine J_dup hC dX6_wheelTold_116 rfl ?_
    refine J_bipush (v := 6) hC dX6_wheelTold_117 (by decide) ?_
    refine J_aload_n hC (j := 1) dX6_wheelTold_119 rfl rfl ?_
    refine J_get (v' := .ref (aX G 3 0)) hC nl_m0 ent_m0 rfl in6 10 (by decide) rfl qw_747 rfl rfl dX6_wheelTold_120 ?_
    refine J_getN (v' := .ref (aX G 3 7)) hC (nl_s0 (Or.inl rfl)) (ent_s0 (Or.inl rfl)) rfl in5 7 (by decide) rfl nqw_686 rfl rfl dX6_wheelTold_123 ?_
    refine J_iload_n hC (j := 2) dX6_wheelTold_126 rfl rfl ?_
    refine J_iald (x := (S 7 (ix p0))) hC (nl_si7 (Or.inl rfl)) (ent_si7 (Or.inl rfl)) hw (iv (r5 (x := (S 7 (ix p0))) rfl)) dX6_wheelTold_127 ?_
    refine J_lst hC (by unfold vp_in; decide) dX6_wheelTold_128 ?_
    refine J_dup hC dX6_wheelTold_129 rfl ?_
    refine J_bipush (v := 7) hC dX6_wheelTold_130 (by decide) ?_
    refine J_aload_n hC (j := 1) dX6_wheelTold_132 rfl rfl ?_
    refine J_get (v' := .ref (aX G 3 0)) hC nl_m0 ent_m0 rfl in6 10 (by decide) rfl qw_747 rfl rfl dX6_wheelTold_133 ?_
    refine J_getN (v' := .ref (aX G 3 8)) hC (nl_s0 (Or.inl rfl)) (ent_s0 (Or.inl rfl)) rfl in5 8 (by decide) rfl nqw_688 rfl rfl dX6_wheelTold_136 ?_
    refine J_iload_n hC (j := 2) dX6_wheelTold_139 rfl rfl ?_
    refine J_iald (x := (S 8 (ix p0))) hC (nl_si8 (Or.inl rfl)) (ent_si8 (Or.inl rfl)) hw (iv (r5 (x := (S 8 (ix p0))) rfl)) dX6_wheelTold_140 ?_
    refine J_lst hC (by unfold vp_in; decide) dX6_wheelTold_141 ?_
    refine J_dup hC dX6_wheelTold_142 rfl ?_
    refine J_bipush (v := 8) hC dX6_wheelTold_143 (by decide) ?_
    refine J_aload_n hC (j := 1) dX6_wheelTold_145 rfl rfl ?_
    refine J_get (v' := .ref (aX G 3 0)) hC nl_m0 ent_m0 rfl in6 10 (by decide) rfl qw_747 rfl rfl dX6_wheelTold_146 ?_
    refine J_getN (v' := .ref (aX G 3 9)) hC (nl_s0 (Or.inl rfl)) (ent_s0 (Or.inl rfl)) rfl in5 9 (by decide) rfl nqw_690 rfl rfl dX6_wheelTold_149 ?_
    refine J_iload_n hC (j := 2) dX6_wheelTold_152 rfl rfl ?_
    refine J_iald (x := (S 9 (ix p0))) hC (nl_si9 (Or.inl rfl)) (ent_si9 (Or.inl rfl)) hw (iv (r5 (x := (S 9 (ix p0))) rfl)) dX6_wheelTold_153 ?_
    refine J_lst hC (by unfold vp_in; decide) dX6_wheelTold_154 ?_
    refine J_dup hC dX6_wheelTold_155 rfl ?_
    refine J_bipush (v := 9) hC dX6_wheelTold_156 (by decide) ?_
    refine J_aload_n hC (j := 1) dX6_wheelTold_158 rfl rfl ?_
    refine J_get (v' := .ref (aX G 3 0)) hC nl_m0 ent_m0 rfl in6 10 (by decide) rfl qw_747 rfl rfl dX6_wheelTold_159 ?_
    refine J_getN (v' := .ref (aX G 3 10)) hC (nl_s0 (Or.inl rfl)) (ent_s0 (Or.inl rfl)) rfl in5 10 (by decide) rfl nqw_692 rfl rfl dX6_wheelTold_162 ?_
    refine J_iload_n hC (j := 2) dX6_wheelTold_165 rfl rfl ?_
    refine J_iald (x := (S 10 (ix p0))) hC (nl_si10 (Or.inl rfl)) (ent_si10 (Or.inl rfl)) hw (iv (r5 (x := (S 10 (ix p0))) rfl)) dX6_wheelTold_166 ?_
    refine J_lst hC (by unfold vp_in; decide) dX6_wheelTold_167 ?_
    refine J_dup hC dX6_wheelTold_168 rfl ?_
    refine J_bipush (v := 10) hC dX6_wheelTold_169 (by decide) ?_
    refine J_aload_n hC (j := 1) dX6_wheelTold_171 rfl rfl ?_
    refine J_get (v' := .ref (aX G 3 0)) hC nl_m0 ent_m0 rfl in6 10 (by decide) rfl qw_747 rfl rfl dX6_wheelTold_172 ?_
    refine J_iload_n hC (j := 2) dX6_wheelTold_175 rfl rfl ?_
    refine J_callV hC (ct_rw (X4 := (mk5 D E g S A)) m5u3 m5u3 (ct_X5_worth l G (mk5 D E g S A) (o.1, o.2 ++ [(q20, eI G 11 (va_up (va_up (va_up (va_up (va_up (va_up (va_up (va_up (va_up (va_up (fun _ => 0) (ix 0) (S 2 (ix p0))) (ix 1) ((S 3 (ix p0)) / 10)) (ix 2) (irem (S 3 (ix p0)) 10)) (ix 3) (S 4 (ix p0))) (ix 4) (S 5 (ix p0))) (ix 5) (S 6 (ix p0))) (ix 6) (S 7 (ix p0))) (ix 7) (S 8 (ix p0))) (ix 8) (S 9 (ix p0))) (ix 9) (S 10 (ix p0))))]) 3 (Or.inl rfl) S p0 hw)) mw_X5_worth qw_835 (nl_s0 (Or.inl rfl)) (ent_s0 (Or.inl rfl)) rfl rfl rfl (Nat.le_of_ble_eq_true rfl) ⟨Nat.le_of_ble_eq_true rfl, Nat.le_of_ble_eq_true rfl⟩ ⟨Nat.le_of_ble_eq_true rfl, Nat.le_of_ble_eq_true rfl⟩ dX6_wheelTold_176 ?_
    refine J_lst hC (by unfold vp_in; decide) dX6_wheelTold_179 ?_
    refine J_astore (lv' := [(4, .ref q20), (3, .int 1), (0, .ref (aX G 2 0)), (1, .int p0), (2, .int p1)]) hC dX6_wheelTold_180 (by decide) rfl ?_
    refine J_aload hC (j := 0) dX6_wheelTold_182 rfl ?_
    refine J_iload_n hC (j := 4) dX6_wheelTold_184 rfl rfl ?_
    refine J_lld hC hk dX6_wheelTold_185 ?_
    refine J_drop ?_ rfl
    refine J_widen (k := 1) (n := 11) (by omega) (by omega) ?_
    exact J_iret hC hr (by first | (simp [wTold, wRow, c9, mk5_2]; done) | rfl) rfl rfl dX6_wheelTold_186
set_option maxHeartbeats 4000000 in
set_option maxRecDepth 100000 in
theorem ct_X6_wheel (l : Launch) (G : GG) (D E g S A : DD) (o : OO) (p0 : Int32) (p1 : Int32) (hg : GG2 (setT g 0)) : CT l yX6_wheel cX6_wheel 3 (some .int) 3 68 1 11 G [.ref (aX G 2 0), .int p0, .int p1] (mk5 D E g S A) o (some (.int (vWheelM (setT g 0) S p0 p1))) (mk5 D E (mWheel (setT g 0) p0 p1) S A) o := by
  refine CT_of (own := RX6) (lv := [(0, .ref (aX G 2 0)), (1, .int p0), (2, .int p1)]) (by decide) rfl (Nat.le_of_ble_eq_true rfl) rfl ?_
  intro p e s m args below meth c hr hC
  refine J_aload_n hC (j := 0) dX6_wheel_0 rfl rfl ?_
  refine J_iconst (v := 0) hC dX6_wheel_1 (by decide) ?_
  refine J_X (X' := (va_up (mk5 D E g S A) 2 g)) m5u2.symm ?_
  refine J_put (X' := (va_up (mk5 D E g S A) 2 (va_up g 0 (va_up (g 0) 0 0)))) hC nl_m0 ent_m0 rfl in6 tyX6_ok nmX6 0 (by decide) rfl qw_730 rfl (by decide) (Nat.le_of_ble_eq_true rfl) (pu_m0F  (by decide)) dX6_wheel_2 ?_
  refine J_X (X' := (mk5 D E (va_up g 0 (va_up (g 0) 0 0)) S A)) m5u2 ?_
  refine J_X (X' := (mk5 D E (setT g 0) S A)) rfl ?_
  refine J_aload_n hC (j := 0) dX6_wheel_5 rfl rfl ?_
  refine J_iload_n hC (j := 1) dX6_wheel_6 rfl rfl ?_
  refine J_callV hC (ct_X6_isWheel l G D E (setT g 0) S A o p0) mw_X6_isWheel qw_815 nl_m0 ent_m0 rfl rfl rfl (Nat.le_of_ble_eq_true rfl) ⟨Nat.le_of_ble_eq_true rfl, Nat.le_of_ble_eq_true rfl⟩ ⟨Nat.le_of_ble_eq_true rfl, Nat.le_of_ble_eq_true rfl⟩ dX6_wheel_7 ?_
  by_cases h7 : wI (setT g 0) p0 = true
  · refine J_tv (congrArg Value.int (bI_pos h7)) ?_
    refine J_if_eq (tgt := 32) hC dX6_wheel_10 (by decide) (fun h => absurd h (by decide)) (fun _ => ?_)
    refine J_iload_n hC (j := 2) dX6_wheel_13 rfl rfl ?_
    refine J_iconst (v := 0) hC dX6_wheel_14 (by decide) ?_
    refine J_bipush (v := 10) hC dX6_wheel_15 (by decide) ?_
    refine J_callS hC (ct_X6_isIn l G (mk5 D E (setT g 0) S A) o p1 0 10) ms_X6_isIn qw_785 rfl rfl (Nat.le_of_ble_eq_true rfl) ⟨Nat.le_of_ble_eq_true rfl, Nat.le_of_ble_eq_true rfl⟩ ⟨Nat.le_of_ble_eq_true rfl, Nat.le_of_ble_eq_true rfl⟩ dX6_wheel_17 ?_
    by_cases h17 : wthn p1 0 10 = true
    · refine J_tv (congrArg Value.int (bI_pos h17)) ?_
      refine J_if_eq (tgt := 32) hC dX6_wheel_20 (by decide) (fun h => absurd h (by decide)) (fun _ => ?_)
      refine J_aload_n hC (j := 0) dX6_wheel_23 rfl rfl ?_
      refine J_iload_n hC (j := 1) dX6_wheel_24 rfl rfl ?_
      refine J_iload_n hC (j := 2) dX6_wheel_25 rfl rfl ?_
      refine J_callV hC (ct_X6_wheelTold l G D E (setT g 0) S A o p0 p1 (wI_in hg h7) (wt_in (N := 11) (n := 11) (by decide) (by decide) h17)) mw_X6_wheelTold qw_858 nl_m0 ent_m0 rfl rfl rfl (Nat.le_of_ble_eq_true rfl) ⟨Nat.le_of_ble_eq_true rfl, Nat.le_of_ble_eq_true rfl⟩ ⟨Nat.le_of_ble_eq_true rfl, Nat.le_of_ble_eq_true rfl⟩ dX6_wheel_26 ?_
      refine J_goto (tgt := 37) hC dX6_wheel_29 (by decide) ?_
      refine J_widen (k := 1) (n := 11) (by omega) (by omega) ?_
      exact J_iret hC hr (by first | (simp [vWheelM, mWheel, h7, h17, mk5_2]; done) | rfl) (by first | (simp [vWheelM, mWheel, h7, h17, mk5_2]; done) | rfl) rfl dX6_wheel_37
    · refine J_tv (congrArg Value.int (bI_neg h17)) ?_
      refine J_if_eq (tgt := 32) hC dX6_wheel_20 (by decide) (fun _ => ?_) (fun h => absurd h (by decide))
      refine J_aload_n hC (j := 0) dX6_wheel_32 rfl rfl ?_
      refine J_iconst (v := 1) hC dX6_wheel_33 (by decide) ?_
      refine J_callV hC (ct_X6_no l G D E (setT g 0) S A o 1) mw_X6_no qw_788 nl_m0 ent_m0 rfl rfl rfl (Nat.le_of_ble_eq_true rfl) ⟨Nat.le_of_ble_eq_true rfl, Nat.le_of_ble_eq_true rfl⟩ ⟨Nat.le_of_ble_eq_true rfl, Nat.le_of_ble_eq_true rfl⟩ dX6_wheel_34 ?_
      refine J_widen (k := 1) (n := 11) (by omega) (by omega) ?_
      exact J_iret hC hr (by first | (simp [vWheelM, mWheel, h7, h17, mk5_2]; done) | rfl) (by first | (simp [vWheelM, mWheel, h7, h17, mk5_2]; done) | rfl) rfl dX6_wheel_37
  · refine J_tv (congrArg Value.int (bI_neg h7)) ?_
    refine J_if_eq (tgt := 32) hC dX6_wheel_10 (by decide) (fun _ => ?_) (fun h => absurd h (by decide))
    refine J_aload_n hC (j := 0) dX6_wheel_32 rfl rfl ?_
    refine J_iconst (v := 1) hC dX6_wheel_33 (by decide) ?_
    refine J_callV hC (ct_X6_no l G D E (setT g 0) S A o 1) mw_X6_no qw_788 nl_m0 ent_m0 rfl rfl rfl (Nat.le_of_ble_eq_true rfl) ⟨Nat.le_of_ble_eq_true rfl, Nat.le_of_ble_eq_true rfl⟩ ⟨Nat.le_of_ble_eq_true rfl, Nat.le_of_ble_eq_true rfl⟩ dX6_wheel_34 ?_
    refine J_widen (k := 1) (n := 11) (by omega) (by omega) ?_
    exact J_iret hC hr (by first | (simp [vWheelM, mWheel, h7, mk5_2]; done) | rfl) (by first | (simp [vWheelM, mWheel, h7, mk5_2]; done) | rfl) rfl dX6_wheel_37
set_option maxHeartbeats 4000000 in
set_option maxRecDepth 100000 in
theorem ct_X6_cellarTold (l : Launch) (G : GG) (D E g S A : DD) (o : OO) (p0 : Int32) (p1 : Int32) (hS : SI S) (hc : vp_in p0 4) : CT l yX6_cellarTold cX6_cellarTold 6 (some .int) 0 0 0 0 G [.ref (aX G 2 0), .int p0, .int p1] (mk5 D E g S A) o (some (.int (cTold g S p0 p1))) (mk5 D E g S A) o := by
  refine CT_of (own := RX6) (lv := [(0, .ref (aX G 2 0)), (1, .int p0), (2, .int p1)]) (by decide) rfl (Nat.le_of_ble_eq_true rfl) rfl ?_
  intro p e s m args below meth c hr hC
  refine J_iload_n hC (j := 2) dX6_cellarTold_0 rfl rfl ?_
  refine J_iconst (v := 2) hC dX6_cellarTold_1 (by decide) ?_
  refine J_icmp_ge (tgt := 25) hC dX6_cellarTold_2 (by decide) (fun c2 => ?_) (fun c2 => ?_)
  · refine J_iconst (v := 0) hC dX6_cellarTold_25 (by decide) ?_
    refine J_istore_n (lv' := [(3, .int 0), (0, .ref (aX G 2 0)), (1, .int p0), (2, .int p1)]) hC dX6_cellarTold_26 rfl (by decide) rfl ?_
    refine J_iconst (v := 0) hC dX6_cellarTold_27 (by decide) ?_
    refine J_istore (lv' := [(4, .int 0), (3, .int 0), (0, .ref (aX G 2 0)), (1, .int p0), (2, .int p1)]) hC dX6_cellarTold_28 (by decide) rfl ?_
    have L30 : ∀ n i : Nat, i + n = 10 → Jd p l e ({ frames := 0, cells := 0, slots := 0, locals := 0 }) s m args below meth c (MQ below (CQ G (some (.int (cTold g S p0 p1))) (mk5 D E g S A) o) args s 0 0 (gB G)) G 6 0 0 (mk5 D E g S A) o 30 [(0, .ref (aX G 2 0)), (1, .int p0), (2, .int p1), (3, .int (cT S p0 p1 i)), (4, .int (nI i))] [] := by
      intro n
      induction n with
      | zero =>
        intro i hn 
        obtain rfl : i = 10 := by omega
        refine J_iload hC (j := 4) dX6_cellarTold_30 rfl ?_
        refine J_bipush (v := 10) hC dX6_cellarTold_32 (by decide) ?_
        refine J_icmp_ge (tgt := 92) hC dX6_cellarTold_34 (by decide) (fun c34 => ?_) (fun c34 => absurd c34 (not_not_intro (le_nI (K := 10) rfl (by omega) (by omega))))
        refine J_iload_n hC (j := 3) dX6_cellarTold_92 rfl rfl ?_
        exact J_iret hC hr (by first | (simp [cTold, c2, mk5_2]; done) | rfl) rfl rfl dX6_cellarTold_93
      | succ n ih =>
        intro i hn 
        refine J_iload hC (j := 4) dX6_cellarTold_30 rfl ?_
        refine J_bipush (v := 10) hC dX6_cellarTold_32 (by decide) ?_
        refine J_icmp_ge (tgt := 92) hC dX6_cellarTold_34 (by decide) (fun c34 => absurd c34 (nle_nI (K := 10) rfl (by omega) (by omega))) (fun c34 => ?_)
        refine J_aload_n hC (j := 0) dX6_cellarTold_37 rfl rfl ?_
        refine J_get (v' := .ref (aX G 3 0)) hC nl_m0 ent_m0 rfl in6 10 (by decide) rfl qw_747 rfl rfl dX6_cellarTold_38 ?_
        refine J_getN (v' := .ref (aX G 3 1)) hC (nl_s0 (Or.inl rfl)) (ent_s0 (Or.inl rfl)) rfl in5 1 (by decide) rfl nqw_674 rfl rfl dX6_cellarTold_41 ?_
        refine J_bipush (v := 10) hC dX6_cellarTold_44 (by decide) ?_
        refine J_iload_n hC (j := 1) dX6_cellarTold_46 rfl rfl ?_
        refine J_imul hC dX6_cellarTold_47 ?_
        refine J_iload hC (j := 4) dX6_cellarTold_48 rfl ?_
        refine J_iadd hC dX6_cellarTold_50 ?_
        refine J_iald (x := (S 1 (ix ((10 * p0) + (nI i))))) hC (nl_si1 (Or.inl rfl)) (ent_si1 (Or.inl rfl)) (vp_bd hc (vp_nI (by omega))) (iv (r5 (x := (S 1 (ix ((10 * p0) + (nI i))))) rfl)) dX6_cellarTold_51 ?_
        refine J_istore (lv' := [(5, .int (S 1 (ix ((10 * p0) + (nI i))))), (0, .ref (aX G 2 0)), (1, .int p0), (2, .int p1), (3, .int (cT S p0 p1 i)), (4, .int (nI i))]) hC dX6_cellarTold_52 (by decide) rfl ?_
        refine J_iload_n hC (j := 4) dX6_cellarTold_54 rfl rfl ?_
        refine J_iload hC (j := 0) dX6_cellarTold_55 rfl ?_
        refine J_iconst (v := (-1)) hC dX6_cellarTold_57 (by decide) ?_
        refine J_icmp_eq (tgt := 83) hC dX6_cellarTold_58 (by decide) (fun c58 => ?_) (fun c58 => ?_)
        · refine J_iconst (v := 0) hC dX6_cellarTold_83 (by decide) ?_
          refine J_iadd hC dX6_cellarTold_84 ?_
          refine J_istore_n (lv' := [(3, .int ((cT S p0 p1 i) + 0)), (5, .int (S 1 (ix ((10 * p0) + (nI i))))), (0, .ref (aX G 2 0)), (1, .int p0), (2, .int p1), (4, .int (nI i))]) hC dX6_cellarTold_85 rfl (by decide) rfl ?_
          refine J_iinc (j := 5) (v := ((nI i) + 1)) (lv' := [(4, .int ((nI i) + 1)), (3, .int ((cT S p0 p1 i) + 0)), (5, .int (S 1 (ix ((10 * p0) + (nI i))))), (0, .ref (aX G 2 0)), (1, .int p0), (2, .int p1)]) hC dX6_cellarTold_86 rfl rfl (by decide) rfl ?_
          refine J_goto (tgt := 30) hC dX6_cellarTold_89 (by decide) ?_
          refine J_lv [3, 4, 5, 1, 0] (lv' := [(0, .ref (aX G 2 0)), (1, .int p0), (2, .int p1), (3, .int ((cT S p0 p1 i) + 0)), (4, .int ((nI i) + 1))]) rfl ?_
          exact J_cast rfl (by simp [nI_succ, cT, rep, c2, c58]) rfl (ih (i + 1) (by omega) )
        · refine J_iload_n hC (j := 3) dX6_cellarTold_61 rfl rfl ?_
          refine J_iconst (v := 2) hC dX6_cellarTold_62 (by decide) ?_
          refine J_icmp_eq (tgt := 79) hC dX6_cellarTold_63 (by decide) (fun c63 => ?_) (fun c63 => ?_)
          · refine J_iconst (v := 1) hC dX6_cellarTold_79 (by decide) ?_
            refine J_goto (tgt := 84) hC dX6_cellarTold_80 (by decide) ?_
            refine J_iadd hC dX6_cellarTold_84 ?_
            refine J_istore_n (lv' := [(3, .int ((cT S p0 p1 i) + 1)), (5, .int (S 1 (ix ((10 * p0) + (nI i))))), (0, .ref (aX G 2 0)), (1, .int p0), (2, .int p1), (4, .int (nI i))]) hC dX6_cellarTold_85 rfl (by decide) rfl ?_
            refine J_iinc (j := 5) (v := ((nI i) + 1)) (lv' := [(4, .int ((nI i) + 1)), (3, .int ((cT S p0 p1 i) + 1)), (5, .int (S 1 (ix ((10 * p0) + (nI i))))), (0, .ref (aX G 2 0)), (1, .int p0), (2, .int p1)]) hC dX6_cellarTold_86 rfl rfl (by decide) rfl ?_
            refine J_goto (tgt := 30) hC dX6_cellarTold_89 (by decide) ?_
            refine J_lv [3, 4, 5, 1, 0] (lv' := [(0, .ref (aX G 2 0)), (1, .int p0), (2, .int p1), (3, .int ((cT S p0 p1 i) + 1)), (4, .int ((nI i) + 1))]) rfl ?_
            exact J_cast rfl (by simp [nI_succ, cT, rep, c2, c58, c63]) rfl (ih (i + 1) (by omega) )
          · refine J_aload_n hC (j := 1) dX6_cellarTold_66 rfl rfl ?_
            refine J_get (v' := .ref (aX G 3 0)) hC nl_m0 ent_m0 rfl in6 10 (by decide) rfl qw_747 rfl rfl dX6_cellarTold_67 ?_
            refine J_getN (v' := .ref (aX G 3 8)) hC (nl_s0 (Or.inl rfl)) (ent_s0 (Or.inl rfl)) rfl in5 8 (by decide) rfl nqw_688 rfl rfl dX6_cellarTold_70 ?_
            refine J_iload hC (j := 0) dX6_cellarTold_73 rfl ?_
            refine J_iald (x := (S 8 (ix (S 1 (ix ((10 * p0) + (nI i))))))) hC (nl_si8 (Or.inl rfl)) (ent_si8 (Or.inl rfl)) (SI_bd hS (vp_bd hc (vp_nI (by omega))) c58) (iv (r5 (x := (S 8 (ix (S 1 (ix ((10 * p0) + (nI i))))))) rfl)) dX6_cellarTold_75 ?_
            refine J_if_le (tgt := 83) hC dX6_cellarTold_76 (by decide) (fun c76 => ?_) (fun c76 => ?_)
            · refine J_iconst (v := 0) hC dX6_cellarTold_83 (by decide) ?_
              refine J_iadd hC dX6_cellarTold_84 ?_
              refine J_istore_n (lv' := [(3, .int ((cT S p0 p1 i) + 0)), (5, .int (S 1 (ix ((10 * p0) + (nI i))))), (0, .ref (aX G 2 0)), (1, .int p0), (2, .int p1), (4, .int (nI i))]) hC dX6_cellarTold_85 rfl (by decide) rfl ?_
              refine J_iinc (j := 5) (v := ((nI i) + 1)) (lv' := [(4, .int ((nI i) + 1)), (3, .int ((cT S p0 p1 i) + 0)), (5, .int (S 1 (ix ((10 * p0) + (nI i))))), (0, .ref (aX G 2 0)), (1, .int p0), (2, .int p1)]) hC dX6_cellarTold_86 rfl rfl (by decide) rfl ?_
              refine J_goto (tgt := 30) hC dX6_cellarTold_89 (by decide) ?_
              refine J_lv [3, 4, 5, 1, 0] (lv' := [(0, .ref (aX G 2 0)), (1, .int p0), (2, .int p1), (3, .int ((cT S p0 p1 i) + 0)), (4, .int ((nI i) + 1))]) rfl ?_
              exact J_cast rfl (by simp [nI_succ, cT, rep, c2, c58, c63, c76]) rfl (ih (i + 1) (by omega) )
            · refine J_iconst (v := 1) hC dX6_cellarTold_79 (by decide) ?_
              refine J_goto (tgt := 84) hC dX6_cellarTold_80 (by decide) ?_
              refine J_iadd hC dX6_cellarTold_84 ?_
              refine J_istore_n (lv' := [(3, .int ((cT S p0 p1 i) + 1)), (5, .int (S 1 (ix ((10 * p0) + (nI i))))), (0, .ref (aX G 2 0)), (1, .int p0), (2, .int p1), (4, .int (nI i))]) hC dX6_cellarTold_85 rfl (by decide) rfl ?_
              refine J_iinc (j := 5) (v := ((nI i) + 1)) (lv' := [(4, .int ((nI i) + 1)), (3, .int ((cT S p0 p1 i) + 1)), (5, .int (S 1 (ix ((10 * p0) + (nI i))))), (0, .ref (aX G 2 0)), (1, .int p0), (2, .int p1)]) hC dX6_cellarTold_86 rfl rfl (by decide) rfl ?_
              refine J_goto (tgt := 30) hC dX6_cellarTold_89 (by decide) ?_
              refine J_lv [3, 4, 5, 1, 0] (lv' := [(0, .ref (aX G 2 0)), (1, .int p0), (2, .int p1), (3, .int ((cT S p0 p1 i) + 1)), (4, .int ((nI i) + 1))]) rfl ?_
              exact J_cast rfl (by simp [nI_succ, cT, rep, c2, c58, c63, c76]) rfl (ih (i + 1) (by omega) )
    refine J_lv [2, 3, 4, 1, 0] (lv' := [(0, .ref (aX G 2 0)), (1, .int p0), (2, .int p1), (3, .int 0), (4, .int 0)]) rfl ?_
    exact J_cast rfl (by first | rfl | simp [cT, rep, nI_0]) rfl (L30 10 0 (by omega) )
  · refine J_iload_n hC (j := 2) dX6_cellarTold_5 rfl rfl ?_
    refine J_if_ne (tgt := 18) hC dX6_cellarTold_6 (by decide) (fun c6 => ?_) (fun c6 => ?_)
    · refine J_aload_n hC (j := 0) dX6_cellarTold_18 rfl rfl ?_
      refine J_get (v' := .ref (aX G 2 2)) hC nl_m0 ent_m0 rfl in6 3 (by decide) rfl qw_734 rfl rfl dX6_cellarTold_19 ?_
      refine J_iload_n hC (j := 1) dX6_cellarTold_22 rfl rfl ?_
      refine J_iald (x := (g 2 (ix p0))) hC (nl_mi (by decide)) (ent_mi2) hc (iv (r5 (x := (g 2 (ix p0))) rfl)) dX6_cellarTold_23 ?_
      exact J_iret hC hr (by first | (simp [cTold, c2, c6, mk5_2]; done) | rfl) rfl rfl dX6_cellarTold_24
    · refine J_aload_n hC (j := 0) dX6_cellarTold_9 rfl rfl ?_
      refine J_get (v' := .ref (aX G 2 1)) hC nl_m0 ent_m0 rfl in6 2 (by decide) rfl qw_732 rfl rfl dX6_cellarTold_10 ?_
      refine J_iload_n hC (j := 1) dX6_cellarTold_13 rfl rfl ?_
      refine J_iald (x := (g 1 (ix p0))) hC (nl_mi (by decide)) (ent_mi1) hc (iv (r5 (x := (g 1 (ix p0))) rfl)) dX6_cellarTold_14 ?_
      refine J_goto (tgt := 24) hC dX6_cellarTold_15 (by decide) ?_
      exact J_iret hC hr (by first | (simp [cTold, c2, c6, mk5_2]; done) | rfl) rfl rfl dX6_cellarTold_24
set_option maxHeartbeats 4000000 in
set_option maxRecDepth 100000 in
theorem ct_X6_cellar (l : Launch) (G : GG) (D E g S A : DD) (o : OO) (p0 : Int32) (p1 : Int32) (hg : GG2 (setT g 0)) (hS : SI S) : CT l yX6_cellar cX6_cellar 3 (some .int) 2 43 0 0 G [.ref (aX G 2 0), .int p0, .int p1] (mk5 D E g S A) o (some (.int (vCellarM (setT g 0) S p0 p1))) (mk5 D E (mCellar (setT g 0) p0 p1) S A) o := by
  refine CT_of (own := RX6) (lv := [(0, .ref (aX G 2 0)), (1, .int p0), (2, .int p1)]) (by decide) rfl (Nat.le_of_ble_eq_true rfl) rfl ?_
  intro p e s m args below meth c hr hC
  refine J_aload_n hC (j := 0) dX6_cellar_0 rfl rfl ?_
  refine J_iconst (v := 0) hC dX6_cellar_1 (by decide) ?_
  refine J_X (X' := (va_up (mk5 D E g S A) 2 g)) m5u2.symm ?_
  refine J_put (X' := (va_up (mk5 D E g S A) 2 (va_up g 0 (va_up (g 0) 0 0)))) hC nl_m0 ent_m0 rfl in6 tyX6_ok nmX6 0 (by decide) rfl qw_730 rfl (by decide) (Nat.le_of_ble_eq_true rfl) (pu_m0F  (by decide)) dX6_cellar_2 ?_
  refine J_X (X' := (mk5 D E (va_up g 0 (va_up (g 0) 0 0)) S A)) m5u2 ?_
  refine J_X (X' := (mk5 D E (setT g 0) S A)) rfl ?_
  refine J_aload_n hC (j := 0) dX6_cellar_5 rfl rfl ?_
  refine J_iload_n hC (j := 1) dX6_cellar_6 rfl rfl ?_
  refine J_callV hC (ct_X6_isCellar l G D E (setT g 0) S A o p0) mw_X6_isCellar qw_796 nl_m0 ent_m0 rfl rfl rfl (Nat.le_of_ble_eq_true rfl) ⟨Nat.le_of_ble_eq_true rfl, Nat.le_of_ble_eq_true rfl⟩ ⟨Nat.le_of_ble_eq_true rfl, Nat.le_of_ble_eq_true rfl⟩ dX6_cellar_7 ?_
  by_cases h7 : cI (setT g 0) p0 = true
  · refine J_tv (congrArg Value.int (bI_pos h7)) ?_
    refine J_if_eq (tgt := 31) hC dX6_cellar_10 (by decide) (fun h => absurd h (by decide)) (fun _ => ?_)
    refine J_iload_n hC (j := 2) dX6_cellar_13 rfl rfl ?_
    refine J_iconst (v := 0) hC dX6_cellar_14 (by decide) ?_
    refine J_iconst (v := 3) hC dX6_cellar_15 (by decide) ?_
    refine J_callS hC (ct_X6_isIn l G (mk5 D E (setT g 0) S A) o p1 0 3) ms_X6_isIn qw_785 rfl rfl (Nat.le_of_ble_eq_true rfl) ⟨Nat.le_of_ble_eq_true rfl, Nat.le_of_ble_eq_true rfl⟩ ⟨Nat.le_of_ble_eq_true rfl, Nat.le_of_ble_eq_true rfl⟩ dX6_cellar_16 ?_
    by_cases h16 : wthn p1 0 3 = true
    · refine J_tv (congrArg Value.int (bI_pos h16)) ?_
      refine J_if_eq (tgt := 31) hC dX6_cellar_19 (by decide) (fun h => absurd h (by decide)) (fun _ => ?_)
      refine J_aload_n hC (j := 0) dX6_cellar_22 rfl rfl ?_
      refine J_iload_n hC (j := 1) dX6_cellar_23 rfl rfl ?_
      refine J_iload_n hC (j := 2) dX6_cellar_24 rfl rfl ?_
      refine J_callV hC (ct_X6_cellarTold l G D E (setT g 0) S A o p0 p1 hS (cI_in hg h7)) mw_X6_cellarTold qw_866 nl_m0 ent_m0 rfl rfl rfl (Nat.le_of_ble_eq_true rfl) ⟨Nat.le_of_ble_eq_true rfl, Nat.le_of_ble_eq_true rfl⟩ ⟨Nat.le_of_ble_eq_true rfl, Nat.le_of_ble_eq_true rfl⟩ dX6_cellar_25 ?_
      refine J_goto (tgt := 36) hC dX6_cellar_28 (by decide) ?_
      exact J_iret hC hr (by first | (simp [vCellarM, mCellar, h7, h16, mk5_2]; done) | rfl) (by first | (simp [vCellarM, mCellar, h7, h16, mk5_2]; done) | rfl) rfl dX6_cellar_36
    · refine J_tv (congrArg Value.int (bI_neg h16)) ?_
      refine J_if_eq (tgt := 31) hC dX6_cellar_19 (by decide) (fun _ => ?_) (fun h => absurd h (by decide))
      refine J_aload_n hC (j := 0) dX6_cellar_31 rfl rfl ?_
      refine J_iconst (v := 1) hC dX6_cellar_32 (by decide) ?_
      refine J_callV hC (ct_X6_no l G D E (setT g 0) S A o 1) mw_X6_no qw_788 nl_m0 ent_m0 rfl rfl rfl (Nat.le_of_ble_eq_true rfl) ⟨Nat.le_of_ble_eq_true rfl, Nat.le_of_ble_eq_true rfl⟩ ⟨Nat.le_of_ble_eq_true rfl, Nat.le_of_ble_eq_true rfl⟩ dX6_cellar_33 ?_
      exact J_iret hC hr (by first | (simp [vCellarM, mCellar, h7, h16, mk5_2]; done) | rfl) (by first | (simp [vCellarM, mCellar, h7, h16, mk5_2]; done) | rfl) rfl dX6_cellar_36
  · refine J_tv (congrArg Value.int (bI_neg h7)) ?_
    refine J_if_eq (tgt := 31) hC dX6_cellar_10 (by decide) (fun _ => ?_) (fun h => absurd h (by decide))
    refine J_aload_n hC (j := 0) dX6_cellar_31 rfl rfl ?_
    refine J_iconst (v := 1) hC dX6_cellar_32 (by decide) ?_
    refine J_callV hC (ct_X6_no l G D E (setT g 0) S A o 1) mw_X6_no qw_788 nl_m0 ent_m0 rfl rfl rfl (Nat.le_of_ble_eq_true rfl) ⟨Nat.le_of_ble_eq_true rfl, Nat.le_of_ble_eq_true rfl⟩ ⟨Nat.le_of_ble_eq_true rfl, Nat.le_of_ble_eq_true rfl⟩ dX6_cellar_33 ?_
    exact J_iret hC hr (by first | (simp [vCellarM, mCellar, h7, mk5_2]; done) | rfl) (by first | (simp [vCellarM, mCellar, h7, mk5_2]; done) | rfl) rfl dX6_cellar_36
set_option maxHeartbeats 4000000 in
set_option maxRecDepth 100000 in
theorem ct_X6_at (l : Launch) (G : GG) (D E g S A : DD) (o : OO) (p0 : Int32) (p1 : Int32) (hg : GG2 (setT g 0)) : CT l yX6_at cX6_at 3 (some .int) 2 43 0 0 G [.ref (aX G 2 0), .int p0, .int p1] (mk5 D E g S A) o (some (.int (vAtM (setT g 0) S p0 p1))) (mk5 D E (mAt (setT g 0) p0 p1) S A) o := by
  refine CT_of (own := RX6) (lv := [(0, .ref (aX G 2 0)), (1, .int p0), (2, .int p1)]) (by decide) rfl (Nat.le_of_ble_eq_true rfl) rfl ?_
  intro p e s m args below meth c hr hC
  refine J_aload_n hC (j := 0) dX6_at_0 rfl rfl ?_
  refine J_iconst (v := 0) hC dX6_at_1 (by decide) ?_
  refine J_X (X' := (va_up (mk5 D E g S A) 2 g)) m5u2.symm ?_
  refine J_put (X' := (va_up (mk5 D E g S A) 2 (va_up g 0 (va_up (g 0) 0 0)))) hC nl_m0 ent_m0 rfl in6 tyX6_ok nmX6 0 (by decide) rfl qw_730 rfl (by decide) (Nat.le_of_ble_eq_true rfl) (pu_m0F  (by decide)) dX6_at_2 ?_
  refine J_X (X' := (mk5 D E (va_up g 0 (va_up (g 0) 0 0)) S A)) m5u2 ?_
  refine J_X (X' := (mk5 D E (setT g 0) S A)) rfl ?_
  refine J_aload_n hC (j := 0) dX6_at_5 rfl rfl ?_
  refine J_iload_n hC (j := 1) dX6_at_6 rfl rfl ?_
  refine J_callV hC (ct_X6_isCellar l G D E (setT g 0) S A o p0) mw_X6_isCellar qw_796 nl_m0 ent_m0 rfl rfl rfl (Nat.le_of_ble_eq_true rfl) ⟨Nat.le_of_ble_eq_true rfl, Nat.le_of_ble_eq_true rfl⟩ ⟨Nat.le_of_ble_eq_true rfl, Nat.le_of_ble_eq_true rfl⟩ dX6_at_7 ?_
  by_cases h7 : cI (setT g 0) p0 = true
  · refine J_tv (congrArg Value.int (bI_pos h7)) ?_
    refine J_if_eq (tgt := 37) hC dX6_at_10 (by decide) (fun h => absurd h (by decide)) (fun _ => ?_)
    refine J_iload_n hC (j := 2) dX6_at_13 rfl rfl ?_
    refine J_callS hC (ct_X6_isPlace l G (mk5 D E (setT g 0) S A) o p1) ms_X6_isPlace qw_804 rfl rfl (Nat.le_of_ble_eq_true rfl) ⟨Nat.le_of_ble_eq_true rfl, Nat.le_of_ble_eq_true rfl⟩ ⟨Nat.le_of_ble_eq_true rfl, Nat.le_of_ble_eq_true rfl⟩ dX6_at_14 ?_
    by_cases h14 : isPl p1 = true
    · refine J_tv (congrArg Value.int (bI_pos h14)) ?_
      refine J_if_eq (tgt := 37) hC dX6_at_17 (by decide) (fun h => absurd h (by decide)) (fun _ => ?_)
      refine J_aload_n hC (j := 0) dX6_at_20 rfl rfl ?_
      refine J_get (v' := .ref (aX G 3 0)) hC nl_m0 ent_m0 rfl in6 10 (by decide) rfl qw_747 rfl rfl dX6_at_21 ?_
      refine J_getN (v' := .ref (aX G 3 1)) hC (nl_s0 (Or.inl rfl)) (ent_s0 (Or.inl rfl)) rfl in5 1 (by decide) rfl nqw_674 rfl rfl dX6_at_24 ?_
      refine J_bipush (v := 10) hC dX6_at_27 (by decide) ?_
      refine J_iload_n hC (j := 1) dX6_at_29 rfl rfl ?_
      refine J_imul hC dX6_at_30 ?_
      refine J_iload_n hC (j := 2) dX6_at_31 rfl rfl ?_
      refine J_iadd hC dX6_at_32 ?_
      refine J_iald (x := (S 1 (ix ((10 * p0) + p1)))) hC (nl_si1 (Or.inl rfl)) (ent_si1 (Or.inl rfl)) (vp_bd (cI_in hg h7) (pl_in h14)) (iv (r5 (x := (S 1 (ix ((10 * p0) + p1)))) rfl)) dX6_at_33 ?_
      refine J_goto (tgt := 42) hC dX6_at_34 (by decide) ?_
      exact J_iret hC hr (by first | (simp [vAtM, mAt, h7, h14, mk5_2]; done) | rfl) (by first | (simp [vAtM, mAt, h7, h14, mk5_2]; done) | rfl) rfl dX6_at_42
    · refine J_tv (congrArg Value.int (bI_neg h14)) ?_
      refine J_if_eq (tgt := 37) hC dX6_at_17 (by decide) (fun _ => ?_) (fun h => absurd h (by decide))
      refine J_aload_n hC (j := 0) dX6_at_37 rfl rfl ?_
      refine J_iconst (v := 1) hC dX6_at_38 (by decide) ?_
      refine J_callV hC (ct_X6_no l G D E (setT g 0) S A o 1) mw_X6_no qw_788 nl_m0 ent_m0 rfl rfl rfl (Nat.le_of_ble_eq_true rfl) ⟨Nat.le_of_ble_eq_true rfl, Nat.le_of_ble_eq_true rfl⟩ ⟨Nat.le_of_ble_eq_true rfl, Nat.le_of_ble_eq_true rfl⟩ dX6_at_39 ?_
      exact J_iret hC hr (by first | (simp [vAtM, mAt, h7, h14, mk5_2]; done) | rfl) (by first | (simp [vAtM, mAt, h7, h14, mk5_2]; done) | rfl) rfl dX6_at_42
  · refine J_tv (congrArg Value.int (bI_neg h7)) ?_
    refine J_if_eq (tgt := 37) hC dX6_at_10 (by decide) (fun _ => ?_) (fun h => absurd h (by decide))
    refine J_aload_n hC (j := 0) dX6_at_37 rfl rfl ?_
    refine J_iconst (v := 1) hC dX6_at_38 (by decide) ?_
    refine J_callV hC (ct_X6_no l G D E (setT g 0) S A o 1) mw_X6_no qw_788 nl_m0 ent_m0 rfl rfl rfl (Nat.le_of_ble_eq_true rfl) ⟨Nat.le_of_ble_eq_true rfl, Nat.le_of_ble_eq_true rfl⟩ ⟨Nat.le_of_ble_eq_true rfl, Nat.le_of_ble_eq_true rfl⟩ dX6_at_39 ?_
    exact J_iret hC hr (by first | (simp [vAtM, mAt, h7, mk5_2]; done) | rfl) (by first | (simp [vAtM, mAt, h7, mk5_2]; done) | rfl) rfl dX6_at_42
set_option maxHeartbeats 4000000 in
set_option maxRecDepth 100000 in
theorem ct_X6_monkTold (l : Launch) (G : GG) (D E g S A : DD) (o : OO) (p0 : Int32) (p1 : Int32) (hm : vp_in p0 4) (hy : ¬ S 0 0 < 0) : CT l yX6_monkTold cX6_monkTold 3 (some .int) 0 0 0 0 G [.ref (aX G 2 0), .int p0, .int p1] (mk5 D E g S A) o (some (.int (mTold g S p0 p1))) (mk5 D E g S A) o := by
  refine CT_of (own := RX6) (lv := [(0, .ref (aX G 2 0)), (1, .int p0), (2, .int p1)]) (by decide) rfl (Nat.le_of_ble_eq_true rfl) rfl ?_
  intro p e s m args below meth c hr hC
  refine J_iload_n hC (j := 2) dX6_monkTold_0 rfl rfl ?_
  refine J_if_ne (tgt := 13) hC dX6_monkTold_1 (by decide) (fun c1 => ?_) (fun c1 => ?_)
  · refine J_iload_n hC (j := 2) dX6_monkTold_13 rfl rfl ?_
    refine J_iconst (v := 1) hC dX6_monkTold_14 (by decide) ?_
    refine J_icmp_ne (tgt := 27) hC dX6_monkTold_15 (by decide) (fun c15 => ?_) (fun c15 => ?_)
    · refine J_iload_n hC (j := 2) dX6_monkTold_27 rfl rfl ?_
      refine J_iconst (v := 2) hC dX6_monkTold_28 (by decide) ?_
      refine J_icmp_ne (tgt := 44) hC dX6_monkTold_29 (by decide) (fun c29 => ?_) (fun c29 => ?_)
      · refine J_iload_n hC (j := 2) dX6_monkTold_44 rfl rfl ?_
        refine J_iconst (v := 3) hC dX6_monkTold_45 (by decide) ?_
        refine J_icmp_ne (tgt := 61) hC dX6_monkTold_46 (by decide) (fun c46 => ?_) (fun c46 => ?_)
        · refine J_aload_n hC (j := 0) dX6_monkTold_61 rfl rfl ?_
          refine J_get (v' := .ref (aX G 2 5)) hC nl_m0 ent_m0 rfl in6 8 (by decide) rfl qw_744 rfl rfl dX6_monkTold_62 ?_
          refine J_bipush (v := 7) hC dX6_monkTold_65 (by decide) ?_
          refine J_iload_n hC (j := 1) dX6_monkTold_67 rfl rfl ?_
          refine J_imul hC dX6_monkTold_68 ?_
          refine J_aload_n hC (j := 0) dX6_monkTold_69 rfl rfl ?_
          refine J_get (v' := .ref (aX G 3 0)) hC nl_m0 ent_m0 rfl in6 10 (by decide) rfl qw_747 rfl rfl dX6_monkTold_70 ?_
          refine J_getN hC (nl_s0 (Or.inl rfl)) (ent_s0 (Or.inl rfl)) rfl in5 0 (by decide) rfl nqw_672 rfl (r5 (x := (S 0 0)) rfl) dX6_monkTold_73 ?_
          refine J_bipush (v := 7) hC dX6_monkTold_76 (by decide) ?_
          refine J_irem hC dX6_monkTold_78 (by decide) ?_
          refine J_iadd hC dX6_monkTold_79 ?_
          refine J_iald (x := (g 5 (ix ((7 * p0) + (irem (S 0 0) 7))))) hC (nl_mi (by decide)) (ent_mi5) (vp_ro hm hy) (iv (r5 (x := (g 5 (ix ((7 * p0) + (irem (S 0 0) 7))))) rfl)) dX6_monkTold_80 ?_
          exact J_iret hC hr (by first | (simp [mTold, c1, c15, c29, c46, mk5_2]; done) | rfl) rfl rfl dX6_monkTold_81
        · refine J_aload_n hC (j := 0) dX6_monkTold_49 rfl rfl ?_
          refine J_get (v' := .ref (aX G 3 0)) hC nl_m0 ent_m0 rfl in6 10 (by decide) rfl qw_747 rfl rfl dX6_monkTold_50 ?_
          refine J_getN (v' := .ref (aX G 3 12)) hC (nl_s0 (Or.inl rfl)) (ent_s0 (Or.inl rfl)) rfl in5 12 (by decide) rfl nqw_696 rfl rfl dX6_monkTold_53 ?_
          refine J_iload_n hC (j := 1) dX6_monkTold_56 rfl rfl ?_
          refine J_iald (x := (S 12 (ix p0))) hC (nl_si12 (Or.inl rfl)) (ent_si12 (Or.inl rfl)) hm (iv (r5 (x := (S 12 (ix p0))) rfl)) dX6_monkTold_57 ?_
          refine J_goto (tgt := 81) hC dX6_monkTold_58 (by decide) ?_
          exact J_iret hC hr (by first | (simp [mTold, c1, c15, c29, c46, mk5_2]; done) | rfl) rfl rfl dX6_monkTold_81
      · refine J_aload_n hC (j := 0) dX6_monkTold_32 rfl rfl ?_
        refine J_get (v' := .ref (aX G 3 0)) hC nl_m0 ent_m0 rfl in6 10 (by decide) rfl qw_747 rfl rfl dX6_monkTold_33 ?_
        refine J_getN (v' := .ref (aX G 3 11)) hC (nl_s0 (Or.inl rfl)) (ent_s0 (Or.inl rfl)) rfl in5 11 (by decide) rfl nqw_694 rfl rfl dX6_monkTold_36 ?_
        refine J_iload_n hC (j := 1) dX6_monkTold_39 rfl rfl ?_
        refine J_iald (x := (S 11 (ix p0))) hC (nl_si11 (Or.inl rfl)) (ent_si11 (Or.inl rfl)) hm (iv (r5 (x := (S 11 (ix p0))) rfl)) dX6_monkTold_40 ?_
        refine J_goto (tgt := 81) hC dX6_monkTold_41 (by decide) ?_
        exact J_iret hC hr (by first | (simp [mTold, c1, c15, c29, mk5_2]; done) | rfl) rfl rfl dX6_monkTold_81
    · refine J_aload_n hC (j := 0) dX6_monkTold_18 rfl rfl ?_
      refine J_get (v' := .ref (aX G 2 4)) hC nl_m0 ent_m0 rfl in6 7 (by decide) rfl qw_742 rfl rfl dX6_monkTold_19 ?_
      refine J_iload_n hC (j := 1) dX6_monkTold_22 rfl rfl ?_
      refine J_iald (x := (g 4 (ix p0))) hC (nl_mi (by decide)) (ent_mi4) hm (iv (r5 (x := (g 4 (ix p0))) rfl)) dX6_monkTold_23 ?_
      refine J_goto (tgt := 81) hC dX6_monkTold_24 (by decide) ?_
      exact J_iret hC hr (by first | (simp [mTold, c1, c15, mk5_2]; done) | rfl) rfl rfl dX6_monkTold_81
  · refine J_aload_n hC (j := 0) dX6_monkTold_4 rfl rfl ?_
    refine J_get (v' := .ref (aX G 2 3)) hC nl_m0 ent_m0 rfl in6 6 (by decide) rfl qw_740 rfl rfl dX6_monkTold_5 ?_
    refine J_iload_n hC (j := 1) dX6_monkTold_8 rfl rfl ?_
    refine J_iald (x := (g 3 (ix p0))) hC (nl_mi (by decide)) (ent_mi3) hm (iv (r5 (x := (g 3 (ix p0))) rfl)) dX6_monkTold_9 ?_
    refine J_goto (tgt := 81) hC dX6_monkTold_10 (by decide) ?_
    exact J_iret hC hr (by first | (simp [mTold, c1, mk5_2]; done) | rfl) rfl rfl dX6_monkTold_81
set_option maxHeartbeats 4000000 in
set_option maxRecDepth 100000 in
theorem ct_X6_monk (l : Launch) (G : GG) (D E g S A : DD) (o : OO) (p0 : Int32) (p1 : Int32) (hg : GG2 (setT g 0)) (hy : ¬ S 0 0 < 0) : CT l yX6_monk cX6_monk 3 (some .int) 2 43 0 0 G [.ref (aX G 2 0), .int p0, .int p1] (mk5 D E g S A) o (some (.int (vMonkM (setT g 0) S p0 p1))) (mk5 D E (mMonk (setT g 0) p0 p1) S A) o := by
  refine CT_of (own := RX6) (lv := [(0, .ref (aX G 2 0)), (1, .int p0), (2, .int p1)]) (by decide) rfl (Nat.le_of_ble_eq_true rfl) rfl ?_
  intro p e s m args below meth c hr hC
  refine J_aload_n hC (j := 0) dX6_monk_0 rfl rfl ?_
  refine J_iconst (v := 0) hC dX6_monk_1 (by decide) ?_
  refine J_X (X' := (va_up (mk5 D E g S A) 2 g)) m5u2.symm ?_
  refine J_put (X' := (va_up (mk5 D E g S A) 2 (va_up g 0 (va_up (g 0) 0 0)))) hC nl_m0 ent_m0 rfl in6 tyX6_ok nmX6 0 (by decide) rfl qw_730 rfl (by decide) (Nat.le_of_ble_eq_true rfl) (pu_m0F  (by decide)) dX6_monk_2 ?_
  refine J_X (X' := (mk5 D E (va_up g 0 (va_up (g 0) 0 0)) S A)) m5u2 ?_
  refine J_X (X' := (mk5 D E (setT g 0) S A)) rfl ?_
  refine J_aload_n hC (j := 0) dX6_monk_5 rfl rfl ?_
  refine J_iload_n hC (j := 1) dX6_monk_6 rfl rfl ?_
  refine J_callV hC (ct_X6_isMonk l G D E (setT g 0) S A o p0) mw_X6_isMonk qw_850 nl_m0 ent_m0 rfl rfl rfl (Nat.le_of_ble_eq_true rfl) ⟨Nat.le_of_ble_eq_true rfl, Nat.le_of_ble_eq_true rfl⟩ ⟨Nat.le_of_ble_eq_true rfl, Nat.le_of_ble_eq_true rfl⟩ dX6_monk_7 ?_
  by_cases h7 : mI (setT g 0) p0 = true
  · refine J_tv (congrArg Value.int (bI_pos h7)) ?_
    refine J_if_eq (tgt := 31) hC dX6_monk_10 (by decide) (fun h => absurd h (by decide)) (fun _ => ?_)
    refine J_iload_n hC (j := 2) dX6_monk_13 rfl rfl ?_
    refine J_iconst (v := 0) hC dX6_monk_14 (by decide) ?_
    refine J_iconst (v := 4) hC dX6_monk_15 (by decide) ?_
    refine J_callS hC (ct_X6_isIn l G (mk5 D E (setT g 0) S A) o p1 0 4) ms_X6_isIn qw_785 rfl rfl (Nat.le_of_ble_eq_true rfl) ⟨Nat.le_of_ble_eq_true rfl, Nat.le_of_ble_eq_true rfl⟩ ⟨Nat.le_of_ble_eq_true rfl, Nat.le_of_ble_eq_true rfl⟩ dX6_monk_16 ?_
    by_cases h16 : wthn p1 0 4 = true
    · refine J_tv (congrArg Value.int (bI_pos h16)) ?_
      refine J_if_eq (tgt := 31) hC dX6_monk_19 (by decide) (fun h => absurd h (by decide)) (fun _ => ?_)
      refine J_aload_n hC (j := 0) dX6_monk_22 rfl rfl ?_
      refine J_iload_n hC (j := 1) dX6_monk_23 rfl rfl ?_
      refine J_iload_n hC (j := 2) dX6_monk_24 rfl rfl ?_
      refine J_callV hC (ct_X6_monkTold l G D E (setT g 0) S A o p0 p1 (mI_in hg h7) hy) mw_X6_monkTold qw_878 nl_m0 ent_m0 rfl rfl rfl (Nat.le_of_ble_eq_true rfl) ⟨Nat.le_of_ble_eq_true rfl, Nat.le_of_ble_eq_true rfl⟩ ⟨Nat.le_of_ble_eq_true rfl, Nat.le_of_ble_eq_true rfl⟩ dX6_monk_25 ?_
      refine J_goto (tgt := 36) hC dX6_monk_28 (by decide) ?_
      exact J_iret hC hr (by first | (simp [vMonkM, mMonk, h7, h16, mk5_2]; done) | rfl) (by first | (simp [vMonkM, mMonk, h7, h16, mk5_2]; done) | rfl) rfl dX6_monk_36
    · refine J_tv (congrArg Value.int (bI_neg h16)) ?_
      refine J_if_eq (tgt := 31) hC dX6_monk_19 (by decide) (fun _ => ?_) (fun h => absurd h (by decide))
      refine J_aload_n hC (j := 0) dX6_monk_31 rfl rfl ?_
      refine J_iconst (v := 1) hC dX6_monk_32 (by decide) ?_
      refine J_callV hC (ct_X6_no l G D E (setT g 0) S A o 1) mw_X6_no qw_788 nl_m0 ent_m0 rfl rfl rfl (Nat.le_of_ble_eq_true rfl) ⟨Nat.le_of_ble_eq_true rfl, Nat.le_of_ble_eq_true rfl⟩ ⟨Nat.le_of_ble_eq_true rfl, Nat.le_of_ble_eq_true rfl⟩ dX6_monk_33 ?_
      exact J_iret hC hr (by first | (simp [vMonkM, mMonk, h7, h16, mk5_2]; done) | rfl) (by first | (simp [vMonkM, mMonk, h7, h16, mk5_2]; done) | rfl) rfl dX6_monk_36
  · refine J_tv (congrArg Value.int (bI_neg h7)) ?_
    refine J_if_eq (tgt := 31) hC dX6_monk_10 (by decide) (fun _ => ?_) (fun h => absurd h (by decide))
    refine J_aload_n hC (j := 0) dX6_monk_31 rfl rfl ?_
    refine J_iconst (v := 1) hC dX6_monk_32 (by decide) ?_
    refine J_callV hC (ct_X6_no l G D E (setT g 0) S A o 1) mw_X6_no qw_788 nl_m0 ent_m0 rfl rfl rfl (Nat.le_of_ble_eq_true rfl) ⟨Nat.le_of_ble_eq_true rfl, Nat.le_of_ble_eq_true rfl⟩ ⟨Nat.le_of_ble_eq_true rfl, Nat.le_of_ble_eq_true rfl⟩ dX6_monk_33 ?_
    exact J_iret hC hr (by first | (simp [vMonkM, mMonk, h7, mk5_2]; done) | rfl) (by first | (simp [vMonkM, mMonk, h7, mk5_2]; done) | rfl) rfl dX6_monk_36
set_option maxHeartbeats 4000000 in
set_option maxRecDepth 100000 in
theorem ct_X6_counted (l : Launch) (G : GG) (D E g S A : DD) (o : OO) (p0 : Int32) (hg : GG2 g) (hk : vp_in p0 9) : CT l yX6_counted cX6_counted 3 (some .int) 1 23 1 9 G [.ref (aX G 2 0), .int p0] (mk5 D E g S A) o (some (.int (nTold g S p0))) (mk5 D E g S A) o := by
  refine CT_of (own := RX6) (lv := [(0, .ref (aX G 2 0)), (1, .int p0)]) (by decide) rfl (Nat.le_of_ble_eq_true rfl) rfl ?_
  intro p e s m args below meth c hr hC
  refine J_bipush (v := 9) hC dX6_counted_0 (by decide) ?_
  refine J_newa hC qw_82 (by decide) (N := 9) rfl (by decide) ⟨Nat.le_of_ble_eq_true rfl, Nat.le_of_ble_eq_true rfl⟩ dX6_counted_2 (fun q2 => ?_)
  refine J_dup hC dX6_counted_4 rfl ?_
  refine J_iconst (v := 0) hC dX6_counted_5 (by decide) ?_
  refine J_aload_n hC (j := 0) dX6_counted_6 rfl rfl ?_
  refine J_get (v' := .ref (aX G 3 0)) hC nl_m0 ent_m0 rfl in6 10 (by decide) rfl qw_747 rfl rfl dX6_counted_7 ?_
  refine J_getN hC (nl_s0 (Or.inl rfl)) (ent_s0 (Or.inl rfl)) rfl in5 0 (by decide) rfl nqw_672 rfl (r5 (x := (S 0 0)) rfl) dX6_counted_10 ?_
  refine J_lst hC (by unfold vp_in; decide) dX6_counted_13 ?_
  refine J_dup hC dX6_counted_14 rfl ?_
  refine J_iconst (v := 1) hC dX6_counted_15 (by decide) ?_
  refine J_aload_n hC (j := 0) dX6_counted_16 rfl rfl ?_
  refine J_get hC nl_m0 ent_m0 rfl in6 1 (by decide) rfl qw_731 rfl (r5 (x := (g 0 1)) rfl) dX6_counted_17 ?_
  refine J_lst hC (by unfold vp_in; decide) dX6_counted_20 ?_
  refine J_dup hC dX6_counted_21 rfl ?_
  refine J_iconst (v := 2) hC dX6_counted_22 (by decide) ?_
  refine J_aload_n hC (j := 0) dX6_counted_23 rfl rfl ?_
  refine J_get hC nl_m0 ent_m0 rfl in6 4 (by decide) rfl qw_736 rfl (r5 (x := (g 0 4)) rfl) dX6_counted_24 ?_
  refine J_lst hC (by unfold vp_in; decide) dX6_counted_27 ?_
  refine J_dup hC dX6_counted_28 rfl ?_
  refine J_iconst (v := 3) hC dX6_counted_29 (by decide) ?_
  refine J_aload_n hC (j := 0) dX6_counted_30 rfl rfl ?_
  refine J_get (v' := .ref (aX G 3 0)) hC nl_m0 ent_m0 rfl in6 10 (by decide) rfl qw_747 rfl rfl dX6_counted_31 ?_
  refine J_iconst (v := 0) hC dX6_counted_34 (by decide) ?_
  refine J_callV hC (ct_rw (X4 := (mk5 D E g S A)) m5u3 m5u3 (ct_X5_many l G (mk5 D E g S A) (o.1, o.2 ++ [(q2, eI G 9 (va_up (va_up (va_up (fun _ => 0) (ix 0) (S 0 0)) (ix 1) (g 0 1)) (ix 2) (g 0 4)))]) 3 (Or.inl rfl) S 0 hg)) mw_X5_many qw_890 (nl_s0 (Or.inl rfl)) (ent_s0 (Or.inl rfl)) rfl rfl rfl (Nat.le_of_ble_eq_true rfl) ⟨Nat.le_of_ble_eq_true rfl, Nat.le_of_ble_eq_true rfl⟩ ⟨Nat.le_of_ble_eq_true rfl, Nat.le_of_ble_eq_true rfl⟩ dX6_counted_35 ?_
  refine J_lst hC (by unfold vp_in; decide) dX6_counted_38 ?_
  refine J_dup hC dX6_counted_39 rfl ?_
  refine J_iconst (v := 4) hC dX6_counted_40 (by decide) ?_
  refine J_aload_n hC (j := 0) dX6_counted_41 rfl rfl ?_
  refine J_get (v' := .ref (aX G 3 0)) hC nl_m0 ent_m0 rfl in6 10 (by decide) rfl qw_747 rfl rfl dX6_counted_42 ?_
  refine J_iconst (v := 1) hC dX6_counted_45 (by decide) ?_
  refine J_callV hC (ct_rw (X4 := (mk5 D E g S A)) m5u3 m5u3 (ct_X5_many l G (mk5 D E g S A) (o.1, o.2 ++ [(q2, eI G 9 (va_up (va_up (va_up (va_up (fun _ => 0) (ix 0) (S 0 0)) (ix 1) (g 0 1)) (ix 2) (g 0 4)) (ix 3) (manyS g S 0 (ix (g 0 4)))))]) 3 (Or.inl rfl) S 1 hg)) mw_X5_many qw_890 (nl_s0 (Or.inl rfl)) (ent_s0 (Or.inl rfl)) rfl rfl rfl (Nat.le_of_ble_eq_true rfl) ⟨Nat.le_of_ble_eq_true rfl, Nat.le_of_ble_eq_true rfl⟩ ⟨Nat.le_of_ble_eq_true rfl, Nat.le_of_ble_eq_true rfl⟩ dX6_counted_46 ?_
  refine J_lst hC (by unfold vp_in; decide) dX6_counted_49 ?_
  refine J_dup hC dX6_counted_50 rfl ?_
  refine J_iconst (v := 5) hC dX6_counted_51 (by decide) ?_
  refine J_aload_n hC (j := 0) dX6_counted_52 rfl rfl ?_
  refine J_get (v' := .ref (aX G 3 0)) hC nl_m0 ent_m0 rfl in6 10 (by decide) rfl qw_747 rfl rfl dX6_counted_53 ?_
  refine J_iconst (v := 2) hC dX6_counted_56 (by decide) ?_
  refine J_callV hC (ct_rw (X4 := (mk5 D E g S A)) m5u3 m5u3 (ct_X5_many l G (mk5 D E g S A) (o.1, o.2 ++ [(q2, eI G 9 (va_up (va_up (va_up (va_up (va_up (fun _ => 0) (ix 0) (S 0 0)) (ix 1) (g 0 1)) (ix 2) (g 0 4)) (ix 3) (manyS g S 0 (ix (g 0 4)))) (ix 4) (manyS g S 1 (ix (g 0 4)))))]) 3 (Or.inl rfl) S 2 hg)) mw_X5_many qw_890 (nl_s0 (Or.inl rfl)) (ent_s0 (Or.inl rfl)) rfl rfl rfl (Nat.le_of_ble_eq_true rfl) ⟨Nat.le_of_ble_eq_true rfl, Nat.le_of_ble_eq_true rfl⟩ ⟨Nat.le_of_ble_eq_true rfl, Nat.le_of_ble_eq_true rfl⟩ dX6_counted_57 ?_
  refine J_lst hC (by unfold vp_in; decide) dX6_counted_60 ?_
  refine J_dup hC dX6_counted_61 rfl ?_
  refine J_bipush (v := 6) hC dX6_counted_62 (by decide) ?_
  refine J_aload_n hC (j := 0) dX6_counted_64 rfl rfl ?_
  refine J_get (v' := .ref (aX G 3 0)) hC nl_m0 ent_m0 rfl in6 10 (by decide) rfl qw_747 rfl rfl dX6_counted_65 ?_
  refine J_callV hC (ct_rw (X4 := (mk5 D E g S A)) m5u3 m5u3 (ct_X5_mouldy l G (mk5 D E g S A) (o.1, o.2 ++ [(q2, eI G 9 (va_up (va_up (va_up (va_up (va_up (va_up (fun _ => 0) (ix 0) (S 0 0)) (ix 1) (g 0 1)) (ix 2) (g 0 4)) (ix 3) (manyS g S 0 (ix (g 0 4)))) (ix 4) (manyS g S 1 (ix (g 0 4)))) (ix 5) (manyS g S 2 (ix (g 0 4)))))]) 3 (Or.inl rfl) S hg)) mw_X5_mouldy qw_894 (nl_s0 (Or.inl rfl)) (ent_s0 (Or.inl rfl)) rfl rfl rfl (Nat.le_of_ble_eq_true rfl) ⟨Nat.le_of_ble_eq_true rfl, Nat.le_of_ble_eq_true rfl⟩ ⟨Nat.le_of_ble_eq_true rfl, Nat.le_of_ble_eq_true rfl⟩ dX6_counted_68 ?_
  refine J_lst hC (by unfold vp_in; decide) dX6_counted_71 ?_
  refine J_dup hC dX6_counted_72 rfl ?_
  refine J_bipush (v := 7) hC dX6_counted_73 (by decide) ?_
  refine J_aload_n hC (j := 0) dX6_counted_75 rfl rfl ?_
  refine J_get hC nl_m0 ent_m0 rfl in6 9 (by decide) rfl qw_746 rfl (r5 (x := (g 0 9)) rfl) dX6_counted_76 ?_
  refine J_lst hC (by unfold vp_in; decide) dX6_counted_79 ?_
  refine J_dup hC dX6_counted_80 rfl ?_
  refine J_bipush (v := 8) hC dX6_counted_81 (by decide) ?_
  refine J_aload_n hC (j := 0) dX6_counted_83 rfl rfl ?_
  refine J_get hC nl_m0 ent_m0 rfl in6 5 (by decide) rfl qw_738 rfl (r5 (x := (g 0 5)) rfl) dX6_counted_84 ?_
  refine J_lst hC (by unfold vp_in; decide) dX6_counted_87 ?_
  refine J_astore_n (lv' := [(2, .ref q2), (0, .ref (aX G 2 0)), (1, .int p0)]) hC dX6_counted_88 rfl (by decide) rfl ?_
  refine J_aload_n hC (j := 0) dX6_counted_89 rfl rfl ?_
  refine J_iload_n hC (j := 2) dX6_counted_90 rfl rfl ?_
  refine J_lld hC hk dX6_counted_91 ?_
  refine J_drop ?_ rfl
  refine J_widen (k := 1) (n := 9) (by omega) (by omega) ?_
  exact J_iret hC hr (by first | (simp [nTold, nRow, mk5_2]; done) | rfl) rfl rfl dX6_counted_92
set_option maxHeartbeats 4000000 in
set_option maxRecDepth 100000 in
theorem ct_X6_count (l : Launch) (G : GG) (D E g S A : DD) (o : OO) (p0 : Int32) (hg : GG2 (setT g 0)) : CT l yX6_count cX6_count 2 (some .int) 2 45 1 9 G [.ref (aX G 2 0), .int p0] (mk5 D E g S A) o (some (.int (vCountM (setT g 0) S p0))) (mk5 D E (mCount (setT g 0) p0) S A) o := by
  refine CT_of (own := RX6) (lv := [(0, .ref (aX G 2 0)), (1, .int p0)]) (by decide) rfl (Nat.le_of_ble_eq_true rfl) rfl ?_
  intro p e s m args below meth c hr hC
  refine J_aload_n hC (j := 0) dX6_count_0 rfl rfl ?_
  refine J_iconst (v := 0) hC dX6_count_1 (by decide) ?_
  refine J_X (X' := (va_up (mk5 D E g S A) 2 g)) m5u2.symm ?_
  refine J_put (X' := (va_up (mk5 D E g S A) 2 (va_up g 0 (va_up (g 0) 0 0)))) hC nl_m0 ent_m0 rfl in6 tyX6_ok nmX6 0 (by decide) rfl qw_730 rfl (by decide) (Nat.le_of_ble_eq_true rfl) (pu_m0F  (by decide)) dX6_count_2 ?_
  refine J_X (X' := (mk5 D E (va_up g 0 (va_up (g 0) 0 0)) S A)) m5u2 ?_
  refine J_X (X' := (mk5 D E (setT g 0) S A)) rfl ?_
  refine J_iload_n hC (j := 1) dX6_count_5 rfl rfl ?_
  refine J_iconst (v := 0) hC dX6_count_6 (by decide) ?_
  refine J_bipush (v := 8) hC dX6_count_7 (by decide) ?_
  refine J_callS hC (ct_X6_isIn l G (mk5 D E (setT g 0) S A) o p0 0 8) ms_X6_isIn qw_785 rfl rfl (Nat.le_of_ble_eq_true rfl) ⟨Nat.le_of_ble_eq_true rfl, Nat.le_of_ble_eq_true rfl⟩ ⟨Nat.le_of_ble_eq_true rfl, Nat.le_of_ble_eq_true rfl⟩ dX6_count_9 ?_
  by_cases h9 : wthn p0 0 8 = true
  · refine J_tv (congrArg Value.int (bI_pos h9)) ?_
    refine J_if_eq (tgt := 23) hC dX6_count_12 (by decide) (fun h => absurd h (by decide)) (fun _ => ?_)
    refine J_aload_n hC (j := 0) dX6_count_15 rfl rfl ?_
    refine J_iload_n hC (j := 1) dX6_count_16 rfl rfl ?_
    refine J_callV hC (ct_X6_counted l G D E (setT g 0) S A o p0 hg (wt_in (N := 9) (n := 9) (by decide) (by decide) h9)) mw_X6_counted qw_886 nl_m0 ent_m0 rfl rfl rfl (Nat.le_of_ble_eq_true rfl) ⟨Nat.le_of_ble_eq_true rfl, Nat.le_of_ble_eq_true rfl⟩ ⟨Nat.le_of_ble_eq_true rfl, Nat.le_of_ble_eq_true rfl⟩ dX6_count_17 ?_
    refine J_goto (tgt := 28) hC dX6_count_20 (by decide) ?_
    refine J_widen (k := 1) (n := 9) (by omega) (by omega) ?_
    exact J_iret hC hr (by first | (simp [vCountM, mCount, h9, mk5_2]; done) | rfl) (by first | (simp [vCountM, mCount, h9, mk5_2]; done) | rfl) rfl dX6_count_28
  · refine J_tv (congrArg Value.int (bI_neg h9)) ?_
    refine J_if_eq (tgt := 23) hC dX6_count_12 (by decide) (fun _ => ?_) (fun h => absurd h (by decide))
    refine J_aload_n hC (j := 0) dX6_count_23 rfl rfl ?_
    refine J_iconst (v := 1) hC dX6_count_24 (by decide) ?_
    refine J_callV hC (ct_X6_no l G D E (setT g 0) S A o 1) mw_X6_no qw_788 nl_m0 ent_m0 rfl rfl rfl (Nat.le_of_ble_eq_true rfl) ⟨Nat.le_of_ble_eq_true rfl, Nat.le_of_ble_eq_true rfl⟩ ⟨Nat.le_of_ble_eq_true rfl, Nat.le_of_ble_eq_true rfl⟩ dX6_count_25 ?_
    refine J_widen (k := 1) (n := 9) (by omega) (by omega) ?_
    exact J_iret hC hr (by first | (simp [vCountM, mCount, h9, mk5_2]; done) | rfl) (by first | (simp [vCountM, mCount, h9, mk5_2]; done) | rfl) rfl dX6_count_28
