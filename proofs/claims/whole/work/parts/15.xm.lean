theorem tw_words {L : List Cond} (h : L.all (fun w => (goodWord w || nestGood w) && decide (w ∈ lw_tbl)) = true) : ∀ w ∈ L, w ∈ lw_all ∨ w ∈ lw_nw := fun w hw => by
  have h1 := List.all_eq_true.mp h w hw
  simp only [Bool.and_eq_true, Bool.or_eq_true, decide_eq_true_eq] at h1
  exact h1.1.imp (fun g => List.mem_filter.mpr ⟨h1.2, g⟩) (fun g => List.mem_filter.mpr ⟨h1.2, g⟩)
theorem tw_IllegalArgumentException : TW RX4 23 27 "java/lang/IllegalArgumentException" := ⟨by decide, qw_295, qw_38, tw_words (by decide +kernel), by decide +kernel⟩
theorem tw_IllegalStateException : TW RX4 34 38 "java/lang/IllegalStateException" := ⟨by decide, qw_363, qw_39, tw_words (by decide +kernel), by decide +kernel⟩
theorem tw_IndexOutOfBoundsException : TW RX4 47 51 "java/lang/IndexOutOfBoundsException" := ⟨by decide, qw_392, qw_40, tw_words (by decide +kernel), by decide +kernel⟩
set_option maxHeartbeats 4000000 in
set_option maxRecDepth 100000 in
theorem xt_X4_build (l : Launch) (hlt : l.stackTraces = false) (G : GG) (D E g S A : DD) (o : OO) (p0 p1 : Int32) : XT l yX4_build cX4_build 3 (some .int) 6 82 1 6 G [.ref (gA G 88), .int p0, .int p1] (mk5 D E g S A) o (kBuild D p0 p1) ["java/lang/IllegalArgumentException", "java/lang/IllegalStateException"] (some (.int (D 40 2))) (mk5 (addC D p0 p1) E g S A) o := by
  refine XT_of (own := RX4) (lv := [(0, .ref (gA G 88)), (1, .int p0), (2, .int p1)]) (by decide) rfl (Nat.le_of_ble_eq_true rfl) rfl ?_
  intro p e s m args below meth c hr hex hC
  refine J_iload_n hC (j := 1) dX4_build_0 rfl rfl ?_
  refine J_iconst (v := 0) hC dX4_build_1 (by decide) ?_
  refine J_bipush (v := 9) hC dX4_build_2 (by decide) ?_
  refine J_callS hC (ct_X4_isWithin l G (mk5 D E g S A) o p0 0 9) ms_X4_isWithin qw_292 rfl rfl (Nat.le_of_ble_eq_true rfl) ⟨Nat.le_of_ble_eq_true rfl, Nat.le_of_ble_eq_true rfl⟩ ⟨Nat.le_of_ble_eq_true rfl, Nat.le_of_ble_eq_true rfl⟩ dX4_build_4 ?_
  by_cases h4 : wthn p0 0 9 = true
  · refine J_tv (congrArg Value.int (bI_pos h4)) ?_
    refine J_if_eq (tgt := 20) hC dX4_build_7 (by decide) (fun h => absurd h (by decide)) (fun _ => ?_)
    refine J_iload_n hC (j := 2) dX4_build_10 rfl rfl ?_
    refine J_iconst (v := 0) hC dX4_build_11 (by decide) ?_
    refine J_bipush (v := 9) hC dX4_build_12 (by decide) ?_
    refine J_callS hC (ct_X4_isWithin l G (mk5 D E g S A) o p1 0 9) ms_X4_isWithin qw_292 rfl rfl (Nat.le_of_ble_eq_true rfl) ⟨Nat.le_of_ble_eq_true rfl, Nat.le_of_ble_eq_true rfl⟩ ⟨Nat.le_of_ble_eq_true rfl, Nat.le_of_ble_eq_true rfl⟩ dX4_build_14 ?_
    by_cases h14 : wthn p1 0 9 = true
    · refine J_tv (congrArg Value.int (bI_pos h14)) ?_
      refine J_if_ne (tgt := 30) hC dX4_build_17 (by decide) (fun _ => ?_) (fun h => absurd h (by decide))
      refine J_aload_n hC (j := 0) dX4_build_30 rfl rfl ?_
      refine J_get hC (by decide) ent_rt rfl in4 0 (by decide) rfl qw_182 rfl rfl dX4_build_31 ?_
      refine J_get hC (nl_da (by decide)) (ent_da (by decide)) rfl in1 2 (by decide) rfl qw_157 rfl (r5 (x := (D 40 2)) rfl) dX4_build_34 ?_
      refine J_iconst (v := 4) hC dX4_build_37 (by decide) ?_
      refine J_icmp_lt (tgt := 51) hC dX4_build_38 (by decide) (fun c38 => ?_) (fun c38 => ?_)
      · refine J_aload_n hC (j := 0) dX4_build_51 rfl rfl ?_
        refine J_get hC (by decide) ent_rt rfl in4 0 (by decide) rfl qw_182 rfl rfl dX4_build_52 ?_
        refine J_iload_n hC (j := 1) dX4_build_55 rfl rfl ?_
        refine J_iload_n hC (j := 2) dX4_build_56 rfl rfl ?_
        refine J_callV hC (ct_rw m5u0 m5u0 (ct_X1_addCellar l G (mk5 D E g S A) o 0 (by decide) D p0 p1)) mw_X1_addCellar qw_379 (nl_da (by decide)) (ent_da (by decide)) rfl rfl rfl (Nat.le_of_ble_eq_true rfl) ⟨Nat.le_of_ble_eq_true rfl, Nat.le_of_ble_eq_true rfl⟩ ⟨Nat.le_of_ble_eq_true rfl, Nat.le_of_ble_eq_true rfl⟩ dX4_build_57 ?_
        refine J_widen (k := 1) (n := 6) (by decide) (by decide) ?_
        refine JX_end hC (by simp [kBuild, h4, h14, c38]) ?_
        exact J_iret hC hr rfl rfl rfl dX4_build_60
      · exact J_throw hC hlt hex tw_IllegalStateException (List.mem_of_getElem? (i := 1) rfl) 1 rfl (by show _ = (2 : Int32); simp [kBuild, h4, h14, c38]) dX4_build_41 dX4_build_44 dX4_build_45 dX4_build_47 dX4_build_50 ⟨Nat.le_of_ble_eq_true rfl, Nat.le_of_ble_eq_true rfl, Nat.le_of_ble_eq_true rfl, Nat.le_of_ble_eq_true rfl⟩ ⟨Nat.le_of_ble_eq_true rfl, Nat.le_of_ble_eq_true rfl⟩
    · refine J_tv (congrArg Value.int (bI_neg h14)) ?_
      refine J_if_ne (tgt := 30) hC dX4_build_17 (by decide) (fun h => absurd h (by decide)) (fun _ => ?_)
      exact J_throw hC hlt hex tw_IllegalArgumentException (List.mem_of_getElem? (i := 0) rfl) 0 rfl (by show _ = (1 : Int32); simp [kBuild, h4, h14]) dX4_build_20 dX4_build_23 dX4_build_24 dX4_build_26 dX4_build_29 ⟨Nat.le_of_ble_eq_true rfl, Nat.le_of_ble_eq_true rfl, Nat.le_of_ble_eq_true rfl, Nat.le_of_ble_eq_true rfl⟩ ⟨Nat.le_of_ble_eq_true rfl, Nat.le_of_ble_eq_true rfl⟩
  · refine J_tv (congrArg Value.int (bI_neg h4)) ?_
    refine J_if_eq (tgt := 20) hC dX4_build_7 (by decide) (fun _ => ?_) (fun h => absurd h (by decide))
    exact J_throw hC hlt hex tw_IllegalArgumentException (List.mem_of_getElem? (i := 0) rfl) 0 rfl (by show _ = (1 : Int32); simp [kBuild, h4]) dX4_build_20 dX4_build_23 dX4_build_24 dX4_build_26 dX4_build_29 ⟨Nat.le_of_ble_eq_true rfl, Nat.le_of_ble_eq_true rfl, Nat.le_of_ble_eq_true rfl, Nat.le_of_ble_eq_true rfl⟩ ⟨Nat.le_of_ble_eq_true rfl, Nat.le_of_ble_eq_true rfl⟩
set_option maxHeartbeats 4000000 in
set_option maxRecDepth 100000 in
theorem xt_X4_air (l : Launch) (hlt : l.stackTraces = false) (G : GG) (D E g S A : DD) (o : OO) (p0 p1 p2 : Int32) : XT l yX4_air cX4_air 6 (some .int) 6 82 1 6 G [.ref (gA G 88), .int p0, .int p1, .int p2] (mk5 D E g S A) o (kAir D p0 p1 p2) ["java/lang/IndexOutOfBoundsException", "java/lang/IllegalArgumentException"] (some (.int (vAir D p0))) (mk5 (dAir D p0 p1 p2) E g S A) o := by
  refine XT_of (own := RX4) (lv := [(0, .ref (gA G 88)), (1, .int p0), (2, .int p1), (3, .int p2)]) (by decide) rfl (Nat.le_of_ble_eq_true rfl) rfl ?_
  intro p e s m args below meth c hr hex hC
  refine J_aload_n hC (j := 0) dX4_air_0 rfl rfl ?_
  refine J_get hC (by decide) ent_rt rfl in4 0 (by decide) rfl qw_182 rfl rfl dX4_air_1 ?_
  refine J_iload_n hC (j := 1) dX4_air_4 rfl rfl ?_
  refine J_callV hC (ct_rw m5u0 m5u0 (ct_X1_cellarOf l G (mk5 D E g S A) o 0 (by decide) D p0)) mw_X1_cellarOf qw_391 (nl_da (by decide)) (ent_da (by decide)) rfl rfl rfl (Nat.le_of_ble_eq_true rfl) ⟨Nat.le_of_ble_eq_true rfl, Nat.le_of_ble_eq_true rfl⟩ ⟨Nat.le_of_ble_eq_true rfl, Nat.le_of_ble_eq_true rfl⟩ dX4_air_5 ?_
  by_cases h5 : inC D p0 = true
  · refine J_tv (ceV_p h5) ?_
    refine J_astore (lv' := [(4, .ref (aX G 0 (24 + (ix p0)))), (0, .ref (gA G 88)), (1, .int p0), (2, .int p1), (3, .int p2)]) hC dX4_air_8 (by decide) rfl ?_
    refine J_aload hC (j := 0) dX4_air_10 rfl ?_
    refine J_ifnonnull (tgt := 25) hC dX4_air_12 (by decide) ?_
    refine J_iload_n hC (j := 3) dX4_air_25 rfl rfl ?_
    refine J_iconst (v := 0) hC dX4_air_26 (by decide) ?_
    refine J_bipush (v := 9) hC dX4_air_27 (by decide) ?_
    refine J_callS hC (ct_X4_isWithin l G (mk5 D E g S A) o p1 0 9) ms_X4_isWithin qw_292 rfl rfl (Nat.le_of_ble_eq_true rfl) ⟨Nat.le_of_ble_eq_true rfl, Nat.le_of_ble_eq_true rfl⟩ ⟨Nat.le_of_ble_eq_true rfl, Nat.le_of_ble_eq_true rfl⟩ dX4_air_29 ?_
    by_cases h29 : wthn p1 0 9 = true
    · refine J_tv (congrArg Value.int (bI_pos h29)) ?_
      refine J_if_eq (tgt := 45) hC dX4_air_32 (by decide) (fun h => absurd h (by decide)) (fun _ => ?_)
      refine J_iload_n hC (j := 4) dX4_air_35 rfl rfl ?_
      refine J_iconst (v := 0) hC dX4_air_36 (by decide) ?_
      refine J_bipush (v := 9) hC dX4_air_37 (by decide) ?_
      refine J_callS hC (ct_X4_isWithin l G (mk5 D E g S A) o p2 0 9) ms_X4_isWithin qw_292 rfl rfl (Nat.le_of_ble_eq_true rfl) ⟨Nat.le_of_ble_eq_true rfl, Nat.le_of_ble_eq_true rfl⟩ ⟨Nat.le_of_ble_eq_true rfl, Nat.le_of_ble_eq_true rfl⟩ dX4_air_39 ?_
      by_cases h39 : wthn p2 0 9 = true
      · refine J_tv (congrArg Value.int (bI_pos h39)) ?_
        refine J_if_ne (tgt := 55) hC dX4_air_42 (by decide) (fun _ => ?_) (fun h => absurd h (by decide))
        refine J_bipush (v := 10) hC dX4_air_55 (by decide) ?_
        refine J_aload hC (j := 0) dX4_air_57 rfl ?_
        refine J_get hC (nl_ce (by decide) (inC_lt h5)) (ent_ce (by decide) (inC_lt h5)) rfl in0 0 (by decide) rfl qw_69 rfl (r5 (x := (D (24 + (ix p0)) 0)) rfl) dX4_air_59 ?_
        refine J_imul hC dX4_air_62 ?_
        refine J_aload hC (j := 0) dX4_air_63 rfl ?_
        refine J_get hC (nl_ce (by decide) (inC_lt h5)) (ent_ce (by decide) (inC_lt h5)) rfl in0 1 (by decide) rfl qw_72 rfl (r5 (x := (D (24 + (ix p0)) 1)) rfl) dX4_air_65 ?_
        refine J_iadd hC dX4_air_68 ?_
        refine J_istore (lv' := [(5, .int ((10 * (D (24 + (ix p0)) 0)) + (D (24 + (ix p0)) 1))), (4, .ref (aX G 0 (24 + (ix p0)))), (0, .ref (gA G 88)), (1, .int p0), (2, .int p1), (3, .int p2)]) hC dX4_air_69 (by decide) rfl ?_
        refine J_aload hC (j := 1) dX4_air_71 rfl ?_
        refine J_iload_n hC (j := 4) dX4_air_73 rfl rfl ?_
        refine J_X (X' := (va_up (mk5 D E g S A) 0 D)) m5u0.symm ?_
        refine J_put (X' := (va_up (mk5 D E g S A) 0 (va_up D (24 + (ix p0)) (va_up (D (24 + (ix p0))) 0 p1)))) hC (nl_ce (by decide) (inC_lt h5)) (ent_ce (by decide) (inC_lt h5)) rfl in0 tyX0_ok nmX0 0 (by decide) rfl qw_69 rfl (by decide) (Nat.le_of_ble_eq_true rfl) (pu_ceF (by decide) (inC_lt h5) (by decide)) dX4_air_74 ?_
        refine J_X (X' := (mk5 (va_up D (24 + (ix p0)) (va_up (D (24 + (ix p0))) 0 p1)) E g S A)) m5u0 ?_
        refine J_aload hC (j := 1) dX4_air_77 rfl ?_
        refine J_iload_n hC (j := 5) dX4_air_79 rfl rfl ?_
        refine J_X (X' := (va_up (mk5 (va_up D (24 + (ix p0)) (va_up (D (24 + (ix p0))) 0 p1)) E g S A) 0 (va_up D (24 + (ix p0)) (va_up (D (24 + (ix p0))) 0 p1)))) m5u0.symm ?_
        refine J_put (X' := (va_up (mk5 (va_up D (24 + (ix p0)) (va_up (D (24 + (ix p0))) 0 p1)) E g S A) 0 (va_up D (24 + (ix p0)) (va_up (va_up (D (24 + (ix p0))) 0 p1) 1 p2)))) hC (nl_ce (by decide) (inC_lt h5)) (ent_ce (by decide) (inC_lt h5)) rfl in0 tyX0_ok nmX0 1 (by decide) rfl qw_72 rfl (by decide) (Nat.le_of_ble_eq_true rfl) (pu_ceW (by decide) (inC_lt h5) (by decide)) dX4_air_80 ?_
        refine J_X (X' := (mk5 (va_up D (24 + (ix p0)) (va_up (va_up (D (24 + (ix p0))) 0 p1) 1 p2)) E g S A)) m5u0 ?_
        refine J_iload hC (j := 0) dX4_air_83 rfl ?_
        refine J_widen (k := 1) (n := 6) (by decide) (by decide) ?_
        refine JX_end hC (by simp [kAir, h5, h29, h39]) ?_
        exact J_iret hC hr (by simp [vAir, dAir, h5, h29, h39]) (by simp [vAir, dAir, h5, h29, h39]) rfl dX4_air_85
      · refine J_tv (congrArg Value.int (bI_neg h39)) ?_
        refine J_if_ne (tgt := 55) hC dX4_air_42 (by decide) (fun h => absurd h (by decide)) (fun _ => ?_)
        exact J_throw hC hlt hex tw_IllegalArgumentException (List.mem_of_getElem? (i := 0) rfl) 1 rfl (by show _ = (2 : Int32); simp [kAir, h5, h29, h39]) dX4_air_45 dX4_air_48 dX4_air_49 dX4_air_51 dX4_air_54 ⟨Nat.le_of_ble_eq_true rfl, Nat.le_of_ble_eq_true rfl, Nat.le_of_ble_eq_true rfl, Nat.le_of_ble_eq_true rfl⟩ ⟨Nat.le_of_ble_eq_true rfl, Nat.le_of_ble_eq_true rfl⟩
    · refine J_tv (congrArg Value.int (bI_neg h29)) ?_
      refine J_if_eq (tgt := 45) hC dX4_air_32 (by decide) (fun _ => ?_) (fun h => absurd h (by decide))
      exact J_throw hC hlt hex tw_IllegalArgumentException (List.mem_of_getElem? (i := 0) rfl) 1 rfl (by show _ = (2 : Int32); simp [kAir, h5, h29]) dX4_air_45 dX4_air_48 dX4_air_49 dX4_air_51 dX4_air_54 ⟨Nat.le_of_ble_eq_true rfl, Nat.le_of_ble_eq_true rfl, Nat.le_of_ble_eq_true rfl, Nat.le_of_ble_eq_true rfl⟩ ⟨Nat.le_of_ble_eq_true rfl, Nat.le_of_ble_eq_true rfl⟩
  · refine J_tv (ceV_n h5) ?_
    refine J_astoreN (lv' := [(4, .null), (0, .ref (gA G 88)), (1, .int p0), (2, .int p1), (3, .int p2)]) hC dX4_air_8 (by decide) rfl ?_
    refine J_aloadN hC (j := 0) dX4_air_10 rfl ?_
    refine J_ifnonnullN hC dX4_air_12 ?_
    exact J_throw hC hlt hex tw_IndexOutOfBoundsException (List.mem_of_getElem? (i := 2) rfl) 0 rfl (by show _ = (1 : Int32); simp [kAir, h5]) dX4_air_15 dX4_air_18 dX4_air_19 dX4_air_21 dX4_air_24 ⟨Nat.le_of_ble_eq_true rfl, Nat.le_of_ble_eq_true rfl, Nat.le_of_ble_eq_true rfl, Nat.le_of_ble_eq_true rfl⟩ ⟨Nat.le_of_ble_eq_true rfl, Nat.le_of_ble_eq_true rfl⟩
set_option maxHeartbeats 4000000 in
set_option maxRecDepth 100000 in
theorem xt_X4_make (l : Launch) (hlt : l.stackTraces = false) (G : GG) (D E g S A : DD) (o : OO) (p0 p1 : Int32) : XT l yX4_make cX4_make 4 (some .int) 6 82 1 6 G [.ref (gA G 88), .int p0, .int p1] (mk5 D E g S A) o (kMake D p0 p1) ["java/lang/IndexOutOfBoundsException", "java/lang/IllegalStateException"] (some (.int (D 40 3))) (mk5 (addW D p0 p1) E g S A) o := by
  refine XT_of (own := RX4) (lv := [(0, .ref (gA G 88)), (1, .int p0), (2, .int p1)]) (by decide) rfl (Nat.le_of_ble_eq_true rfl) rfl ?_
  intro p e s m args below meth c hr hex hC
  refine J_aload_n hC (j := 0) dX4_make_0 rfl rfl ?_
  refine J_get hC (by decide) ent_rt rfl in4 0 (by decide) rfl qw_182 rfl rfl dX4_make_1 ?_
  refine J_iload_n hC (j := 1) dX4_make_4 rfl rfl ?_
  refine J_callV hC (ct_rw m5u0 m5u0 (ct_X1_cellarOf l G (mk5 D E g S A) o 0 (by decide) D p0)) mw_X1_cellarOf qw_391 (nl_da (by decide)) (ent_da (by decide)) rfl rfl rfl (Nat.le_of_ble_eq_true rfl) ⟨Nat.le_of_ble_eq_true rfl, Nat.le_of_ble_eq_true rfl⟩ ⟨Nat.le_of_ble_eq_true rfl, Nat.le_of_ble_eq_true rfl⟩ dX4_make_5 ?_
  by_cases h5 : inC D p0 = true
  · refine J_tv (ceV_p h5) ?_
    refine J_astore_n (lv' := [(3, .ref (aX G 0 (24 + (ix p0)))), (0, .ref (gA G 88)), (1, .int p0), (2, .int p1)]) hC dX4_make_8 rfl (by decide) rfl ?_
    refine J_aload_n hC (j := 0) dX4_make_9 rfl rfl ?_
    refine J_ifnull hC dX4_make_10 ?_
    refine J_iload_n hC (j := 3) dX4_make_13 rfl rfl ?_
    refine J_callS hC (ct_X4_isPlace l G (mk5 D E g S A) o p1) ms_X4_isPlace qw_415 rfl rfl (Nat.le_of_ble_eq_true rfl) ⟨Nat.le_of_ble_eq_true rfl, Nat.le_of_ble_eq_true rfl⟩ ⟨Nat.le_of_ble_eq_true rfl, Nat.le_of_ble_eq_true rfl⟩ dX4_make_14 ?_
    by_cases h14 : isPl p1 = true
    · refine J_tv (congrArg Value.int (bI_pos h14)) ?_
      refine J_if_ne (tgt := 30) hC dX4_make_17 (by decide) (fun _ => ?_) (fun h => absurd h (by decide))
      refine J_aload_n hC (j := 1) dX4_make_30 rfl rfl ?_
      refine J_get hC (by decide) ent_rt rfl in4 0 (by decide) rfl qw_182 rfl rfl dX4_make_31 ?_
      refine J_get hC (nl_da (by decide)) (ent_da (by decide)) rfl in1 3 (by decide) rfl qw_159 rfl (r5 (x := (D 40 3)) rfl) dX4_make_34 ?_
      refine J_bipush (v := 24) hC dX4_make_37 (by decide) ?_
      refine J_icmp_ge (tgt := 51) hC dX4_make_39 (by decide) (fun c39 => ?_) (fun c39 => ?_)
      · exact J_throw hC hlt hex tw_IllegalStateException (List.mem_of_getElem? (i := 4) rfl) 1 rfl (by show _ = (2 : Int32); simp [kMake, h5, h14, c39]) dX4_make_51 dX4_make_54 dX4_make_55 dX4_make_57 dX4_make_60 ⟨Nat.le_of_ble_eq_true rfl, Nat.le_of_ble_eq_true rfl, Nat.le_of_ble_eq_true rfl, Nat.le_of_ble_eq_true rfl⟩ ⟨Nat.le_of_ble_eq_true rfl, Nat.le_of_ble_eq_true rfl⟩
      · refine J_aload_n hC (j := 0) dX4_make_42 rfl rfl ?_
        refine J_iload_n hC (j := 3) dX4_make_43 rfl rfl ?_
        refine J_callV hC (ct_rw m5u0 m5u0 (ct_X0_wheelAt l G (mk5 D E g S A) o 0 (by decide) D (ix p0) (inC_lt h5) p1)) mw_X0_wheelAt qw_419 (nl_ce (by decide) (inC_lt h5)) (ent_ce (by decide) (inC_lt h5)) rfl rfl rfl (Nat.le_of_ble_eq_true rfl) ⟨Nat.le_of_ble_eq_true rfl, Nat.le_of_ble_eq_true rfl⟩ ⟨Nat.le_of_ble_eq_true rfl, Nat.le_of_ble_eq_true rfl⟩ dX4_make_44 ?_
        refine J_iconst (v := (-1)) hC dX4_make_47 (by decide) ?_
        refine J_icmp_eq (tgt := 61) hC dX4_make_48 (by decide) (fun c48 => ?_) (fun c48 => ?_)
        · refine J_aload_n hC (j := 1) dX4_make_61 rfl rfl ?_
          refine J_get hC (by decide) ent_rt rfl in4 0 (by decide) rfl qw_182 rfl rfl dX4_make_62 ?_
          refine J_iload_n hC (j := 2) dX4_make_65 rfl rfl ?_
          refine J_iload_n hC (j := 3) dX4_make_66 rfl rfl ?_
          refine J_callV hC (ct_rw m5u0 m5u0 (ct_X1_addWheel l G (mk5 D E g S A) o 0 (by decide) D p0 p1)) mw_X1_addWheel qw_424 (nl_da (by decide)) (ent_da (by decide)) rfl rfl rfl (Nat.le_of_ble_eq_true rfl) ⟨Nat.le_of_ble_eq_true rfl, Nat.le_of_ble_eq_true rfl⟩ ⟨Nat.le_of_ble_eq_true rfl, Nat.le_of_ble_eq_true rfl⟩ dX4_make_67 ?_
          refine J_widen (k := 1) (n := 6) (by decide) (by decide) ?_
          refine JX_end hC (by simp [kMake, h5, h14, c39, c48]) ?_
          exact J_iret hC hr rfl rfl rfl dX4_make_70
        · exact J_throw hC hlt hex tw_IllegalStateException (List.mem_of_getElem? (i := 4) rfl) 1 rfl (by show _ = (2 : Int32); simp [kMake, h5, h14, c39, c48]) dX4_make_51 dX4_make_54 dX4_make_55 dX4_make_57 dX4_make_60 ⟨Nat.le_of_ble_eq_true rfl, Nat.le_of_ble_eq_true rfl, Nat.le_of_ble_eq_true rfl, Nat.le_of_ble_eq_true rfl⟩ ⟨Nat.le_of_ble_eq_true rfl, Nat.le_of_ble_eq_true rfl⟩
    · refine J_tv (congrArg Value.int (bI_neg h14)) ?_
      refine J_if_ne (tgt := 30) hC dX4_make_17 (by decide) (fun h => absurd h (by decide)) (fun _ => ?_)
      exact J_throw hC hlt hex tw_IndexOutOfBoundsException (List.mem_of_getElem? (i := 3) rfl) 0 rfl (by show _ = (1 : Int32); simp [kMake, h5, h14]) dX4_make_20 dX4_make_23 dX4_make_24 dX4_make_26 dX4_make_29 ⟨Nat.le_of_ble_eq_true rfl, Nat.le_of_ble_eq_true rfl, Nat.le_of_ble_eq_true rfl, Nat.le_of_ble_eq_true rfl⟩ ⟨Nat.le_of_ble_eq_true rfl, Nat.le_of_ble_eq_true rfl⟩
  · refine J_tv (ceV_n h5) ?_
    refine J_astore_nN (lv' := [(3, .null), (0, .ref (gA G 88)), (1, .int p0), (2, .int p1)]) hC dX4_make_8 rfl (by decide) rfl ?_
    refine J_aload_nN hC (j := 0) dX4_make_9 rfl rfl ?_
    refine J_ifnullN (tgt := 20) hC dX4_make_10 (by decide) ?_
    exact J_throw hC hlt hex tw_IndexOutOfBoundsException (List.mem_of_getElem? (i := 3) rfl) 0 rfl (by show _ = (1 : Int32); simp [kMake, h5]) dX4_make_20 dX4_make_23 dX4_make_24 dX4_make_26 dX4_make_29 ⟨Nat.le_of_ble_eq_true rfl, Nat.le_of_ble_eq_true rfl, Nat.le_of_ble_eq_true rfl, Nat.le_of_ble_eq_true rfl⟩ ⟨Nat.le_of_ble_eq_true rfl, Nat.le_of_ble_eq_true rfl⟩
set_option maxHeartbeats 4000000 in
set_option maxRecDepth 100000 in
theorem xt_X4_carry (l : Launch) (hlt : l.stackTraces = false) (G : GG) (D E g S A : DD) (o : OO) (p0 p1 p2 : Int32) : XT l yX4_carry cX4_carry 7 (some .int) 6 82 1 6 G [.ref (gA G 88), .int p0, .int p1, .int p2] (mk5 D E g S A) o (kCarry D p0 p1 p2) ["java/lang/IndexOutOfBoundsException", "java/lang/IllegalStateException"] (some (.int (vCarry D p0))) (mk5 (moveW D p0 p1 p2) E g S A) o := by
  refine XT_of (own := RX4) (lv := [(0, .ref (gA G 88)), (1, .int p0), (2, .int p1), (3, .int p2)]) (by decide) rfl (Nat.le_of_ble_eq_true rfl) rfl ?_
  intro p e s m args below meth c hr hex hC
  refine J_aload_n hC (j := 0) dX4_carry_0 rfl rfl ?_
  refine J_get hC (by decide) ent_rt rfl in4 0 (by decide) rfl qw_182 rfl rfl dX4_carry_1 ?_
  refine J_iload_n hC (j := 2) dX4_carry_4 rfl rfl ?_
  refine J_callV hC (ct_rw m5u0 m5u0 (ct_X1_cellarOf l G (mk5 D E g S A) o 0 (by decide) D p1)) mw_X1_cellarOf qw_391 (nl_da (by decide)) (ent_da (by decide)) rfl rfl rfl (Nat.le_of_ble_eq_true rfl) ⟨Nat.le_of_ble_eq_true rfl, Nat.le_of_ble_eq_true rfl⟩ ⟨Nat.le_of_ble_eq_true rfl, Nat.le_of_ble_eq_true rfl⟩ dX4_carry_5 ?_
  by_cases h5 : inC D p1 = true
  · refine J_tv (ceV_p h5) ?_
    refine J_astore (lv' := [(4, .ref (aX G 0 (24 + (ix p1)))), (0, .ref (gA G 88)), (1, .int p0), (2, .int p1), (3, .int p2)]) hC dX4_carry_8 (by decide) rfl ?_
    refine J_aload_n hC (j := 1) dX4_carry_10 rfl rfl ?_
    refine J_get hC (by decide) ent_rt rfl in4 0 (by decide) rfl qw_182 rfl rfl dX4_carry_11 ?_
    refine J_iload_n hC (j := 2) dX4_carry_14 rfl rfl ?_
    refine J_callV hC (ct_rw m5u0 m5u0 (ct_X1_wheelOf l G (mk5 D E g S A) o 0 (by decide) D p0)) mw_X1_wheelOf qw_254 (nl_da (by decide)) (ent_da (by decide)) rfl rfl rfl (Nat.le_of_ble_eq_true rfl) ⟨Nat.le_of_ble_eq_true rfl, Nat.le_of_ble_eq_true rfl⟩ ⟨Nat.le_of_ble_eq_true rfl, Nat.le_of_ble_eq_true rfl⟩ dX4_carry_15 ?_
    by_cases h15 : inW D p0 = true
    · refine J_tv (whV_p h15) ?_
      refine J_ifnull hC dX4_carry_18 ?_
      refine J_aload hC (j := 0) dX4_carry_21 rfl ?_
      refine J_ifnull hC dX4_carry_23 ?_
      refine J_iload_n hC (j := 4) dX4_carry_26 rfl rfl ?_
      refine J_callS hC (ct_X4_isPlace l G (mk5 D E g S A) o p2) ms_X4_isPlace qw_415 rfl rfl (Nat.le_of_ble_eq_true rfl) ⟨Nat.le_of_ble_eq_true rfl, Nat.le_of_ble_eq_true rfl⟩ ⟨Nat.le_of_ble_eq_true rfl, Nat.le_of_ble_eq_true rfl⟩ dX4_carry_27 ?_
      by_cases h27 : isPl p2 = true
      · refine J_tv (congrArg Value.int (bI_pos h27)) ?_
        refine J_if_ne (tgt := 43) hC dX4_carry_30 (by decide) (fun _ => ?_) (fun h => absurd h (by decide))
        refine J_aload_n hC (j := 1) dX4_carry_43 rfl rfl ?_
        refine J_get hC (by decide) ent_rt rfl in4 0 (by decide) rfl qw_182 rfl rfl dX4_carry_44 ?_
        refine J_iload_n hC (j := 2) dX4_carry_47 rfl rfl ?_
        refine J_callV hC (ct_rw m5u0 m5u0 (ct_X1_lyingWheel l G (mk5 D E g S A) o 0 (by decide) D p0)) mw_X1_lyingWheel qw_444 (nl_da (by decide)) (ent_da (by decide)) rfl rfl rfl (Nat.le_of_ble_eq_true rfl) ⟨Nat.le_of_ble_eq_true rfl, Nat.le_of_ble_eq_true rfl⟩ ⟨Nat.le_of_ble_eq_true rfl, Nat.le_of_ble_eq_true rfl⟩ dX4_carry_48 ?_
        by_cases h48 : lies D p0 = true
        · refine J_tv (lyV_p h48) ?_
          refine J_astore (lv' := [(5, .ref (aX G 0 (ix p0))), (4, .ref (aX G 0 (24 + (ix p1)))), (0, .ref (gA G 88)), (1, .int p0), (2, .int p1), (3, .int p2)]) hC dX4_carry_51 (by decide) rfl ?_
          refine J_aload hC (j := 0) dX4_carry_53 rfl ?_
          refine J_ifnull hC dX4_carry_55 ?_
          refine J_aload hC (j := 1) dX4_carry_58 rfl ?_
          refine J_iload_n hC (j := 5) dX4_carry_60 rfl rfl ?_
          refine J_callV hC (ct_rw m5u0 m5u0 (ct_X0_wheelAt l G (mk5 D E g S A) o 0 (by decide) D (ix p1) (inC_lt h5) p2)) mw_X0_wheelAt qw_419 (nl_ce (by decide) (inC_lt h5)) (ent_ce (by decide) (inC_lt h5)) rfl rfl rfl (Nat.le_of_ble_eq_true rfl) ⟨Nat.le_of_ble_eq_true rfl, Nat.le_of_ble_eq_true rfl⟩ ⟨Nat.le_of_ble_eq_true rfl, Nat.le_of_ble_eq_true rfl⟩ dX4_carry_61 ?_
          refine J_iconst (v := (-1)) hC dX4_carry_64 (by decide) ?_
          refine J_icmp_eq (tgt := 78) hC dX4_carry_65 (by decide) (fun c65 => ?_) (fun c65 => ?_)
          · refine J_bipush (v := 10) hC dX4_carry_78 (by decide) ?_
            refine J_aload hC (j := 0) dX4_carry_80 rfl ?_
            refine J_get hC (nl_wh (by decide) (inW_lt (lies_w h48))) (ent_wh (by decide) (inW_lt (lies_w h48))) rfl in3 1 (by decide) rfl qw_91 rfl (r5 (x := (D (ix p0) 1)) rfl) dX4_carry_82 ?_
            refine J_imul hC dX4_carry_85 ?_
            refine J_aload hC (j := 0) dX4_carry_86 rfl ?_
            refine J_get hC (nl_wh (by decide) (inW_lt (lies_w h48))) (ent_wh (by decide) (inW_lt (lies_w h48))) rfl in3 2 (by decide) rfl qw_94 rfl (r5 (x := (D (ix p0) 2)) rfl) dX4_carry_88 ?_
            refine J_iadd hC dX4_carry_91 ?_
            refine J_istore (lv' := [(6, .int ((10 * (D (ix p0) 1)) + (D (ix p0) 2))), (5, .ref (aX G 0 (ix p0))), (4, .ref (aX G 0 (24 + (ix p1)))), (0, .ref (gA G 88)), (1, .int p0), (2, .int p1), (3, .int p2)]) hC dX4_carry_92 (by decide) rfl ?_
            refine J_aload_n hC (j := 3) dX4_carry_94 rfl rfl ?_
            refine J_get hC (by decide) ent_rt rfl in4 0 (by decide) rfl qw_182 rfl rfl dX4_carry_95 ?_
            refine J_iload_n hC (j := 4) dX4_carry_98 rfl rfl ?_
            refine J_iload_n hC (j := 5) dX4_carry_99 rfl rfl ?_
            refine J_iload_n hC (j := 6) dX4_carry_100 rfl rfl ?_
            refine J_callVv hC (ct_rw m5u0 m5u0 (ct_X1_moveWheel l G (mk5 D E g S A) o 0 (by decide) D p0 p1 p2)) mw_X1_moveWheel qw_446 (nl_da (by decide)) (ent_da (by decide)) rfl rfl rfl (Nat.le_of_ble_eq_true rfl) ⟨Nat.le_of_ble_eq_true rfl, Nat.le_of_ble_eq_true rfl⟩ ⟨Nat.le_of_ble_eq_true rfl, Nat.le_of_ble_eq_true rfl⟩ dX4_carry_101 ?_
            refine J_iload hC (j := 0) dX4_carry_104 rfl ?_
            refine J_widen (k := 1) (n := 6) (by decide) (by decide) ?_
            refine JX_end hC (by simp [kCarry, h5, h15, h27, h48, c65]) ?_
            exact J_iret hC hr (by simp [vCarry, h5, h15, h27, h48, c65]) rfl rfl dX4_carry_106
          · exact J_throw hC hlt hex tw_IllegalStateException (List.mem_of_getElem? (i := 6) rfl) 1 rfl (by show _ = (2 : Int32); simp [kCarry, h5, h15, h27, h48, c65]) dX4_carry_68 dX4_carry_71 dX4_carry_72 dX4_carry_74 dX4_carry_77 ⟨Nat.le_of_ble_eq_true rfl, Nat.le_of_ble_eq_true rfl, Nat.le_of_ble_eq_true rfl, Nat.le_of_ble_eq_true rfl⟩ ⟨Nat.le_of_ble_eq_true rfl, Nat.le_of_ble_eq_true rfl⟩
        · refine J_tv (lyV_n h48) ?_
          refine J_astoreN (lv' := [(5, .null), (4, .ref (aX G 0 (24 + (ix p1)))), (0, .ref (gA G 88)), (1, .int p0), (2, .int p1), (3, .int p2)]) hC dX4_carry_51 (by decide) rfl ?_
          refine J_aloadN hC (j := 0) dX4_carry_53 rfl ?_
          refine J_ifnullN (tgt := 68) hC dX4_carry_55 (by decide) ?_
          exact J_throw hC hlt hex tw_IllegalStateException (List.mem_of_getElem? (i := 6) rfl) 1 rfl (by show _ = (2 : Int32); simp [kCarry, h5, h15, h27, h48]) dX4_carry_68 dX4_carry_71 dX4_carry_72 dX4_carry_74 dX4_carry_77 ⟨Nat.le_of_ble_eq_true rfl, Nat.le_of_ble_eq_true rfl, Nat.le_of_ble_eq_true rfl, Nat.le_of_ble_eq_true rfl⟩ ⟨Nat.le_of_ble_eq_true rfl, Nat.le_of_ble_eq_true rfl⟩
      · refine J_tv (congrArg Value.int (bI_neg h27)) ?_
        refine J_if_ne (tgt := 43) hC dX4_carry_30 (by decide) (fun h => absurd h (by decide)) (fun _ => ?_)
        exact J_throw hC hlt hex tw_IndexOutOfBoundsException (List.mem_of_getElem? (i := 5) rfl) 0 rfl (by show _ = (1 : Int32); simp [kCarry, h5, h15, h27]) dX4_carry_33 dX4_carry_36 dX4_carry_37 dX4_carry_39 dX4_carry_42 ⟨Nat.le_of_ble_eq_true rfl, Nat.le_of_ble_eq_true rfl, Nat.le_of_ble_eq_true rfl, Nat.le_of_ble_eq_true rfl⟩ ⟨Nat.le_of_ble_eq_true rfl, Nat.le_of_ble_eq_true rfl⟩
    · refine J_tv (whV_n h15) ?_
      refine J_ifnullN (tgt := 33) hC dX4_carry_18 (by decide) ?_
      exact J_throw hC hlt hex tw_IndexOutOfBoundsException (List.mem_of_getElem? (i := 5) rfl) 0 rfl (by show _ = (1 : Int32); simp [kCarry, h5, h15]) dX4_carry_33 dX4_carry_36 dX4_carry_37 dX4_carry_39 dX4_carry_42 ⟨Nat.le_of_ble_eq_true rfl, Nat.le_of_ble_eq_true rfl, Nat.le_of_ble_eq_true rfl, Nat.le_of_ble_eq_true rfl⟩ ⟨Nat.le_of_ble_eq_true rfl, Nat.le_of_ble_eq_true rfl⟩
  · refine J_tv (ceV_n h5) ?_
    refine J_astoreN (lv' := [(4, .null), (0, .ref (gA G 88)), (1, .int p0), (2, .int p1), (3, .int p2)]) hC dX4_carry_8 (by decide) rfl ?_
    refine J_aload_n hC (j := 1) dX4_carry_10 rfl rfl ?_
    refine J_get hC (by decide) ent_rt rfl in4 0 (by decide) rfl qw_182 rfl rfl dX4_carry_11 ?_
    refine J_iload_n hC (j := 2) dX4_carry_14 rfl rfl ?_
    refine J_callV hC (ct_rw m5u0 m5u0 (ct_X1_wheelOf l G (mk5 D E g S A) o 0 (by decide) D p0)) mw_X1_wheelOf qw_254 (nl_da (by decide)) (ent_da (by decide)) rfl rfl rfl (Nat.le_of_ble_eq_true rfl) ⟨Nat.le_of_ble_eq_true rfl, Nat.le_of_ble_eq_true rfl⟩ ⟨Nat.le_of_ble_eq_true rfl, Nat.le_of_ble_eq_true rfl⟩ dX4_carry_15 ?_
    by_cases h15 : inW D p0 = true
    · refine J_tv (whV_p h15) ?_
      refine J_ifnull hC dX4_carry_18 ?_
      refine J_aloadN hC (j := 0) dX4_carry_21 rfl ?_
      refine J_ifnullN (tgt := 33) hC dX4_carry_23 (by decide) ?_
      exact J_throw hC hlt hex tw_IndexOutOfBoundsException (List.mem_of_getElem? (i := 5) rfl) 0 rfl (by show _ = (1 : Int32); simp [kCarry, h5, h15]) dX4_carry_33 dX4_carry_36 dX4_carry_37 dX4_carry_39 dX4_carry_42 ⟨Nat.le_of_ble_eq_true rfl, Nat.le_of_ble_eq_true rfl, Nat.le_of_ble_eq_true rfl, Nat.le_of_ble_eq_true rfl⟩ ⟨Nat.le_of_ble_eq_true rfl, Nat.le_of_ble_eq_true rfl⟩
    · refine J_tv (whV_n h15) ?_
      refine J_ifnullN (tgt := 33) hC dX4_carry_18 (by decide) ?_
      exact J_throw hC hlt hex tw_IndexOutOfBoundsException (List.mem_of_getElem? (i := 5) rfl) 0 rfl (by show _ = (1 : Int32); simp [kCarry, h5, h15]) dX4_carry_33 dX4_carry_36 dX4_carry_37 dX4_carry_39 dX4_carry_42 ⟨Nat.le_of_ble_eq_true rfl, Nat.le_of_ble_eq_true rfl, Nat.le_of_ble_eq_true rfl, Nat.le_of_ble_eq_true rfl⟩ ⟨Nat.le_of_ble_eq_true rfl, Nat.le_of_ble_eq_true rfl⟩
set_option maxHeartbeats 4000000 in
set_option maxRecDepth 100000 in
theorem xt_X4_infect (l : Launch) (hlt : l.stackTraces = false) (G : GG) (D E g S A : DD) (o : OO) (p0 p1 : Int32) : XT l yX4_infect cX4_infect 5 (some .int) 6 82 1 6 G [.ref (gA G 88), .int p0, .int p1] (mk5 D E g S A) o (kInfect D p0 p1) ["java/lang/IndexOutOfBoundsException", "java/lang/IllegalArgumentException", "java/lang/IllegalStateException"] (some (.int (D (ix p0) 7))) (mk5 (dInfect D p0 p1) E g S A) o := by
  refine XT_of (own := RX4) (lv := [(0, .ref (gA G 88)), (1, .int p0), (2, .int p1)]) (by decide) rfl (Nat.le_of_ble_eq_true rfl) rfl ?_
  intro p e s m args below meth c hr hex hC
  refine J_aload_n hC (j := 0) dX4_infect_0 rfl rfl ?_
  refine J_get hC (by decide) ent_rt rfl in4 0 (by decide) rfl qw_182 rfl rfl dX4_infect_1 ?_
  refine J_iload_n hC (j := 1) dX4_infect_4 rfl rfl ?_
  refine J_callV hC (ct_rw m5u0 m5u0 (ct_X1_wheelOf l G (mk5 D E g S A) o 0 (by decide) D p0)) mw_X1_wheelOf qw_254 (nl_da (by decide)) (ent_da (by decide)) rfl rfl rfl (Nat.le_of_ble_eq_true rfl) ⟨Nat.le_of_ble_eq_true rfl, Nat.le_of_ble_eq_true rfl⟩ ⟨Nat.le_of_ble_eq_true rfl, Nat.le_of_ble_eq_true rfl⟩ dX4_infect_5 ?_
  by_cases h5 : inW D p0 = true
  · refine J_tv (whV_p h5) ?_
    refine J_ifnonnull (tgt := 21) hC dX4_infect_8 (by decide) ?_
    refine J_iload_n hC (j := 2) dX4_infect_21 rfl rfl ?_
    refine J_iconst (v := 0) hC dX4_infect_22 (by decide) ?_
    refine J_iconst (v := 3) hC dX4_infect_23 (by decide) ?_
    refine J_callS hC (ct_X4_isWithin l G (mk5 D E g S A) o p1 0 3) ms_X4_isWithin qw_292 rfl rfl (Nat.le_of_ble_eq_true rfl) ⟨Nat.le_of_ble_eq_true rfl, Nat.le_of_ble_eq_true rfl⟩ ⟨Nat.le_of_ble_eq_true rfl, Nat.le_of_ble_eq_true rfl⟩ dX4_infect_24 ?_
    by_cases h24 : wthn p1 0 3 = true
    · refine J_tv (congrArg Value.int (bI_pos h24)) ?_
      refine J_if_ne (tgt := 40) hC dX4_infect_27 (by decide) (fun _ => ?_) (fun h => absurd h (by decide))
      refine J_aload_n hC (j := 0) dX4_infect_40 rfl rfl ?_
      refine J_get hC (by decide) ent_rt rfl in4 0 (by decide) rfl qw_182 rfl rfl dX4_infect_41 ?_
      refine J_iload_n hC (j := 1) dX4_infect_44 rfl rfl ?_
      refine J_callV hC (ct_rw m5u0 m5u0 (ct_X1_lyingWheel l G (mk5 D E g S A) o 0 (by decide) D p0)) mw_X1_lyingWheel qw_444 (nl_da (by decide)) (ent_da (by decide)) rfl rfl rfl (Nat.le_of_ble_eq_true rfl) ⟨Nat.le_of_ble_eq_true rfl, Nat.le_of_ble_eq_true rfl⟩ ⟨Nat.le_of_ble_eq_true rfl, Nat.le_of_ble_eq_true rfl⟩ dX4_infect_45 ?_
      by_cases h45 : lies D p0 = true
      · refine J_tv (lyV_p h45) ?_
        refine J_astore_n (lv' := [(3, .ref (aX G 0 (ix p0))), (0, .ref (gA G 88)), (1, .int p0), (2, .int p1)]) hC dX4_infect_48 rfl (by decide) rfl ?_
        refine J_aload_n hC (j := 0) dX4_infect_49 rfl rfl ?_
        refine J_ifnonnull (tgt := 63) hC dX4_infect_50 (by decide) ?_
        refine J_aload_n hC (j := 0) dX4_infect_63 rfl rfl ?_
        refine J_get hC (nl_wh (by decide) (inW_lt (lies_w h45))) (ent_wh (by decide) (inW_lt (lies_w h45))) rfl in3 7 (by decide) rfl qw_101 rfl (r5 (x := (D (ix p0) 7)) rfl) dX4_infect_64 ?_
        refine J_istore (lv' := [(4, .int (D (ix p0) 7)), (3, .ref (aX G 0 (ix p0))), (0, .ref (gA G 88)), (1, .int p0), (2, .int p1)]) hC dX4_infect_67 (by decide) rfl ?_
        refine J_aload_n hC (j := 1) dX4_infect_69 rfl rfl ?_
        refine J_iload_n hC (j := 4) dX4_infect_70 rfl rfl ?_
        refine J_iconst (v := (-1)) hC dX4_infect_71 (by decide) ?_
        refine J_callVv hC (ct_rw m5u0 m5u0 (ct_X3_takeMould l G (mk5 D E g S A) o 0 (by decide) D (ix p0) (inW_lt (lies_w h45)) p1 (-1))) mw_X3_takeMould qw_464 (nl_wh (by decide) (inW_lt (lies_w h45))) (ent_wh (by decide) (inW_lt (lies_w h45))) rfl rfl rfl (Nat.le_of_ble_eq_true rfl) ⟨Nat.le_of_ble_eq_true rfl, Nat.le_of_ble_eq_true rfl⟩ ⟨Nat.le_of_ble_eq_true rfl, Nat.le_of_ble_eq_true rfl⟩ dX4_infect_72 ?_
        refine J_iload hC (j := 0) dX4_infect_75 rfl ?_
        refine J_widen (k := 1) (n := 6) (by decide) (by decide) ?_
        refine JX_end hC (by simp [kInfect, h5, h24, h45]) ?_
        exact J_iret hC hr rfl (by simp [dInfect, h5, h24, h45]) rfl dX4_infect_77
      · refine J_tv (lyV_n h45) ?_
        refine J_astore_nN (lv' := [(3, .null), (0, .ref (gA G 88)), (1, .int p0), (2, .int p1)]) hC dX4_infect_48 rfl (by decide) rfl ?_
        refine J_aload_nN hC (j := 0) dX4_infect_49 rfl rfl ?_
        refine J_ifnonnullN hC dX4_infect_50 ?_
        exact J_throw hC hlt hex tw_IllegalStateException (List.mem_of_getElem? (i := 9) rfl) 2 rfl (by show _ = (3 : Int32); simp [kInfect, h5, h24, h45]) dX4_infect_53 dX4_infect_56 dX4_infect_57 dX4_infect_59 dX4_infect_62 ⟨Nat.le_of_ble_eq_true rfl, Nat.le_of_ble_eq_true rfl, Nat.le_of_ble_eq_true rfl, Nat.le_of_ble_eq_true rfl⟩ ⟨Nat.le_of_ble_eq_true rfl, Nat.le_of_ble_eq_true rfl⟩
    · refine J_tv (congrArg Value.int (bI_neg h24)) ?_
      refine J_if_ne (tgt := 40) hC dX4_infect_27 (by decide) (fun h => absurd h (by decide)) (fun _ => ?_)
      exact J_throw hC hlt hex tw_IllegalArgumentException (List.mem_of_getElem? (i := 8) rfl) 1 rfl (by show _ = (2 : Int32); simp [kInfect, h5, h24]) dX4_infect_30 dX4_infect_33 dX4_infect_34 dX4_infect_36 dX4_infect_39 ⟨Nat.le_of_ble_eq_true rfl, Nat.le_of_ble_eq_true rfl, Nat.le_of_ble_eq_true rfl, Nat.le_of_ble_eq_true rfl⟩ ⟨Nat.le_of_ble_eq_true rfl, Nat.le_of_ble_eq_true rfl⟩
  · refine J_tv (whV_n h5) ?_
    refine J_ifnonnullN hC dX4_infect_8 ?_
    exact J_throw hC hlt hex tw_IndexOutOfBoundsException (List.mem_of_getElem? (i := 7) rfl) 0 rfl (by show _ = (1 : Int32); simp [kInfect, h5]) dX4_infect_11 dX4_infect_14 dX4_infect_15 dX4_infect_17 dX4_infect_20 ⟨Nat.le_of_ble_eq_true rfl, Nat.le_of_ble_eq_true rfl, Nat.le_of_ble_eq_true rfl, Nat.le_of_ble_eq_true rfl⟩ ⟨Nat.le_of_ble_eq_true rfl, Nat.le_of_ble_eq_true rfl⟩
set_option maxHeartbeats 4000000 in
set_option maxRecDepth 100000 in
theorem xt_X4_sell (l : Launch) (hlt : l.stackTraces = false) (G : GG) (D E g S A : DD) (o : OO) (p0 : Int32) : XT l yX4_sell cX4_sell 4 (some .int) 6 82 1 6 G [.ref (gA G 88), .int p0] (mk5 D E g S A) o (kSell D p0) ["java/lang/IndexOutOfBoundsException", "java/lang/IllegalStateException"] (some (.int (worth (D (ix p0))))) (mk5 (dSell D p0) E g S A) o := by
  refine XT_of (own := RX4) (lv := [(0, .ref (gA G 88)), (1, .int p0)]) (by decide) rfl (Nat.le_of_ble_eq_true rfl) rfl ?_
  intro p e s m args below meth c hr hex hC
  refine J_aload_n hC (j := 0) dX4_sell_0 rfl rfl ?_
  refine J_get hC (by decide) ent_rt rfl in4 0 (by decide) rfl qw_182 rfl rfl dX4_sell_1 ?_
  refine J_iload_n hC (j := 1) dX4_sell_4 rfl rfl ?_
  refine J_callV hC (ct_rw m5u0 m5u0 (ct_X1_wheelOf l G (mk5 D E g S A) o 0 (by decide) D p0)) mw_X1_wheelOf qw_254 (nl_da (by decide)) (ent_da (by decide)) rfl rfl rfl (Nat.le_of_ble_eq_true rfl) ⟨Nat.le_of_ble_eq_true rfl, Nat.le_of_ble_eq_true rfl⟩ ⟨Nat.le_of_ble_eq_true rfl, Nat.le_of_ble_eq_true rfl⟩ dX4_sell_5 ?_
  by_cases h5 : inW D p0 = true
  · refine J_tv (whV_p h5) ?_
    refine J_ifnonnull (tgt := 21) hC dX4_sell_8 (by decide) ?_
    refine J_aload_n hC (j := 0) dX4_sell_21 rfl rfl ?_
    refine J_get hC (by decide) ent_rt rfl in4 0 (by decide) rfl qw_182 rfl rfl dX4_sell_22 ?_
    refine J_iload_n hC (j := 1) dX4_sell_25 rfl rfl ?_
    refine J_callV hC (ct_rw m5u0 m5u0 (ct_X1_lyingWheel l G (mk5 D E g S A) o 0 (by decide) D p0)) mw_X1_lyingWheel qw_444 (nl_da (by decide)) (ent_da (by decide)) rfl rfl rfl (Nat.le_of_ble_eq_true rfl) ⟨Nat.le_of_ble_eq_true rfl, Nat.le_of_ble_eq_true rfl⟩ ⟨Nat.le_of_ble_eq_true rfl, Nat.le_of_ble_eq_true rfl⟩ dX4_sell_26 ?_
    by_cases h26 : lies D p0 = true
    · refine J_tv (lyV_p h26) ?_
      refine J_astore_n (lv' := [(2, .ref (aX G 0 (ix p0))), (0, .ref (gA G 88)), (1, .int p0)]) hC dX4_sell_29 rfl (by decide) rfl ?_
      refine J_aload_n hC (j := 0) dX4_sell_30 rfl rfl ?_
      refine J_ifnonnull (tgt := 44) hC dX4_sell_31 (by decide) ?_
      refine J_aload_n hC (j := 0) dX4_sell_44 rfl rfl ?_
      refine J_callV hC (ct_rw m5u0 m5u0 (ct_X3_worth l G (mk5 D E g S A) o 0 (by decide) D (ix p0) (inW_lt (lies_w h26)))) mw_X3_worth qw_475 (nl_wh (by decide) (inW_lt (lies_w h26))) (ent_wh (by decide) (inW_lt (lies_w h26))) rfl rfl rfl (Nat.le_of_ble_eq_true rfl) ⟨Nat.le_of_ble_eq_true rfl, Nat.le_of_ble_eq_true rfl⟩ ⟨Nat.le_of_ble_eq_true rfl, Nat.le_of_ble_eq_true rfl⟩ dX4_sell_45 ?_
      refine J_istore_n (lv' := [(3, .int (worth (D (ix p0)))), (2, .ref (aX G 0 (ix p0))), (0, .ref (gA G 88)), (1, .int p0)]) hC dX4_sell_48 rfl (by decide) rfl ?_
      refine J_aload_n hC (j := 2) dX4_sell_49 rfl rfl ?_
      refine J_get hC (by decide) ent_rt rfl in4 0 (by decide) rfl qw_182 rfl rfl dX4_sell_50 ?_
      refine J_dup hC dX4_sell_53 rfl ?_
      refine J_get hC (nl_da (by decide)) (ent_da (by decide)) rfl in1 1 (by decide) rfl qw_155 rfl (r5 (x := (D 40 1)) rfl) dX4_sell_54 ?_
      refine J_iload_n hC (j := 0) dX4_sell_57 rfl rfl ?_
      refine J_iadd hC dX4_sell_58 ?_
      refine J_X (X' := (va_up (mk5 D E g S A) 0 D)) m5u0.symm ?_
      refine J_put (X' := (va_up (mk5 D E g S A) 0 (va_up D 40 (va_up (D 40) 1 ((D 40 1) + (worth (D (ix p0)))))))) hC (nl_da (by decide)) (ent_da (by decide)) rfl in1 tyX1_ok nmX1 1 (by decide) rfl qw_155 rfl (by decide) (Nat.le_of_ble_eq_true rfl) (pu_daF (by decide) (by decide)) dX4_sell_59 ?_
      refine J_X (X' := (mk5 (va_up D 40 (va_up (D 40) 1 ((D 40 1) + (worth (D (ix p0)))))) E g S A)) m5u0 ?_
      refine J_aload_n hC (j := 2) dX4_sell_62 rfl rfl ?_
      refine J_get hC (by decide) ent_rt rfl in4 0 (by decide) rfl qw_182 rfl rfl dX4_sell_63 ?_
      refine J_iload_n hC (j := 3) dX4_sell_66 rfl rfl ?_
      refine J_iconst (v := 1) hC dX4_sell_67 (by decide) ?_
      refine J_callVv hC (ct_rw m5u0 m5u0 (ct_X1_takeAway l G (mk5 (va_up D 40 (va_up (D 40) 1 ((D 40 1) + (worth (D (ix p0)))))) E g S A) o 0 (by decide) (va_up D 40 (va_up (D 40) 1 ((D 40 1) + (worth (D (ix p0)))))) p0 1)) mw_X1_takeAway qw_476 (nl_da (by decide)) (ent_da (by decide)) rfl rfl rfl (Nat.le_of_ble_eq_true rfl) ⟨Nat.le_of_ble_eq_true rfl, Nat.le_of_ble_eq_true rfl⟩ ⟨Nat.le_of_ble_eq_true rfl, Nat.le_of_ble_eq_true rfl⟩ dX4_sell_68 ?_
      refine J_iload_n hC (j := 0) dX4_sell_71 rfl rfl ?_
      refine J_widen (k := 1) (n := 6) (by decide) (by decide) ?_
      refine JX_end hC (by simp [kSell, h5, h26]) ?_
      exact J_iret hC hr rfl (by simp [dSell, h5, h26]) rfl dX4_sell_72
    · refine J_tv (lyV_n h26) ?_
      refine J_astore_nN (lv' := [(2, .null), (0, .ref (gA G 88)), (1, .int p0)]) hC dX4_sell_29 rfl (by decide) rfl ?_
      refine J_aload_nN hC (j := 0) dX4_sell_30 rfl rfl ?_
      refine J_ifnonnullN hC dX4_sell_31 ?_
      exact J_throw hC hlt hex tw_IllegalStateException (List.mem_of_getElem? (i := 9) rfl) 1 rfl (by show _ = (2 : Int32); simp [kSell, h5, h26]) dX4_sell_34 dX4_sell_37 dX4_sell_38 dX4_sell_40 dX4_sell_43 ⟨Nat.le_of_ble_eq_true rfl, Nat.le_of_ble_eq_true rfl, Nat.le_of_ble_eq_true rfl, Nat.le_of_ble_eq_true rfl⟩ ⟨Nat.le_of_ble_eq_true rfl, Nat.le_of_ble_eq_true rfl⟩
  · refine J_tv (whV_n h5) ?_
    refine J_ifnonnullN hC dX4_sell_8 ?_
    exact J_throw hC hlt hex tw_IndexOutOfBoundsException (List.mem_of_getElem? (i := 7) rfl) 0 rfl (by show _ = (1 : Int32); simp [kSell, h5]) dX4_sell_11 dX4_sell_14 dX4_sell_15 dX4_sell_17 dX4_sell_20 ⟨Nat.le_of_ble_eq_true rfl, Nat.le_of_ble_eq_true rfl, Nat.le_of_ble_eq_true rfl, Nat.le_of_ble_eq_true rfl⟩ ⟨Nat.le_of_ble_eq_true rfl, Nat.le_of_ble_eq_true rfl⟩
set_option maxHeartbeats 4000000 in
set_option maxRecDepth 100000 in
theorem xt_X4_hire (l : Launch) (hlt : l.stackTraces = false) (G : GG) (D E g S A : DD) (o : OO) (p0 p1 : Int32) : XT l yX4_hire cX4_hire 3 (some .int) 6 82 1 6 G [.ref (gA G 88), .int p0, .int p1] (mk5 D E g S A) o (kHire D p0 p1) ["java/lang/IndexOutOfBoundsException", "java/lang/IllegalArgumentException", "java/lang/IllegalStateException"] (some (.int (D 40 4))) (mk5 (addM D p0 p1) E g S A) o := by
  refine XT_of (own := RX4) (lv := [(0, .ref (gA G 88)), (1, .int p0), (2, .int p1)]) (by decide) rfl (Nat.le_of_ble_eq_true rfl) rfl ?_
  intro p e s m args below meth c hr hex hC
  refine J_aload_n hC (j := 0) dX4_hire_0 rfl rfl ?_
  refine J_get hC (by decide) ent_rt rfl in4 0 (by decide) rfl qw_182 rfl rfl dX4_hire_1 ?_
  refine J_iload_n hC (j := 1) dX4_hire_4 rfl rfl ?_
  refine J_callV hC (ct_rw m5u0 m5u0 (ct_X1_cellarOf l G (mk5 D E g S A) o 0 (by decide) D p0)) mw_X1_cellarOf qw_391 (nl_da (by decide)) (ent_da (by decide)) rfl rfl rfl (Nat.le_of_ble_eq_true rfl) ⟨Nat.le_of_ble_eq_true rfl, Nat.le_of_ble_eq_true rfl⟩ ⟨Nat.le_of_ble_eq_true rfl, Nat.le_of_ble_eq_true rfl⟩ dX4_hire_5 ?_
  by_cases h5 : inC D p0 = true
  · refine J_tv (ceV_p h5) ?_
    refine J_ifnonnull (tgt := 21) hC dX4_hire_8 (by decide) ?_
    refine J_iload_n hC (j := 2) dX4_hire_21 rfl rfl ?_
    refine J_iconst (v := 1) hC dX4_hire_22 (by decide) ?_
    refine J_bipush (v := 10) hC dX4_hire_23 (by decide) ?_
    refine J_callS hC (ct_X4_isWithin l G (mk5 D E g S A) o p1 1 10) ms_X4_isWithin qw_292 rfl rfl (Nat.le_of_ble_eq_true rfl) ⟨Nat.le_of_ble_eq_true rfl, Nat.le_of_ble_eq_true rfl⟩ ⟨Nat.le_of_ble_eq_true rfl, Nat.le_of_ble_eq_true rfl⟩ dX4_hire_25 ?_
    by_cases h25 : wthn p1 1 10 = true
    · refine J_tv (congrArg Value.int (bI_pos h25)) ?_
      refine J_if_ne (tgt := 41) hC dX4_hire_28 (by decide) (fun _ => ?_) (fun h => absurd h (by decide))
      refine J_aload_n hC (j := 0) dX4_hire_41 rfl rfl ?_
      refine J_get hC (by decide) ent_rt rfl in4 0 (by decide) rfl qw_182 rfl rfl dX4_hire_42 ?_
      refine J_get hC (nl_da (by decide)) (ent_da (by decide)) rfl in1 4 (by decide) rfl qw_161 rfl (r5 (x := (D 40 4)) rfl) dX4_hire_45 ?_
      refine J_iconst (v := 4) hC dX4_hire_48 (by decide) ?_
      refine J_icmp_lt (tgt := 62) hC dX4_hire_49 (by decide) (fun c49 => ?_) (fun c49 => ?_)
      · refine J_aload_n hC (j := 0) dX4_hire_62 rfl rfl ?_
        refine J_get hC (by decide) ent_rt rfl in4 0 (by decide) rfl qw_182 rfl rfl dX4_hire_63 ?_
        refine J_iload_n hC (j := 1) dX4_hire_66 rfl rfl ?_
        refine J_iload_n hC (j := 2) dX4_hire_67 rfl rfl ?_
        refine J_callV hC (ct_rw m5u0 m5u0 (ct_X1_addMonk l G (mk5 D E g S A) o 0 (by decide) D p0 p1)) mw_X1_addMonk qw_489 (nl_da (by decide)) (ent_da (by decide)) rfl rfl rfl (Nat.le_of_ble_eq_true rfl) ⟨Nat.le_of_ble_eq_true rfl, Nat.le_of_ble_eq_true rfl⟩ ⟨Nat.le_of_ble_eq_true rfl, Nat.le_of_ble_eq_true rfl⟩ dX4_hire_68 ?_
        refine J_widen (k := 1) (n := 6) (by decide) (by decide) ?_
        refine JX_end hC (by simp [kHire, h5, h25, c49]) ?_
        exact J_iret hC hr rfl rfl rfl dX4_hire_71
      · exact J_throw hC hlt hex tw_IllegalStateException (List.mem_of_getElem? (i := 11) rfl) 2 rfl (by show _ = (3 : Int32); simp [kHire, h5, h25, c49]) dX4_hire_52 dX4_hire_55 dX4_hire_56 dX4_hire_58 dX4_hire_61 ⟨Nat.le_of_ble_eq_true rfl, Nat.le_of_ble_eq_true rfl, Nat.le_of_ble_eq_true rfl, Nat.le_of_ble_eq_true rfl⟩ ⟨Nat.le_of_ble_eq_true rfl, Nat.le_of_ble_eq_true rfl⟩
    · refine J_tv (congrArg Value.int (bI_neg h25)) ?_
      refine J_if_ne (tgt := 41) hC dX4_hire_28 (by decide) (fun h => absurd h (by decide)) (fun _ => ?_)
      exact J_throw hC hlt hex tw_IllegalArgumentException (List.mem_of_getElem? (i := 10) rfl) 1 rfl (by show _ = (2 : Int32); simp [kHire, h5, h25]) dX4_hire_31 dX4_hire_34 dX4_hire_35 dX4_hire_37 dX4_hire_40 ⟨Nat.le_of_ble_eq_true rfl, Nat.le_of_ble_eq_true rfl, Nat.le_of_ble_eq_true rfl, Nat.le_of_ble_eq_true rfl⟩ ⟨Nat.le_of_ble_eq_true rfl, Nat.le_of_ble_eq_true rfl⟩
  · refine J_tv (ceV_n h5) ?_
    refine J_ifnonnullN hC dX4_hire_8 ?_
    exact J_throw hC hlt hex tw_IndexOutOfBoundsException (List.mem_of_getElem? (i := 2) rfl) 0 rfl (by show _ = (1 : Int32); simp [kHire, h5]) dX4_hire_11 dX4_hire_14 dX4_hire_15 dX4_hire_17 dX4_hire_20 ⟨Nat.le_of_ble_eq_true rfl, Nat.le_of_ble_eq_true rfl, Nat.le_of_ble_eq_true rfl, Nat.le_of_ble_eq_true rfl⟩ ⟨Nat.le_of_ble_eq_true rfl, Nat.le_of_ble_eq_true rfl⟩
set_option maxHeartbeats 4000000 in
set_option maxRecDepth 100000 in
theorem xt_X4_setRota (l : Launch) (hlt : l.stackTraces = false) (G : GG) (D E g S A : DD) (o : OO) (p0 p1 p2 : Int32) : XT l yX4_setRota cX4_setRota 6 (some .int) 6 82 1 6 G [.ref (gA G 88), .int p0, .int p1, .int p2] (mk5 D E g S A) o (kRota D p0 p1 p2) ["java/lang/IndexOutOfBoundsException", "java/lang/IllegalArgumentException"] (some (.int (wOn (D (36 + (ix p0))) p1))) (mk5 (dRota D p0 p1 p2) E g S A) o := by
  refine XT_of (own := RX4) (lv := [(0, .ref (gA G 88)), (1, .int p0), (2, .int p1), (3, .int p2)]) (by decide) rfl (Nat.le_of_ble_eq_true rfl) rfl ?_
  intro p e s m args below meth c hr hex hC
  refine J_aload_n hC (j := 0) dX4_setRota_0 rfl rfl ?_
  refine J_get hC (by decide) ent_rt rfl in4 0 (by decide) rfl qw_182 rfl rfl dX4_setRota_1 ?_
  refine J_iload_n hC (j := 1) dX4_setRota_4 rfl rfl ?_
  refine J_callV hC (ct_rw m5u0 m5u0 (ct_X1_monkOf l G (mk5 D E g S A) o 0 (by decide) D p0)) mw_X1_monkOf qw_263 (nl_da (by decide)) (ent_da (by decide)) rfl rfl rfl (Nat.le_of_ble_eq_true rfl) ⟨Nat.le_of_ble_eq_true rfl, Nat.le_of_ble_eq_true rfl⟩ ⟨Nat.le_of_ble_eq_true rfl, Nat.le_of_ble_eq_true rfl⟩ dX4_setRota_5 ?_
  by_cases h5 : inM D p0 = true
  · refine J_tv (mkV_p h5) ?_
    refine J_astore (lv' := [(4, .ref (aX G 0 (32 + (ix p0)))), (0, .ref (gA G 88)), (1, .int p0), (2, .int p1), (3, .int p2)]) hC dX4_setRota_8 (by decide) rfl ?_
    refine J_aload hC (j := 0) dX4_setRota_10 rfl ?_
    refine J_ifnull hC dX4_setRota_12 ?_
    refine J_iload_n hC (j := 3) dX4_setRota_15 rfl rfl ?_
    refine J_iconst (v := 0) hC dX4_setRota_16 (by decide) ?_
    refine J_bipush (v := 6) hC dX4_setRota_17 (by decide) ?_
    refine J_callS hC (ct_X4_isWithin l G (mk5 D E g S A) o p1 0 6) ms_X4_isWithin qw_292 rfl rfl (Nat.le_of_ble_eq_true rfl) ⟨Nat.le_of_ble_eq_true rfl, Nat.le_of_ble_eq_true rfl⟩ ⟨Nat.le_of_ble_eq_true rfl, Nat.le_of_ble_eq_true rfl⟩ dX4_setRota_19 ?_
    by_cases h19 : wthn p1 0 6 = true
    · refine J_tv (congrArg Value.int (bI_pos h19)) ?_
      refine J_if_ne (tgt := 35) hC dX4_setRota_22 (by decide) (fun _ => ?_) (fun h => absurd h (by decide))
      refine J_iload_n hC (j := 4) dX4_setRota_35 rfl rfl ?_
      refine J_iconst (v := 0) hC dX4_setRota_36 (by decide) ?_
      refine J_iconst (v := 3) hC dX4_setRota_37 (by decide) ?_
      refine J_callS hC (ct_X4_isWithin l G (mk5 D E g S A) o p2 0 3) ms_X4_isWithin qw_292 rfl rfl (Nat.le_of_ble_eq_true rfl) ⟨Nat.le_of_ble_eq_true rfl, Nat.le_of_ble_eq_true rfl⟩ ⟨Nat.le_of_ble_eq_true rfl, Nat.le_of_ble_eq_true rfl⟩ dX4_setRota_38 ?_
      by_cases h38 : wthn p2 0 3 = true
      · refine J_tv (congrArg Value.int (bI_pos h38)) ?_
        refine J_if_ne (tgt := 54) hC dX4_setRota_41 (by decide) (fun _ => ?_) (fun h => absurd h (by decide))
        refine J_aload hC (j := 0) dX4_setRota_54 rfl ?_
        refine J_iload_n hC (j := 3) dX4_setRota_56 rfl rfl ?_
        refine J_callV hC (ct_rw m5u0 m5u0 (ct_X2_workOn l G (mk5 D E g S A) o 0 (by decide) D (ix p0) (inM_lt h5) p1)) mw_X2_workOn qw_282 (nl_mk (by decide) (inM_lt h5)) (ent_mk (by decide) (inM_lt h5)) rfl rfl rfl (Nat.le_of_ble_eq_true rfl) ⟨Nat.le_of_ble_eq_true rfl, Nat.le_of_ble_eq_true rfl⟩ ⟨Nat.le_of_ble_eq_true rfl, Nat.le_of_ble_eq_true rfl⟩ dX4_setRota_57 ?_
        refine J_istore (lv' := [(5, .int (wOn (D (36 + (ix p0))) p1)), (4, .ref (aX G 0 (32 + (ix p0)))), (0, .ref (gA G 88)), (1, .int p0), (2, .int p1), (3, .int p2)]) hC dX4_setRota_60 (by decide) rfl ?_
        refine J_aload hC (j := 1) dX4_setRota_62 rfl ?_
        refine J_iload_n hC (j := 4) dX4_setRota_64 rfl rfl ?_
        refine J_iload_n hC (j := 5) dX4_setRota_65 rfl rfl ?_
        refine J_callVv hC (ct_rw m5u0 m5u0 (ct_X2_putWork l G (mk5 D E g S A) o 0 (by decide) D (ix p0) (inM_lt h5) p1 p2)) mw_X2_putWork qw_503 (nl_mk (by decide) (inM_lt h5)) (ent_mk (by decide) (inM_lt h5)) rfl rfl rfl (Nat.le_of_ble_eq_true rfl) ⟨Nat.le_of_ble_eq_true rfl, Nat.le_of_ble_eq_true rfl⟩ ⟨Nat.le_of_ble_eq_true rfl, Nat.le_of_ble_eq_true rfl⟩ dX4_setRota_66 ?_
        refine J_iload hC (j := 0) dX4_setRota_69 rfl ?_
        refine J_widen (k := 1) (n := 6) (by decide) (by decide) ?_
        refine JX_end hC (by simp [kRota, h5, h19, h38]) ?_
        exact J_iret hC hr rfl (by simp [dRota, h5, h19, h38]) rfl dX4_setRota_71
      · refine J_tv (congrArg Value.int (bI_neg h38)) ?_
        refine J_if_ne (tgt := 54) hC dX4_setRota_41 (by decide) (fun h => absurd h (by decide)) (fun _ => ?_)
        exact J_throw hC hlt hex tw_IllegalArgumentException (List.mem_of_getElem? (i := 13) rfl) 1 rfl (by show _ = (2 : Int32); simp [kRota, h5, h19, h38]) dX4_setRota_44 dX4_setRota_47 dX4_setRota_48 dX4_setRota_50 dX4_setRota_53 ⟨Nat.le_of_ble_eq_true rfl, Nat.le_of_ble_eq_true rfl, Nat.le_of_ble_eq_true rfl, Nat.le_of_ble_eq_true rfl⟩ ⟨Nat.le_of_ble_eq_true rfl, Nat.le_of_ble_eq_true rfl⟩
    · refine J_tv (congrArg Value.int (bI_neg h19)) ?_
      refine J_if_ne (tgt := 35) hC dX4_setRota_22 (by decide) (fun h => absurd h (by decide)) (fun _ => ?_)
      exact J_throw hC hlt hex tw_IndexOutOfBoundsException (List.mem_of_getElem? (i := 12) rfl) 0 rfl (by show _ = (1 : Int32); simp [kRota, h5, h19]) dX4_setRota_25 dX4_setRota_28 dX4_setRota_29 dX4_setRota_31 dX4_setRota_34 ⟨Nat.le_of_ble_eq_true rfl, Nat.le_of_ble_eq_true rfl, Nat.le_of_ble_eq_true rfl, Nat.le_of_ble_eq_true rfl⟩ ⟨Nat.le_of_ble_eq_true rfl, Nat.le_of_ble_eq_true rfl⟩
  · refine J_tv (mkV_n h5) ?_
    refine J_astoreN (lv' := [(4, .null), (0, .ref (gA G 88)), (1, .int p0), (2, .int p1), (3, .int p2)]) hC dX4_setRota_8 (by decide) rfl ?_
    refine J_aloadN hC (j := 0) dX4_setRota_10 rfl ?_
    refine J_ifnullN (tgt := 25) hC dX4_setRota_12 (by decide) ?_
    exact J_throw hC hlt hex tw_IndexOutOfBoundsException (List.mem_of_getElem? (i := 12) rfl) 0 rfl (by show _ = (1 : Int32); simp [kRota, h5]) dX4_setRota_25 dX4_setRota_28 dX4_setRota_29 dX4_setRota_31 dX4_setRota_34 ⟨Nat.le_of_ble_eq_true rfl, Nat.le_of_ble_eq_true rfl, Nat.le_of_ble_eq_true rfl, Nat.le_of_ble_eq_true rfl⟩ ⟨Nat.le_of_ble_eq_true rfl, Nat.le_of_ble_eq_true rfl⟩
set_option maxHeartbeats 4000000 in
set_option maxRecDepth 100000 in
theorem xt_X4_wheel (l : Launch) (hlt : l.stackTraces = false) (G : GG) (D E g S A : DD) (o : OO) (p0 p1 : Int32) : XT l yX4_wheel cX4_wheel 4 (some .int) 6 82 1 6 G [.ref (gA G 88), .int p0, .int p1] (mk5 D E g S A) o (kWheel D p0 p1) ["java/lang/IndexOutOfBoundsException"] (some (.int (wFact (D (ix p0)) p1))) (mk5 D E g S A) o := by
  refine XT_of (own := RX4) (lv := [(0, .ref (gA G 88)), (1, .int p0), (2, .int p1)]) (by decide) rfl (Nat.le_of_ble_eq_true rfl) rfl ?_
  intro p e s m args below meth c hr hex hC
  refine J_aload_n hC (j := 0) dX4_wheel_0 rfl rfl ?_
  refine J_get hC (by decide) ent_rt rfl in4 0 (by decide) rfl qw_182 rfl rfl dX4_wheel_1 ?_
  refine J_iload_n hC (j := 1) dX4_wheel_4 rfl rfl ?_
  refine J_callV hC (ct_rw m5u0 m5u0 (ct_X1_wheelOf l G (mk5 D E g S A) o 0 (by decide) D p0)) mw_X1_wheelOf qw_254 (nl_da (by decide)) (ent_da (by decide)) rfl rfl rfl (Nat.le_of_ble_eq_true rfl) ⟨Nat.le_of_ble_eq_true rfl, Nat.le_of_ble_eq_true rfl⟩ ⟨Nat.le_of_ble_eq_true rfl, Nat.le_of_ble_eq_true rfl⟩ dX4_wheel_5 ?_
  by_cases h5 : inW D p0 = true
  · refine J_tv (whV_p h5) ?_
    refine J_astore_n (lv' := [(3, .ref (aX G 0 (ix p0))), (0, .ref (gA G 88)), (1, .int p0), (2, .int p1)]) hC dX4_wheel_8 rfl (by decide) rfl ?_
    refine J_aload_n hC (j := 0) dX4_wheel_9 rfl rfl ?_
    refine J_ifnull hC dX4_wheel_10 ?_
    refine J_iload_n hC (j := 3) dX4_wheel_13 rfl rfl ?_
    refine J_iconst (v := 0) hC dX4_wheel_14 (by decide) ?_
    refine J_bipush (v := 10) hC dX4_wheel_15 (by decide) ?_
    refine J_callS hC (ct_X4_isWithin l G (mk5 D E g S A) o p1 0 10) ms_X4_isWithin qw_292 rfl rfl (Nat.le_of_ble_eq_true rfl) ⟨Nat.le_of_ble_eq_true rfl, Nat.le_of_ble_eq_true rfl⟩ ⟨Nat.le_of_ble_eq_true rfl, Nat.le_of_ble_eq_true rfl⟩ dX4_wheel_17 ?_
    by_cases h17 : wthn p1 0 10 = true
    · refine J_tv (congrArg Value.int (bI_pos h17)) ?_
      refine J_if_ne (tgt := 33) hC dX4_wheel_20 (by decide) (fun _ => ?_) (fun h => absurd h (by decide))
      refine J_aload_n hC (j := 0) dX4_wheel_33 rfl rfl ?_
      refine J_iload_n hC (j := 3) dX4_wheel_34 rfl rfl ?_
      refine J_callV hC (ct_rw m5u0 m5u0 (ct_X3_fact l G (mk5 D E g S A) o 0 (by decide) D (ix p0) (inW_lt h5) p1)) mw_X3_fact qw_258 (nl_wh (by decide) (inW_lt h5)) (ent_wh (by decide) (inW_lt h5)) rfl rfl rfl (Nat.le_of_ble_eq_true rfl) ⟨Nat.le_of_ble_eq_true rfl, Nat.le_of_ble_eq_true rfl⟩ ⟨Nat.le_of_ble_eq_true rfl, Nat.le_of_ble_eq_true rfl⟩ dX4_wheel_35 ?_
      refine J_widen (k := 1) (n := 6) (by decide) (by decide) ?_
      refine JX_end hC (by simp [kWheel, h5, h17]) ?_
      exact J_iret hC hr rfl rfl rfl dX4_wheel_38
    · refine J_tv (congrArg Value.int (bI_neg h17)) ?_
      refine J_if_ne (tgt := 33) hC dX4_wheel_20 (by decide) (fun h => absurd h (by decide)) (fun _ => ?_)
      exact J_throw hC hlt hex tw_IndexOutOfBoundsException (List.mem_of_getElem? (i := 14) rfl) 0 rfl (by show _ = (1 : Int32); simp [kWheel, h5, h17]) dX4_wheel_23 dX4_wheel_26 dX4_wheel_27 dX4_wheel_29 dX4_wheel_32 ⟨Nat.le_of_ble_eq_true rfl, Nat.le_of_ble_eq_true rfl, Nat.le_of_ble_eq_true rfl, Nat.le_of_ble_eq_true rfl⟩ ⟨Nat.le_of_ble_eq_true rfl, Nat.le_of_ble_eq_true rfl⟩
  · refine J_tv (whV_n h5) ?_
    refine J_astore_nN (lv' := [(3, .null), (0, .ref (gA G 88)), (1, .int p0), (2, .int p1)]) hC dX4_wheel_8 rfl (by decide) rfl ?_
    refine J_aload_nN hC (j := 0) dX4_wheel_9 rfl rfl ?_
    refine J_ifnullN (tgt := 23) hC dX4_wheel_10 (by decide) ?_
    exact J_throw hC hlt hex tw_IndexOutOfBoundsException (List.mem_of_getElem? (i := 14) rfl) 0 rfl (by show _ = (1 : Int32); simp [kWheel, h5]) dX4_wheel_23 dX4_wheel_26 dX4_wheel_27 dX4_wheel_29 dX4_wheel_32 ⟨Nat.le_of_ble_eq_true rfl, Nat.le_of_ble_eq_true rfl, Nat.le_of_ble_eq_true rfl, Nat.le_of_ble_eq_true rfl⟩ ⟨Nat.le_of_ble_eq_true rfl, Nat.le_of_ble_eq_true rfl⟩
set_option maxHeartbeats 4000000 in
set_option maxRecDepth 100000 in
theorem xt_X4_cellar (l : Launch) (hlt : l.stackTraces = false) (G : GG) (D E g S A : DD) (o : OO) (p0 p1 : Int32) : XT l yX4_cellar cX4_cellar 3 (some .int) 6 91 1 6 G [.ref (gA G 88), .int p0, .int p1] (mk5 D E g S A) o (kCellar D p0 p1) ["java/lang/IndexOutOfBoundsException"] (some (.int (ceFact D p0 p1))) (mk5 D E g S A) o := by
  refine XT_of (own := RX4) (lv := [(0, .ref (gA G 88)), (1, .int p0), (2, .int p1)]) (by decide) rfl (Nat.le_of_ble_eq_true rfl) rfl ?_
  intro p e s m args below meth c hr hex hC
  refine J_aload_n hC (j := 0) dX4_cellar_0 rfl rfl ?_
  refine J_get hC (by decide) ent_rt rfl in4 0 (by decide) rfl qw_182 rfl rfl dX4_cellar_1 ?_
  refine J_iload_n hC (j := 1) dX4_cellar_4 rfl rfl ?_
  refine J_callV hC (ct_rw m5u0 m5u0 (ct_X1_cellarOf l G (mk5 D E g S A) o 0 (by decide) D p0)) mw_X1_cellarOf qw_391 (nl_da (by decide)) (ent_da (by decide)) rfl rfl rfl (Nat.le_of_ble_eq_true rfl) ⟨Nat.le_of_ble_eq_true rfl, Nat.le_of_ble_eq_true rfl⟩ ⟨Nat.le_of_ble_eq_true rfl, Nat.le_of_ble_eq_true rfl⟩ dX4_cellar_5 ?_
  by_cases h5 : inC D p0 = true
  · refine J_tv (ceV_p h5) ?_
    refine J_ifnull hC dX4_cellar_8 ?_
    refine J_iload_n hC (j := 2) dX4_cellar_11 rfl rfl ?_
    refine J_iconst (v := 0) hC dX4_cellar_12 (by decide) ?_
    refine J_iconst (v := 3) hC dX4_cellar_13 (by decide) ?_
    refine J_callS hC (ct_X4_isWithin l G (mk5 D E g S A) o p1 0 3) ms_X4_isWithin qw_292 rfl rfl (Nat.le_of_ble_eq_true rfl) ⟨Nat.le_of_ble_eq_true rfl, Nat.le_of_ble_eq_true rfl⟩ ⟨Nat.le_of_ble_eq_true rfl, Nat.le_of_ble_eq_true rfl⟩ dX4_cellar_14 ?_
    by_cases h14 : wthn p1 0 3 = true
    · refine J_tv (congrArg Value.int (bI_pos h14)) ?_
      refine J_if_ne (tgt := 30) hC dX4_cellar_17 (by decide) (fun _ => ?_) (fun h => absurd h (by decide))
      refine J_aload_n hC (j := 0) dX4_cellar_30 rfl rfl ?_
      refine J_get hC (by decide) ent_rt rfl in4 0 (by decide) rfl qw_182 rfl rfl dX4_cellar_31 ?_
      refine J_iload_n hC (j := 1) dX4_cellar_34 rfl rfl ?_
      refine J_iload_n hC (j := 2) dX4_cellar_35 rfl rfl ?_
      refine J_callV hC (ct_rw m5u0 m5u0 (ct_X1_cellarFact l G (mk5 D E g S A) o 0 (by decide) D p0 p1)) mw_X1_cellarFact qw_242 (nl_da (by decide)) (ent_da (by decide)) rfl rfl rfl (Nat.le_of_ble_eq_true rfl) ⟨Nat.le_of_ble_eq_true rfl, Nat.le_of_ble_eq_true rfl⟩ ⟨Nat.le_of_ble_eq_true rfl, Nat.le_of_ble_eq_true rfl⟩ dX4_cellar_36 ?_
      refine J_widen (k := 1) (n := 6) (by decide) (by decide) ?_
      refine JX_end hC (by simp [kCellar, h5, h14]) ?_
      exact J_iret hC hr rfl rfl rfl dX4_cellar_39
    · refine J_tv (congrArg Value.int (bI_neg h14)) ?_
      refine J_if_ne (tgt := 30) hC dX4_cellar_17 (by decide) (fun h => absurd h (by decide)) (fun _ => ?_)
      exact J_throw hC hlt hex tw_IndexOutOfBoundsException (List.mem_of_getElem? (i := 15) rfl) 0 rfl (by show _ = (1 : Int32); simp [kCellar, h5, h14]) dX4_cellar_20 dX4_cellar_23 dX4_cellar_24 dX4_cellar_26 dX4_cellar_29 ⟨Nat.le_of_ble_eq_true rfl, Nat.le_of_ble_eq_true rfl, Nat.le_of_ble_eq_true rfl, Nat.le_of_ble_eq_true rfl⟩ ⟨Nat.le_of_ble_eq_true rfl, Nat.le_of_ble_eq_true rfl⟩
  · refine J_tv (ceV_n h5) ?_
    refine J_ifnullN (tgt := 20) hC dX4_cellar_8 (by decide) ?_
    exact J_throw hC hlt hex tw_IndexOutOfBoundsException (List.mem_of_getElem? (i := 15) rfl) 0 rfl (by show _ = (1 : Int32); simp [kCellar, h5]) dX4_cellar_20 dX4_cellar_23 dX4_cellar_24 dX4_cellar_26 dX4_cellar_29 ⟨Nat.le_of_ble_eq_true rfl, Nat.le_of_ble_eq_true rfl, Nat.le_of_ble_eq_true rfl, Nat.le_of_ble_eq_true rfl⟩ ⟨Nat.le_of_ble_eq_true rfl, Nat.le_of_ble_eq_true rfl⟩
set_option maxHeartbeats 4000000 in
set_option maxRecDepth 100000 in
theorem xt_X4_at (l : Launch) (hlt : l.stackTraces = false) (G : GG) (D E g S A : DD) (o : OO) (p0 p1 : Int32) : XT l yX4_at cX4_at 4 (some .int) 6 82 1 6 G [.ref (gA G 88), .int p0, .int p1] (mk5 D E g S A) o (kAt D p0 p1) ["java/lang/IndexOutOfBoundsException"] (some (.int (wAt (D (28 + (ix p0))) p1))) (mk5 D E g S A) o := by
  refine XT_of (own := RX4) (lv := [(0, .ref (gA G 88)), (1, .int p0), (2, .int p1)]) (by decide) rfl (Nat.le_of_ble_eq_true rfl) rfl ?_
  intro p e s m args below meth c hr hex hC
  refine J_aload_n hC (j := 0) dX4_at_0 rfl rfl ?_
  refine J_get hC (by decide) ent_rt rfl in4 0 (by decide) rfl qw_182 rfl rfl dX4_at_1 ?_
  refine J_iload_n hC (j := 1) dX4_at_4 rfl rfl ?_
  refine J_callV hC (ct_rw m5u0 m5u0 (ct_X1_cellarOf l G (mk5 D E g S A) o 0 (by decide) D p0)) mw_X1_cellarOf qw_391 (nl_da (by decide)) (ent_da (by decide)) rfl rfl rfl (Nat.le_of_ble_eq_true rfl) ⟨Nat.le_of_ble_eq_true rfl, Nat.le_of_ble_eq_true rfl⟩ ⟨Nat.le_of_ble_eq_true rfl, Nat.le_of_ble_eq_true rfl⟩ dX4_at_5 ?_
  by_cases h5 : inC D p0 = true
  · refine J_tv (ceV_p h5) ?_
    refine J_astore_n (lv' := [(3, .ref (aX G 0 (24 + (ix p0)))), (0, .ref (gA G 88)), (1, .int p0), (2, .int p1)]) hC dX4_at_8 rfl (by decide) rfl ?_
    refine J_aload_n hC (j := 0) dX4_at_9 rfl rfl ?_
    refine J_ifnull hC dX4_at_10 ?_
    refine J_iload_n hC (j := 3) dX4_at_13 rfl rfl ?_
    refine J_callS hC (ct_X4_isPlace l G (mk5 D E g S A) o p1) ms_X4_isPlace qw_415 rfl rfl (Nat.le_of_ble_eq_true rfl) ⟨Nat.le_of_ble_eq_true rfl, Nat.le_of_ble_eq_true rfl⟩ ⟨Nat.le_of_ble_eq_true rfl, Nat.le_of_ble_eq_true rfl⟩ dX4_at_14 ?_
    by_cases h14 : isPl p1 = true
    · refine J_tv (congrArg Value.int (bI_pos h14)) ?_
      refine J_if_ne (tgt := 30) hC dX4_at_17 (by decide) (fun _ => ?_) (fun h => absurd h (by decide))
      refine J_aload_n hC (j := 0) dX4_at_30 rfl rfl ?_
      refine J_iload_n hC (j := 3) dX4_at_31 rfl rfl ?_
      refine J_callV hC (ct_rw m5u0 m5u0 (ct_X0_wheelAt l G (mk5 D E g S A) o 0 (by decide) D (ix p0) (inC_lt h5) p1)) mw_X0_wheelAt qw_419 (nl_ce (by decide) (inC_lt h5)) (ent_ce (by decide) (inC_lt h5)) rfl rfl rfl (Nat.le_of_ble_eq_true rfl) ⟨Nat.le_of_ble_eq_true rfl, Nat.le_of_ble_eq_true rfl⟩ ⟨Nat.le_of_ble_eq_true rfl, Nat.le_of_ble_eq_true rfl⟩ dX4_at_32 ?_
      refine J_widen (k := 1) (n := 6) (by decide) (by decide) ?_
      refine JX_end hC (by simp [kAt, h5, h14]) ?_
      exact J_iret hC hr rfl rfl rfl dX4_at_35
    · refine J_tv (congrArg Value.int (bI_neg h14)) ?_
      refine J_if_ne (tgt := 30) hC dX4_at_17 (by decide) (fun h => absurd h (by decide)) (fun _ => ?_)
      exact J_throw hC hlt hex tw_IndexOutOfBoundsException (List.mem_of_getElem? (i := 3) rfl) 0 rfl (by show _ = (1 : Int32); simp [kAt, h5, h14]) dX4_at_20 dX4_at_23 dX4_at_24 dX4_at_26 dX4_at_29 ⟨Nat.le_of_ble_eq_true rfl, Nat.le_of_ble_eq_true rfl, Nat.le_of_ble_eq_true rfl, Nat.le_of_ble_eq_true rfl⟩ ⟨Nat.le_of_ble_eq_true rfl, Nat.le_of_ble_eq_true rfl⟩
  · refine J_tv (ceV_n h5) ?_
    refine J_astore_nN (lv' := [(3, .null), (0, .ref (gA G 88)), (1, .int p0), (2, .int p1)]) hC dX4_at_8 rfl (by decide) rfl ?_
    refine J_aload_nN hC (j := 0) dX4_at_9 rfl rfl ?_
    refine J_ifnullN (tgt := 20) hC dX4_at_10 (by decide) ?_
    exact J_throw hC hlt hex tw_IndexOutOfBoundsException (List.mem_of_getElem? (i := 3) rfl) 0 rfl (by show _ = (1 : Int32); simp [kAt, h5]) dX4_at_20 dX4_at_23 dX4_at_24 dX4_at_26 dX4_at_29 ⟨Nat.le_of_ble_eq_true rfl, Nat.le_of_ble_eq_true rfl, Nat.le_of_ble_eq_true rfl, Nat.le_of_ble_eq_true rfl⟩ ⟨Nat.le_of_ble_eq_true rfl, Nat.le_of_ble_eq_true rfl⟩
set_option maxHeartbeats 4000000 in
set_option maxRecDepth 100000 in
theorem xt_X4_monk (l : Launch) (hlt : l.stackTraces = false) (G : GG) (D E g S A : DD) (o : OO) (p0 p1 : Int32) : XT l yX4_monk cX4_monk 4 (some .int) 6 82 1 6 G [.ref (gA G 88), .int p0, .int p1] (mk5 D E g S A) o (kMonk D p0 p1) ["java/lang/IndexOutOfBoundsException"] (some (.int (mFact (D (32 + (ix p0))) (D (36 + (ix p0))) p1 (D 40 0)))) (mk5 D E g S A) o := by
  refine XT_of (own := RX4) (lv := [(0, .ref (gA G 88)), (1, .int p0), (2, .int p1)]) (by decide) rfl (Nat.le_of_ble_eq_true rfl) rfl ?_
  intro p e s m args below meth c hr hex hC
  refine J_aload_n hC (j := 0) dX4_monk_0 rfl rfl ?_
  refine J_get hC (by decide) ent_rt rfl in4 0 (by decide) rfl qw_182 rfl rfl dX4_monk_1 ?_
  refine J_iload_n hC (j := 1) dX4_monk_4 rfl rfl ?_
  refine J_callV hC (ct_rw m5u0 m5u0 (ct_X1_monkOf l G (mk5 D E g S A) o 0 (by decide) D p0)) mw_X1_monkOf qw_263 (nl_da (by decide)) (ent_da (by decide)) rfl rfl rfl (Nat.le_of_ble_eq_true rfl) ⟨Nat.le_of_ble_eq_true rfl, Nat.le_of_ble_eq_true rfl⟩ ⟨Nat.le_of_ble_eq_true rfl, Nat.le_of_ble_eq_true rfl⟩ dX4_monk_5 ?_
  by_cases h5 : inM D p0 = true
  · refine J_tv (mkV_p h5) ?_
    refine J_astore_n (lv' := [(3, .ref (aX G 0 (32 + (ix p0)))), (0, .ref (gA G 88)), (1, .int p0), (2, .int p1)]) hC dX4_monk_8 rfl (by decide) rfl ?_
    refine J_aload_n hC (j := 0) dX4_monk_9 rfl rfl ?_
    refine J_ifnull hC dX4_monk_10 ?_
    refine J_iload_n hC (j := 3) dX4_monk_13 rfl rfl ?_
    refine J_iconst (v := 0) hC dX4_monk_14 (by decide) ?_
    refine J_iconst (v := 4) hC dX4_monk_15 (by decide) ?_
    refine J_callS hC (ct_X4_isWithin l G (mk5 D E g S A) o p1 0 4) ms_X4_isWithin qw_292 rfl rfl (Nat.le_of_ble_eq_true rfl) ⟨Nat.le_of_ble_eq_true rfl, Nat.le_of_ble_eq_true rfl⟩ ⟨Nat.le_of_ble_eq_true rfl, Nat.le_of_ble_eq_true rfl⟩ dX4_monk_16 ?_
    by_cases h16 : wthn p1 0 4 = true
    · refine J_tv (congrArg Value.int (bI_pos h16)) ?_
      refine J_if_ne (tgt := 32) hC dX4_monk_19 (by decide) (fun _ => ?_) (fun h => absurd h (by decide))
      refine J_aload_n hC (j := 0) dX4_monk_32 rfl rfl ?_
      refine J_iload_n hC (j := 3) dX4_monk_33 rfl rfl ?_
      refine J_aload_n hC (j := 1) dX4_monk_34 rfl rfl ?_
      refine J_get hC (by decide) ent_rt rfl in4 0 (by decide) rfl qw_182 rfl rfl dX4_monk_35 ?_
      refine J_get hC (nl_da (by decide)) (ent_da (by decide)) rfl in1 0 (by decide) rfl qw_153 rfl (r5 (x := (D 40 0)) rfl) dX4_monk_38 ?_
      refine J_callV hC (ct_rw m5u0 m5u0 (ct_X2_fact l G (mk5 D E g S A) o 0 (by decide) D (ix p0) (inM_lt h5) p1 (D 40 0))) mw_X2_fact qw_271 (nl_mk (by decide) (inM_lt h5)) (ent_mk (by decide) (inM_lt h5)) rfl rfl rfl (Nat.le_of_ble_eq_true rfl) ⟨Nat.le_of_ble_eq_true rfl, Nat.le_of_ble_eq_true rfl⟩ ⟨Nat.le_of_ble_eq_true rfl, Nat.le_of_ble_eq_true rfl⟩ dX4_monk_41 ?_
      refine J_widen (k := 1) (n := 6) (by decide) (by decide) ?_
      refine JX_end hC (by simp [kMonk, h5, h16]) ?_
      exact J_iret hC hr rfl rfl rfl dX4_monk_44
    · refine J_tv (congrArg Value.int (bI_neg h16)) ?_
      refine J_if_ne (tgt := 32) hC dX4_monk_19 (by decide) (fun h => absurd h (by decide)) (fun _ => ?_)
      exact J_throw hC hlt hex tw_IndexOutOfBoundsException (List.mem_of_getElem? (i := 16) rfl) 0 rfl (by show _ = (1 : Int32); simp [kMonk, h5, h16]) dX4_monk_22 dX4_monk_25 dX4_monk_26 dX4_monk_28 dX4_monk_31 ⟨Nat.le_of_ble_eq_true rfl, Nat.le_of_ble_eq_true rfl, Nat.le_of_ble_eq_true rfl, Nat.le_of_ble_eq_true rfl⟩ ⟨Nat.le_of_ble_eq_true rfl, Nat.le_of_ble_eq_true rfl⟩
  · refine J_tv (mkV_n h5) ?_
    refine J_astore_nN (lv' := [(3, .null), (0, .ref (gA G 88)), (1, .int p0), (2, .int p1)]) hC dX4_monk_8 rfl (by decide) rfl ?_
    refine J_aload_nN hC (j := 0) dX4_monk_9 rfl rfl ?_
    refine J_ifnullN (tgt := 22) hC dX4_monk_10 (by decide) ?_
    exact J_throw hC hlt hex tw_IndexOutOfBoundsException (List.mem_of_getElem? (i := 16) rfl) 0 rfl (by show _ = (1 : Int32); simp [kMonk, h5]) dX4_monk_22 dX4_monk_25 dX4_monk_26 dX4_monk_28 dX4_monk_31 ⟨Nat.le_of_ble_eq_true rfl, Nat.le_of_ble_eq_true rfl, Nat.le_of_ble_eq_true rfl, Nat.le_of_ble_eq_true rfl⟩ ⟨Nat.le_of_ble_eq_true rfl, Nat.le_of_ble_eq_true rfl⟩
set_option maxHeartbeats 4000000 in
set_option maxRecDepth 100000 in
theorem xt_X4_count (l : Launch) (hlt : l.stackTraces = false) (G : GG) (D E g S A : DD) (o : OO) (p0 : Int32) : XT l yX4_count cX4_count 2 (some .int) 6 111 1 6 G [.ref (gA G 88), .int p0] (mk5 D E g S A) o (kCount D p0) ["java/lang/IndexOutOfBoundsException"] (some (.int (dFact D p0))) (mk5 D E g S A) o := by
  refine XT_of (own := RX4) (lv := [(0, .ref (gA G 88)), (1, .int p0)]) (by decide) rfl (Nat.le_of_ble_eq_true rfl) rfl ?_
  intro p e s m args below meth c hr hex hC
  refine J_iload_n hC (j := 1) dX4_count_0 rfl rfl ?_
  refine J_iconst (v := 0) hC dX4_count_1 (by decide) ?_
  refine J_bipush (v := 8) hC dX4_count_2 (by decide) ?_
  refine J_callS hC (ct_X4_isWithin l G (mk5 D E g S A) o p0 0 8) ms_X4_isWithin qw_292 rfl rfl (Nat.le_of_ble_eq_true rfl) ⟨Nat.le_of_ble_eq_true rfl, Nat.le_of_ble_eq_true rfl⟩ ⟨Nat.le_of_ble_eq_true rfl, Nat.le_of_ble_eq_true rfl⟩ dX4_count_4 ?_
  by_cases h4 : wthn p0 0 8 = true
  · refine J_tv (congrArg Value.int (bI_pos h4)) ?_
    refine J_if_ne (tgt := 20) hC dX4_count_7 (by decide) (fun _ => ?_) (fun h => absurd h (by decide))
    refine J_aload_n hC (j := 0) dX4_count_20 rfl rfl ?_
    refine J_get hC (by decide) ent_rt rfl in4 0 (by decide) rfl qw_182 rfl rfl dX4_count_21 ?_
    refine J_iload_n hC (j := 1) dX4_count_24 rfl rfl ?_
    refine J_callV hC (ct_rw m5u0 m5u0 (ct_X1_fact l G (mk5 D E g S A) o 0 (by decide) D p0)) mw_X1_fact qw_229 (nl_da (by decide)) (ent_da (by decide)) rfl rfl rfl (Nat.le_of_ble_eq_true rfl) ⟨Nat.le_of_ble_eq_true rfl, Nat.le_of_ble_eq_true rfl⟩ ⟨Nat.le_of_ble_eq_true rfl, Nat.le_of_ble_eq_true rfl⟩ dX4_count_25 ?_
    refine J_widen (k := 1) (n := 6) (by decide) (by decide) ?_
    refine JX_end hC (by simp [kCount, h4]) ?_
    exact J_iret hC hr rfl rfl rfl dX4_count_28
  · refine J_tv (congrArg Value.int (bI_neg h4)) ?_
    refine J_if_ne (tgt := 20) hC dX4_count_7 (by decide) (fun h => absurd h (by decide)) (fun _ => ?_)
    exact J_throw hC hlt hex tw_IndexOutOfBoundsException (List.mem_of_getElem? (i := 17) rfl) 0 rfl (by show _ = (1 : Int32); simp [kCount, h4]) dX4_count_10 dX4_count_13 dX4_count_14 dX4_count_16 dX4_count_19 ⟨Nat.le_of_ble_eq_true rfl, Nat.le_of_ble_eq_true rfl, Nat.le_of_ble_eq_true rfl, Nat.le_of_ble_eq_true rfl⟩ ⟨Nat.le_of_ble_eq_true rfl, Nat.le_of_ble_eq_true rfl⟩
set_option maxHeartbeats 4000000 in
set_option maxRecDepth 100000 in
theorem xt_X4_pass (l : Launch) (hlt : l.stackTraces = false) (G : GG) (D E g S A : DD) (o : OO) (p0 : Int32) : XT l yX4_pass cX4_pass 3 (some .int) 6 116 1 6 G [.ref (gA G 88), .int p0] (mk5 D E g S A) o (kPass D p0) ["java/lang/IllegalArgumentException"] (some (.int ((cntSt (days D (ix p0)) 2 24) - (cntSt D 2 24)))) (mk5 (days D (ix p0)) E g S A) o := by
  refine XT_of (own := RX4) (lv := [(0, .ref (gA G 88)), (1, .int p0)]) (by decide) rfl (Nat.le_of_ble_eq_true rfl) rfl ?_
  intro p e s m args below meth c hr hex hC
  refine J_iload_n hC (j := 1) dX4_pass_0 rfl rfl ?_
  refine J_iconst (v := 1) hC dX4_pass_1 (by decide) ?_
  refine J_bipush (v := 100) hC dX4_pass_2 (by decide) ?_
  refine J_callS hC (ct_X4_isWithin l G (mk5 D E g S A) o p0 1 100) ms_X4_isWithin qw_292 rfl rfl (Nat.le_of_ble_eq_true rfl) ⟨Nat.le_of_ble_eq_true rfl, Nat.le_of_ble_eq_true rfl⟩ ⟨Nat.le_of_ble_eq_true rfl, Nat.le_of_ble_eq_true rfl⟩ dX4_pass_4 ?_
  by_cases h4 : wthn p0 1 100 = true
  · refine J_tv (congrArg Value.int (bI_pos h4)) ?_
    refine J_if_ne (tgt := 20) hC dX4_pass_7 (by decide) (fun _ => ?_) (fun h => absurd h (by decide))
    refine J_aload_n hC (j := 0) dX4_pass_20 rfl rfl ?_
    refine J_get hC (by decide) ent_rt rfl in4 0 (by decide) rfl qw_182 rfl rfl dX4_pass_21 ?_
    refine J_iconst (v := 2) hC dX4_pass_24 (by decide) ?_
    refine J_callV hC (ct_rw m5u0 m5u0 (ct_X1_wheelsBeing l G (mk5 D E g S A) o 0 (by decide) D 2)) mw_X1_wheelsBeing qw_193 (nl_da (by decide)) (ent_da (by decide)) rfl rfl rfl (Nat.le_of_ble_eq_true rfl) ⟨Nat.le_of_ble_eq_true rfl, Nat.le_of_ble_eq_true rfl⟩ ⟨Nat.le_of_ble_eq_true rfl, Nat.le_of_ble_eq_true rfl⟩ dX4_pass_25 ?_
    refine J_istore_n (lv' := [(2, .int (cntSt D 2 24)), (0, .ref (gA G 88)), (1, .int p0)]) hC dX4_pass_28 rfl (by decide) rfl ?_
    refine J_aload_n hC (j := 1) dX4_pass_29 rfl rfl ?_
    refine J_get hC (by decide) ent_rt rfl in4 0 (by decide) rfl qw_182 rfl rfl dX4_pass_30 ?_
    refine J_iload_n hC (j := 2) dX4_pass_33 rfl rfl ?_
    refine J_callVv hC (ct_rw m5u0 m5u0 (ct_X1_letDaysGoBy l G (mk5 D E g S A) o 0 (by decide) D p0)) mw_X1_letDaysGoBy qw_554 (nl_da (by decide)) (ent_da (by decide)) rfl rfl rfl (Nat.le_of_ble_eq_true rfl) ⟨Nat.le_of_ble_eq_true rfl, Nat.le_of_ble_eq_true rfl⟩ ⟨Nat.le_of_ble_eq_true rfl, Nat.le_of_ble_eq_true rfl⟩ dX4_pass_34 ?_
    refine J_aload_n hC (j := 1) dX4_pass_37 rfl rfl ?_
    refine J_get hC (by decide) ent_rt rfl in4 0 (by decide) rfl qw_182 rfl rfl dX4_pass_38 ?_
    refine J_iconst (v := 2) hC dX4_pass_41 (by decide) ?_
    refine J_callV hC (ct_rw m5u0 m5u0 (ct_X1_wheelsBeing l G (mk5 (days D (ix p0)) E g S A) o 0 (by decide) (days D (ix p0)) 2)) mw_X1_wheelsBeing qw_193 (nl_da (by decide)) (ent_da (by decide)) rfl rfl rfl (Nat.le_of_ble_eq_true rfl) ⟨Nat.le_of_ble_eq_true rfl, Nat.le_of_ble_eq_true rfl⟩ ⟨Nat.le_of_ble_eq_true rfl, Nat.le_of_ble_eq_true rfl⟩ dX4_pass_42 ?_
    refine J_iload_n hC (j := 0) dX4_pass_45 rfl rfl ?_
    refine J_isub hC dX4_pass_46 ?_
    refine J_widen (k := 1) (n := 6) (by decide) (by decide) ?_
    refine JX_end hC (by simp [kPass, h4]) ?_
    exact J_iret hC hr rfl rfl rfl dX4_pass_47
  · refine J_tv (congrArg Value.int (bI_neg h4)) ?_
    refine J_if_ne (tgt := 20) hC dX4_pass_7 (by decide) (fun h => absurd h (by decide)) (fun _ => ?_)
    exact J_throw hC hlt hex tw_IllegalArgumentException (List.mem_of_getElem? (i := 18) rfl) 0 rfl (by show _ = (1 : Int32); simp [kPass, h4]) dX4_pass_10 dX4_pass_13 dX4_pass_14 dX4_pass_16 dX4_pass_19 ⟨Nat.le_of_ble_eq_true rfl, Nat.le_of_ble_eq_true rfl, Nat.le_of_ble_eq_true rfl, Nat.le_of_ble_eq_true rfl⟩ ⟨Nat.le_of_ble_eq_true rfl, Nat.le_of_ble_eq_true rfl⟩
set_option maxHeartbeats 4000000 in
set_option maxRecDepth 100000 in
theorem xt_X4_foresee (l : Launch) (hlt : l.stackTraces = false) (G : GG) (D E g S A : DD) (o : OO) (p0 p1 : Int32) : XT l yX4_foresee cX4_foresee 3 (some .int) 6 116 1 6 G [.ref (gA G 88), .int p0, .int p1] (mk5 D E g S A) o (kForesee D p0 p1) ["java/lang/IllegalArgumentException", "java/lang/IndexOutOfBoundsException"] (some (.int (vForesee (days (cpD E D) (ix p0)) p1))) (mk5 D (days (cpD E D) (ix p0)) g S A) o := by
  refine XT_of (own := RX4) (lv := [(0, .ref (gA G 88)), (1, .int p0), (2, .int p1)]) (by decide) rfl (Nat.le_of_ble_eq_true rfl) rfl ?_
  intro p e s m args below meth c hr hex hC
  refine J_iload_n hC (j := 1) dX4_foresee_0 rfl rfl ?_
  refine J_iconst (v := 1) hC dX4_foresee_1 (by decide) ?_
  refine J_bipush (v := 100) hC dX4_foresee_2 (by decide) ?_
  refine J_callS hC (ct_X4_isWithin l G (mk5 D E g S A) o p0 1 100) ms_X4_isWithin qw_292 rfl rfl (Nat.le_of_ble_eq_true rfl) ⟨Nat.le_of_ble_eq_true rfl, Nat.le_of_ble_eq_true rfl⟩ ⟨Nat.le_of_ble_eq_true rfl, Nat.le_of_ble_eq_true rfl⟩ dX4_foresee_4 ?_
  by_cases h4 : wthn p0 1 100 = true
  · refine J_tv (congrArg Value.int (bI_pos h4)) ?_
    refine J_if_ne (tgt := 20) hC dX4_foresee_7 (by decide) (fun _ => ?_) (fun h => absurd h (by decide))
    refine J_iload_n hC (j := 2) dX4_foresee_20 rfl rfl ?_
    refine J_iconst (v := 0) hC dX4_foresee_21 (by decide) ?_
    refine J_iconst (v := 2) hC dX4_foresee_22 (by decide) ?_
    refine J_callS hC (ct_X4_isWithin l G (mk5 D E g S A) o p1 0 2) ms_X4_isWithin qw_292 rfl rfl (Nat.le_of_ble_eq_true rfl) ⟨Nat.le_of_ble_eq_true rfl, Nat.le_of_ble_eq_true rfl⟩ ⟨Nat.le_of_ble_eq_true rfl, Nat.le_of_ble_eq_true rfl⟩ dX4_foresee_23 ?_
    by_cases h23 : wthn p1 0 2 = true
    · refine J_tv (congrArg Value.int (bI_pos h23)) ?_
      refine J_if_ne (tgt := 39) hC dX4_foresee_26 (by decide) (fun _ => ?_) (fun h => absurd h (by decide))
      refine J_aload_n hC (j := 0) dX4_foresee_39 rfl rfl ?_
      refine J_get hC (by decide) ent_rt rfl in4 1 (by decide) rfl qw_183 rfl rfl dX4_foresee_40 ?_
      refine J_aload_n hC (j := 0) dX4_foresee_43 rfl rfl ?_
      refine J_get hC (by decide) ent_rt rfl in4 0 (by decide) rfl qw_182 rfl rfl dX4_foresee_44 ?_
      refine J_callVv hC (ct_rw (X4 := (mk5 D (cpD E D) g S A)) m5u1 m5u1 (ct_X1_copyFrom l G (mk5 D E g S A) o E)) mw_X1_copyFrom qw_616 (nl_da (by decide)) (ent_da (by decide)) rfl rfl rfl (Nat.le_of_ble_eq_true rfl) ⟨Nat.le_of_ble_eq_true rfl, Nat.le_of_ble_eq_true rfl⟩ ⟨Nat.le_of_ble_eq_true rfl, Nat.le_of_ble_eq_true rfl⟩ dX4_foresee_47 ?_
      refine J_aload_n hC (j := 0) dX4_foresee_50 rfl rfl ?_
      refine J_get hC (by decide) ent_rt rfl in4 1 (by decide) rfl qw_183 rfl rfl dX4_foresee_51 ?_
      refine J_iload_n hC (j := 1) dX4_foresee_54 rfl rfl ?_
      refine J_callVv hC (ct_rw m5u1 m5u1 (ct_X1_letDaysGoBy l G (mk5 D (cpD E D) g S A) o 1 (by decide) (cpD E D) p0)) mw_X1_letDaysGoBy qw_554 (nl_da (by decide)) (ent_da (by decide)) rfl rfl rfl (Nat.le_of_ble_eq_true rfl) ⟨Nat.le_of_ble_eq_true rfl, Nat.le_of_ble_eq_true rfl⟩ ⟨Nat.le_of_ble_eq_true rfl, Nat.le_of_ble_eq_true rfl⟩ dX4_foresee_55 ?_
      refine J_iload_n hC (j := 2) dX4_foresee_58 rfl rfl ?_
      by_cases c59_0 : p1 = 0
      · refine J_lookup (off := 25) (tgt := 84) hC dX4_foresee_59 (by decide) (by rw [c59_0]; decide) (by decide) ?_
        refine J_aload_n hC (j := 0) dX4_foresee_84 rfl rfl ?_
        refine J_get hC (by decide) ent_rt rfl in4 1 (by decide) rfl qw_183 rfl rfl dX4_foresee_85 ?_
        refine J_iconst (v := 2) hC dX4_foresee_88 (by decide) ?_
        refine J_callV hC (ct_rw m5u1 m5u1 (ct_X1_wheelsBeing l G (mk5 D (days (cpD E D) (ix p0)) g S A) o 1 (by decide) (days (cpD E D) (ix p0)) 2)) mw_X1_wheelsBeing qw_193 (nl_da (by decide)) (ent_da (by decide)) rfl rfl rfl (Nat.le_of_ble_eq_true rfl) ⟨Nat.le_of_ble_eq_true rfl, Nat.le_of_ble_eq_true rfl⟩ ⟨Nat.le_of_ble_eq_true rfl, Nat.le_of_ble_eq_true rfl⟩ dX4_foresee_89 ?_
        refine J_widen (k := 1) (n := 6) (by decide) (by decide) ?_
        refine JX_end hC (by simp [kForesee, (show wthn 0 0 2 = true by decide), (show wthn 1 0 2 = true by decide), h4, h23, c59_0]) ?_
        exact J_iret hC hr (by simp [vForesee, h4, h23, c59_0]) rfl rfl dX4_foresee_92
      by_cases c59_1 : p1 = 1
      · refine J_lookup (off := 34) (tgt := 93) hC dX4_foresee_59 (by decide) (by rw [c59_1]; decide) (by decide) ?_
        refine J_aload_n hC (j := 0) dX4_foresee_93 rfl rfl ?_
        refine J_get hC (by decide) ent_rt rfl in4 1 (by decide) rfl qw_183 rfl rfl dX4_foresee_94 ?_
        refine J_callV hC (ct_rw m5u1 m5u1 (ct_X1_mouldyWheels l G (mk5 D (days (cpD E D) (ix p0)) g S A) o 1 (by decide) (days (cpD E D) (ix p0)))) mw_X1_mouldyWheels qw_642 (nl_da (by decide)) (ent_da (by decide)) rfl rfl rfl (Nat.le_of_ble_eq_true rfl) ⟨Nat.le_of_ble_eq_true rfl, Nat.le_of_ble_eq_true rfl⟩ ⟨Nat.le_of_ble_eq_true rfl, Nat.le_of_ble_eq_true rfl⟩ dX4_foresee_97 ?_
        refine J_widen (k := 1) (n := 6) (by decide) (by decide) ?_
        refine JX_end hC (by simp [kForesee, (show wthn 0 0 2 = true by decide), (show wthn 1 0 2 = true by decide), h4, h23, c59_0, c59_1]) ?_
        exact J_iret hC hr (by simp [vForesee, h4, h23, c59_0, c59_1]) rfl rfl dX4_foresee_100
      refine J_lookup (off := 42) (tgt := 101) hC dX4_foresee_59 (by decide) (by rw [lv_osw c59_0 (by decide), lv_osw c59_1 (by decide)]; rfl) (by decide) ?_
      refine J_aload_n hC (j := 0) dX4_foresee_101 rfl rfl ?_
      refine J_get hC (by decide) ent_rt rfl in4 1 (by decide) rfl qw_183 rfl rfl dX4_foresee_102 ?_
      refine J_callV hC (ct_rw m5u1 m5u1 (ct_X1_worthOfAllLying l G (mk5 D (days (cpD E D) (ix p0)) g S A) o 1 (by decide) (days (cpD E D) (ix p0)))) mw_X1_worthOfAllLying qw_201 (nl_da (by decide)) (ent_da (by decide)) rfl rfl rfl (Nat.le_of_ble_eq_true rfl) ⟨Nat.le_of_ble_eq_true rfl, Nat.le_of_ble_eq_true rfl⟩ ⟨Nat.le_of_ble_eq_true rfl, Nat.le_of_ble_eq_true rfl⟩ dX4_foresee_105 ?_
      refine J_widen (k := 1) (n := 6) (by decide) (by decide) ?_
      refine JX_end hC (by simp [kForesee, (show wthn 0 0 2 = true by decide), (show wthn 1 0 2 = true by decide), h4, h23, c59_0, c59_1]) ?_
      exact J_iret hC hr (by simp [vForesee, h4, h23, c59_0, c59_1]) rfl rfl dX4_foresee_108
    · refine J_tv (congrArg Value.int (bI_neg h23)) ?_
      refine J_if_ne (tgt := 39) hC dX4_foresee_26 (by decide) (fun h => absurd h (by decide)) (fun _ => ?_)
      exact J_throw hC hlt hex tw_IndexOutOfBoundsException (List.mem_of_getElem? (i := 19) rfl) 1 rfl (by show _ = (2 : Int32); simp [kForesee, (show wthn 0 0 2 = true by decide), (show wthn 1 0 2 = true by decide), h4, h23]) dX4_foresee_29 dX4_foresee_32 dX4_foresee_33 dX4_foresee_35 dX4_foresee_38 ⟨Nat.le_of_ble_eq_true rfl, Nat.le_of_ble_eq_true rfl, Nat.le_of_ble_eq_true rfl, Nat.le_of_ble_eq_true rfl⟩ ⟨Nat.le_of_ble_eq_true rfl, Nat.le_of_ble_eq_true rfl⟩
  · refine J_tv (congrArg Value.int (bI_neg h4)) ?_
    refine J_if_ne (tgt := 20) hC dX4_foresee_7 (by decide) (fun h => absurd h (by decide)) (fun _ => ?_)
    exact J_throw hC hlt hex tw_IllegalArgumentException (List.mem_of_getElem? (i := 18) rfl) 0 rfl (by show _ = (1 : Int32); simp [kForesee, (show wthn 0 0 2 = true by decide), (show wthn 1 0 2 = true by decide), h4]) dX4_foresee_10 dX4_foresee_13 dX4_foresee_14 dX4_foresee_16 dX4_foresee_19 ⟨Nat.le_of_ble_eq_true rfl, Nat.le_of_ble_eq_true rfl, Nat.le_of_ble_eq_true rfl, Nat.le_of_ble_eq_true rfl⟩ ⟨Nat.le_of_ble_eq_true rfl, Nat.le_of_ble_eq_true rfl⟩
set_option maxHeartbeats 4000000 in
set_option maxRecDepth 100000 in
theorem xt_X4_best (l : Launch) (hlt : l.stackTraces = false) (G : GG) (D E g S A : DD) (o : OO) (p0 : Int32) : XT l yX4_best cX4_best 6 (some .int) 6 116 1 6 G [.ref (gA G 88), .int p0] (mk5 D E g S A) o (kBest D p0) ["java/lang/IndexOutOfBoundsException"] (some (.int (vBest D E p0))) (mk5 D (eBest D E p0) g S A) o := by
  refine XT_of (own := RX4) (lv := [(0, .ref (gA G 88)), (1, .int p0)]) (by decide) rfl (Nat.le_of_ble_eq_true rfl) rfl ?_
  intro p e s m args below meth c hr hex hC
  refine J_aload_n hC (j := 0) dX4_best_0 rfl rfl ?_
  refine J_get hC (by decide) ent_rt rfl in4 0 (by decide) rfl qw_182 rfl rfl dX4_best_1 ?_
  refine J_iload_n hC (j := 1) dX4_best_4 rfl rfl ?_
  refine J_callV hC (ct_rw m5u0 m5u0 (ct_X1_wheelOf l G (mk5 D E g S A) o 0 (by decide) D p0)) mw_X1_wheelOf qw_254 (nl_da (by decide)) (ent_da (by decide)) rfl rfl rfl (Nat.le_of_ble_eq_true rfl) ⟨Nat.le_of_ble_eq_true rfl, Nat.le_of_ble_eq_true rfl⟩ ⟨Nat.le_of_ble_eq_true rfl, Nat.le_of_ble_eq_true rfl⟩ dX4_best_5 ?_
  by_cases h5 : inW D p0 = true
  · refine J_tv (whV_p h5) ?_
    refine J_ifnonnull (tgt := 21) hC dX4_best_8 (by decide) ?_
    refine J_aload_n hC (j := 0) dX4_best_21 rfl rfl ?_
    refine J_get hC (by decide) ent_rt rfl in4 0 (by decide) rfl qw_182 rfl rfl dX4_best_22 ?_
    refine J_iload_n hC (j := 1) dX4_best_25 rfl rfl ?_
    refine J_callV hC (ct_rw m5u0 m5u0 (ct_X1_lyingWheel l G (mk5 D E g S A) o 0 (by decide) D p0)) mw_X1_lyingWheel qw_444 (nl_da (by decide)) (ent_da (by decide)) rfl rfl rfl (Nat.le_of_ble_eq_true rfl) ⟨Nat.le_of_ble_eq_true rfl, Nat.le_of_ble_eq_true rfl⟩ ⟨Nat.le_of_ble_eq_true rfl, Nat.le_of_ble_eq_true rfl⟩ dX4_best_26 ?_
    by_cases h26 : lies D p0 = true
    · refine J_tv (lyV_p h26) ?_
      refine J_ifnonnull (tgt := 34) hC dX4_best_29 (by decide) ?_
      refine J_aload_n hC (j := 0) dX4_best_34 rfl rfl ?_
      refine J_get hC (by decide) ent_rt rfl in4 1 (by decide) rfl qw_183 rfl rfl dX4_best_35 ?_
      refine J_aload_n hC (j := 0) dX4_best_38 rfl rfl ?_
      refine J_get hC (by decide) ent_rt rfl in4 0 (by decide) rfl qw_182 rfl rfl dX4_best_39 ?_
      refine J_callVv hC (ct_rw (X4 := (mk5 D (cpD E D) g S A)) m5u1 m5u1 (ct_X1_copyFrom l G (mk5 D E g S A) o E)) mw_X1_copyFrom qw_616 (nl_da (by decide)) (ent_da (by decide)) rfl rfl rfl (Nat.le_of_ble_eq_true rfl) ⟨Nat.le_of_ble_eq_true rfl, Nat.le_of_ble_eq_true rfl⟩ ⟨Nat.le_of_ble_eq_true rfl, Nat.le_of_ble_eq_true rfl⟩ dX4_best_42 ?_
      refine J_iconst (v := 0) hC dX4_best_45 (by decide) ?_
      refine J_istore_n (lv' := [(2, .int 0), (0, .ref (gA G 88)), (1, .int p0)]) hC dX4_best_46 rfl (by decide) rfl ?_
      refine J_aload_n hC (j := 1) dX4_best_47 rfl rfl ?_
      refine J_get hC (by decide) ent_rt rfl in4 1 (by decide) rfl qw_183 rfl rfl dX4_best_48 ?_
      refine J_iload_n hC (j := 2) dX4_best_51 rfl rfl ?_
      refine J_callV hC (ct_rw m5u1 m5u1 (ct_X1_worthOfLying l G (mk5 D (cpD E D) g S A) o 1 (by decide) (cpD E D) p0)) mw_X1_worthOfLying qw_633 (nl_da (by decide)) (ent_da (by decide)) rfl rfl rfl (Nat.le_of_ble_eq_true rfl) ⟨Nat.le_of_ble_eq_true rfl, Nat.le_of_ble_eq_true rfl⟩ ⟨Nat.le_of_ble_eq_true rfl, Nat.le_of_ble_eq_true rfl⟩ dX4_best_52 ?_
      refine J_istore_n (lv' := [(3, .int (worthL (cpD E D) p0)), (2, .int 0), (0, .ref (gA G 88)), (1, .int p0)]) hC dX4_best_55 rfl (by decide) rfl ?_
      refine J_iconst (v := 1) hC dX4_best_56 (by decide) ?_
      refine J_istore (lv' := [(4, .int 1), (3, .int (worthL (cpD E D) p0)), (2, .int 0), (0, .ref (gA G 88)), (1, .int p0)]) hC dX4_best_57 (by decide) rfl ?_
      have L59 : ∀ n i : Nat, i + n = 60 → Jd p l e ({ frames := 6, cells := 1, slots := 6, locals := 116 }) s m args below meth c (vx_MQ below (XC0 G (kBest D p0) (some (.int (vBest D E p0))) (mk5 D (eBest D E p0) g S A) o) (XQ G (kBest D p0) ["java/lang/IndexOutOfBoundsException"] (mk5 D E g S A) o) args s 1 6 (gB G)) G 6 0 0 (mk5 D (bestE (cpD E D) i) g S A) o 59 [(0, .ref (gA G 88)), (1, .int p0), (2, .int (bestL (cpD E D) p0 i).2), (3, .int (bestL (cpD E D) p0 i).1), (4, .int (nI (i + 1)))] [] := by
        intro n
        induction n with
        | zero =>
          intro i hn 
          obtain rfl : i = 60 := by omega
          refine J_iload hC (j := 4) dX4_best_59 rfl ?_
          refine J_bipush (v := 60) hC dX4_best_61 (by decide) ?_
          refine J_icmp_gt (tgt := 102) hC dX4_best_63 (by decide) (fun c63 => ?_) (fun c63 => absurd c63 (not_not_intro (lt_nI (K := 60) rfl (by omega) (by omega))))
          refine J_iload_n hC (j := 2) dX4_best_102 rfl rfl ?_
          refine J_widen (k := 1) (n := 6) (by decide) (by decide) ?_
          refine JX_end hC (by simp [kBest, h5, h26]) ?_
          exact J_iret hC hr (by simp [vBest, eBest, h5, h26]) (by simp [vBest, eBest, h5, h26]) rfl dX4_best_103
        | succ n ih =>
          intro i hn 
          refine J_iload hC (j := 4) dX4_best_59 rfl ?_
          refine J_bipush (v := 60) hC dX4_best_61 (by decide) ?_
          refine J_icmp_gt (tgt := 102) hC dX4_best_63 (by decide) (fun c63 => absurd c63 (nlt_nI (K := 60) rfl (by omega) (by omega))) (fun c63 => ?_)
          refine J_aload_n hC (j := 0) dX4_best_66 rfl rfl ?_
          refine J_get hC (by decide) ent_rt rfl in4 1 (by decide) rfl qw_183 rfl rfl dX4_best_67 ?_
          refine J_iconst (v := 1) hC dX4_best_70 (by decide) ?_
          refine J_callVv hC (ct_rw m5u1 m5u1 (ct_X1_letDaysGoBy l G (mk5 D (bestE (cpD E D) i) g S A) o 1 (by decide) (bestE (cpD E D) i) 1)) mw_X1_letDaysGoBy qw_554 (nl_da (by decide)) (ent_da (by decide)) rfl rfl rfl (Nat.le_of_ble_eq_true rfl) ⟨Nat.le_of_ble_eq_true rfl, Nat.le_of_ble_eq_true rfl⟩ ⟨Nat.le_of_ble_eq_true rfl, Nat.le_of_ble_eq_true rfl⟩ dX4_best_71 ?_
          refine J_aload_n hC (j := 0) dX4_best_74 rfl rfl ?_
          refine J_get hC (by decide) ent_rt rfl in4 1 (by decide) rfl qw_183 rfl rfl dX4_best_75 ?_
          refine J_iload_n hC (j := 1) dX4_best_78 rfl rfl ?_
          refine J_callV hC (ct_rw m5u1 m5u1 (ct_X1_worthOfLying l G (mk5 D (days (bestE (cpD E D) i) (ix 1)) g S A) o 1 (by decide) (days (bestE (cpD E D) i) (ix 1)) p0)) mw_X1_worthOfLying qw_633 (nl_da (by decide)) (ent_da (by decide)) rfl rfl rfl (Nat.le_of_ble_eq_true rfl) ⟨Nat.le_of_ble_eq_true rfl, Nat.le_of_ble_eq_true rfl⟩ ⟨Nat.le_of_ble_eq_true rfl, Nat.le_of_ble_eq_true rfl⟩ dX4_best_79 ?_
          refine J_istore (lv' := [(5, .int (worthL (days (bestE (cpD E D) i) (ix 1)) p0)), (0, .ref (gA G 88)), (1, .int p0), (2, .int (bestL (cpD E D) p0 i).2), (3, .int (bestL (cpD E D) p0 i).1), (4, .int (nI (i + 1)))]) hC dX4_best_82 (by decide) rfl ?_
          refine J_iload hC (j := 0) dX4_best_84 rfl ?_
          refine J_iload_n hC (j := 4) dX4_best_86 rfl rfl ?_
          refine J_icmp_le (tgt := 96) hC dX4_best_87 (by decide) (fun c87 => ?_) (fun c87 => ?_)
          · refine J_iinc (j := 5) (v := ((nI (i + 1)) + 1)) (lv' := [(4, .int ((nI (i + 1)) + 1)), (5, .int (worthL (days (bestE (cpD E D) i) (ix 1)) p0)), (0, .ref (gA G 88)), (1, .int p0), (2, .int (bestL (cpD E D) p0 i).2), (3, .int (bestL (cpD E D) p0 i).1)]) hC dX4_best_96 rfl rfl (by decide) rfl ?_
            refine J_goto (tgt := 59) hC dX4_best_99 (by decide) ?_
            refine J_lv [2, 3, 4, 5, 0] (lv' := [(0, .ref (gA G 88)), (1, .int p0), (2, .int (bestL (cpD E D) p0 i).2), (3, .int (bestL (cpD E D) p0 i).1), (4, .int ((nI (i + 1)) + 1))]) rfl ?_
            exact J_cast rfl (by rw [bestL_s]; simp [nI_succ, bestW, bestE_s, c87]) rfl (ih (i + 1) (by omega) )
          · refine J_iload hC (j := 0) dX4_best_90 rfl ?_
            refine J_istore_n (lv' := [(3, .int (worthL (days (bestE (cpD E D) i) (ix 1)) p0)), (5, .int (worthL (days (bestE (cpD E D) i) (ix 1)) p0)), (0, .ref (gA G 88)), (1, .int p0), (2, .int (bestL (cpD E D) p0 i).2), (4, .int (nI (i + 1)))]) hC dX4_best_92 rfl (by decide) rfl ?_
            refine J_iload hC (j := 5) dX4_best_93 rfl ?_
            refine J_istore_n (lv' := [(2, .int (nI (i + 1))), (3, .int (worthL (days (bestE (cpD E D) i) (ix 1)) p0)), (5, .int (worthL (days (bestE (cpD E D) i) (ix 1)) p0)), (0, .ref (gA G 88)), (1, .int p0), (4, .int (nI (i + 1)))]) hC dX4_best_95 rfl (by decide) rfl ?_
            refine J_iinc (j := 5) (v := ((nI (i + 1)) + 1)) (lv' := [(4, .int ((nI (i + 1)) + 1)), (2, .int (nI (i + 1))), (3, .int (worthL (days (bestE (cpD E D) i) (ix 1)) p0)), (5, .int (worthL (days (bestE (cpD E D) i) (ix 1)) p0)), (0, .ref (gA G 88)), (1, .int p0)]) hC dX4_best_96 rfl rfl (by decide) rfl ?_
            refine J_goto (tgt := 59) hC dX4_best_99 (by decide) ?_
            refine J_lv [4, 5, 1, 2, 0] (lv' := [(0, .ref (gA G 88)), (1, .int p0), (2, .int (nI (i + 1))), (3, .int (worthL (days (bestE (cpD E D) i) (ix 1)) p0)), (4, .int ((nI (i + 1)) + 1))]) rfl ?_
            exact J_cast rfl (by rw [bestL_s]; simp [nI_succ, bestW, bestE_s, c87]) rfl (ih (i + 1) (by omega) )
      refine J_lv [3, 4, 2, 1, 0] (lv' := [(0, .ref (gA G 88)), (1, .int p0), (2, .int 0), (3, .int (worthL (cpD E D) p0)), (4, .int 1)]) rfl ?_
      exact J_cast rfl (by first | rfl | simp [bestL, rep, nI]) rfl (L59 60 0 (by omega) )
    · refine J_tv (lyV_n h26) ?_
      refine J_ifnonnullN hC dX4_best_29 ?_
      refine J_iconst (v := (-1)) hC dX4_best_32 (by decide) ?_
      refine J_widen (k := 1) (n := 6) (by decide) (by decide) ?_
      refine JX_end hC (by simp [kBest, h5, h26]) ?_
      exact J_iret hC hr (by simp [vBest, eBest, h5, h26]) (by simp [vBest, eBest, h5, h26]) rfl dX4_best_33
  · refine J_tv (whV_n h5) ?_
    refine J_ifnonnullN hC dX4_best_8 ?_
    exact J_throw hC hlt hex tw_IndexOutOfBoundsException (List.mem_of_getElem? (i := 7) rfl) 0 rfl (by show _ = (1 : Int32); simp [kBest, h5]) dX4_best_11 dX4_best_14 dX4_best_15 dX4_best_17 dX4_best_20 ⟨Nat.le_of_ble_eq_true rfl, Nat.le_of_ble_eq_true rfl, Nat.le_of_ble_eq_true rfl, Nat.le_of_ble_eq_true rfl⟩ ⟨Nat.le_of_ble_eq_true rfl, Nat.le_of_ble_eq_true rfl⟩
set_option maxHeartbeats 4000000 in
set_option maxRecDepth 100000 in
theorem xt_X4_advise (l : Launch) (hlt : l.stackTraces = false) (G : GG) (D E g S A : DD) (o : OO) (p0 p1 : Int32) : XT l yX4_advise cX4_advise 7 (some .int) 6 142 1 6 G [.ref (gA G 88), .int p0, .int p1] (mk5 D E g S A) o (kAdvise D p0 p1) ["java/lang/IndexOutOfBoundsException", "java/lang/IllegalArgumentException"] (some (.int (advL D E p0 p1 4).2.2)) (mk5 D (advL D E p0 p1 4).1 g S A) o := by
  refine XT_of (own := RX4) (lv := [(0, .ref (gA G 88)), (1, .int p0), (2, .int p1)]) (by decide) rfl (Nat.le_of_ble_eq_true rfl) rfl ?_
  intro p e s m args below meth c hr hex hC
  refine J_aload_n hC (j := 0) dX4_advise_0 rfl rfl ?_
  refine J_get hC (by decide) ent_rt rfl in4 0 (by decide) rfl qw_182 rfl rfl dX4_advise_1 ?_
  refine J_iload_n hC (j := 1) dX4_advise_4 rfl rfl ?_
  refine J_callV hC (ct_rw m5u0 m5u0 (ct_X1_wheelOf l G (mk5 D E g S A) o 0 (by decide) D p0)) mw_X1_wheelOf qw_254 (nl_da (by decide)) (ent_da (by decide)) rfl rfl rfl (Nat.le_of_ble_eq_true rfl) ⟨Nat.le_of_ble_eq_true rfl, Nat.le_of_ble_eq_true rfl⟩ ⟨Nat.le_of_ble_eq_true rfl, Nat.le_of_ble_eq_true rfl⟩ dX4_advise_5 ?_
  by_cases h5 : inW D p0 = true
  · refine J_tv (whV_p h5) ?_
    refine J_ifnonnull (tgt := 21) hC dX4_advise_8 (by decide) ?_
    refine J_iload_n hC (j := 2) dX4_advise_21 rfl rfl ?_
    refine J_iconst (v := 1) hC dX4_advise_22 (by decide) ?_
    refine J_bipush (v := 40) hC dX4_advise_23 (by decide) ?_
    refine J_callS hC (ct_X4_isWithin l G (mk5 D E g S A) o p1 1 40) ms_X4_isWithin qw_292 rfl rfl (Nat.le_of_ble_eq_true rfl) ⟨Nat.le_of_ble_eq_true rfl, Nat.le_of_ble_eq_true rfl⟩ ⟨Nat.le_of_ble_eq_true rfl, Nat.le_of_ble_eq_true rfl⟩ dX4_advise_25 ?_
    by_cases h25 : wthn p1 1 40 = true
    · refine J_tv (congrArg Value.int (bI_pos h25)) ?_
      refine J_if_ne (tgt := 41) hC dX4_advise_28 (by decide) (fun _ => ?_) (fun h => absurd h (by decide))
      refine J_iconst (v := (-1)) hC dX4_advise_41 (by decide) ?_
      refine J_istore_n (lv' := [(3, .int (-1)), (0, .ref (gA G 88)), (1, .int p0), (2, .int p1)]) hC dX4_advise_42 rfl (by decide) rfl ?_
      refine J_iconst (v := (-1)) hC dX4_advise_43 (by decide) ?_
      refine J_istore (lv' := [(4, .int (-1)), (3, .int (-1)), (0, .ref (gA G 88)), (1, .int p0), (2, .int p1)]) hC dX4_advise_44 (by decide) rfl ?_
      refine J_iconst (v := 0) hC dX4_advise_46 (by decide) ?_
      refine J_istore (lv' := [(5, .int 0), (4, .int (-1)), (3, .int (-1)), (0, .ref (gA G 88)), (1, .int p0), (2, .int p1)]) hC dX4_advise_47 (by decide) rfl ?_
      have L49 : ∀ n i : Nat, i + n = 4 → Jd p l e ({ frames := 6, cells := 1, slots := 6, locals := 142 }) s m args below meth c (vx_MQ below (XC0 G (kAdvise D p0 p1) (some (.int (advL D E p0 p1 4).2.2)) (mk5 D (advL D E p0 p1 4).1 g S A) o) (XQ G (kAdvise D p0 p1) ["java/lang/IndexOutOfBoundsException", "java/lang/IllegalArgumentException"] (mk5 D E g S A) o) args s 1 6 (gB G)) G 7 0 0 (mk5 D (advL D E p0 p1 i).1 g S A) o 49 [(0, .ref (gA G 88)), (1, .int p0), (2, .int p1), (3, .int (advL D E p0 p1 i).2.2), (4, .int (advL D E p0 p1 i).2.1), (5, .int (nI i))] [] := by
        intro n
        induction n with
        | zero =>
          intro i hn 
          obtain rfl : i = 4 := by omega
          refine J_iload hC (j := 5) dX4_advise_49 rfl ?_
          refine J_iconst (v := 4) hC dX4_advise_51 (by decide) ?_
          refine J_icmp_ge (tgt := 85) hC dX4_advise_52 (by decide) (fun c52 => ?_) (fun c52 => absurd c52 (not_not_intro (le_nI (K := 4) rfl (by omega) (by omega))))
          refine J_iload_n hC (j := 3) dX4_advise_85 rfl rfl ?_
          refine J_widen (k := 1) (n := 6) (by decide) (by decide) ?_
          refine JX_end hC (by simp [kAdvise, h5, h25]) ?_
          exact J_iret hC hr rfl rfl rfl dX4_advise_86
        | succ n ih =>
          intro i hn 
          refine J_iload hC (j := 5) dX4_advise_49 rfl ?_
          refine J_iconst (v := 4) hC dX4_advise_51 (by decide) ?_
          refine J_icmp_ge (tgt := 85) hC dX4_advise_52 (by decide) (fun c52 => absurd c52 (nle_nI (K := 4) rfl (by omega) (by omega))) (fun c52 => ?_)
          refine J_aload_n hC (j := 0) dX4_advise_55 rfl rfl ?_
          refine J_iload_n hC (j := 1) dX4_advise_56 rfl rfl ?_
          refine J_iload hC (j := 5) dX4_advise_57 rfl ?_
          refine J_iload_n hC (j := 2) dX4_advise_59 rfl rfl ?_
          refine J_callV hC (ct_X4_worthFromCellar l G D (advL D E p0 p1 i).1 g S A o p0 (nI i) p1) mw_X4_worthFromCellar qw_651 (by decide) ent_rt rfl rfl rfl (Nat.le_of_ble_eq_true rfl) ⟨Nat.le_of_ble_eq_true rfl, Nat.le_of_ble_eq_true rfl⟩ ⟨Nat.le_of_ble_eq_true rfl, Nat.le_of_ble_eq_true rfl⟩ dX4_advise_60 ?_
          refine J_istore (lv' := [(6, .int (wfcV D (advL D E p0 p1 i).1 p0 (nI i) p1)), (0, .ref (gA G 88)), (1, .int p0), (2, .int p1), (3, .int (advL D E p0 p1 i).2.2), (4, .int (advL D E p0 p1 i).2.1), (5, .int (nI i))]) hC dX4_advise_63 (by decide) rfl ?_
          refine J_iload hC (j := 0) dX4_advise_65 rfl ?_
          refine J_iload hC (j := 5) dX4_advise_67 rfl ?_
          refine J_icmp_le (tgt := 79) hC dX4_advise_69 (by decide) (fun c69 => ?_) (fun c69 => ?_)
          · refine J_iinc (j := 6) (v := ((nI i) + 1)) (lv' := [(5, .int ((nI i) + 1)), (6, .int (wfcV D (advL D E p0 p1 i).1 p0 (nI i) p1)), (0, .ref (gA G 88)), (1, .int p0), (2, .int p1), (3, .int (advL D E p0 p1 i).2.2), (4, .int (advL D E p0 p1 i).2.1)]) hC dX4_advise_79 rfl rfl (by decide) rfl ?_
            refine J_goto (tgt := 49) hC dX4_advise_82 (by decide) ?_
            refine J_lv [2, 3, 4, 5, 6, 0] (lv' := [(0, .ref (gA G 88)), (1, .int p0), (2, .int p1), (3, .int (advL D E p0 p1 i).2.2), (4, .int (advL D E p0 p1 i).2.1), (5, .int ((nI i) + 1))]) rfl ?_
            exact J_cast (by rw [advL_s]; simp [advF, c69]) (by rw [advL_s]; simp [nI_succ, advF, c69]) rfl (ih (i + 1) (by omega) )
          · refine J_iload hC (j := 0) dX4_advise_72 rfl ?_
            refine J_istore (lv' := [(4, .int (wfcV D (advL D E p0 p1 i).1 p0 (nI i) p1)), (6, .int (wfcV D (advL D E p0 p1 i).1 p0 (nI i) p1)), (0, .ref (gA G 88)), (1, .int p0), (2, .int p1), (3, .int (advL D E p0 p1 i).2.2), (5, .int (nI i))]) hC dX4_advise_74 (by decide) rfl ?_
            refine J_iload hC (j := 6) dX4_advise_76 rfl ?_
            refine J_istore_n (lv' := [(3, .int (nI i)), (4, .int (wfcV D (advL D E p0 p1 i).1 p0 (nI i) p1)), (6, .int (wfcV D (advL D E p0 p1 i).1 p0 (nI i) p1)), (0, .ref (gA G 88)), (1, .int p0), (2, .int p1), (5, .int (nI i))]) hC dX4_advise_78 rfl (by decide) rfl ?_
            refine J_iinc (j := 6) (v := ((nI i) + 1)) (lv' := [(5, .int ((nI i) + 1)), (3, .int (nI i)), (4, .int (wfcV D (advL D E p0 p1 i).1 p0 (nI i) p1)), (6, .int (wfcV D (advL D E p0 p1 i).1 p0 (nI i) p1)), (0, .ref (gA G 88)), (1, .int p0), (2, .int p1)]) hC dX4_advise_79 rfl rfl (by decide) rfl ?_
            refine J_goto (tgt := 49) hC dX4_advise_82 (by decide) ?_
            refine J_lv [4, 5, 6, 1, 2, 0] (lv' := [(0, .ref (gA G 88)), (1, .int p0), (2, .int p1), (3, .int (nI i)), (4, .int (wfcV D (advL D E p0 p1 i).1 p0 (nI i) p1)), (5, .int ((nI i) + 1))]) rfl ?_
            exact J_cast (by rw [advL_s]; simp [advF, c69]) (by rw [advL_s]; simp [nI_succ, advF, c69]) rfl (ih (i + 1) (by omega) )
      refine J_lv [3, 4, 5, 2, 1, 0] (lv' := [(0, .ref (gA G 88)), (1, .int p0), (2, .int p1), (3, .int (-1)), (4, .int (-1)), (5, .int 0)]) rfl ?_
      exact J_cast rfl (by first | rfl | simp [advL, rep, nI_0]) rfl (L49 4 0 (by omega) )
    · refine J_tv (congrArg Value.int (bI_neg h25)) ?_
      refine J_if_ne (tgt := 41) hC dX4_advise_28 (by decide) (fun h => absurd h (by decide)) (fun _ => ?_)
      exact J_throw hC hlt hex tw_IllegalArgumentException (List.mem_of_getElem? (i := 20) rfl) 1 rfl (by show _ = (2 : Int32); simp [kAdvise, h5, h25]) dX4_advise_31 dX4_advise_34 dX4_advise_35 dX4_advise_37 dX4_advise_40 ⟨Nat.le_of_ble_eq_true rfl, Nat.le_of_ble_eq_true rfl, Nat.le_of_ble_eq_true rfl, Nat.le_of_ble_eq_true rfl⟩ ⟨Nat.le_of_ble_eq_true rfl, Nat.le_of_ble_eq_true rfl⟩
  · refine J_tv (whV_n h5) ?_
    refine J_ifnonnullN hC dX4_advise_8 ?_
    exact J_throw hC hlt hex tw_IndexOutOfBoundsException (List.mem_of_getElem? (i := 7) rfl) 0 rfl (by show _ = (1 : Int32); simp [kAdvise, h5]) dX4_advise_11 dX4_advise_14 dX4_advise_15 dX4_advise_17 dX4_advise_20 ⟨Nat.le_of_ble_eq_true rfl, Nat.le_of_ble_eq_true rfl, Nat.le_of_ble_eq_true rfl, Nat.le_of_ble_eq_true rfl⟩ ⟨Nat.le_of_ble_eq_true rfl, Nat.le_of_ble_eq_true rfl⟩
