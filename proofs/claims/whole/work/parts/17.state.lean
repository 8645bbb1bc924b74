set_option maxHeartbeats 4000000 in
set_option maxRecDepth 100000 in
theorem ct_X6_isIn (l : Launch) (G : GG) (X : XX) (o : OO) (p0 : Int32) (p1 : Int32) (p2 : Int32) : CT l yX6_isIn cX6_isIn 3 (some .boolean) 0 0 0 0 G [.int p0, .int p1, .int p2] X o (some (.int (bI (wthn p0 p1 p2 = true)))) X o := by
  refine CT_of (own := RX6) (lv := [(0, .int p0), (1, .int p1), (2, .int p2)]) (by decide) rfl (Nat.le_of_ble_eq_true rfl) rfl ?_
  intro p e s m args below meth c hr hC
  refine J_iload_n hC (j := 0) dX6_isIn_0 rfl rfl ?_
  refine J_iload_n hC (j := 1) dX6_isIn_1 rfl rfl ?_
  refine J_icmp_lt (tgt := 14) hC dX6_isIn_2 (by decide) (fun c2 => ?_) (fun c2 => ?_)
  · refine J_iconst (v := 0) hC dX6_isIn_14 (by decide) ?_
    exact J_zret hC hr (by decide) (by simp [wthn, c2]) rfl rfl dX6_isIn_15
  · refine J_iload_n hC (j := 0) dX6_isIn_5 rfl rfl ?_
    refine J_iload_n hC (j := 2) dX6_isIn_6 rfl rfl ?_
    refine J_icmp_gt (tgt := 14) hC dX6_isIn_7 (by decide) (fun c7 => ?_) (fun c7 => ?_)
    · refine J_iconst (v := 0) hC dX6_isIn_14 (by decide) ?_
      exact J_zret hC hr (by decide) (by simp [wthn, c2, c7]) rfl rfl dX6_isIn_15
    · refine J_iconst (v := 1) hC dX6_isIn_10 (by decide) ?_
      refine J_goto (tgt := 15) hC dX6_isIn_11 (by decide) ?_
      exact J_zret hC hr (by decide) (by simp [wthn, c2, c7]) rfl rfl dX6_isIn_15
set_option maxHeartbeats 4000000 in
set_option maxRecDepth 100000 in
theorem ct_X5_worth (l : Launch) (G : GG) (X : XX) (o : OO) (d : Nat) (hd : d = 3 ∨ d = 4) (D : DD) (p0 : Int32) (hw : vp_in p0 24) : CT l yX5_worth cX5_worth 3 (some .int) 1 22 0 0 G [.ref (aX G d 0), .int p0] (va_up X d D) o (some (.int (sWorth D p0))) (va_up X d D) o := by
  refine CT_of (own := RX5) (lv := [(0, .ref (aX G d 0)), (1, .int p0)]) (by decide) rfl (Nat.le_of_ble_eq_true rfl) rfl ?_
  intro p e s m args below meth c hr hC
  refine J_aload_n hC (j := 0) dX5_worth_0 rfl rfl ?_
  refine J_get (v' := .ref (aX G d 4)) hC (nl_s0 hd) (ent_s0 hd) rfl in5 4 (by decide) rfl qw_679 rfl rfl dX5_worth_1 ?_
  refine J_iload_n hC (j := 1) dX5_worth_4 rfl rfl ?_
  refine J_iald (x := (D 4 (ix p0))) hC (nl_si4 hd) (ent_si4 hd) hw (iv rF) dX5_worth_5 ?_
  refine J_aload_n hC (j := 0) dX5_worth_6 rfl rfl ?_
  refine J_get (v' := .ref (aX G d 6)) hC (nl_s0 hd) (ent_s0 hd) rfl in5 6 (by decide) rfl qw_683 rfl rfl dX5_worth_7 ?_
  refine J_iload_n hC (j := 1) dX5_worth_10 rfl rfl ?_
  refine J_iald (x := (D 6 (ix p0))) hC (nl_si6 hd) (ent_si6 hd) hw (iv rF) dX5_worth_11 ?_
  refine J_bipush (v := 40) hC dX5_worth_12 (by decide) ?_
  refine J_isub hC dX5_worth_14 ?_
  refine J_abs hC qw_839 qw_218 qw_41 qw_219 ⟨Nat.le_of_ble_eq_true rfl, Nat.le_of_ble_eq_true rfl, Nat.le_of_ble_eq_true rfl, Nat.le_of_ble_eq_true rfl⟩ dX5_worth_15 ?_
  refine J_isub hC dX5_worth_18 ?_
  refine J_istore_n (lv' := [(2, .int ((D 4 (ix p0)) - (iabs ((D 6 (ix p0)) - 40)))), (0, .ref (aX G d 0)), (1, .int p0)]) hC dX5_worth_19 rfl (by decide) rfl ?_
  refine J_aload_n hC (j := 1) dX5_worth_20 rfl rfl ?_
  refine J_get (v' := .ref (aX G d 8)) hC (nl_s0 hd) (ent_s0 hd) rfl in5 8 (by decide) rfl qw_687 rfl rfl dX5_worth_21 ?_
  refine J_iload_n hC (j := 2) dX5_worth_24 rfl rfl ?_
  refine J_iald (x := (D 8 (ix p0))) hC (nl_si8 hd) (ent_si8 hd) hw (iv rF) dX5_worth_25 ?_
  refine J_iconst (v := 2) hC dX5_worth_26 (by decide) ?_
  refine J_icmp_ne (tgt := 48) hC dX5_worth_27 (by decide) (fun c27 => ?_) (fun c27 => ?_)
  · refine J_aload_n hC (j := 1) dX5_worth_48 rfl rfl ?_
    refine J_get (v' := .ref (aX G d 8)) hC (nl_s0 hd) (ent_s0 hd) rfl in5 8 (by decide) rfl qw_687 rfl rfl dX5_worth_49 ?_
    refine J_iload_n hC (j := 2) dX5_worth_52 rfl rfl ?_
    refine J_iald (x := (D 8 (ix p0))) hC (nl_si8 hd) (ent_si8 hd) hw (iv rF) dX5_worth_53 ?_
    refine J_iconst (v := 1) hC dX5_worth_54 (by decide) ?_
    refine J_icmp_ne (tgt := 61) hC dX5_worth_55 (by decide) (fun c55 => ?_) (fun c55 => ?_)
    · refine J_aload_n hC (j := 1) dX5_worth_61 rfl rfl ?_
      refine J_get (v' := .ref (aX G d 8)) hC (nl_s0 hd) (ent_s0 hd) rfl in5 8 (by decide) rfl qw_687 rfl rfl dX5_worth_62 ?_
      refine J_iload_n hC (j := 2) dX5_worth_65 rfl rfl ?_
      refine J_iald (x := (D 8 (ix p0))) hC (nl_si8 hd) (ent_si8 hd) hw (iv rF) dX5_worth_66 ?_
      refine J_iconst (v := 3) hC dX5_worth_67 (by decide) ?_
      refine J_icmp_ne (tgt := 74) hC dX5_worth_68 (by decide) (fun c68 => ?_) (fun c68 => ?_)
      · refine J_iconst (v := 0) hC dX5_worth_74 (by decide) ?_
        refine J_iload_n hC (j := 0) dX5_worth_75 rfl rfl ?_
        refine J_max hC qw_841 qw_221 qw_41 qw_222 ⟨Nat.le_of_ble_eq_true rfl, Nat.le_of_ble_eq_true rfl, Nat.le_of_ble_eq_true rfl, Nat.le_of_ble_eq_true rfl⟩ dX5_worth_76 ?_
        exact J_iret hC hr (by simp [sWorth, c27, c55, c68]) rfl rfl dX5_worth_79
      · refine J_iinc (j := 0) (v := (((D 4 (ix p0)) - (iabs ((D 6 (ix p0)) - 40))) + (-40))) (lv' := [(2, .int (((D 4 (ix p0)) - (iabs ((D 6 (ix p0)) - 40))) + (-40))), (0, .ref (aX G d 0)), (1, .int p0)]) hC dX5_worth_71 rfl rfl (by decide) rfl ?_
        refine J_iconst (v := 0) hC dX5_worth_74 (by decide) ?_
        refine J_iload_n hC (j := 0) dX5_worth_75 rfl rfl ?_
        refine J_max hC qw_841 qw_221 qw_41 qw_222 ⟨Nat.le_of_ble_eq_true rfl, Nat.le_of_ble_eq_true rfl, Nat.le_of_ble_eq_true rfl, Nat.le_of_ble_eq_true rfl⟩ dX5_worth_76 ?_
        exact J_iret hC hr (by simp [sWorth, c27, c55, c68]) rfl rfl dX5_worth_79
    · refine J_iinc (j := 0) (v := (((D 4 (ix p0)) - (iabs ((D 6 (ix p0)) - 40))) + 10)) (lv' := [(2, .int (((D 4 (ix p0)) - (iabs ((D 6 (ix p0)) - 40))) + 10)), (0, .ref (aX G d 0)), (1, .int p0)]) hC dX5_worth_58 rfl rfl (by decide) rfl ?_
      refine J_aload_n hC (j := 1) dX5_worth_61 rfl rfl ?_
      refine J_get (v' := .ref (aX G d 8)) hC (nl_s0 hd) (ent_s0 hd) rfl in5 8 (by decide) rfl qw_687 rfl rfl dX5_worth_62 ?_
      refine J_iload_n hC (j := 2) dX5_worth_65 rfl rfl ?_
      refine J_iald (x := (D 8 (ix p0))) hC (nl_si8 hd) (ent_si8 hd) hw (iv rF) dX5_worth_66 ?_
      refine J_iconst (v := 3) hC dX5_worth_67 (by decide) ?_
      refine J_icmp_ne (tgt := 74) hC dX5_worth_68 (by decide) (fun c68 => ?_) (fun c68 => absurd c68 (by rw [c55]; decide))
      refine J_iconst (v := 0) hC dX5_worth_74 (by decide) ?_
      refine J_iload_n hC (j := 0) dX5_worth_75 rfl rfl ?_
      refine J_max hC qw_841 qw_221 qw_41 qw_222 ⟨Nat.le_of_ble_eq_true rfl, Nat.le_of_ble_eq_true rfl, Nat.le_of_ble_eq_true rfl, Nat.le_of_ble_eq_true rfl⟩ dX5_worth_76 ?_
      exact J_iret hC hr (by simp [sWorth, c27, c55]) rfl rfl dX5_worth_79
  · refine J_aload_n hC (j := 1) dX5_worth_30 rfl rfl ?_
    refine J_get (v' := .ref (aX G d 9)) hC (nl_s0 hd) (ent_s0 hd) rfl in5 9 (by decide) rfl qw_689 rfl rfl dX5_worth_31 ?_
    refine J_iload_n hC (j := 2) dX5_worth_34 rfl rfl ?_
    refine J_iald (x := (D 9 (ix p0))) hC (nl_si9 hd) (ent_si9 hd) hw (iv rF) dX5_worth_35 ?_
    refine J_iconst (v := 3) hC dX5_worth_36 (by decide) ?_
    refine J_bipush (v := 6) hC dX5_worth_37 (by decide) ?_
    refine J_callSN hC (ct_X6_isIn l G (va_up X d D) o (D 9 (ix p0)) 3 6) ms_X6_isIn nqw_840 rfl rfl (Nat.le_of_ble_eq_true rfl) ⟨Nat.le_of_ble_eq_true rfl, Nat.le_of_ble_eq_true rfl⟩ ⟨Nat.le_of_ble_eq_true rfl, Nat.le_of_ble_eq_true rfl⟩ dX5_worth_39 ?_
    by_cases h39 : wthn (D 9 (ix p0)) 3 6 = true
    · refine J_tv (congrArg Value.int (bI_pos h39)) ?_
      refine J_if_eq (tgt := 48) hC dX5_worth_42 (by decide) (fun h => absurd h (by decide)) (fun _ => ?_)
      refine J_iinc (j := 0) (v := (((D 4 (ix p0)) - (iabs ((D 6 (ix p0)) - 40))) + 30)) (lv' := [(2, .int (((D 4 (ix p0)) - (iabs ((D 6 (ix p0)) - 40))) + 30)), (0, .ref (aX G d 0)), (1, .int p0)]) hC dX5_worth_45 rfl rfl (by decide) rfl ?_
      refine J_aload_n hC (j := 1) dX5_worth_48 rfl rfl ?_
      refine J_get (v' := .ref (aX G d 8)) hC (nl_s0 hd) (ent_s0 hd) rfl in5 8 (by decide) rfl qw_687 rfl rfl dX5_worth_49 ?_
      refine J_iload_n hC (j := 2) dX5_worth_52 rfl rfl ?_
      refine J_iald (x := (D 8 (ix p0))) hC (nl_si8 hd) (ent_si8 hd) hw (iv rF) dX5_worth_53 ?_
      refine J_iconst (v := 1) hC dX5_worth_54 (by decide) ?_
      refine J_icmp_ne (tgt := 61) hC dX5_worth_55 (by decide) (fun c55 => ?_) (fun c55 => absurd c55 (by rw [c27]; decide))
      refine J_aload_n hC (j := 1) dX5_worth_61 rfl rfl ?_
      refine J_get (v' := .ref (aX G d 8)) hC (nl_s0 hd) (ent_s0 hd) rfl in5 8 (by decide) rfl qw_687 rfl rfl dX5_worth_62 ?_
      refine J_iload_n hC (j := 2) dX5_worth_65 rfl rfl ?_
      refine J_iald (x := (D 8 (ix p0))) hC (nl_si8 hd) (ent_si8 hd) hw (iv rF) dX5_worth_66 ?_
      refine J_iconst (v := 3) hC dX5_worth_67 (by decide) ?_
      refine J_icmp_ne (tgt := 74) hC dX5_worth_68 (by decide) (fun c68 => ?_) (fun c68 => absurd c68 (by rw [c27]; decide))
      refine J_iconst (v := 0) hC dX5_worth_74 (by decide) ?_
      refine J_iload_n hC (j := 0) dX5_worth_75 rfl rfl ?_
      refine J_max hC qw_841 qw_221 qw_41 qw_222 ⟨Nat.le_of_ble_eq_true rfl, Nat.le_of_ble_eq_true rfl, Nat.le_of_ble_eq_true rfl, Nat.le_of_ble_eq_true rfl⟩ dX5_worth_76 ?_
      exact J_iret hC hr (by simp [sWorth, c27, h39]) rfl rfl dX5_worth_79
    · refine J_tv (congrArg Value.int (bI_neg h39)) ?_
      refine J_if_eq (tgt := 48) hC dX5_worth_42 (by decide) (fun _ => ?_) (fun h => absurd h (by decide))
      refine J_aload_n hC (j := 1) dX5_worth_48 rfl rfl ?_
      refine J_get (v' := .ref (aX G d 8)) hC (nl_s0 hd) (ent_s0 hd) rfl in5 8 (by decide) rfl qw_687 rfl rfl dX5_worth_49 ?_
      refine J_iload_n hC (j := 2) dX5_worth_52 rfl rfl ?_
      refine J_iald (x := (D 8 (ix p0))) hC (nl_si8 hd) (ent_si8 hd) hw (iv rF) dX5_worth_53 ?_
      refine J_iconst (v := 1) hC dX5_worth_54 (by decide) ?_
      refine J_icmp_ne (tgt := 61) hC dX5_worth_55 (by decide) (fun c55 => ?_) (fun c55 => absurd c55 (by rw [c27]; decide))
      refine J_aload_n hC (j := 1) dX5_worth_61 rfl rfl ?_
      refine J_get (v' := .ref (aX G d 8)) hC (nl_s0 hd) (ent_s0 hd) rfl in5 8 (by decide) rfl qw_687 rfl rfl dX5_worth_62 ?_
      refine J_iload_n hC (j := 2) dX5_worth_65 rfl rfl ?_
      refine J_iald (x := (D 8 (ix p0))) hC (nl_si8 hd) (ent_si8 hd) hw (iv rF) dX5_worth_66 ?_
      refine J_iconst (v := 3) hC dX5_worth_67 (by decide) ?_
      refine J_icmp_ne (tgt := 74) hC dX5_worth_68 (by decide) (fun c68 => ?_) (fun c68 => absurd c68 (by rw [c27]; decide))
      refine J_iconst (v := 0) hC dX5_worth_74 (by decide) ?_
      refine J_iload_n hC (j := 0) dX5_worth_75 rfl rfl ?_
      refine J_max hC qw_841 qw_221 qw_41 qw_222 ⟨Nat.le_of_ble_eq_true rfl, Nat.le_of_ble_eq_true rfl, Nat.le_of_ble_eq_true rfl, Nat.le_of_ble_eq_true rfl⟩ dX5_worth_76 ?_
      exact J_iret hC hr (by simp [sWorth, c27, h39]) rfl rfl dX5_worth_79
set_option maxHeartbeats 4000000 in
set_option maxRecDepth 100000 in
theorem ct_X5_canCatch (l : Launch) (G : GG) (X : XX) (o : OO) (d : Nat) (hd : d = 3 ∨ d = 4) (D : DD) (p0 : Int32) (hw : vp_in p0 24) : CT l yX5_canCatch cX5_canCatch 2 (some .boolean) 0 0 0 0 G [.ref (aX G d 0), .int p0] (va_up X d D) o (some (.int (bI (sCatch D p0 = true)))) (va_up X d D) o := by
  refine CT_of (own := RX5) (lv := [(0, .ref (aX G d 0)), (1, .int p0)]) (by decide) rfl (Nat.le_of_ble_eq_true rfl) rfl ?_
  intro p e s m args below meth c hr hC
  refine J_aload_n hC (j := 0) dX5_canCatch_0 rfl rfl ?_
  refine J_get (v' := .ref (aX G d 8)) hC (nl_s0 hd) (ent_s0 hd) rfl in5 8 (by decide) rfl qw_687 rfl rfl dX5_canCatch_1 ?_
  refine J_iload_n hC (j := 1) dX5_canCatch_4 rfl rfl ?_
  refine J_iald (x := (D 8 (ix p0))) hC (nl_si8 hd) (ent_si8 hd) hw (iv rF) dX5_canCatch_5 ?_
  refine J_if_ne (tgt := 24) hC dX5_canCatch_6 (by decide) (fun c6 => ?_) (fun c6 => ?_)
  · refine J_iconst (v := 0) hC dX5_canCatch_24 (by decide) ?_
    exact J_zret hC hr (by decide) (by simp [sCatch, c6]) rfl rfl dX5_canCatch_25
  · refine J_aload_n hC (j := 0) dX5_canCatch_9 rfl rfl ?_
    refine J_get (v' := .ref (aX G d 5)) hC (nl_s0 hd) (ent_s0 hd) rfl in5 5 (by decide) rfl qw_681 rfl rfl dX5_canCatch_10 ?_
    refine J_iload_n hC (j := 1) dX5_canCatch_13 rfl rfl ?_
    refine J_iald (x := (D 5 (ix p0))) hC (nl_si5 hd) (ent_si5 hd) hw (iv rF) dX5_canCatch_14 ?_
    refine J_bipush (v := 8) hC dX5_canCatch_15 (by decide) ?_
    refine J_icmp_ge (tgt := 24) hC dX5_canCatch_17 (by decide) (fun c17 => ?_) (fun c17 => ?_)
    · refine J_iconst (v := 0) hC dX5_canCatch_24 (by decide) ?_
      exact J_zret hC hr (by decide) (by simp [sCatch, c6, c17]) rfl rfl dX5_canCatch_25
    · refine J_iconst (v := 1) hC dX5_canCatch_20 (by decide) ?_
      refine J_goto (tgt := 25) hC dX5_canCatch_21 (by decide) ?_
      exact J_zret hC hr (by decide) (by simp [sCatch, c6, c17]) rfl rfl dX5_canCatch_25
set_option maxHeartbeats 4000000 in
set_option maxRecDepth 100000 in
theorem ct_X5_have (l : Launch) (G : GG) (X : XX) (o : OO) (d : Nat) (hd : d = 3 ∨ d = 4) (D : DD) (p0 : Int32) (p1 : Int32) (p2 : Int32) (p3 : Int32) (hw : vp_in p0 24) : CT l yX5_have cX5_have 5 none 0 0 0 0 G [.ref (aX G d 0), .int p0, .int p1, .int p2, .int p3] (va_up X d D) o none (va_up X d (haveS D p0 p1 p2 p3)) o := by
  refine CT_of (own := RX5) (lv := [(0, .ref (aX G d 0)), (1, .int p0), (2, .int p1), (3, .int p2), (4, .int p3)]) (by decide) rfl (Nat.le_of_ble_eq_true rfl) rfl ?_
  intro p e s m args below meth c hr hC
  refine J_aload_n hC (j := 0) dX5_have_0 rfl rfl ?_
  refine J_get (v' := .ref (aX G d 8)) hC (nl_s0 hd) (ent_s0 hd) rfl in5 8 (by decide) rfl qw_687 rfl rfl dX5_have_1 ?_
  refine J_iload_n hC (j := 1) dX5_have_4 rfl rfl ?_
  refine J_iload_n hC (j := 2) dX5_have_5 rfl rfl ?_
  refine J_iast (X' := (va_up X d (va_up D 8 (va_up (D 8) (ix p0) p1)))) hC (nl_si8 hd) (ent_si8 hd) hw (pu_si8F hd) dX5_have_6 ?_
  refine J_aload_n hC (j := 0) dX5_have_7 rfl rfl ?_
  refine J_get (v' := .ref (aX G d 9)) hC (nl_s0 hd) (ent_s0 hd) rfl in5 9 (by decide) rfl qw_689 rfl rfl dX5_have_8 ?_
  refine J_iload_n hC (j := 1) dX5_have_11 rfl rfl ?_
  refine J_iload_n hC (j := 3) dX5_have_12 rfl rfl ?_
  refine J_iast (X' := (va_up X d (va_up (va_up D 8 (va_up (D 8) (ix p0) p1)) 9 (va_up (D 9) (ix p0) p2)))) hC (nl_si9 hd) (ent_si9 hd) hw (pu_si9F hd) dX5_have_13 ?_
  refine J_aload_n hC (j := 0) dX5_have_14 rfl rfl ?_
  refine J_get (v' := .ref (aX G d 10)) hC (nl_s0 hd) (ent_s0 hd) rfl in5 10 (by decide) rfl qw_691 rfl rfl dX5_have_15 ?_
  refine J_iload_n hC (j := 1) dX5_have_18 rfl rfl ?_
  refine J_iload hC (j := 4) dX5_have_19 rfl ?_
  refine J_iast (X' := (va_up X d (va_up (va_up (va_up D 8 (va_up (D 8) (ix p0) p1)) 9 (va_up (D 9) (ix p0) p2)) 10 (va_up (D 10) (ix p0) p3)))) hC (nl_si10 hd) (ent_si10 hd) hw (pu_si10F hd) dX5_have_21 ?_
  exact J_vret hC hr (congrArg (va_up X d) (by simp [haveS])) rfl dX5_have_22
set_option maxHeartbeats 4000000 in
set_option maxRecDepth 100000 in
theorem ct_X5_leave (l : Launch) (G : GG) (X : XX) (o : OO) (d : Nat) (hd : d = 3 ∨ d = 4) (D : DD) (p0 : Int32) (p1 : Int32) (hw : vp_in p0 24) (ha : vp_in (D 3 (ix p0)) 40) : CT l yX5_leave cX5_leave 3 none 0 0 0 0 G [.ref (aX G d 0), .int p0, .int p1] (va_up X d D) o none (va_up X d (sLeave D p0 p1)) o := by
  refine CT_of (own := RX5) (lv := [(0, .ref (aX G d 0)), (1, .int p0), (2, .int p1)]) (by decide) rfl (Nat.le_of_ble_eq_true rfl) rfl ?_
  intro p e s m args below meth c hr hC
  refine J_aload_n hC (j := 0) dX5_leave_0 rfl rfl ?_
  refine J_get (v' := .ref (aX G d 1)) hC (nl_s0 hd) (ent_s0 hd) rfl in5 1 (by decide) rfl qw_673 rfl rfl dX5_leave_1 ?_
  refine J_aload_n hC (j := 0) dX5_leave_4 rfl rfl ?_
  refine J_get (v' := .ref (aX G d 3)) hC (nl_s0 hd) (ent_s0 hd) rfl in5 3 (by decide) rfl qw_677 rfl rfl dX5_leave_5 ?_
  refine J_iload_n hC (j := 1) dX5_leave_8 rfl rfl ?_
  refine J_iald (x := (D 3 (ix p0))) hC (nl_si3 hd) (ent_si3 hd) hw (iv rF) dX5_leave_9 ?_
  refine J_iconst (v := (-1)) hC dX5_leave_10 (by decide) ?_
  refine J_iast (X' := (va_up X d (va_up D 1 (va_up (D 1) (ix (D 3 (ix p0))) (-1))))) hC (nl_si1 hd) (ent_si1 hd) ha (pu_si1F hd) dX5_leave_11 ?_
  refine J_aload_n hC (j := 0) dX5_leave_12 rfl rfl ?_
  refine J_get (v' := .ref (aX G d 2)) hC (nl_s0 hd) (ent_s0 hd) rfl in5 2 (by decide) rfl qw_675 rfl rfl dX5_leave_13 ?_
  refine J_iload_n hC (j := 1) dX5_leave_16 rfl rfl ?_
  refine J_iload_n hC (j := 2) dX5_leave_17 rfl rfl ?_
  refine J_iast (X' := (va_up X d (va_up (va_up D 1 (va_up (D 1) (ix (D 3 (ix p0))) (-1))) 2 (va_up (D 2) (ix p0) p1)))) hC (nl_si2 hd) (ent_si2 hd) hw (pu_si2F hd) dX5_leave_18 ?_
  exact J_vret hC hr (congrArg (va_up X d) (by simp [sLeave])) rfl dX5_leave_19
set_option maxHeartbeats 4000000 in
set_option maxRecDepth 100000 in
theorem ct_X5_put (l : Launch) (G : GG) (X : XX) (o : OO) (d : Nat) (hd : d = 3 ∨ d = 4) (D : DD) (p0 : Int32) (p1 : Int32) (hw : vp_in p0 24) (hp : vp_in p1 40) : CT l yX5_put cX5_put 3 none 0 0 0 0 G [.ref (aX G d 0), .int p0, .int p1] (va_up X d D) o none (va_up X d (sPut D p0 p1)) o := by
  refine CT_of (own := RX5) (lv := [(0, .ref (aX G d 0)), (1, .int p0), (2, .int p1)]) (by decide) rfl (Nat.le_of_ble_eq_true rfl) rfl ?_
  intro p e s m args below meth c hr hC
  refine J_aload_n hC (j := 0) dX5_put_0 rfl rfl ?_
  refine J_get (v' := .ref (aX G d 1)) hC (nl_s0 hd) (ent_s0 hd) rfl in5 1 (by decide) rfl qw_673 rfl rfl dX5_put_1 ?_
  refine J_iload_n hC (j := 2) dX5_put_4 rfl rfl ?_
  refine J_iload_n hC (j := 1) dX5_put_5 rfl rfl ?_
  refine J_iast (X' := (va_up X d (va_up D 1 (va_up (D 1) (ix p1) p0)))) hC (nl_si1 hd) (ent_si1 hd) hp (pu_si1F hd) dX5_put_6 ?_
  refine J_aload_n hC (j := 0) dX5_put_7 rfl rfl ?_
  refine J_get (v' := .ref (aX G d 3)) hC (nl_s0 hd) (ent_s0 hd) rfl in5 3 (by decide) rfl qw_677 rfl rfl dX5_put_8 ?_
  refine J_iload_n hC (j := 1) dX5_put_11 rfl rfl ?_
  refine J_iload_n hC (j := 2) dX5_put_12 rfl rfl ?_
  refine J_iast (X' := (va_up X d (va_up (va_up D 1 (va_up (D 1) (ix p1) p0)) 3 (va_up (D 3) (ix p0) p1)))) hC (nl_si3 hd) (ent_si3 hd) hw (pu_si3F hd) dX5_put_13 ?_
  exact J_vret hC hr (congrArg (va_up X d) (by simp [sPut])) rfl dX5_put_14
set_option maxHeartbeats 4000000 in
set_option maxRecDepth 100000 in
theorem ct_X5_worthNow (l : Launch) (G : GG) (X : XX) (o : OO) (d : Nat) (hd : d = 3 ∨ d = 4) (D : DD) (p0 : Int32) (hw : vp_in p0 24) : CT l yX5_worthNow cX5_worthNow 2 (some .int) 2 44 0 0 G [.ref (aX G d 0), .int p0] (va_up X d D) o (some (.int (worthNowS D p0))) (va_up X d D) o := by
  refine CT_of (own := RX5) (lv := [(0, .ref (aX G d 0)), (1, .int p0)]) (by decide) rfl (Nat.le_of_ble_eq_true rfl) rfl ?_
  intro p e s m args below meth c hr hC
  refine J_aload_n hC (j := 0) dX5_worthNow_0 rfl rfl ?_
  refine J_get (v' := .ref (aX G d 2)) hC (nl_s0 hd) (ent_s0 hd) rfl in5 2 (by decide) rfl qw_675 rfl rfl dX5_worthNow_1 ?_
  refine J_iload_n hC (j := 1) dX5_worthNow_4 rfl rfl ?_
  refine J_iald (x := (D 2 (ix p0))) hC (nl_si2 hd) (ent_si2 hd) hw (iv rF) dX5_worthNow_5 ?_
  refine J_if_ne (tgt := 17) hC dX5_worthNow_6 (by decide) (fun c6 => ?_) (fun c6 => ?_)
  · refine J_iconst (v := 0) hC dX5_worthNow_17 (by decide) ?_
    exact J_iret hC hr (by simp [worthNowS, c6]) rfl rfl dX5_worthNow_18
  · refine J_aload_n hC (j := 0) dX5_worthNow_9 rfl rfl ?_
    refine J_iload_n hC (j := 1) dX5_worthNow_10 rfl rfl ?_
    refine J_callV hC (ct_X5_worth l G X o d hd D p0 hw) mw_X5_worth qw_956 (nl_s0 hd) (ent_s0 hd) rfl rfl rfl (Nat.le_of_ble_eq_true rfl) ⟨Nat.le_of_ble_eq_true rfl, Nat.le_of_ble_eq_true rfl⟩ ⟨Nat.le_of_ble_eq_true rfl, Nat.le_of_ble_eq_true rfl⟩ dX5_worthNow_11 ?_
    refine J_goto (tgt := 18) hC dX5_worthNow_14 (by decide) ?_
    exact J_iret hC hr (by simp [worthNowS, c6]) rfl rfl dX5_worthNow_18
set_option maxHeartbeats 4000000 in
set_option maxRecDepth 100000 in
theorem ct_X5_work (l : Launch) (G : GG) (X : XX) (o : OO) (d : Nat) (hd : d = 3 ∨ d = 4) (D : DD) (p0 : Int32) (p1 : Int32) (p2 : Int32) (hm : vp_in p0 4) (hw : vp_in p1 24) : CT l yX5_work cX5_work 4 none 1 24 0 0 G [.ref (aX G d 0), .int p0, .int p1, .int p2] (va_up X d D) o none (va_up X d (sWork D p0 p1 p2)) o := by
  refine CT_of (own := RX5) (lv := [(0, .ref (aX G d 0)), (1, .int p0), (2, .int p1), (3, .int p2)]) (by decide) rfl (Nat.le_of_ble_eq_true rfl) rfl ?_
  intro p e s m args below meth c hr hC
  have T73 : Jd p l e ({ frames := 1, cells := 0, slots := 0, locals := 24 }) s m args below meth c (MQ below (CQ G none (va_up X d (sWork D p0 p1 p2)) o) args s 0 0 (gB G)) G 4 0 0 (va_up X d (sWork1 D p1 p2)) o 73 [(0, .ref (aX G d 0)), (1, .int p0), (2, .int p1), (3, .int p2)] [] := by
    refine J_aload_n hC (j := 0) dX5_work_73 rfl rfl ?_
    refine J_get (v' := .ref (aX G d 9)) hC (nl_s0 hd) (ent_s0 hd) rfl in5 9 (by decide) rfl qw_689 rfl rfl dX5_work_74 ?_
    refine J_iload_n hC (j := 2) dX5_work_77 rfl rfl ?_
    refine J_iald (x := ((sWork1 D p1 p2) 9 (ix p1))) hC (nl_si9 hd) (ent_si9 hd) hw (iv rF) dX5_work_78 ?_
    refine J_iconst (v := 4) hC dX5_work_79 (by decide) ?_
    refine J_icmp_lt (tgt := 98) hC dX5_work_80 (by decide) (fun c80 => ?_) (fun c80 => ?_)
    · refine J_aload_n hC (j := 0) dX5_work_98 rfl rfl ?_
      refine J_get (v' := .ref (aX G d 11)) hC (nl_s0 hd) (ent_s0 hd) rfl in5 11 (by decide) rfl qw_693 rfl rfl dX5_work_99 ?_
      refine J_iload_n hC (j := 1) dX5_work_102 rfl rfl ?_
      refine J_iald (x := ((sWork1 D p1 p2) 11 (ix p0))) hC (nl_si11 hd) (ent_si11 hd) hm (iv rF) dX5_work_103 ?_
      refine J_if_le (tgt := 131) hC dX5_work_104 (by decide) (fun c104 => ?_) (fun c104 => ?_)
      · exact J_vret hC hr (congrArg (va_up X d) (by simp [sWork, sWork2, c80, c104])) rfl dX5_work_131
      · refine J_aload_n hC (j := 0) dX5_work_107 rfl rfl ?_
        refine J_iload_n hC (j := 2) dX5_work_108 rfl rfl ?_
        refine J_callV hC (ct_X5_canCatch l G X o d hd (sWork1 D p1 p2) p1 hw) mw_X5_canCatch qw_920 (nl_s0 hd) (ent_s0 hd) rfl rfl rfl (Nat.le_of_ble_eq_true rfl) ⟨Nat.le_of_ble_eq_true rfl, Nat.le_of_ble_eq_true rfl⟩ ⟨Nat.le_of_ble_eq_true rfl, Nat.le_of_ble_eq_true rfl⟩ dX5_work_109 ?_
        by_cases h109 : sCatch (sWork1 D p1 p2) p1 = true
        · refine J_tv (congrArg Value.int (bI_pos h109)) ?_
          refine J_if_eq (tgt := 131) hC dX5_work_112 (by decide) (fun h => absurd h (by decide)) (fun _ => ?_)
          refine J_aload_n hC (j := 0) dX5_work_115 rfl rfl ?_
          refine J_iload_n hC (j := 2) dX5_work_116 rfl rfl ?_
          refine J_aload_n hC (j := 0) dX5_work_117 rfl rfl ?_
          refine J_get (v' := .ref (aX G d 11)) hC (nl_s0 hd) (ent_s0 hd) rfl in5 11 (by decide) rfl qw_693 rfl rfl dX5_work_118 ?_
          refine J_iload_n hC (j := 1) dX5_work_121 rfl rfl ?_
          refine J_iald (x := ((sWork1 D p1 p2) 11 (ix p0))) hC (nl_si11 hd) (ent_si11 hd) hm (iv rF) dX5_work_122 ?_
          refine J_iconst (v := 1) hC dX5_work_123 (by decide) ?_
          refine J_bipush (v := 100) hC dX5_work_124 (by decide) ?_
          refine J_iload_n hC (j := 1) dX5_work_126 rfl rfl ?_
          refine J_iadd hC dX5_work_127 ?_
          refine J_callVv hC (ct_X5_have l G X o d hd (sWork1 D p1 p2) p1 ((sWork1 D p1 p2) 11 (ix p0)) 1 (100 + p0) hw) mw_X5_have qw_919 (nl_s0 hd) (ent_s0 hd) rfl rfl rfl (Nat.le_of_ble_eq_true rfl) ⟨Nat.le_of_ble_eq_true rfl, Nat.le_of_ble_eq_true rfl⟩ ⟨Nat.le_of_ble_eq_true rfl, Nat.le_of_ble_eq_true rfl⟩ dX5_work_128 ?_
          exact J_vret hC hr (congrArg (va_up X d) (by simp [sWork, sWork2, c80, c104, h109])) rfl dX5_work_131
        · refine J_tv (congrArg Value.int (bI_neg h109)) ?_
          refine J_if_eq (tgt := 131) hC dX5_work_112 (by decide) (fun _ => ?_) (fun h => absurd h (by decide))
          exact J_vret hC hr (congrArg (va_up X d) (by simp [sWork, sWork2, c80, c104, h109])) rfl dX5_work_131
    · refine J_aload_n hC (j := 0) dX5_work_83 rfl rfl ?_
      refine J_get (v' := .ref (aX G d 11)) hC (nl_s0 hd) (ent_s0 hd) rfl in5 11 (by decide) rfl qw_693 rfl rfl dX5_work_84 ?_
      refine J_iload_n hC (j := 1) dX5_work_87 rfl rfl ?_
      refine J_aload_n hC (j := 0) dX5_work_88 rfl rfl ?_
      refine J_get (v' := .ref (aX G d 8)) hC (nl_s0 hd) (ent_s0 hd) rfl in5 8 (by decide) rfl qw_687 rfl rfl dX5_work_89 ?_
      refine J_iload_n hC (j := 2) dX5_work_92 rfl rfl ?_
      refine J_iald (x := ((sWork1 D p1 p2) 8 (ix p1))) hC (nl_si8 hd) (ent_si8 hd) hw (iv rF) dX5_work_93 ?_
      refine J_iast (X' := (va_up X d (va_up (sWork1 D p1 p2) 11 (va_up ((sWork1 D p1 p2) 11) (ix p0) ((sWork1 D p1 p2) 8 (ix p1)))))) hC (nl_si11 hd) (ent_si11 hd) hm (pu_si11F hd) dX5_work_94 ?_
      refine J_goto (tgt := 131) hC dX5_work_95 (by decide) ?_
      exact J_vret hC hr (congrArg (va_up X d) (by simp [sWork, sWork2, c80])) rfl dX5_work_131
  refine J_iload_n hC (j := 3) dX5_work_0 rfl rfl ?_
  refine J_iconst (v := 1) hC dX5_work_1 (by decide) ?_
  refine J_icmp_ne (tgt := 15) hC dX5_work_2 (by decide) (fun c2 => ?_) (fun c2 => ?_)
  · refine J_iload_n hC (j := 3) dX5_work_15 rfl rfl ?_
    refine J_iconst (v := 2) hC dX5_work_16 (by decide) ?_
    refine J_icmp_ne (tgt := 42) hC dX5_work_17 (by decide) (fun c17 => ?_) (fun c17 => ?_)
    · refine J_aload_n hC (j := 0) dX5_work_42 rfl rfl ?_
      refine J_get (v' := .ref (aX G d 9)) hC (nl_s0 hd) (ent_s0 hd) rfl in5 9 (by decide) rfl qw_689 rfl rfl dX5_work_43 ?_
      refine J_iload_n hC (j := 2) dX5_work_46 rfl rfl ?_
      refine J_iald (x := (D 9 (ix p1))) hC (nl_si9 hd) (ent_si9 hd) hw (iv rF) dX5_work_47 ?_
      refine J_iconst (v := 3) hC dX5_work_48 (by decide) ?_
      refine J_icmp_le (tgt := 65) hC dX5_work_49 (by decide) (fun c49 => ?_) (fun c49 => ?_)
      · refine J_aload_n hC (j := 0) dX5_work_65 rfl rfl ?_
        refine J_iload_n hC (j := 2) dX5_work_66 rfl rfl ?_
        refine J_iconst (v := 0) hC dX5_work_67 (by decide) ?_
        refine J_iconst (v := 0) hC dX5_work_68 (by decide) ?_
        refine J_iconst (v := (-1)) hC dX5_work_69 (by decide) ?_
        refine J_callVv hC (ct_X5_have l G X o d hd D p1 0 0 (-1) hw) mw_X5_have qw_919 (nl_s0 hd) (ent_s0 hd) rfl rfl rfl (Nat.le_of_ble_eq_true rfl) ⟨Nat.le_of_ble_eq_true rfl, Nat.le_of_ble_eq_true rfl⟩ ⟨Nat.le_of_ble_eq_true rfl, Nat.le_of_ble_eq_true rfl⟩ dX5_work_70 ?_
        refine J_lv [0, 1, 2, 3] (lv' := [(0, .ref (aX G d 0)), (1, .int p0), (2, .int p1), (3, .int p2)]) rfl ?_
        exact J_cast (congrArg (va_up X d) (by first | rfl | simp [sWork1, haveS, c2, c17, c49])) (by first | rfl | simp [sWork1, haveS, c2, c17, c49]) (by first | rfl | simp [sWork1, haveS, c2, c17, c49]) T73
      · refine J_aload_n hC (j := 0) dX5_work_52 rfl rfl ?_
        refine J_get (v' := .ref (aX G d 9)) hC (nl_s0 hd) (ent_s0 hd) rfl in5 9 (by decide) rfl qw_689 rfl rfl dX5_work_53 ?_
        refine J_iload_n hC (j := 2) dX5_work_56 rfl rfl ?_
        refine J_dup2 hC dX5_work_57 rfl rfl ?_
        refine J_iald (x := (D 9 (ix p1))) hC (nl_si9 hd) (ent_si9 hd) hw (iv rF) dX5_work_58 ?_
        refine J_iconst (v := 3) hC dX5_work_59 (by decide) ?_
        refine J_isub hC dX5_work_60 ?_
        refine J_iast (X' := (va_up X d (va_up D 9 (va_up (D 9) (ix p1) ((D 9 (ix p1)) - 3))))) hC (nl_si9 hd) (ent_si9 hd) hw (pu_si9F hd) dX5_work_61 ?_
        refine J_goto (tgt := 73) hC dX5_work_62 (by decide) ?_
        refine J_lv [0, 1, 2, 3] (lv' := [(0, .ref (aX G d 0)), (1, .int p0), (2, .int p1), (3, .int p2)]) rfl ?_
        exact J_cast (congrArg (va_up X d) (by first | rfl | simp [sWork1, haveS, c2, c17, c49])) (by first | rfl | simp [sWork1, haveS, c2, c17, c49]) (by first | rfl | simp [sWork1, haveS, c2, c17, c49]) T73
    · refine J_aload_n hC (j := 0) dX5_work_20 rfl rfl ?_
      refine J_get (v' := .ref (aX G d 5)) hC (nl_s0 hd) (ent_s0 hd) rfl in5 5 (by decide) rfl qw_681 rfl rfl dX5_work_21 ?_
      refine J_iload_n hC (j := 2) dX5_work_24 rfl rfl ?_
      refine J_bipush (v := 20) hC dX5_work_25 (by decide) ?_
      refine J_aload_n hC (j := 0) dX5_work_27 rfl rfl ?_
      refine J_get (v' := .ref (aX G d 5)) hC (nl_s0 hd) (ent_s0 hd) rfl in5 5 (by decide) rfl qw_681 rfl rfl dX5_work_28 ?_
      refine J_iload_n hC (j := 2) dX5_work_31 rfl rfl ?_
      refine J_iald (x := (D 5 (ix p1))) hC (nl_si5 hd) (ent_si5 hd) hw (iv rF) dX5_work_32 ?_
      refine J_iconst (v := 2) hC dX5_work_33 (by decide) ?_
      refine J_iadd hC dX5_work_34 ?_
      refine J_min hC qw_918 qw_569 qw_41 qw_570 ⟨Nat.le_of_ble_eq_true rfl, Nat.le_of_ble_eq_true rfl, Nat.le_of_ble_eq_true rfl, Nat.le_of_ble_eq_true rfl⟩ dX5_work_35 ?_
      refine J_iast (X' := (va_up X d (va_up D 5 (va_up (D 5) (ix p1) (imin 20 ((D 5 (ix p1)) + 2)))))) hC (nl_si5 hd) (ent_si5 hd) hw (pu_si5F hd) dX5_work_38 ?_
      refine J_goto (tgt := 73) hC dX5_work_39 (by decide) ?_
      refine J_lv [0, 1, 2, 3] (lv' := [(0, .ref (aX G d 0)), (1, .int p0), (2, .int p1), (3, .int p2)]) rfl ?_
      exact J_cast (congrArg (va_up X d) (by first | rfl | simp [sWork1, haveS, c2, c17])) (by first | rfl | simp [sWork1, haveS, c2, c17]) (by first | rfl | simp [sWork1, haveS, c2, c17]) T73
  · refine J_aload_n hC (j := 0) dX5_work_5 rfl rfl ?_
    refine J_get (v' := .ref (aX G d 7)) hC (nl_s0 hd) (ent_s0 hd) rfl in5 7 (by decide) rfl qw_685 rfl rfl dX5_work_6 ?_
    refine J_iload_n hC (j := 2) dX5_work_9 rfl rfl ?_
    refine J_iconst (v := 0) hC dX5_work_10 (by decide) ?_
    refine J_iast (X' := (va_up X d (va_up D 7 (va_up (D 7) (ix p1) 0)))) hC (nl_si7 hd) (ent_si7 hd) hw (pu_si7F hd) dX5_work_11 ?_
    refine J_goto (tgt := 73) hC dX5_work_12 (by decide) ?_
    refine J_lv [0, 1, 2, 3] (lv' := [(0, .ref (aX G d 0)), (1, .int p0), (2, .int p1), (3, .int p2)]) rfl ?_
    exact J_cast (congrArg (va_up X d) (by first | rfl | simp [sWork1, haveS, c2])) (by first | rfl | simp [sWork1, haveS, c2]) (by first | rfl | simp [sWork1, haveS, c2]) T73
set_option maxHeartbeats 4000000 in
set_option maxRecDepth 100000 in
theorem ct_X5_leaper (l : Launch) (G : GG) (X : XX) (o : OO) (d : Nat) (hd : d = 3 ∨ d = 4) (D : DD) (p0 : Int32) (p1 : Int32) (hw : vp_in p0 24) (hS : SI D) (hy : p1 = 1 ∨ p1 = -1) : CT l yX5_leaper cX5_leaper 6 (some .int) 1 22 0 0 G [.ref (aX G d 0), .int p0, .int p1] (va_up X d D) o (some (.int (leapr (D 1) (D 3) (D 8) (D 9) (X 2 2) p0 p1))) (va_up X d D) o := by
  refine CT_of (own := RX5) (lv := [(0, .ref (aX G d 0)), (1, .int p0), (2, .int p1)]) (by decide) rfl (Nat.le_of_ble_eq_true rfl) rfl ?_
  intro p e s m args below meth c hr hC
  refine J_aload_n hC (j := 0) dX5_leaper_0 rfl rfl ?_
  refine J_get (v' := .ref (aX G d 3)) hC (nl_s0 hd) (ent_s0 hd) rfl in5 3 (by decide) rfl qw_677 rfl rfl dX5_leaper_1 ?_
  refine J_iload_n hC (j := 1) dX5_leaper_4 rfl rfl ?_
  refine J_iald (x := (D 3 (ix p0))) hC (nl_si3 hd) (ent_si3 hd) hw (iv rF) dX5_leaper_5 ?_
  refine J_bipush (v := 10) hC dX5_leaper_6 (by decide) ?_
  refine J_irem hC dX5_leaper_8 (by decide) ?_
  refine J_iload_n hC (j := 2) dX5_leaper_9 rfl rfl ?_
  refine J_iadd hC dX5_leaper_10 ?_
  refine J_istore_n (lv' := [(3, .int ((irem (D 3 (ix p0)) 10) + p1)), (0, .ref (aX G d 0)), (1, .int p0), (2, .int p1)]) hC dX5_leaper_11 rfl (by decide) rfl ?_
  refine J_iload_n hC (j := 0) dX5_leaper_12 rfl rfl ?_
  refine J_iconst (v := 0) hC dX5_leaper_13 (by decide) ?_
  refine J_bipush (v := 9) hC dX5_leaper_14 (by decide) ?_
  refine J_callSN hC (ct_X6_isIn l G (va_up X d D) o ((irem (D 3 (ix p0)) 10) + p1) 0 9) ms_X6_isIn nqw_840 rfl rfl (Nat.le_of_ble_eq_true rfl) ⟨Nat.le_of_ble_eq_true rfl, Nat.le_of_ble_eq_true rfl⟩ ⟨Nat.le_of_ble_eq_true rfl, Nat.le_of_ble_eq_true rfl⟩ dX5_leaper_16 ?_
  by_cases h16 : wthn ((irem (D 3 (ix p0)) 10) + p1) 0 9 = true
  · refine J_tv (congrArg Value.int (bI_pos h16)) ?_
    refine J_if_eq (tgt := 38) hC dX5_leaper_19 (by decide) (fun h => absurd h (by decide)) (fun _ => ?_)
    refine J_aload_n hC (j := 1) dX5_leaper_22 rfl rfl ?_
    refine J_get (v' := .ref (aX G d 1)) hC (nl_s0 hd) (ent_s0 hd) rfl in5 1 (by decide) rfl qw_673 rfl rfl dX5_leaper_23 ?_
    refine J_aload_n hC (j := 1) dX5_leaper_26 rfl rfl ?_
    refine J_get (v' := .ref (aX G d 3)) hC (nl_s0 hd) (ent_s0 hd) rfl in5 3 (by decide) rfl qw_677 rfl rfl dX5_leaper_27 ?_
    refine J_iload_n hC (j := 2) dX5_leaper_30 rfl rfl ?_
    refine J_iald (x := (D 3 (ix p0))) hC (nl_si3 hd) (ent_si3 hd) hw (iv rF) dX5_leaper_31 ?_
    refine J_iload_n hC (j := 3) dX5_leaper_32 rfl rfl ?_
    refine J_iadd hC dX5_leaper_33 ?_
    refine J_iald (x := (D 1 (ix ((D 3 (ix p0)) + p1)))) hC (nl_si1 hd) (ent_si1 hd) (vp_by (hS.1 _ (vp_lt hw)) hy h16) (iv rF) dX5_leaper_34 ?_
    refine J_goto (tgt := 39) hC dX5_leaper_35 (by decide) ?_
    refine J_istore (lv' := [(4, .int (D 1 (ix ((D 3 (ix p0)) + p1)))), (3, .int ((irem (D 3 (ix p0)) 10) + p1)), (0, .ref (aX G d 0)), (1, .int p0), (2, .int p1)]) hC dX5_leaper_39 (by decide) rfl ?_
    refine J_aload_n hC (j := 2) dX5_leaper_41 rfl rfl ?_
    refine J_get (v' := .ref (aX G 2 0)) hC (nl_s0 hd) (ent_s0 hd) rfl in5 14 (by decide) rfl qw_698 rfl rfl dX5_leaper_42 ?_
    refine J_getN (v' := .ref (aX G 2 2)) hC nl_m0 ent_m0 rfl in6 3 (by decide) rfl nqw_735 rfl rfl dX5_leaper_45 ?_
    refine J_aload_n hC (j := 2) dX5_leaper_48 rfl rfl ?_
    refine J_get (v' := .ref (aX G d 3)) hC (nl_s0 hd) (ent_s0 hd) rfl in5 3 (by decide) rfl qw_677 rfl rfl dX5_leaper_49 ?_
    refine J_iload_n hC (j := 3) dX5_leaper_52 rfl rfl ?_
    refine J_iald (x := (D 3 (ix p0))) hC (nl_si3 hd) (ent_si3 hd) hw (iv rF) dX5_leaper_53 ?_
    refine J_bipush (v := 10) hC dX5_leaper_54 (by decide) ?_
    refine J_idiv hC dX5_leaper_56 (by decide) ?_
    refine J_iald (x := (X 2 2 (ix ((D 3 (ix p0)) / 10)))) hC (nl_mi (by decide)) (ent_mi2) (vp_ca (hS.1 _ (vp_lt hw))) (iv (rO (ne2 hd))) dX5_leaper_57 ?_
    refine J_bipush (v := 6) hC dX5_leaper_58 (by decide) ?_
    refine J_icmp_lt (tgt := 67) hC dX5_leaper_60 (by decide) (fun c60 => ?_) (fun c60 => ?_)
    · refine J_iconst (v := 5) hC dX5_leaper_67 (by decide) ?_
      refine J_istore (lv' := [(5, .int 5), (4, .int (D 1 (ix ((D 3 (ix p0)) + p1)))), (3, .int ((irem (D 3 (ix p0)) 10) + p1)), (0, .ref (aX G d 0)), (1, .int p0), (2, .int p1)]) hC dX5_leaper_68 (by decide) rfl ?_
      refine J_iload hC (j := 1) dX5_leaper_70 rfl ?_
      refine J_iconst (v := (-1)) hC dX5_leaper_72 (by decide) ?_
      refine J_icmp_eq (tgt := 103) hC dX5_leaper_73 (by decide) (fun c73 => ?_) (fun c73 => ?_)
      · refine J_iconst (v := (-1)) hC dX5_leaper_103 (by decide) ?_
        exact J_iret hC hr (by simp [leapr, h16, c60, c73]) rfl rfl dX5_leaper_104
      · refine J_aload_n hC (j := 3) dX5_leaper_76 rfl rfl ?_
        refine J_get (v' := .ref (aX G d 8)) hC (nl_s0 hd) (ent_s0 hd) rfl in5 8 (by decide) rfl qw_687 rfl rfl dX5_leaper_77 ?_
        refine J_iload hC (j := 1) dX5_leaper_80 rfl ?_
        refine J_iald (x := (D 8 (ix (D 1 (ix ((D 3 (ix p0)) + p1)))))) hC (nl_si8 hd) (ent_si8 hd) (SI_bd hS (vp_by (hS.1 _ (vp_lt hw)) hy h16) c73) (iv rF) dX5_leaper_82 ?_
        refine J_if_le (tgt := 103) hC dX5_leaper_83 (by decide) (fun c83 => ?_) (fun c83 => ?_)
        · refine J_iconst (v := (-1)) hC dX5_leaper_103 (by decide) ?_
          exact J_iret hC hr (by simp [leapr, h16, c60, c73, c83]) rfl rfl dX5_leaper_104
        · refine J_aload_n hC (j := 3) dX5_leaper_86 rfl rfl ?_
          refine J_get (v' := .ref (aX G d 9)) hC (nl_s0 hd) (ent_s0 hd) rfl in5 9 (by decide) rfl qw_689 rfl rfl dX5_leaper_87 ?_
          refine J_iload hC (j := 1) dX5_leaper_90 rfl ?_
          refine J_iald (x := (D 9 (ix (D 1 (ix ((D 3 (ix p0)) + p1)))))) hC (nl_si9 hd) (ent_si9 hd) (SI_bd hS (vp_by (hS.1 _ (vp_lt hw)) hy h16) c73) (iv rF) dX5_leaper_92 ?_
          refine J_iload hC (j := 0) dX5_leaper_93 rfl ?_
          refine J_icmp_lt (tgt := 103) hC dX5_leaper_95 (by decide) (fun c95 => ?_) (fun c95 => ?_)
          · refine J_iconst (v := (-1)) hC dX5_leaper_103 (by decide) ?_
            exact J_iret hC hr (by simp [leapr, h16, c60, c73, c83, c95]) rfl rfl dX5_leaper_104
          · refine J_iload hC (j := 1) dX5_leaper_98 rfl ?_
            refine J_goto (tgt := 104) hC dX5_leaper_100 (by decide) ?_
            exact J_iret hC hr (by simp [leapr, h16, c60, c73, c83, c95]) rfl rfl dX5_leaper_104
    · refine J_iconst (v := 3) hC dX5_leaper_63 (by decide) ?_
      refine J_goto (tgt := 68) hC dX5_leaper_64 (by decide) ?_
      refine J_istore (lv' := [(5, .int 3), (4, .int (D 1 (ix ((D 3 (ix p0)) + p1)))), (3, .int ((irem (D 3 (ix p0)) 10) + p1)), (0, .ref (aX G d 0)), (1, .int p0), (2, .int p1)]) hC dX5_leaper_68 (by decide) rfl ?_
      refine J_iload hC (j := 1) dX5_leaper_70 rfl ?_
      refine J_iconst (v := (-1)) hC dX5_leaper_72 (by decide) ?_
      refine J_icmp_eq (tgt := 103) hC dX5_leaper_73 (by decide) (fun c73 => ?_) (fun c73 => ?_)
      · refine J_iconst (v := (-1)) hC dX5_leaper_103 (by decide) ?_
        exact J_iret hC hr (by simp [leapr, h16, c60, c73]) rfl rfl dX5_leaper_104
      · refine J_aload_n hC (j := 3) dX5_leaper_76 rfl rfl ?_
        refine J_get (v' := .ref (aX G d 8)) hC (nl_s0 hd) (ent_s0 hd) rfl in5 8 (by decide) rfl qw_687 rfl rfl dX5_leaper_77 ?_
        refine J_iload hC (j := 1) dX5_leaper_80 rfl ?_
        refine J_iald (x := (D 8 (ix (D 1 (ix ((D 3 (ix p0)) + p1)))))) hC (nl_si8 hd) (ent_si8 hd) (SI_bd hS (vp_by (hS.1 _ (vp_lt hw)) hy h16) c73) (iv rF) dX5_leaper_82 ?_
        refine J_if_le (tgt := 103) hC dX5_leaper_83 (by decide) (fun c83 => ?_) (fun c83 => ?_)
        · refine J_iconst (v := (-1)) hC dX5_leaper_103 (by decide) ?_
          exact J_iret hC hr (by simp [leapr, h16, c60, c73, c83]) rfl rfl dX5_leaper_104
        · refine J_aload_n hC (j := 3) dX5_leaper_86 rfl rfl ?_
          refine J_get (v' := .ref (aX G d 9)) hC (nl_s0 hd) (ent_s0 hd) rfl in5 9 (by decide) rfl qw_689 rfl rfl dX5_leaper_87 ?_
          refine J_iload hC (j := 1) dX5_leaper_90 rfl ?_
          refine J_iald (x := (D 9 (ix (D 1 (ix ((D 3 (ix p0)) + p1)))))) hC (nl_si9 hd) (ent_si9 hd) (SI_bd hS (vp_by (hS.1 _ (vp_lt hw)) hy h16) c73) (iv rF) dX5_leaper_92 ?_
          refine J_iload hC (j := 0) dX5_leaper_93 rfl ?_
          refine J_icmp_lt (tgt := 103) hC dX5_leaper_95 (by decide) (fun c95 => ?_) (fun c95 => ?_)
          · refine J_iconst (v := (-1)) hC dX5_leaper_103 (by decide) ?_
            exact J_iret hC hr (by simp [leapr, h16, c60, c73, c83, c95]) rfl rfl dX5_leaper_104
          · refine J_iload hC (j := 1) dX5_leaper_98 rfl ?_
            refine J_goto (tgt := 104) hC dX5_leaper_100 (by decide) ?_
            exact J_iret hC hr (by simp [leapr, h16, c60, c73, c83, c95]) rfl rfl dX5_leaper_104
  · refine J_tv (congrArg Value.int (bI_neg h16)) ?_
    refine J_if_eq (tgt := 38) hC dX5_leaper_19 (by decide) (fun _ => ?_) (fun h => absurd h (by decide))
    refine J_iconst (v := (-1)) hC dX5_leaper_38 (by decide) ?_
    refine J_istore (lv' := [(4, .int (-1)), (3, .int ((irem (D 3 (ix p0)) 10) + p1)), (0, .ref (aX G d 0)), (1, .int p0), (2, .int p1)]) hC dX5_leaper_39 (by decide) rfl ?_
    refine J_aload_n hC (j := 2) dX5_leaper_41 rfl rfl ?_
    refine J_get (v' := .ref (aX G 2 0)) hC (nl_s0 hd) (ent_s0 hd) rfl in5 14 (by decide) rfl qw_698 rfl rfl dX5_leaper_42 ?_
    refine J_getN (v' := .ref (aX G 2 2)) hC nl_m0 ent_m0 rfl in6 3 (by decide) rfl nqw_735 rfl rfl dX5_leaper_45 ?_
    refine J_aload_n hC (j := 2) dX5_leaper_48 rfl rfl ?_
    refine J_get (v' := .ref (aX G d 3)) hC (nl_s0 hd) (ent_s0 hd) rfl in5 3 (by decide) rfl qw_677 rfl rfl dX5_leaper_49 ?_
    refine J_iload_n hC (j := 3) dX5_leaper_52 rfl rfl ?_
    refine J_iald (x := (D 3 (ix p0))) hC (nl_si3 hd) (ent_si3 hd) hw (iv rF) dX5_leaper_53 ?_
    refine J_bipush (v := 10) hC dX5_leaper_54 (by decide) ?_
    refine J_idiv hC dX5_leaper_56 (by decide) ?_
    refine J_iald (x := (X 2 2 (ix ((D 3 (ix p0)) / 10)))) hC (nl_mi (by decide)) (ent_mi2) (vp_ca (hS.1 _ (vp_lt hw))) (iv (rO (ne2 hd))) dX5_leaper_57 ?_
    refine J_bipush (v := 6) hC dX5_leaper_58 (by decide) ?_
    refine J_icmp_lt (tgt := 67) hC dX5_leaper_60 (by decide) (fun c60 => ?_) (fun c60 => ?_)
    · refine J_iconst (v := 5) hC dX5_leaper_67 (by decide) ?_
      refine J_istore (lv' := [(5, .int 5), (4, .int (-1)), (3, .int ((irem (D 3 (ix p0)) 10) + p1)), (0, .ref (aX G d 0)), (1, .int p0), (2, .int p1)]) hC dX5_leaper_68 (by decide) rfl ?_
      refine J_iload hC (j := 1) dX5_leaper_70 rfl ?_
      refine J_iconst (v := (-1)) hC dX5_leaper_72 (by decide) ?_
      refine J_icmp_eq (tgt := 103) hC dX5_leaper_73 (by decide) (fun _ => ?_) (fun h => absurd h (by decide))
      refine J_iconst (v := (-1)) hC dX5_leaper_103 (by decide) ?_
      exact J_iret hC hr (by simp [leapr, h16, c60]) rfl rfl dX5_leaper_104
    · refine J_iconst (v := 3) hC dX5_leaper_63 (by decide) ?_
      refine J_goto (tgt := 68) hC dX5_leaper_64 (by decide) ?_
      refine J_istore (lv' := [(5, .int 3), (4, .int (-1)), (3, .int ((irem (D 3 (ix p0)) 10) + p1)), (0, .ref (aX G d 0)), (1, .int p0), (2, .int p1)]) hC dX5_leaper_68 (by decide) rfl ?_
      refine J_iload hC (j := 1) dX5_leaper_70 rfl ?_
      refine J_iconst (v := (-1)) hC dX5_leaper_72 (by decide) ?_
      refine J_icmp_eq (tgt := 103) hC dX5_leaper_73 (by decide) (fun _ => ?_) (fun h => absurd h (by decide))
      refine J_iconst (v := (-1)) hC dX5_leaper_103 (by decide) ?_
      exact J_iret hC hr (by simp [leapr, h16, c60]) rfl rfl dX5_leaper_104
set_option maxHeartbeats 4000000 in
set_option maxRecDepth 100000 in
theorem ct_X5_leap (l : Launch) (G : GG) (X : XX) (o : OO) (d : Nat) (hd : d = 3 ∨ d = 4) (D : DD) (hS : SI D) (hg : GG2 (X 2)) : CT l yX5_leap cX5_leap 2 none 2 47 0 0 G [.ref (aX G d 0)] (va_up X d D) o none (va_up X d (leapM (X 2) D)) o := by
  refine CT_of (own := RX5) (lv := [(0, .ref (aX G d 0))]) (by decide) rfl (Nat.le_of_ble_eq_true rfl) rfl ?_
  intro p e s m args below meth c hr hC
  have h24 := g2w hg
  refine J_iconst (v := 0) hC dX5_leap_0 (by decide) ?_
  refine J_istore_n (lv' := [(1, .int 0), (0, .ref (aX G d 0))]) hC dX5_leap_1 rfl (by decide) rfl ?_
  have L2 : ∀ n i : Nat, i + n = (ix (X 2 0 4)) → Jd p l e ({ frames := 2, cells := 0, slots := 0, locals := 47 }) s m args below meth c (MQ below (CQ G none (va_up X d (leapM (X 2) D)) o) args s 0 0 (gB G)) G 2 0 0 (va_up X d (lpp1 (X 2) D i)) o 2 [(0, .ref (aX G d 0)), (1, .int (nI i))] [] := by
    intro n
    induction n with
    | zero =>
      intro i hn 
      have hz : i = (ix (X 2 0 4)) := by omega
      subst hz
      refine J_iload_n hC (j := 1) dX5_leap_2 rfl rfl ?_
      refine J_aload_n hC (j := 0) dX5_leap_3 rfl rfl ?_
      refine J_get (v' := .ref (aX G 2 0)) hC (nl_s0 hd) (ent_s0 hd) rfl in5 14 (by decide) rfl qw_698 rfl rfl dX5_leap_4 ?_
      refine J_getN hC nl_m0 ent_m0 rfl in6 4 (by decide) rfl nqw_737 rfl (rO (ne2 hd)) dX5_leap_7 ?_
      refine J_icmp_ge (tgt := 113) hC dX5_leap_10 (by decide) (fun c10 => ?_) (fun c10 => absurd c10 (not_not_intro (le_ix (X 2 0 4))))
      refine J_iconst (v := 0) hC dX5_leap_113 (by decide) ?_
      refine J_istore_n (lv' := [(1, .int 0), (0, .ref (aX G d 0))]) hC dX5_leap_114 rfl (by decide) rfl ?_
      have L115 : ∀ n i : Nat, i + n = (ix (X 2 0 4)) → Jd p l e ({ frames := 2, cells := 0, slots := 0, locals := 47 }) s m args below meth c (MQ below (CQ G none (va_up X d (leapM (X 2) D)) o) args s 0 0 (gB G)) G 2 0 0 (va_up X d (lpp2 (lpp1 (X 2) D (ix (X 2 0 4))) i)) o 115 [(0, .ref (aX G d 0)), (1, .int (nI i))] [] := by
        intro n
        induction n with
        | zero =>
          intro i hn 
          have hz : i = (ix (X 2 0 4)) := by omega
          subst hz
          refine J_iload_n hC (j := 1) dX5_leap_115 rfl rfl ?_
          refine J_aload_n hC (j := 0) dX5_leap_116 rfl rfl ?_
          refine J_get (v' := .ref (aX G 2 0)) hC (nl_s0 hd) (ent_s0 hd) rfl in5 14 (by decide) rfl qw_698 rfl rfl dX5_leap_117 ?_
          refine J_getN hC nl_m0 ent_m0 rfl in6 4 (by decide) rfl nqw_737 rfl (rO (ne2 hd)) dX5_leap_120 ?_
          refine J_icmp_ge (tgt := 166) hC dX5_leap_123 (by decide) (fun c123 => ?_) (fun c123 => absurd c123 (not_not_intro (le_ix (X 2 0 4))))
          exact J_vret hC hr (congrArg (va_up X d) (by simp [leapM])) rfl dX5_leap_166
        | succ n ih =>
          intro i hn 
          refine J_iload_n hC (j := 1) dX5_leap_115 rfl rfl ?_
          refine J_aload_n hC (j := 0) dX5_leap_116 rfl rfl ?_
          refine J_get (v' := .ref (aX G 2 0)) hC (nl_s0 hd) (ent_s0 hd) rfl in5 14 (by decide) rfl qw_698 rfl rfl dX5_leap_117 ?_
          refine J_getN hC nl_m0 ent_m0 rfl in6 4 (by decide) rfl nqw_737 rfl (rO (ne2 hd)) dX5_leap_120 ?_
          refine J_icmp_ge (tgt := 166) hC dX5_leap_123 (by decide) (fun c123 => absurd c123 (nle_ix (by omega))) (fun c123 => ?_)
          refine J_aload_n hC (j := 0) dX5_leap_126 rfl rfl ?_
          refine J_get (v' := .ref (aX G d 13)) hC (nl_s0 hd) (ent_s0 hd) rfl in5 13 (by decide) rfl qw_697 rfl rfl dX5_leap_127 ?_
          refine J_iload_n hC (j := 1) dX5_leap_130 rfl rfl ?_
          refine J_iald (x := ((lpp2 (lpp1 (X 2) D (ix (X 2 0 4))) i) 13 (ix (nI i)))) hC (nl_si13 hd) (ent_si13 hd) (vp_nI (by omega)) (iv rF) dX5_leap_131 ?_
          refine J_iconst (v := (-1)) hC dX5_leap_132 (by decide) ?_
          refine J_icmp_eq (tgt := 160) hC dX5_leap_133 (by decide) (fun c133 => ?_) (fun c133 => ?_)
          · refine J_iinc (j := 1) (v := ((nI i) + 1)) (lv' := [(1, .int ((nI i) + 1)), (0, .ref (aX G d 0))]) hC dX5_leap_160 rfl rfl (by decide) rfl ?_
            refine J_goto (tgt := 115) hC dX5_leap_163 (by decide) ?_
            refine J_lv [1, 0] (lv' := [(0, .ref (aX G d 0)), (1, .int ((nI i) + 1))]) rfl ?_
            exact J_cast (congrArg (va_up X d) (by show _ = (if (lpp2 (lpp1 (X 2) D (ix (X 2 0 4))) i) 13 (ix (nI i)) = -1 then (lpp2 (lpp1 (X 2) D (ix (X 2 0 4))) i) else haveS (lpp2 (lpp1 (X 2) D (ix (X 2 0 4))) i) (nI i) ((lpp2 (lpp1 (X 2) D (ix (X 2 0 4))) i) 13 (ix (nI i)) / 24) 1 (irem ((lpp2 (lpp1 (X 2) D (ix (X 2 0 4))) i) 13 (ix (nI i))) 24)); simp [c133])) (by simp [nI_succ, c133]) rfl (ih (i + 1) (by omega) )
          · refine J_aload_n hC (j := 0) dX5_leap_136 rfl rfl ?_
            refine J_iload_n hC (j := 1) dX5_leap_137 rfl rfl ?_
            refine J_aload_n hC (j := 0) dX5_leap_138 rfl rfl ?_
            refine J_get (v' := .ref (aX G d 13)) hC (nl_s0 hd) (ent_s0 hd) rfl in5 13 (by decide) rfl qw_697 rfl rfl dX5_leap_139 ?_
            refine J_iload_n hC (j := 1) dX5_leap_142 rfl rfl ?_
            refine J_iald (x := ((lpp2 (lpp1 (X 2) D (ix (X 2 0 4))) i) 13 (ix (nI i)))) hC (nl_si13 hd) (ent_si13 hd) (vp_nI (by omega)) (iv rF) dX5_leap_143 ?_
            refine J_bipush (v := 24) hC dX5_leap_144 (by decide) ?_
            refine J_idiv hC dX5_leap_146 (by decide) ?_
            refine J_iconst (v := 1) hC dX5_leap_147 (by decide) ?_
            refine J_aload_n hC (j := 0) dX5_leap_148 rfl rfl ?_
            refine J_get (v' := .ref (aX G d 13)) hC (nl_s0 hd) (ent_s0 hd) rfl in5 13 (by decide) rfl qw_697 rfl rfl dX5_leap_149 ?_
            refine J_iload_n hC (j := 1) dX5_leap_152 rfl rfl ?_
            refine J_iald (x := ((lpp2 (lpp1 (X 2) D (ix (X 2 0 4))) i) 13 (ix (nI i)))) hC (nl_si13 hd) (ent_si13 hd) (vp_nI (by omega)) (iv rF) dX5_leap_153 ?_
            refine J_bipush (v := 24) hC dX5_leap_154 (by decide) ?_
            refine J_irem hC dX5_leap_156 (by decide) ?_
            refine J_callVv hC (ct_X5_have l G X o d hd (lpp2 (lpp1 (X 2) D (ix (X 2 0 4))) i) (nI i) (((lpp2 (lpp1 (X 2) D (ix (X 2 0 4))) i) 13 (ix (nI i))) / 24) 1 (irem ((lpp2 (lpp1 (X 2) D (ix (X 2 0 4))) i) 13 (ix (nI i))) 24) (vp_nI (by omega))) mw_X5_have qw_919 (nl_s0 hd) (ent_s0 hd) rfl rfl rfl (Nat.le_of_ble_eq_true rfl) ⟨Nat.le_of_ble_eq_true rfl, Nat.le_of_ble_eq_true rfl⟩ ⟨Nat.le_of_ble_eq_true rfl, Nat.le_of_ble_eq_true rfl⟩ dX5_leap_157 ?_
            refine J_iinc (j := 1) (v := ((nI i) + 1)) (lv' := [(1, .int ((nI i) + 1)), (0, .ref (aX G d 0))]) hC dX5_leap_160 rfl rfl (by decide) rfl ?_
            refine J_goto (tgt := 115) hC dX5_leap_163 (by decide) ?_
            refine J_lv [1, 0] (lv' := [(0, .ref (aX G d 0)), (1, .int ((nI i) + 1))]) rfl ?_
            exact J_cast (congrArg (va_up X d) (by show _ = (if (lpp2 (lpp1 (X 2) D (ix (X 2 0 4))) i) 13 (ix (nI i)) = -1 then (lpp2 (lpp1 (X 2) D (ix (X 2 0 4))) i) else haveS (lpp2 (lpp1 (X 2) D (ix (X 2 0 4))) i) (nI i) ((lpp2 (lpp1 (X 2) D (ix (X 2 0 4))) i) 13 (ix (nI i)) / 24) 1 (irem ((lpp2 (lpp1 (X 2) D (ix (X 2 0 4))) i) 13 (ix (nI i))) 24)); simp [c133])) (by simp [nI_succ, c133]) rfl (ih (i + 1) (by omega) )
      refine J_lv [1, 0] (lv' := [(0, .ref (aX G d 0)), (1, .int 0)]) rfl ?_
      exact J_cast rfl (by first | rfl | simp [nI_0]) rfl (L115 (ix (X 2 0 4)) 0 (by omega) )
    | succ n ih =>
      intro i hn 
      refine J_iload_n hC (j := 1) dX5_leap_2 rfl rfl ?_
      refine J_aload_n hC (j := 0) dX5_leap_3 rfl rfl ?_
      refine J_get (v' := .ref (aX G 2 0)) hC (nl_s0 hd) (ent_s0 hd) rfl in5 14 (by decide) rfl qw_698 rfl rfl dX5_leap_4 ?_
      refine J_getN hC nl_m0 ent_m0 rfl in6 4 (by decide) rfl nqw_737 rfl (rO (ne2 hd)) dX5_leap_7 ?_
      refine J_icmp_ge (tgt := 113) hC dX5_leap_10 (by decide) (fun c10 => absurd c10 (nle_ix (by omega))) (fun c10 => ?_)
      refine J_aload_n hC (j := 0) dX5_leap_13 rfl rfl ?_
      refine J_get (v' := .ref (aX G d 13)) hC (nl_s0 hd) (ent_s0 hd) rfl in5 13 (by decide) rfl qw_697 rfl rfl dX5_leap_14 ?_
      refine J_iload_n hC (j := 1) dX5_leap_17 rfl rfl ?_
      refine J_iconst (v := (-1)) hC dX5_leap_18 (by decide) ?_
      refine J_iast (X' := (va_up X d (va_up (lpp1 (X 2) D i) 13 (va_up ((lpp1 (X 2) D i) 13) (ix (nI i)) (-1))))) hC (nl_si13 hd) (ent_si13 hd) (vp_nI (by omega)) (pu_si13F hd) dX5_leap_19 ?_
      refine J_aload_n hC (j := 0) dX5_leap_20 rfl rfl ?_
      refine J_get (v' := .ref (aX G d 2)) hC (nl_s0 hd) (ent_s0 hd) rfl in5 2 (by decide) rfl qw_675 rfl rfl dX5_leap_21 ?_
      refine J_iload_n hC (j := 1) dX5_leap_24 rfl rfl ?_
      refine J_iald (x := ((lpp1 (X 2) D i) 2 (ix (nI i)))) hC (nl_si2 hd) (ent_si2 hd) (vp_nI (by omega)) (iv (rG (x := ((lpp1 (X 2) D i) 2 (ix (nI i)))) (by first | simp only [va_up_self] | rfl | simp [va_up]))) dX5_leap_25 ?_
      refine J_if_ne (tgt := 107) hC dX5_leap_26 (by decide) (fun c26 => ?_) (fun c26 => ?_)
      · refine J_iinc (j := 1) (v := ((nI i) + 1)) (lv' := [(1, .int ((nI i) + 1)), (0, .ref (aX G d 0))]) hC dX5_leap_107 rfl rfl (by decide) rfl ?_
        refine J_goto (tgt := 2) hC dX5_leap_110 (by decide) ?_
        refine J_lv [1, 0] (lv' := [(0, .ref (aX G d 0)), (1, .int ((nI i) + 1))]) rfl ?_
        exact J_cast (congrArg (va_up X d) (by show _ = va_up (lpp1 (X 2) D i) 13 (va_up (lpp1 (X 2) D i 13) (ix (nI i)) (lpV (X 2) (lpp1 (X 2) D i) i)); simp [lpV, lpB, lpA, va_up_up, c26])) (by simp [nI_succ, c26]) rfl (ih (i + 1) (by omega) )
      · refine J_aload_n hC (j := 0) dX5_leap_29 rfl rfl ?_
        refine J_iload_n hC (j := 1) dX5_leap_30 rfl rfl ?_
        refine J_callV hC (ct_X5_canCatch l G X o d hd (va_up (lpp1 (X 2) D i) 13 (va_up ((lpp1 (X 2) D i) 13) (ix (nI i)) (-1))) (nI i) (vp_nI (by omega))) mw_X5_canCatch qw_920 (nl_s0 hd) (ent_s0 hd) rfl rfl rfl (Nat.le_of_ble_eq_true rfl) ⟨Nat.le_of_ble_eq_true rfl, Nat.le_of_ble_eq_true rfl⟩ ⟨Nat.le_of_ble_eq_true rfl, Nat.le_of_ble_eq_true rfl⟩ dX5_leap_31 ?_
        by_cases h31 : sCatch (lpp1 (X 2) D i) (nI i) = true
        · refine J_tv (congrArg Value.int (bI_pos h31)) ?_
          refine J_if_ne (tgt := 40) hC dX5_leap_34 (by decide) (fun _ => ?_) (fun h => absurd h (by decide))
          refine J_aload_n hC (j := 0) dX5_leap_40 rfl rfl ?_
          refine J_get (v' := .ref (aX G d 13)) hC (nl_s0 hd) (ent_s0 hd) rfl in5 13 (by decide) rfl qw_697 rfl rfl dX5_leap_41 ?_
          refine J_iload_n hC (j := 1) dX5_leap_44 rfl rfl ?_
          refine J_aload_n hC (j := 0) dX5_leap_45 rfl rfl ?_
          refine J_iload_n hC (j := 1) dX5_leap_46 rfl rfl ?_
          refine J_iconst (v := (-1)) hC dX5_leap_47 (by decide) ?_
          refine J_callV hC (ct_X5_leaper l G X o d hd (va_up (lpp1 (X 2) D i) 13 (va_up ((lpp1 (X 2) D i) 13) (ix (nI i)) (-1))) (nI i) (-1) (vp_nI (by omega)) (SI_rows (SI_lpp1 hS) rfl rfl rfl) (by decide)) mw_X5_leaper qw_928 (nl_s0 hd) (ent_s0 hd) rfl rfl rfl (Nat.le_of_ble_eq_true rfl) ⟨Nat.le_of_ble_eq_true rfl, Nat.le_of_ble_eq_true rfl⟩ ⟨Nat.le_of_ble_eq_true rfl, Nat.le_of_ble_eq_true rfl⟩ dX5_leap_48 ?_
          refine J_iast (X' := (va_up X d (va_up (lpp1 (X 2) D i) 13 (va_up (va_up ((lpp1 (X 2) D i) 13) (ix (nI i)) (-1)) (ix (nI i)) (leapr ((lpp1 (X 2) D i) 1) ((lpp1 (X 2) D i) 3) ((lpp1 (X 2) D i) 8) ((lpp1 (X 2) D i) 9) (X 2 2) (nI i) (-1)))))) hC (nl_si13 hd) (ent_si13 hd) (vp_nI (by omega)) (pu_si13W hd) dX5_leap_51 ?_
          refine J_aload_n hC (j := 0) dX5_leap_52 rfl rfl ?_
          refine J_get (v' := .ref (aX G d 13)) hC (nl_s0 hd) (ent_s0 hd) rfl in5 13 (by decide) rfl qw_697 rfl rfl dX5_leap_53 ?_
          refine J_iload_n hC (j := 1) dX5_leap_56 rfl rfl ?_
          refine J_iald (x := (leapr ((lpp1 (X 2) D i) 1) ((lpp1 (X 2) D i) 3) ((lpp1 (X 2) D i) 8) ((lpp1 (X 2) D i) 9) (X 2 2) (nI i) (-1))) hC (nl_si13 hd) (ent_si13 hd) (vp_nI (by omega)) (iv (rG (x := (leapr ((lpp1 (X 2) D i) 1) ((lpp1 (X 2) D i) 3) ((lpp1 (X 2) D i) 8) ((lpp1 (X 2) D i) 9) (X 2 2) (nI i) (-1))) (by first | simp only [va_up_self] | rfl | simp [va_up]))) dX5_leap_57 ?_
          refine J_iconst (v := (-1)) hC dX5_leap_58 (by decide) ?_
          refine J_icmp_ne (tgt := 74) hC dX5_leap_59 (by decide) (fun c59 => ?_) (fun c59 => ?_)
          · refine J_aload_n hC (j := 0) dX5_leap_74 rfl rfl ?_
            refine J_get (v' := .ref (aX G d 13)) hC (nl_s0 hd) (ent_s0 hd) rfl in5 13 (by decide) rfl qw_697 rfl rfl dX5_leap_75 ?_
            refine J_iload_n hC (j := 1) dX5_leap_78 rfl rfl ?_
            refine J_iald (x := (leapr ((lpp1 (X 2) D i) 1) ((lpp1 (X 2) D i) 3) ((lpp1 (X 2) D i) 8) ((lpp1 (X 2) D i) 9) (X 2 2) (nI i) (-1))) hC (nl_si13 hd) (ent_si13 hd) (vp_nI (by omega)) (iv (rG (x := (leapr ((lpp1 (X 2) D i) 1) ((lpp1 (X 2) D i) 3) ((lpp1 (X 2) D i) 8) ((lpp1 (X 2) D i) 9) (X 2 2) (nI i) (-1))) (by first | simp only [va_up_self] | rfl | simp [va_up]))) dX5_leap_79 ?_
            refine J_iconst (v := (-1)) hC dX5_leap_80 (by decide) ?_
            refine J_icmp_eq (tgt := 107) hC dX5_leap_81 (by decide) (fun c81 => absurd c81 c59) (fun c81 => ?_)
            refine J_aload_n hC (j := 0) dX5_leap_84 rfl rfl ?_
            refine J_get (v' := .ref (aX G d 13)) hC (nl_s0 hd) (ent_s0 hd) rfl in5 13 (by decide) rfl qw_697 rfl rfl dX5_leap_85 ?_
            refine J_iload_n hC (j := 1) dX5_leap_88 rfl rfl ?_
            refine J_dup2 hC dX5_leap_89 rfl rfl ?_
            refine J_iald (x := (leapr ((lpp1 (X 2) D i) 1) ((lpp1 (X 2) D i) 3) ((lpp1 (X 2) D i) 8) ((lpp1 (X 2) D i) 9) (X 2 2) (nI i) (-1))) hC (nl_si13 hd) (ent_si13 hd) (vp_nI (by omega)) (iv (rG (x := (leapr ((lpp1 (X 2) D i) 1) ((lpp1 (X 2) D i) 3) ((lpp1 (X 2) D i) 8) ((lpp1 (X 2) D i) 9) (X 2 2) (nI i) (-1))) (by first | simp only [va_up_self] | rfl | simp [va_up]))) dX5_leap_90 ?_
            refine J_bipush (v := 24) hC dX5_leap_91 (by decide) ?_
            refine J_aload_n hC (j := 0) dX5_leap_93 rfl rfl ?_
            refine J_get (v' := .ref (aX G d 8)) hC (nl_s0 hd) (ent_s0 hd) rfl in5 8 (by decide) rfl qw_687 rfl rfl dX5_leap_94 ?_
            refine J_aload_n hC (j := 0) dX5_leap_97 rfl rfl ?_
            refine J_get (v' := .ref (aX G d 13)) hC (nl_s0 hd) (ent_s0 hd) rfl in5 13 (by decide) rfl qw_697 rfl rfl dX5_leap_98 ?_
            refine J_iload_n hC (j := 1) dX5_leap_101 rfl rfl ?_
            refine J_iald (x := (leapr ((lpp1 (X 2) D i) 1) ((lpp1 (X 2) D i) 3) ((lpp1 (X 2) D i) 8) ((lpp1 (X 2) D i) 9) (X 2 2) (nI i) (-1))) hC (nl_si13 hd) (ent_si13 hd) (vp_nI (by omega)) (iv (rG (x := (leapr ((lpp1 (X 2) D i) 1) ((lpp1 (X 2) D i) 3) ((lpp1 (X 2) D i) 8) ((lpp1 (X 2) D i) 9) (X 2 2) (nI i) (-1))) (by first | simp only [va_up_self] | rfl | simp [va_up]))) dX5_leap_102 ?_
            refine J_iald (x := ((lpp1 (X 2) D i) 8 (ix (leapr ((lpp1 (X 2) D i) 1) ((lpp1 (X 2) D i) 3) ((lpp1 (X 2) D i) 8) ((lpp1 (X 2) D i) 9) (X 2 2) (nI i) (-1))))) hC (nl_si8 hd) (ent_si8 hd) (leapr_in (SI_lpp1 hS) (vp_nI (by omega)) (by decide) c59) (iv (rG (x := ((lpp1 (X 2) D i) 8 (ix (leapr ((lpp1 (X 2) D i) 1) ((lpp1 (X 2) D i) 3) ((lpp1 (X 2) D i) 8) ((lpp1 (X 2) D i) 9) (X 2 2) (nI i) (-1))))) (by first | simp only [va_up_self] | rfl | simp [va_up]))) dX5_leap_103 ?_
            refine J_imul hC dX5_leap_104 ?_
            refine J_iadd hC dX5_leap_105 ?_
            refine J_iast (X' := (va_up X d (va_up (lpp1 (X 2) D i) 13 (va_up (va_up (va_up ((lpp1 (X 2) D i) 13) (ix (nI i)) (-1)) (ix (nI i)) (leapr ((lpp1 (X 2) D i) 1) ((lpp1 (X 2) D i) 3) ((lpp1 (X 2) D i) 8) ((lpp1 (X 2) D i) 9) (X 2 2) (nI i) (-1))) (ix (nI i)) ((leapr ((lpp1 (X 2) D i) 1) ((lpp1 (X 2) D i) 3) ((lpp1 (X 2) D i) 8) ((lpp1 (X 2) D i) 9) (X 2 2) (nI i) (-1)) + (24 * ((lpp1 (X 2) D i) 8 (ix (leapr ((lpp1 (X 2) D i) 1) ((lpp1 (X 2) D i) 3) ((lpp1 (X 2) D i) 8) ((lpp1 (X 2) D i) 9) (X 2 2) (nI i) (-1)))))))))) hC (nl_si13 hd) (ent_si13 hd) (vp_nI (by omega)) (pu_si13W hd) dX5_leap_106 ?_
            refine J_iinc (j := 1) (v := ((nI i) + 1)) (lv' := [(1, .int ((nI i) + 1)), (0, .ref (aX G d 0))]) hC dX5_leap_107 rfl rfl (by decide) rfl ?_
            refine J_goto (tgt := 2) hC dX5_leap_110 (by decide) ?_
            refine J_lv [1, 0] (lv' := [(0, .ref (aX G d 0)), (1, .int ((nI i) + 1))]) rfl ?_
            exact J_cast (congrArg (va_up X d) (by show _ = va_up (lpp1 (X 2) D i) 13 (va_up (lpp1 (X 2) D i 13) (ix (nI i)) (lpV (X 2) (lpp1 (X 2) D i) i)); simp [lpV, lpB, lpA, va_up_up, c26, h31, c59])) (by simp [nI_succ, c26, h31, c59]) rfl (ih (i + 1) (by omega) )
          · refine J_aload_n hC (j := 0) dX5_leap_62 rfl rfl ?_
            refine J_get (v' := .ref (aX G d 13)) hC (nl_s0 hd) (ent_s0 hd) rfl in5 13 (by decide) rfl qw_697 rfl rfl dX5_leap_63 ?_
            refine J_iload_n hC (j := 1) dX5_leap_66 rfl rfl ?_
            refine J_aload_n hC (j := 0) dX5_leap_67 rfl rfl ?_
            refine J_iload_n hC (j := 1) dX5_leap_68 rfl rfl ?_
            refine J_iconst (v := 1) hC dX5_leap_69 (by decide) ?_
            refine J_callV hC (ct_X5_leaper l G X o d hd (va_up (lpp1 (X 2) D i) 13 (va_up (va_up ((lpp1 (X 2) D i) 13) (ix (nI i)) (-1)) (ix (nI i)) (leapr ((lpp1 (X 2) D i) 1) ((lpp1 (X 2) D i) 3) ((lpp1 (X 2) D i) 8) ((lpp1 (X 2) D i) 9) (X 2 2) (nI i) (-1)))) (nI i) 1 (vp_nI (by omega)) (SI_rows (SI_lpp1 hS) rfl rfl rfl) (by decide)) mw_X5_leaper qw_928 (nl_s0 hd) (ent_s0 hd) rfl rfl rfl (Nat.le_of_ble_eq_true rfl) ⟨Nat.le_of_ble_eq_true rfl, Nat.le_of_ble_eq_true rfl⟩ ⟨Nat.le_of_ble_eq_true rfl, Nat.le_of_ble_eq_true rfl⟩ dX5_leap_70 ?_
            refine J_iast (X' := (va_up X d (va_up (lpp1 (X 2) D i) 13 (va_up (va_up (va_up ((lpp1 (X 2) D i) 13) (ix (nI i)) (-1)) (ix (nI i)) (leapr ((lpp1 (X 2) D i) 1) ((lpp1 (X 2) D i) 3) ((lpp1 (X 2) D i) 8) ((lpp1 (X 2) D i) 9) (X 2 2) (nI i) (-1))) (ix (nI i)) (leapr ((lpp1 (X 2) D i) 1) ((lpp1 (X 2) D i) 3) ((lpp1 (X 2) D i) 8) ((lpp1 (X 2) D i) 9) (X 2 2) (nI i) 1))))) hC (nl_si13 hd) (ent_si13 hd) (vp_nI (by omega)) (pu_si13W hd) dX5_leap_73 ?_
            refine J_aload_n hC (j := 0) dX5_leap_74 rfl rfl ?_
            refine J_get (v' := .ref (aX G d 13)) hC (nl_s0 hd) (ent_s0 hd) rfl in5 13 (by decide) rfl qw_697 rfl rfl dX5_leap_75 ?_
            refine J_iload_n hC (j := 1) dX5_leap_78 rfl rfl ?_
            refine J_iald (x := (leapr ((lpp1 (X 2) D i) 1) ((lpp1 (X 2) D i) 3) ((lpp1 (X 2) D i) 8) ((lpp1 (X 2) D i) 9) (X 2 2) (nI i) 1)) hC (nl_si13 hd) (ent_si13 hd) (vp_nI (by omega)) (iv (rG (x := (leapr ((lpp1 (X 2) D i) 1) ((lpp1 (X 2) D i) 3) ((lpp1 (X 2) D i) 8) ((lpp1 (X 2) D i) 9) (X 2 2) (nI i) 1)) (by first | simp only [va_up_self] | rfl | simp [va_up]))) dX5_leap_79 ?_
            refine J_iconst (v := (-1)) hC dX5_leap_80 (by decide) ?_
            refine J_icmp_eq (tgt := 107) hC dX5_leap_81 (by decide) (fun c81 => ?_) (fun c81 => ?_)
            · refine J_iinc (j := 1) (v := ((nI i) + 1)) (lv' := [(1, .int ((nI i) + 1)), (0, .ref (aX G d 0))]) hC dX5_leap_107 rfl rfl (by decide) rfl ?_
              refine J_goto (tgt := 2) hC dX5_leap_110 (by decide) ?_
              refine J_lv [1, 0] (lv' := [(0, .ref (aX G d 0)), (1, .int ((nI i) + 1))]) rfl ?_
              exact J_cast (congrArg (va_up X d) (by show _ = va_up (lpp1 (X 2) D i) 13 (va_up (lpp1 (X 2) D i 13) (ix (nI i)) (lpV (X 2) (lpp1 (X 2) D i) i)); simp [lpV, lpB, lpA, va_up_up, c26, h31, c59, c81])) (by simp [nI_succ, c26, h31, c59, c81]) rfl (ih (i + 1) (by omega) )
            · refine J_aload_n hC (j := 0) dX5_leap_84 rfl rfl ?_
              refine J_get (v' := .ref (aX G d 13)) hC (nl_s0 hd) (ent_s0 hd) rfl in5 13 (by decide) rfl qw_697 rfl rfl dX5_leap_85 ?_
              refine J_iload_n hC (j := 1) dX5_leap_88 rfl rfl ?_
              refine J_dup2 hC dX5_leap_89 rfl rfl ?_
              refine J_iald (x := (leapr ((lpp1 (X 2) D i) 1) ((lpp1 (X 2) D i) 3) ((lpp1 (X 2) D i) 8) ((lpp1 (X 2) D i) 9) (X 2 2) (nI i) 1)) hC (nl_si13 hd) (ent_si13 hd) (vp_nI (by omega)) (iv (rG (x := (leapr ((lpp1 (X 2) D i) 1) ((lpp1 (X 2) D i) 3) ((lpp1 (X 2) D i) 8) ((lpp1 (X 2) D i) 9) (X 2 2) (nI i) 1)) (by first | simp only [va_up_self] | rfl | simp [va_up]))) dX5_leap_90 ?_
              refine J_bipush (v := 24) hC dX5_leap_91 (by decide) ?_
              refine J_aload_n hC (j := 0) dX5_leap_93 rfl rfl ?_
              refine J_get (v' := .ref (aX G d 8)) hC (nl_s0 hd) (ent_s0 hd) rfl in5 8 (by decide) rfl qw_687 rfl rfl dX5_leap_94 ?_
              refine J_aload_n hC (j := 0) dX5_leap_97 rfl rfl ?_
              refine J_get (v' := .ref (aX G d 13)) hC (nl_s0 hd) (ent_s0 hd) rfl in5 13 (by decide) rfl qw_697 rfl rfl dX5_leap_98 ?_
              refine J_iload_n hC (j := 1) dX5_leap_101 rfl rfl ?_
              refine J_iald (x := (leapr ((lpp1 (X 2) D i) 1) ((lpp1 (X 2) D i) 3) ((lpp1 (X 2) D i) 8) ((lpp1 (X 2) D i) 9) (X 2 2) (nI i) 1)) hC (nl_si13 hd) (ent_si13 hd) (vp_nI (by omega)) (iv (rG (x := (leapr ((lpp1 (X 2) D i) 1) ((lpp1 (X 2) D i) 3) ((lpp1 (X 2) D i) 8) ((lpp1 (X 2) D i) 9) (X 2 2) (nI i) 1)) (by first | simp only [va_up_self] | rfl | simp [va_up]))) dX5_leap_102 ?_
              refine J_iald (x := ((lpp1 (X 2) D i) 8 (ix (leapr ((lpp1 (X 2) D i) 1) ((lpp1 (X 2) D i) 3) ((lpp1 (X 2) D i) 8) ((lpp1 (X 2) D i) 9) (X 2 2) (nI i) 1)))) hC (nl_si8 hd) (ent_si8 hd) (leapr_in (SI_lpp1 hS) (vp_nI (by omega)) (by decide) c81) (iv (rG (x := ((lpp1 (X 2) D i) 8 (ix (leapr ((lpp1 (X 2) D i) 1) ((lpp1 (X 2) D i) 3) ((lpp1 (X 2) D i) 8) ((lpp1 (X 2) D i) 9) (X 2 2) (nI i) 1)))) (by first | simp only [va_up_self] | rfl | simp [va_up]))) dX5_leap_103 ?_
              refine J_imul hC dX5_leap_104 ?_
              refine J_iadd hC dX5_leap_105 ?_
              refine J_iast (X' := (va_up X d (va_up (lpp1 (X 2) D i) 13 (va_up (va_up (va_up (va_up ((lpp1 (X 2) D i) 13) (ix (nI i)) (-1)) (ix (nI i)) (leapr ((lpp1 (X 2) D i) 1) ((lpp1 (X 2) D i) 3) ((lpp1 (X 2) D i) 8) ((lpp1 (X 2) D i) 9) (X 2 2) (nI i) (-1))) (ix (nI i)) (leapr ((lpp1 (X 2) D i) 1) ((lpp1 (X 2) D i) 3) ((lpp1 (X 2) D i) 8) ((lpp1 (X 2) D i) 9) (X 2 2) (nI i) 1)) (ix (nI i)) ((leapr ((lpp1 (X 2) D i) 1) ((lpp1 (X 2) D i) 3) ((lpp1 (X 2) D i) 8) ((lpp1 (X 2) D i) 9) (X 2 2) (nI i) 1) + (24 * ((lpp1 (X 2) D i) 8 (ix (leapr ((lpp1 (X 2) D i) 1) ((lpp1 (X 2) D i) 3) ((lpp1 (X 2) D i) 8) ((lpp1 (X 2) D i) 9) (X 2 2) (nI i) 1))))))))) hC (nl_si13 hd) (ent_si13 hd) (vp_nI (by omega)) (pu_si13W hd) dX5_leap_106 ?_
              refine J_iinc (j := 1) (v := ((nI i) + 1)) (lv' := [(1, .int ((nI i) + 1)), (0, .ref (aX G d 0))]) hC dX5_leap_107 rfl rfl (by decide) rfl ?_
              refine J_goto (tgt := 2) hC dX5_leap_110 (by decide) ?_
              refine J_lv [1, 0] (lv' := [(0, .ref (aX G d 0)), (1, .int ((nI i) + 1))]) rfl ?_
              exact J_cast (congrArg (va_up X d) (by show _ = va_up (lpp1 (X 2) D i) 13 (va_up (lpp1 (X 2) D i 13) (ix (nI i)) (lpV (X 2) (lpp1 (X 2) D i) i)); simp [lpV, lpB, lpA, va_up_up, c26, h31, c59, c81])) (by simp [nI_succ, c26, h31, c59, c81]) rfl (ih (i + 1) (by omega) )
        · refine J_tv (congrArg Value.int (bI_neg h31)) ?_
          refine J_if_ne (tgt := 40) hC dX5_leap_34 (by decide) (fun h => absurd h (by decide)) (fun _ => ?_)
          refine J_goto (tgt := 107) hC dX5_leap_37 (by decide) ?_
          refine J_iinc (j := 1) (v := ((nI i) + 1)) (lv' := [(1, .int ((nI i) + 1)), (0, .ref (aX G d 0))]) hC dX5_leap_107 rfl rfl (by decide) rfl ?_
          refine J_goto (tgt := 2) hC dX5_leap_110 (by decide) ?_
          refine J_lv [1, 0] (lv' := [(0, .ref (aX G d 0)), (1, .int ((nI i) + 1))]) rfl ?_
          exact J_cast (congrArg (va_up X d) (by show _ = va_up (lpp1 (X 2) D i) 13 (va_up (lpp1 (X 2) D i 13) (ix (nI i)) (lpV (X 2) (lpp1 (X 2) D i) i)); simp [lpV, lpB, lpA, va_up_up, c26, h31])) (by simp [nI_succ, c26, h31]) rfl (ih (i + 1) (by omega) )
  refine J_lv [1, 0] (lv' := [(0, .ref (aX G d 0)), (1, .int 0)]) rfl ?_
  exact J_cast (by first | rfl | simp) (by first | rfl | simp [nI_0]) rfl (L2 (ix (X 2 0 4)) 0 (by omega) )
