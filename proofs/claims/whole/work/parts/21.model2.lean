set_option maxHeartbeats 4000000 in
set_option maxRecDepth 100000 in
theorem ct_X6_make (l : Launch) (G : GG) (D E g S A : DD) (o : OO) (p0 : Int32) (p1 : Int32) (hg : GG2 (setT g 0)) : CT l yX6_make cX6_make 3 (some .int) 2 43 0 0 G [.ref (aX G 2 0), .int p0, .int p1] (mk5 D E g S A) o (some (.int (vMakeM (setT g 0) S p0 p1))) (mk5 D E (mMake (setT g 0) S p0 p1) (sMake (setT g 0) S p0 p1) A) o := by
  refine CT_of (own := RX6) (lv := [(0, .ref (aX G 2 0)), (1, .int p0), (2, .int p1)]) (by decide) rfl (Nat.le_of_ble_eq_true rfl) rfl ?_
  intro p e s m args below meth c hr hC
  refine J_aload_n hC (j := 0) dX6_make_0 rfl rfl ?_
  refine J_iconst (v := 0) hC dX6_make_1 (by decide) ?_
  refine J_X (X' := (va_up (mk5 D E g S A) 2 g)) m5u2.symm ?_
  refine J_put (X' := (va_up (mk5 D E g S A) 2 (va_up g 0 (va_up (g 0) 0 0)))) hC nl_m0 ent_m0 rfl in6 tyX6_ok nmX6 0 (by decide) rfl qw_730 rfl (by decide) (Nat.le_of_ble_eq_true rfl) (pu_m0F  (by decide)) dX6_make_2 ?_
  refine J_X (X' := (mk5 D E (va_up g 0 (va_up (g 0) 0 0)) S A)) m5u2 ?_
  refine J_X (X' := (mk5 D E (setT g 0) S A)) rfl ?_
  refine J_aload_n hC (j := 0) dX6_make_5 rfl rfl ?_
  refine J_iload_n hC (j := 1) dX6_make_6 rfl rfl ?_
  refine J_callV hC (ct_X6_isCellar l G D E (setT g 0) S A o p0) mw_X6_isCellar qw_796 nl_m0 ent_m0 rfl rfl rfl (Nat.le_of_ble_eq_true rfl) ⟨Nat.le_of_ble_eq_true rfl, Nat.le_of_ble_eq_true rfl⟩ ⟨Nat.le_of_ble_eq_true rfl, Nat.le_of_ble_eq_true rfl⟩ dX6_make_7 ?_
  by_cases h7 : cI (setT g 0) p0 = true
  · refine J_tv (congrArg Value.int (bI_pos h7)) ?_
    refine J_if_eq (tgt := 20) hC dX6_make_10 (by decide) (fun h => absurd h (by decide)) (fun _ => ?_)
    refine J_iload_n hC (j := 2) dX6_make_13 rfl rfl ?_
    refine J_callS hC (ct_X6_isPlace l G (mk5 D E (setT g 0) S A) o p1) ms_X6_isPlace qw_804 rfl rfl (Nat.le_of_ble_eq_true rfl) ⟨Nat.le_of_ble_eq_true rfl, Nat.le_of_ble_eq_true rfl⟩ ⟨Nat.le_of_ble_eq_true rfl, Nat.le_of_ble_eq_true rfl⟩ dX6_make_14 ?_
    by_cases h14 : isPl p1 = true
    · refine J_tv (congrArg Value.int (bI_pos h14)) ?_
      refine J_if_ne (tgt := 26) hC dX6_make_17 (by decide) (fun _ => ?_) (fun h => absurd h (by decide))
      refine J_aload_n hC (j := 0) dX6_make_26 rfl rfl ?_
      refine J_get hC nl_m0 ent_m0 rfl in6 4 (by decide) rfl qw_736 rfl (r5 (x := ((setT g 0) 0 4)) rfl) dX6_make_27 ?_
      refine J_bipush (v := 24) hC dX6_make_30 (by decide) ?_
      refine J_icmp_eq (tgt := 53) hC dX6_make_32 (by decide) (fun c32 => ?_) (fun c32 => ?_)
      · refine J_aload_n hC (j := 0) dX6_make_53 rfl rfl ?_
        refine J_iconst (v := 2) hC dX6_make_54 (by decide) ?_
        refine J_callV hC (ct_X6_no l G D E (setT g 0) S A o 2) mw_X6_no qw_788 nl_m0 ent_m0 rfl rfl rfl (Nat.le_of_ble_eq_true rfl) ⟨Nat.le_of_ble_eq_true rfl, Nat.le_of_ble_eq_true rfl⟩ ⟨Nat.le_of_ble_eq_true rfl, Nat.le_of_ble_eq_true rfl⟩ dX6_make_55 ?_
        exact J_iret hC hr (by first | (simp [vMakeM, mMake, sMake, h7, h14, c32, mk5_2]; done) | rfl) (by first | (simp [vMakeM, mMake, sMake, h7, h14, c32, mk5_2]; done) | rfl) rfl dX6_make_58
      · refine J_aload_n hC (j := 0) dX6_make_35 rfl rfl ?_
        refine J_get (v' := .ref (aX G 3 0)) hC nl_m0 ent_m0 rfl in6 10 (by decide) rfl qw_747 rfl rfl dX6_make_36 ?_
        refine J_getN (v' := .ref (aX G 3 1)) hC (nl_s0 (Or.inl rfl)) (ent_s0 (Or.inl rfl)) rfl in5 1 (by decide) rfl nqw_674 rfl rfl dX6_make_39 ?_
        refine J_bipush (v := 10) hC dX6_make_42 (by decide) ?_
        refine J_iload_n hC (j := 1) dX6_make_44 rfl rfl ?_
        refine J_imul hC dX6_make_45 ?_
        refine J_iload_n hC (j := 2) dX6_make_46 rfl rfl ?_
        refine J_iadd hC dX6_make_47 ?_
        refine J_iald (x := (S 1 (ix ((10 * p0) + p1)))) hC (nl_si1 (Or.inl rfl)) (ent_si1 (Or.inl rfl)) (vp_bd (cI_in hg h7) (pl_in h14)) (iv (r5 (x := (S 1 (ix ((10 * p0) + p1)))) rfl)) dX6_make_48 ?_
        refine J_iconst (v := (-1)) hC dX6_make_49 (by decide) ?_
        refine J_icmp_eq (tgt := 59) hC dX6_make_50 (by decide) (fun c50 => ?_) (fun c50 => ?_)
        · refine J_aload_n hC (j := 0) dX6_make_59 rfl rfl ?_
          refine J_get (v' := .ref (aX G 3 0)) hC nl_m0 ent_m0 rfl in6 10 (by decide) rfl qw_747 rfl rfl dX6_make_60 ?_
          refine J_aload_n hC (j := 0) dX6_make_63 rfl rfl ?_
          refine J_get hC nl_m0 ent_m0 rfl in6 4 (by decide) rfl qw_736 rfl (r5 (x := ((setT g 0) 0 4)) rfl) dX6_make_64 ?_
          refine J_bipush (v := 10) hC dX6_make_67 (by decide) ?_
          refine J_iload_n hC (j := 1) dX6_make_69 rfl rfl ?_
          refine J_imul hC dX6_make_70 ?_
          refine J_iload_n hC (j := 2) dX6_make_71 rfl rfl ?_
          refine J_iadd hC dX6_make_72 ?_
          refine J_callVv hC (ct_rw (X4 := (mk5 D E (setT g 0) (sPut S ((setT g 0) 0 4) ((10 * p0) + p1)) A)) m5u3 m5u3 (ct_X5_put l G (mk5 D E (setT g 0) S A) o 3 (Or.inl rfl) S ((setT g 0) 0 4) ((10 * p0) + p1) (full_in (by decide) rfl hg.2.1 c32) (vp_bd (cI_in hg h7) (pl_in h14)))) mw_X5_put qw_807 (nl_s0 (Or.inl rfl)) (ent_s0 (Or.inl rfl)) rfl rfl rfl (Nat.le_of_ble_eq_true rfl) ⟨Nat.le_of_ble_eq_true rfl, Nat.le_of_ble_eq_true rfl⟩ ⟨Nat.le_of_ble_eq_true rfl, Nat.le_of_ble_eq_true rfl⟩ dX6_make_73 ?_
          refine J_aload_n hC (j := 0) dX6_make_76 rfl rfl ?_
          refine J_get (v' := .ref (aX G 3 0)) hC nl_m0 ent_m0 rfl in6 10 (by decide) rfl qw_747 rfl rfl dX6_make_77 ?_
          refine J_getN (v' := .ref (aX G 3 6)) hC (nl_s0 (Or.inl rfl)) (ent_s0 (Or.inl rfl)) rfl in5 6 (by decide) rfl nqw_684 rfl rfl dX6_make_80 ?_
          refine J_aload_n hC (j := 0) dX6_make_83 rfl rfl ?_
          refine J_get hC nl_m0 ent_m0 rfl in6 4 (by decide) rfl qw_736 rfl (r5 (x := ((setT g 0) 0 4)) rfl) dX6_make_84 ?_
          refine J_bipush (v := 80) hC dX6_make_87 (by decide) ?_
          refine J_X (X' := (va_up (mk5 D E (setT g 0) (sPut S ((setT g 0) 0 4) ((10 * p0) + p1)) A) 3 (sPut S ((setT g 0) 0 4) ((10 * p0) + p1)))) m5u3.symm ?_
          refine J_iast (X' := (va_up (mk5 D E (setT g 0) (sPut S ((setT g 0) 0 4) ((10 * p0) + p1)) A) 3 (va_up (sPut S ((setT g 0) 0 4) ((10 * p0) + p1)) 6 (va_up ((sPut S ((setT g 0) 0 4) ((10 * p0) + p1)) 6) (ix ((setT g 0) 0 4)) 80)))) hC (nl_si6 (Or.inl rfl)) (ent_si6 (Or.inl rfl)) (full_in (by decide) rfl hg.2.1 c32) (pu_si6F (Or.inl rfl)) dX6_make_89 ?_
          refine J_X (X' := (mk5 D E (setT g 0) (va_up (sPut S ((setT g 0) 0 4) ((10 * p0) + p1)) 6 (va_up ((sPut S ((setT g 0) 0 4) ((10 * p0) + p1)) 6) (ix ((setT g 0) 0 4)) 80)) A)) m5u3 ?_
          refine J_X (X' := (mk5 D E (setT g 0) (sMk1 S ((setT g 0) 0 4) ((10 * p0) + p1)) A)) rfl ?_
          refine J_aload_n hC (j := 0) dX6_make_90 rfl rfl ?_
          refine J_get (v' := .ref (aX G 3 0)) hC nl_m0 ent_m0 rfl in6 10 (by decide) rfl qw_747 rfl rfl dX6_make_91 ?_
          refine J_getN (v' := .ref (aX G 3 10)) hC (nl_s0 (Or.inl rfl)) (ent_s0 (Or.inl rfl)) rfl in5 10 (by decide) rfl nqw_692 rfl rfl dX6_make_94 ?_
          refine J_aload_n hC (j := 0) dX6_make_97 rfl rfl ?_
          refine J_get hC nl_m0 ent_m0 rfl in6 4 (by decide) rfl qw_736 rfl (r5 (x := ((setT g 0) 0 4)) rfl) dX6_make_98 ?_
          refine J_iconst (v := (-1)) hC dX6_make_101 (by decide) ?_
          refine J_X (X' := (va_up (mk5 D E (setT g 0) (sMk1 S ((setT g 0) 0 4) ((10 * p0) + p1)) A) 3 (sMk1 S ((setT g 0) 0 4) ((10 * p0) + p1)))) m5u3.symm ?_
          refine J_iast (X' := (va_up (mk5 D E (setT g 0) (sMk1 S ((setT g 0) 0 4) ((10 * p0) + p1)) A) 3 (va_up (sMk1 S ((setT g 0) 0 4) ((10 * p0) + p1)) 10 (va_up ((sMk1 S ((setT g 0) 0 4) ((10 * p0) + p1)) 10) (ix ((setT g 0) 0 4)) (-1))))) hC (nl_si10 (Or.inl rfl)) (ent_si10 (Or.inl rfl)) (full_in (by decide) rfl hg.2.1 c32) (pu_si10F (Or.inl rfl)) dX6_make_102 ?_
          refine J_X (X' := (mk5 D E (setT g 0) (va_up (sMk1 S ((setT g 0) 0 4) ((10 * p0) + p1)) 10 (va_up ((sMk1 S ((setT g 0) 0 4) ((10 * p0) + p1)) 10) (ix ((setT g 0) 0 4)) (-1))) A)) m5u3 ?_
          refine J_X (X' := (mk5 D E (setT g 0) (sMake1 S ((setT g 0) 0 4) ((10 * p0) + p1)) A)) rfl ?_
          refine J_aload_n hC (j := 0) dX6_make_103 rfl rfl ?_
          refine J_dup hC dX6_make_104 rfl ?_
          refine J_get hC nl_m0 ent_m0 rfl in6 4 (by decide) rfl qw_736 rfl (r5 (x := ((setT g 0) 0 4)) rfl) dX6_make_105 ?_
          refine J_iconst (v := 1) hC dX6_make_108 (by decide) ?_
          refine J_iadd hC dX6_make_109 ?_
          refine J_X (X' := (va_up (mk5 D E (setT g 0) (sMake1 S ((setT g 0) 0 4) ((10 * p0) + p1)) A) 2 (setT g 0))) m5u2.symm ?_
          refine J_put (X' := (va_up (mk5 D E (setT g 0) (sMake1 S ((setT g 0) 0 4) ((10 * p0) + p1)) A) 2 (va_up (setT g 0) 0 (va_up ((setT g 0) 0) 4 (((setT g 0) 0 4) + 1))))) hC nl_m0 ent_m0 rfl in6 tyX6_ok nmX6 4 (by decide) rfl qw_736 rfl (by decide) (Nat.le_of_ble_eq_true rfl) (pu_m0F  (by decide)) dX6_make_110 ?_
          refine J_X (X' := (mk5 D E (va_up (setT g 0) 0 (va_up ((setT g 0) 0) 4 (((setT g 0) 0 4) + 1))) (sMake1 S ((setT g 0) 0 4) ((10 * p0) + p1)) A)) m5u2 ?_
          refine J_aload_n hC (j := 0) dX6_make_113 rfl rfl ?_
          refine J_get hC nl_m0 ent_m0 rfl in6 4 (by decide) rfl qw_736 rfl (r5 (x := (((setT g 0) 0 4) + 1)) (by first | rfl | simp [mk5, va_up])) dX6_make_114 ?_
          refine J_iconst (v := 1) hC dX6_make_117 (by decide) ?_
          refine J_isub hC dX6_make_118 ?_
          exact J_iret hC hr (by first | (simp [vMakeM, mMake, sMake, h7, h14, c32, c50, mk5_2]; done) | rfl) (by first | (simp [vMakeM, mMake, sMake, h7, h14, c32, c50, mk5_2]; done) | rfl) rfl dX6_make_119
        · refine J_aload_n hC (j := 0) dX6_make_53 rfl rfl ?_
          refine J_iconst (v := 2) hC dX6_make_54 (by decide) ?_
          refine J_callV hC (ct_X6_no l G D E (setT g 0) S A o 2) mw_X6_no qw_788 nl_m0 ent_m0 rfl rfl rfl (Nat.le_of_ble_eq_true rfl) ⟨Nat.le_of_ble_eq_true rfl, Nat.le_of_ble_eq_true rfl⟩ ⟨Nat.le_of_ble_eq_true rfl, Nat.le_of_ble_eq_true rfl⟩ dX6_make_55 ?_
          exact J_iret hC hr (by first | (simp [vMakeM, mMake, sMake, h7, h14, c32, c50, mk5_2]; done) | rfl) (by first | (simp [vMakeM, mMake, sMake, h7, h14, c32, c50, mk5_2]; done) | rfl) rfl dX6_make_58
    · refine J_tv (congrArg Value.int (bI_neg h14)) ?_
      refine J_if_ne (tgt := 26) hC dX6_make_17 (by decide) (fun h => absurd h (by decide)) (fun _ => ?_)
      refine J_aload_n hC (j := 0) dX6_make_20 rfl rfl ?_
      refine J_iconst (v := 1) hC dX6_make_21 (by decide) ?_
      refine J_callV hC (ct_X6_no l G D E (setT g 0) S A o 1) mw_X6_no qw_788 nl_m0 ent_m0 rfl rfl rfl (Nat.le_of_ble_eq_true rfl) ⟨Nat.le_of_ble_eq_true rfl, Nat.le_of_ble_eq_true rfl⟩ ⟨Nat.le_of_ble_eq_true rfl, Nat.le_of_ble_eq_true rfl⟩ dX6_make_22 ?_
      exact J_iret hC hr (by first | (simp [vMakeM, mMake, sMake, h7, h14, mk5_2]; done) | rfl) (by first | (simp [vMakeM, mMake, sMake, h7, h14, mk5_2]; done) | rfl) rfl dX6_make_25
  · refine J_tv (congrArg Value.int (bI_neg h7)) ?_
    refine J_if_eq (tgt := 20) hC dX6_make_10 (by decide) (fun _ => ?_) (fun h => absurd h (by decide))
    refine J_aload_n hC (j := 0) dX6_make_20 rfl rfl ?_
    refine J_iconst (v := 1) hC dX6_make_21 (by decide) ?_
    refine J_callV hC (ct_X6_no l G D E (setT g 0) S A o 1) mw_X6_no qw_788 nl_m0 ent_m0 rfl rfl rfl (Nat.le_of_ble_eq_true rfl) ⟨Nat.le_of_ble_eq_true rfl, Nat.le_of_ble_eq_true rfl⟩ ⟨Nat.le_of_ble_eq_true rfl, Nat.le_of_ble_eq_true rfl⟩ dX6_make_22 ?_
    exact J_iret hC hr (by first | (simp [vMakeM, mMake, sMake, h7, mk5_2]; done) | rfl) (by first | (simp [vMakeM, mMake, sMake, h7, mk5_2]; done) | rfl) rfl dX6_make_25
set_option maxHeartbeats 4000000 in
set_option maxRecDepth 100000 in
theorem ct_X6_pass (l : Launch) (G : GG) (D E g S A : DD) (o : OO) (p0 : Int32) (hg : GG2 (setT g 0)) (hS : SI S) (b : Nat) (hy : DY S b) (hb : b + 200 < 2147483648) : CT l yX6_pass cX6_pass 3 (some .int) 5 117 0 0 G [.ref (aX G 2 0), .int p0] (mk5 D E g S A) o (some (.int (vPassM (setT g 0) S p0))) (mk5 D E (mPass (setT g 0) p0) (sPass (setT g 0) S p0) A) o := by
  refine CT_of (own := RX6) (lv := [(0, .ref (aX G 2 0)), (1, .int p0)]) (by decide) rfl (Nat.le_of_ble_eq_true rfl) rfl ?_
  intro p e s m args below meth c hr hC
  refine J_aload_n hC (j := 0) dX6_pass_0 rfl rfl ?_
  refine J_iconst (v := 0) hC dX6_pass_1 (by decide) ?_
  refine J_X (X' := (va_up (mk5 D E g S A) 2 g)) m5u2.symm ?_
  refine J_put (X' := (va_up (mk5 D E g S A) 2 (va_up g 0 (va_up (g 0) 0 0)))) hC nl_m0 ent_m0 rfl in6 tyX6_ok nmX6 0 (by decide) rfl qw_730 rfl (by decide) (Nat.le_of_ble_eq_true rfl) (pu_m0F  (by decide)) dX6_pass_2 ?_
  refine J_X (X' := (mk5 D E (va_up g 0 (va_up (g 0) 0 0)) S A)) m5u2 ?_
  refine J_X (X' := (mk5 D E (setT g 0) S A)) rfl ?_
  refine J_iload_n hC (j := 1) dX6_pass_5 rfl rfl ?_
  refine J_iconst (v := 1) hC dX6_pass_6 (by decide) ?_
  refine J_bipush (v := 100) hC dX6_pass_7 (by decide) ?_
  refine J_callS hC (ct_X6_isIn l G (mk5 D E (setT g 0) S A) o p0 1 100) ms_X6_isIn qw_785 rfl rfl (Nat.le_of_ble_eq_true rfl) ⟨Nat.le_of_ble_eq_true rfl, Nat.le_of_ble_eq_true rfl⟩ ⟨Nat.le_of_ble_eq_true rfl, Nat.le_of_ble_eq_true rfl⟩ dX6_pass_9 ?_
  by_cases h9 : wthn p0 1 100 = true
  · refine J_tv (congrArg Value.int (bI_pos h9)) ?_
    refine J_if_ne (tgt := 21) hC dX6_pass_12 (by decide) (fun _ => ?_) (fun h => absurd h (by decide))
    refine J_aload_n hC (j := 0) dX6_pass_21 rfl rfl ?_
    refine J_get (v' := .ref (aX G 3 0)) hC nl_m0 ent_m0 rfl in6 10 (by decide) rfl qw_747 rfl rfl dX6_pass_22 ?_
    refine J_iconst (v := 2) hC dX6_pass_25 (by decide) ?_
    refine J_callV hC (ct_rw (X4 := (mk5 D E (setT g 0) S A)) m5u3 m5u3 (ct_X5_many l G (mk5 D E (setT g 0) S A) o 3 (Or.inl rfl) S 2 hg)) mw_X5_many qw_890 (nl_s0 (Or.inl rfl)) (ent_s0 (Or.inl rfl)) rfl rfl rfl (Nat.le_of_ble_eq_true rfl) ⟨Nat.le_of_ble_eq_true rfl, Nat.le_of_ble_eq_true rfl⟩ ⟨Nat.le_of_ble_eq_true rfl, Nat.le_of_ble_eq_true rfl⟩ dX6_pass_26 ?_
    refine J_istore_n (lv' := [(2, .int (manyS (setT g 0) S 2 (ix (setT g 0 0 4)))), (0, .ref (aX G 2 0)), (1, .int p0)]) hC dX6_pass_29 rfl (by decide) rfl ?_
    refine J_aload_n hC (j := 1) dX6_pass_30 rfl rfl ?_
    refine J_get (v' := .ref (aX G 3 0)) hC nl_m0 ent_m0 rfl in6 10 (by decide) rfl qw_747 rfl rfl dX6_pass_31 ?_
    refine J_iload_n hC (j := 2) dX6_pass_34 rfl rfl ?_
    refine J_callVv hC (ct_rw (X4 := (mk5 D E (setT g 0) (passN (setT g 0) S (ix p0)) A)) m5u3 m5u3 (ct_X5_pass_ l G (mk5 D E (setT g 0) S A) o 3 (Or.inl rfl) S p0 hS hg b hy (Nat.lt_of_le_of_lt (Nat.add_le_add_left (wt_ix (n := 100) (by decide) h9) b) (by omega)))) mw_X5_pass_ qw_902 (nl_s0 (Or.inl rfl)) (ent_s0 (Or.inl rfl)) rfl rfl rfl (Nat.le_of_ble_eq_true rfl) ⟨Nat.le_of_ble_eq_true rfl, Nat.le_of_ble_eq_true rfl⟩ ⟨Nat.le_of_ble_eq_true rfl, Nat.le_of_ble_eq_true rfl⟩ dX6_pass_35 ?_
    refine J_aload_n hC (j := 1) dX6_pass_38 rfl rfl ?_
    refine J_get (v' := .ref (aX G 3 0)) hC nl_m0 ent_m0 rfl in6 10 (by decide) rfl qw_747 rfl rfl dX6_pass_39 ?_
    refine J_iconst (v := 2) hC dX6_pass_42 (by decide) ?_
    refine J_callV hC (ct_rw (X4 := (mk5 D E (setT g 0) (passN (setT g 0) S (ix p0)) A)) m5u3 m5u3 (ct_X5_many l G (mk5 D E (setT g 0) (passN (setT g 0) S (ix p0)) A) o 3 (Or.inl rfl) (passN (setT g 0) S (ix p0)) 2 hg)) mw_X5_many qw_890 (nl_s0 (Or.inl rfl)) (ent_s0 (Or.inl rfl)) rfl rfl rfl (Nat.le_of_ble_eq_true rfl) ⟨Nat.le_of_ble_eq_true rfl, Nat.le_of_ble_eq_true rfl⟩ ⟨Nat.le_of_ble_eq_true rfl, Nat.le_of_ble_eq_true rfl⟩ dX6_pass_43 ?_
    refine J_iload_n hC (j := 0) dX6_pass_46 rfl rfl ?_
    refine J_isub hC dX6_pass_47 ?_
    exact J_iret hC hr (by first | (simp [vPassM, mPass, sPass, h9, mk5_2]; done) | rfl) (by first | (simp [vPassM, mPass, sPass, h9, mk5_2]; done) | rfl) rfl dX6_pass_48
  · refine J_tv (congrArg Value.int (bI_neg h9)) ?_
    refine J_if_ne (tgt := 21) hC dX6_pass_12 (by decide) (fun h => absurd h (by decide)) (fun _ => ?_)
    refine J_aload_n hC (j := 0) dX6_pass_15 rfl rfl ?_
    refine J_iconst (v := 1) hC dX6_pass_16 (by decide) ?_
    refine J_callV hC (ct_X6_no l G D E (setT g 0) S A o 1) mw_X6_no qw_788 nl_m0 ent_m0 rfl rfl rfl (Nat.le_of_ble_eq_true rfl) ⟨Nat.le_of_ble_eq_true rfl, Nat.le_of_ble_eq_true rfl⟩ ⟨Nat.le_of_ble_eq_true rfl, Nat.le_of_ble_eq_true rfl⟩ dX6_pass_17 ?_
    exact J_iret hC hr (by first | (simp [vPassM, mPass, sPass, h9, mk5_2]; done) | rfl) (by first | (simp [vPassM, mPass, sPass, h9, mk5_2]; done) | rfl) rfl dX6_pass_20
set_option maxHeartbeats 4000000 in
set_option maxRecDepth 100000 in
theorem ct_X6_foresee (l : Launch) (G : GG) (D E g S A : DD) (o : OO) (p0 : Int32) (p1 : Int32) (hg : GG2 (setT g 0)) (hS : SI S) (b : Nat) (hy : DY S b) (hb : b + 200 < 2147483648) : CT l yX6_foresee cX6_foresee 3 (some .int) 5 117 0 0 G [.ref (aX G 2 0), .int p0, .int p1] (mk5 D E g S A) o (some (.int (vForeM (setT g 0) S A p0 p1))) (mk5 D E (mFore (setT g 0) p0 p1) S (aFore (setT g 0) S A p0 p1)) o := by
  refine CT_of (own := RX6) (lv := [(0, .ref (aX G 2 0)), (1, .int p0), (2, .int p1)]) (by decide) rfl (Nat.le_of_ble_eq_true rfl) rfl ?_
  intro p e s m args below meth c hr hC
  refine J_aload_n hC (j := 0) dX6_foresee_0 rfl rfl ?_
  refine J_iconst (v := 0) hC dX6_foresee_1 (by decide) ?_
  refine J_X (X' := (va_up (mk5 D E g S A) 2 g)) m5u2.symm ?_
  refine J_put (X' := (va_up (mk5 D E g S A) 2 (va_up g 0 (va_up (g 0) 0 0)))) hC nl_m0 ent_m0 rfl in6 tyX6_ok nmX6 0 (by decide) rfl qw_730 rfl (by decide) (Nat.le_of_ble_eq_true rfl) (pu_m0F  (by decide)) dX6_foresee_2 ?_
  refine J_X (X' := (mk5 D E (va_up g 0 (va_up (g 0) 0 0)) S A)) m5u2 ?_
  refine J_X (X' := (mk5 D E (setT g 0) S A)) rfl ?_
  refine J_iload_n hC (j := 1) dX6_foresee_5 rfl rfl ?_
  refine J_iconst (v := 1) hC dX6_foresee_6 (by decide) ?_
  refine J_bipush (v := 100) hC dX6_foresee_7 (by decide) ?_
  refine J_callS hC (ct_X6_isIn l G (mk5 D E (setT g 0) S A) o p0 1 100) ms_X6_isIn qw_785 rfl rfl (Nat.le_of_ble_eq_true rfl) ⟨Nat.le_of_ble_eq_true rfl, Nat.le_of_ble_eq_true rfl⟩ ⟨Nat.le_of_ble_eq_true rfl, Nat.le_of_ble_eq_true rfl⟩ dX6_foresee_9 ?_
  by_cases h9 : wthn p0 1 100 = true
  · refine J_tv (congrArg Value.int (bI_pos h9)) ?_
    refine J_if_ne (tgt := 21) hC dX6_foresee_12 (by decide) (fun _ => ?_) (fun h => absurd h (by decide))
    refine J_iload_n hC (j := 2) dX6_foresee_21 rfl rfl ?_
    refine J_iconst (v := 0) hC dX6_foresee_22 (by decide) ?_
    refine J_iconst (v := 2) hC dX6_foresee_23 (by decide) ?_
    refine J_callS hC (ct_X6_isIn l G (mk5 D E (setT g 0) S A) o p1 0 2) ms_X6_isIn qw_785 rfl rfl (Nat.le_of_ble_eq_true rfl) ⟨Nat.le_of_ble_eq_true rfl, Nat.le_of_ble_eq_true rfl⟩ ⟨Nat.le_of_ble_eq_true rfl, Nat.le_of_ble_eq_true rfl⟩ dX6_foresee_24 ?_
    by_cases h24 : wthn p1 0 2 = true
    · refine J_tv (congrArg Value.int (bI_pos h24)) ?_
      refine J_if_ne (tgt := 36) hC dX6_foresee_27 (by decide) (fun _ => ?_) (fun h => absurd h (by decide))
      refine J_aload_n hC (j := 0) dX6_foresee_36 rfl rfl ?_
      refine J_get (v' := .ref (aX G 4 0)) hC nl_m0 ent_m0 rfl in6 11 (by decide) rfl qw_748 rfl rfl dX6_foresee_37 ?_
      refine J_aload_n hC (j := 0) dX6_foresee_40 rfl rfl ?_
      refine J_get (v' := .ref (aX G 3 0)) hC nl_m0 ent_m0 rfl in6 10 (by decide) rfl qw_747 rfl rfl dX6_foresee_41 ?_
      refine J_callVv hC (ct_rw (X4 := (mk5 D E (setT g 0) S (becomeS A S))) m5u4 m5u4 (ct_X5_become l G (mk5 D E (setT g 0) S A) o A)) mw_X5_become qw_941 (nl_s0 (Or.inr rfl)) (ent_s0 (Or.inr rfl)) rfl rfl rfl (Nat.le_of_ble_eq_true rfl) ⟨Nat.le_of_ble_eq_true rfl, Nat.le_of_ble_eq_true rfl⟩ ⟨Nat.le_of_ble_eq_true rfl, Nat.le_of_ble_eq_true rfl⟩ dX6_foresee_44 ?_
      refine J_aload_n hC (j := 0) dX6_foresee_47 rfl rfl ?_
      refine J_get (v' := .ref (aX G 4 0)) hC nl_m0 ent_m0 rfl in6 11 (by decide) rfl qw_748 rfl rfl dX6_foresee_48 ?_
      refine J_iload_n hC (j := 1) dX6_foresee_51 rfl rfl ?_
      refine J_callVv hC (ct_rw (X4 := (mk5 D E (setT g 0) S (passN (setT g 0) (becomeS A S) (ix p0)))) m5u4 m5u4 (ct_X5_pass_ l G (mk5 D E (setT g 0) S (becomeS A S)) o 4 (Or.inr rfl) (becomeS A S) p0 (SI_become hS) hg b (DY_become hy) (Nat.lt_of_le_of_lt (Nat.add_le_add_left (wt_ix (n := 100) (by decide) h9) b) (by omega)))) mw_X5_pass_ qw_902 (nl_s0 (Or.inr rfl)) (ent_s0 (Or.inr rfl)) rfl rfl rfl (Nat.le_of_ble_eq_true rfl) ⟨Nat.le_of_ble_eq_true rfl, Nat.le_of_ble_eq_true rfl⟩ ⟨Nat.le_of_ble_eq_true rfl, Nat.le_of_ble_eq_true rfl⟩ dX6_foresee_52 ?_
      refine J_iload_n hC (j := 2) dX6_foresee_55 rfl rfl ?_
      refine J_if_ne (tgt := 70) hC dX6_foresee_56 (by decide) (fun c56 => ?_) (fun c56 => ?_)
      · refine J_iload_n hC (j := 2) dX6_foresee_70 rfl rfl ?_
        refine J_iconst (v := 1) hC dX6_foresee_71 (by decide) ?_
        refine J_icmp_ne (tgt := 85) hC dX6_foresee_72 (by decide) (fun c72 => ?_) (fun c72 => ?_)
        · refine J_aload_n hC (j := 0) dX6_foresee_85 rfl rfl ?_
          refine J_get (v' := .ref (aX G 4 0)) hC nl_m0 ent_m0 rfl in6 11 (by decide) rfl qw_748 rfl rfl dX6_foresee_86 ?_
          refine J_callV hC (ct_rw (X4 := (mk5 D E (setT g 0) S (passN (setT g 0) (becomeS A S) (ix p0)))) m5u4 m5u4 (ct_X5_worthInAll l G (mk5 D E (setT g 0) S (passN (setT g 0) (becomeS A S) (ix p0))) o 4 (Or.inr rfl) (passN (setT g 0) (becomeS A S) (ix p0)) hg)) mw_X5_worthInAll qw_962 (nl_s0 (Or.inr rfl)) (ent_s0 (Or.inr rfl)) rfl rfl rfl (Nat.le_of_ble_eq_true rfl) ⟨Nat.le_of_ble_eq_true rfl, Nat.le_of_ble_eq_true rfl⟩ ⟨Nat.le_of_ble_eq_true rfl, Nat.le_of_ble_eq_true rfl⟩ dX6_foresee_89 ?_
          exact J_iret hC hr (by first | (simp [vForeM, mFore, aFore, vFore1, (show wthn 0 0 2 = true by decide), (show wthn 1 0 2 = true by decide), h9, h24, c56, c72, mk5_2]; done) | rfl) (by first | (simp [vForeM, mFore, aFore, vFore1, (show wthn 0 0 2 = true by decide), (show wthn 1 0 2 = true by decide), h9, h24, c56, c72, mk5_2]; done) | rfl) rfl dX6_foresee_92
        · refine J_aload_n hC (j := 0) dX6_foresee_75 rfl rfl ?_
          refine J_get (v' := .ref (aX G 4 0)) hC nl_m0 ent_m0 rfl in6 11 (by decide) rfl qw_748 rfl rfl dX6_foresee_76 ?_
          refine J_callV hC (ct_rw (X4 := (mk5 D E (setT g 0) S (passN (setT g 0) (becomeS A S) (ix p0)))) m5u4 m5u4 (ct_X5_mouldy l G (mk5 D E (setT g 0) S (passN (setT g 0) (becomeS A S) (ix p0))) o 4 (Or.inr rfl) (passN (setT g 0) (becomeS A S) (ix p0)) hg)) mw_X5_mouldy qw_894 (nl_s0 (Or.inr rfl)) (ent_s0 (Or.inr rfl)) rfl rfl rfl (Nat.le_of_ble_eq_true rfl) ⟨Nat.le_of_ble_eq_true rfl, Nat.le_of_ble_eq_true rfl⟩ ⟨Nat.le_of_ble_eq_true rfl, Nat.le_of_ble_eq_true rfl⟩ dX6_foresee_79 ?_
          refine J_goto (tgt := 92) hC dX6_foresee_82 (by decide) ?_
          exact J_iret hC hr (by first | (simp [vForeM, mFore, aFore, vFore1, (show wthn 0 0 2 = true by decide), (show wthn 1 0 2 = true by decide), h9, h24, c56, c72, mk5_2]; done) | rfl) (by first | (simp [vForeM, mFore, aFore, vFore1, (show wthn 0 0 2 = true by decide), (show wthn 1 0 2 = true by decide), h9, h24, c56, c72, mk5_2]; done) | rfl) rfl dX6_foresee_92
      · refine J_aload_n hC (j := 0) dX6_foresee_59 rfl rfl ?_
        refine J_get (v' := .ref (aX G 4 0)) hC nl_m0 ent_m0 rfl in6 11 (by decide) rfl qw_748 rfl rfl dX6_foresee_60 ?_
        refine J_iconst (v := 2) hC dX6_foresee_63 (by decide) ?_
        refine J_callV hC (ct_rw (X4 := (mk5 D E (setT g 0) S (passN (setT g 0) (becomeS A S) (ix p0)))) m5u4 m5u4 (ct_X5_many l G (mk5 D E (setT g 0) S (passN (setT g 0) (becomeS A S) (ix p0))) o 4 (Or.inr rfl) (passN (setT g 0) (becomeS A S) (ix p0)) 2 hg)) mw_X5_many qw_890 (nl_s0 (Or.inr rfl)) (ent_s0 (Or.inr rfl)) rfl rfl rfl (Nat.le_of_ble_eq_true rfl) ⟨Nat.le_of_ble_eq_true rfl, Nat.le_of_ble_eq_true rfl⟩ ⟨Nat.le_of_ble_eq_true rfl, Nat.le_of_ble_eq_true rfl⟩ dX6_foresee_64 ?_
        refine J_goto (tgt := 92) hC dX6_foresee_67 (by decide) ?_
        exact J_iret hC hr (by first | (simp [vForeM, mFore, aFore, vFore1, (show wthn 0 0 2 = true by decide), (show wthn 1 0 2 = true by decide), h9, h24, c56, mk5_2]; done) | rfl) (by first | (simp [vForeM, mFore, aFore, vFore1, (show wthn 0 0 2 = true by decide), (show wthn 1 0 2 = true by decide), h9, h24, c56, mk5_2]; done) | rfl) rfl dX6_foresee_92
    · refine J_tv (congrArg Value.int (bI_neg h24)) ?_
      refine J_if_ne (tgt := 36) hC dX6_foresee_27 (by decide) (fun h => absurd h (by decide)) (fun _ => ?_)
      refine J_aload_n hC (j := 0) dX6_foresee_30 rfl rfl ?_
      refine J_iconst (v := 2) hC dX6_foresee_31 (by decide) ?_
      refine J_callV hC (ct_X6_no l G D E (setT g 0) S A o 2) mw_X6_no qw_788 nl_m0 ent_m0 rfl rfl rfl (Nat.le_of_ble_eq_true rfl) ⟨Nat.le_of_ble_eq_true rfl, Nat.le_of_ble_eq_true rfl⟩ ⟨Nat.le_of_ble_eq_true rfl, Nat.le_of_ble_eq_true rfl⟩ dX6_foresee_32 ?_
      exact J_iret hC hr (by first | (simp [vForeM, mFore, aFore, vFore1, (show wthn 0 0 2 = true by decide), (show wthn 1 0 2 = true by decide), h9, h24, mk5_2]; done) | rfl) (by first | (simp [vForeM, mFore, aFore, vFore1, (show wthn 0 0 2 = true by decide), (show wthn 1 0 2 = true by decide), h9, h24, mk5_2]; done) | rfl) rfl dX6_foresee_35
  · refine J_tv (congrArg Value.int (bI_neg h9)) ?_
    refine J_if_ne (tgt := 21) hC dX6_foresee_12 (by decide) (fun h => absurd h (by decide)) (fun _ => ?_)
    refine J_aload_n hC (j := 0) dX6_foresee_15 rfl rfl ?_
    refine J_iconst (v := 1) hC dX6_foresee_16 (by decide) ?_
    refine J_callV hC (ct_X6_no l G D E (setT g 0) S A o 1) mw_X6_no qw_788 nl_m0 ent_m0 rfl rfl rfl (Nat.le_of_ble_eq_true rfl) ⟨Nat.le_of_ble_eq_true rfl, Nat.le_of_ble_eq_true rfl⟩ ⟨Nat.le_of_ble_eq_true rfl, Nat.le_of_ble_eq_true rfl⟩ dX6_foresee_17 ?_
    exact J_iret hC hr (by first | (simp [vForeM, mFore, aFore, vFore1, (show wthn 0 0 2 = true by decide), (show wthn 1 0 2 = true by decide), h9, mk5_2]; done) | rfl) (by first | (simp [vForeM, mFore, aFore, vFore1, (show wthn 0 0 2 = true by decide), (show wthn 1 0 2 = true by decide), h9, mk5_2]; done) | rfl) rfl dX6_foresee_20
set_option maxHeartbeats 4000000 in
set_option maxRecDepth 100000 in
theorem ct_X6_best (l : Launch) (G : GG) (D E g S A : DD) (o : OO) (p0 : Int32) (hg : GG2 (setT g 0)) (hS : SI S) (b : Nat) (hy : DY S b) (hb : b + 200 < 2147483648) : CT l yX6_best cX6_best 5 (some .int) 4 95 0 0 G [.ref (aX G 2 0), .int p0] (mk5 D E g S A) o (some (.int (vBestM (setT g 0) S A p0))) (mk5 D E (mBest (setT g 0) p0) S (aBest (setT g 0) S A p0)) o := by
  refine CT_of (own := RX6) (lv := [(0, .ref (aX G 2 0)), (1, .int p0)]) (by decide) rfl (Nat.le_of_ble_eq_true rfl) rfl ?_
  intro p e s m args below meth c hr hC
  refine J_aload_n hC (j := 0) dX6_best_0 rfl rfl ?_
  refine J_iconst (v := 0) hC dX6_best_1 (by decide) ?_
  refine J_X (X' := (va_up (mk5 D E g S A) 2 g)) m5u2.symm ?_
  refine J_put (X' := (va_up (mk5 D E g S A) 2 (va_up g 0 (va_up (g 0) 0 0)))) hC nl_m0 ent_m0 rfl in6 tyX6_ok nmX6 0 (by decide) rfl qw_730 rfl (by decide) (Nat.le_of_ble_eq_true rfl) (pu_m0F  (by decide)) dX6_best_2 ?_
  refine J_X (X' := (mk5 D E (va_up g 0 (va_up (g 0) 0 0)) S A)) m5u2 ?_
  refine J_X (X' := (mk5 D E (setT g 0) S A)) rfl ?_
  refine J_aload_n hC (j := 0) dX6_best_5 rfl rfl ?_
  refine J_iload_n hC (j := 1) dX6_best_6 rfl rfl ?_
  refine J_callV hC (ct_X6_isWheel l G D E (setT g 0) S A o p0) mw_X6_isWheel qw_815 nl_m0 ent_m0 rfl rfl rfl (Nat.le_of_ble_eq_true rfl) ⟨Nat.le_of_ble_eq_true rfl, Nat.le_of_ble_eq_true rfl⟩ ⟨Nat.le_of_ble_eq_true rfl, Nat.le_of_ble_eq_true rfl⟩ dX6_best_7 ?_
  by_cases h7 : wI (setT g 0) p0 = true
  · refine J_tv (congrArg Value.int (bI_pos h7)) ?_
    refine J_if_ne (tgt := 19) hC dX6_best_10 (by decide) (fun _ => ?_) (fun h => absurd h (by decide))
    refine J_aload_n hC (j := 0) dX6_best_19 rfl rfl ?_
    refine J_get (v' := .ref (aX G 3 0)) hC nl_m0 ent_m0 rfl in6 10 (by decide) rfl qw_747 rfl rfl dX6_best_20 ?_
    refine J_getN (v' := .ref (aX G 3 2)) hC (nl_s0 (Or.inl rfl)) (ent_s0 (Or.inl rfl)) rfl in5 2 (by decide) rfl nqw_676 rfl rfl dX6_best_23 ?_
    refine J_iload_n hC (j := 1) dX6_best_26 rfl rfl ?_
    refine J_iald (x := (S 2 (ix p0))) hC (nl_si2 (Or.inl rfl)) (ent_si2 (Or.inl rfl)) (wI_in hg h7) (iv (r5 (x := (S 2 (ix p0))) rfl)) dX6_best_27 ?_
    refine J_if_eq (tgt := 33) hC dX6_best_28 (by decide) (fun c28 => ?_) (fun c28 => ?_)
    · refine J_aload_n hC (j := 0) dX6_best_33 rfl rfl ?_
      refine J_get (v' := .ref (aX G 4 0)) hC nl_m0 ent_m0 rfl in6 11 (by decide) rfl qw_748 rfl rfl dX6_best_34 ?_
      refine J_aload_n hC (j := 0) dX6_best_37 rfl rfl ?_
      refine J_get (v' := .ref (aX G 3 0)) hC nl_m0 ent_m0 rfl in6 10 (by decide) rfl qw_747 rfl rfl dX6_best_38 ?_
      refine J_callVv hC (ct_rw (X4 := (mk5 D E (setT g 0) S (becomeS A S))) m5u4 m5u4 (ct_X5_become l G (mk5 D E (setT g 0) S A) o A)) mw_X5_become qw_941 (nl_s0 (Or.inr rfl)) (ent_s0 (Or.inr rfl)) rfl rfl rfl (Nat.le_of_ble_eq_true rfl) ⟨Nat.le_of_ble_eq_true rfl, Nat.le_of_ble_eq_true rfl⟩ ⟨Nat.le_of_ble_eq_true rfl, Nat.le_of_ble_eq_true rfl⟩ dX6_best_41 ?_
      refine J_iconst (v := (-1)) hC dX6_best_44 (by decide) ?_
      refine J_istore_n (lv' := [(2, .int (-1)), (0, .ref (aX G 2 0)), (1, .int p0)]) hC dX6_best_45 rfl (by decide) rfl ?_
      refine J_iconst (v := (-1)) hC dX6_best_46 (by decide) ?_
      refine J_istore_n (lv' := [(3, .int (-1)), (2, .int (-1)), (0, .ref (aX G 2 0)), (1, .int p0)]) hC dX6_best_47 rfl (by decide) rfl ?_
      refine J_iconst (v := 0) hC dX6_best_48 (by decide) ?_
      refine J_istore (lv' := [(4, .int 0), (3, .int (-1)), (2, .int (-1)), (0, .ref (aX G 2 0)), (1, .int p0)]) hC dX6_best_49 (by decide) rfl ?_
      have L51 : ∀ n i : Nat, i + n = 61 → Jd p l e ({ frames := 4, cells := 0, slots := 0, locals := 95 }) s m args below meth c (MQ below (CQ G (some (.int (vBestM (setT g 0) S A p0))) (mk5 D E (mBest (setT g 0) p0) S (aBest (setT g 0) S A p0)) o) args s 0 0 (gB G)) G 5 0 0 (mk5 D E (setT g 0) S (passN (setT g 0) (becomeS A S) i)) o 51 [(0, .ref (aX G 2 0)), (1, .int p0), (2, .int (bstL (setT g 0) (becomeS A S) p0 i).1), (3, .int (bstL (setT g 0) (becomeS A S) p0 i).2), (4, .int (nI i))] [] := by
        intro n
        induction n with
        | zero =>
          intro i hn 
          obtain rfl : i = 61 := by omega
          refine J_iload hC (j := 4) dX6_best_51 rfl ?_
          refine J_bipush (v := 60) hC dX6_best_53 (by decide) ?_
          refine J_icmp_gt (tgt := 95) hC dX6_best_55 (by decide) (fun c55 => ?_) (fun c55 => absurd c55 (not_not_intro (lt_nI (K := 60) rfl (by omega) (by omega))))
          refine J_iload_n hC (j := 3) dX6_best_95 rfl rfl ?_
          exact J_iret hC hr (by first | (simp [vBestM, mBest, aBest, h7, c28, mk5_2]; done) | rfl) (by first | (simp [vBestM, mBest, aBest, h7, c28, mk5_2]; done) | rfl) rfl dX6_best_96
        | succ n ih =>
          intro i hn 
          refine J_iload hC (j := 4) dX6_best_51 rfl ?_
          refine J_bipush (v := 60) hC dX6_best_53 (by decide) ?_
          refine J_icmp_gt (tgt := 95) hC dX6_best_55 (by decide) (fun c55 => absurd c55 (nlt_nI (K := 60) rfl (by omega) (by omega))) (fun c55 => ?_)
          refine J_aload_n hC (j := 0) dX6_best_58 rfl rfl ?_
          refine J_get (v' := .ref (aX G 4 0)) hC nl_m0 ent_m0 rfl in6 11 (by decide) rfl qw_748 rfl rfl dX6_best_59 ?_
          refine J_iload_n hC (j := 1) dX6_best_62 rfl rfl ?_
          refine J_callV hC (ct_rw (X4 := (mk5 D E (setT g 0) S (passN (setT g 0) (becomeS A S) i))) m5u4 m5u4 (ct_X5_worthNow l G (mk5 D E (setT g 0) S (passN (setT g 0) (becomeS A S) i)) o 4 (Or.inr rfl) (passN (setT g 0) (becomeS A S) i) p0 (wI_in hg h7))) mw_X5_worthNow qw_952 (nl_s0 (Or.inr rfl)) (ent_s0 (Or.inr rfl)) rfl rfl rfl (Nat.le_of_ble_eq_true rfl) ⟨Nat.le_of_ble_eq_true rfl, Nat.le_of_ble_eq_true rfl⟩ ⟨Nat.le_of_ble_eq_true rfl, Nat.le_of_ble_eq_true rfl⟩ dX6_best_63 ?_
          refine J_iload_n hC (j := 2) dX6_best_66 rfl rfl ?_
          refine J_icmp_le (tgt := 82) hC dX6_best_67 (by decide) (fun c67 => ?_) (fun c67 => ?_)
          · refine J_aload_n hC (j := 0) dX6_best_82 rfl rfl ?_
            refine J_get (v' := .ref (aX G 4 0)) hC nl_m0 ent_m0 rfl in6 11 (by decide) rfl qw_748 rfl rfl dX6_best_83 ?_
            refine J_callVv hC (ct_rw (X4 := (mk5 D E (setT g 0) S (passM (setT g 0) (passN (setT g 0) (becomeS A S) i)))) m5u4 m5u4 (ct_X5_pass l G (mk5 D E (setT g 0) S (passN (setT g 0) (becomeS A S) i)) o 4 (Or.inr rfl) (passN (setT g 0) (becomeS A S) i) (SI_passN hg (SI_become hS) _) hg (DY_nn (DY_passN (DY_become hy) _) (by omega)))) mw_X5_pass qw_957 (nl_s0 (Or.inr rfl)) (ent_s0 (Or.inr rfl)) rfl rfl rfl (Nat.le_of_ble_eq_true rfl) ⟨Nat.le_of_ble_eq_true rfl, Nat.le_of_ble_eq_true rfl⟩ ⟨Nat.le_of_ble_eq_true rfl, Nat.le_of_ble_eq_true rfl⟩ dX6_best_86 ?_
            refine J_iinc (j := 4) (v := ((nI i) + 1)) (lv' := [(4, .int ((nI i) + 1)), (0, .ref (aX G 2 0)), (1, .int p0), (2, .int (bstL (setT g 0) (becomeS A S) p0 i).1), (3, .int (bstL (setT g 0) (becomeS A S) p0 i).2)]) hC dX6_best_89 rfl rfl (by decide) rfl ?_
            refine J_goto (tgt := 51) hC dX6_best_92 (by decide) ?_
            refine J_lv [1, 2, 3, 4, 0] (lv' := [(0, .ref (aX G 2 0)), (1, .int p0), (2, .int (bstL (setT g 0) (becomeS A S) p0 i).1), (3, .int (bstL (setT g 0) (becomeS A S) p0 i).2), (4, .int ((nI i) + 1))]) rfl ?_
            exact J_cast rfl (by rw [bstL_s]; simp [nI_succ, c67]) rfl (ih (i + 1) (by omega) )
          · refine J_aload_n hC (j := 0) dX6_best_70 rfl rfl ?_
            refine J_get (v' := .ref (aX G 4 0)) hC nl_m0 ent_m0 rfl in6 11 (by decide) rfl qw_748 rfl rfl dX6_best_71 ?_
            refine J_iload_n hC (j := 1) dX6_best_74 rfl rfl ?_
            refine J_callV hC (ct_rw (X4 := (mk5 D E (setT g 0) S (passN (setT g 0) (becomeS A S) i))) m5u4 m5u4 (ct_X5_worthNow l G (mk5 D E (setT g 0) S (passN (setT g 0) (becomeS A S) i)) o 4 (Or.inr rfl) (passN (setT g 0) (becomeS A S) i) p0 (wI_in hg h7))) mw_X5_worthNow qw_952 (nl_s0 (Or.inr rfl)) (ent_s0 (Or.inr rfl)) rfl rfl rfl (Nat.le_of_ble_eq_true rfl) ⟨Nat.le_of_ble_eq_true rfl, Nat.le_of_ble_eq_true rfl⟩ ⟨Nat.le_of_ble_eq_true rfl, Nat.le_of_ble_eq_true rfl⟩ dX6_best_75 ?_
            refine J_istore_n (lv' := [(2, .int (worthNowS (passN (setT g 0) (becomeS A S) i) p0)), (0, .ref (aX G 2 0)), (1, .int p0), (3, .int (bstL (setT g 0) (becomeS A S) p0 i).2), (4, .int (nI i))]) hC dX6_best_78 rfl (by decide) rfl ?_
            refine J_iload hC (j := 4) dX6_best_79 rfl ?_
            refine J_istore_n (lv' := [(3, .int (nI i)), (2, .int (worthNowS (passN (setT g 0) (becomeS A S) i) p0)), (0, .ref (aX G 2 0)), (1, .int p0), (4, .int (nI i))]) hC dX6_best_81 rfl (by decide) rfl ?_
            refine J_aload_n hC (j := 2) dX6_best_82 rfl rfl ?_
            refine J_get (v' := .ref (aX G 4 0)) hC nl_m0 ent_m0 rfl in6 11 (by decide) rfl qw_748 rfl rfl dX6_best_83 ?_
            refine J_callVv hC (ct_rw (X4 := (mk5 D E (setT g 0) S (passM (setT g 0) (passN (setT g 0) (becomeS A S) i)))) m5u4 m5u4 (ct_X5_pass l G (mk5 D E (setT g 0) S (passN (setT g 0) (becomeS A S) i)) o 4 (Or.inr rfl) (passN (setT g 0) (becomeS A S) i) (SI_passN hg (SI_become hS) _) hg (DY_nn (DY_passN (DY_become hy) _) (by omega)))) mw_X5_pass qw_957 (nl_s0 (Or.inr rfl)) (ent_s0 (Or.inr rfl)) rfl rfl rfl (Nat.le_of_ble_eq_true rfl) ⟨Nat.le_of_ble_eq_true rfl, Nat.le_of_ble_eq_true rfl⟩ ⟨Nat.le_of_ble_eq_true rfl, Nat.le_of_ble_eq_true rfl⟩ dX6_best_86 ?_
            refine J_iinc (j := 4) (v := ((nI i) + 1)) (lv' := [(4, .int ((nI i) + 1)), (3, .int (nI i)), (2, .int (worthNowS (passN (setT g 0) (becomeS A S) i) p0)), (0, .ref (aX G 2 0)), (1, .int p0)]) hC dX6_best_89 rfl rfl (by decide) rfl ?_
            refine J_goto (tgt := 51) hC dX6_best_92 (by decide) ?_
            refine J_lv [3, 4, 2, 1, 0] (lv' := [(0, .ref (aX G 2 0)), (1, .int p0), (2, .int (worthNowS (passN (setT g 0) (becomeS A S) i) p0)), (3, .int (nI i)), (4, .int ((nI i) + 1))]) rfl ?_
            exact J_cast rfl (by rw [bstL_s]; simp [nI_succ, c67]) rfl (ih (i + 1) (by omega) )
      refine J_lv [3, 4, 2, 1, 0] (lv' := [(0, .ref (aX G 2 0)), (1, .int p0), (2, .int (-1)), (3, .int (-1)), (4, .int 0)]) rfl ?_
      exact J_cast rfl (by first | rfl | simp [bstL, rep, nI_0]) rfl (L51 61 0 (by omega) )
    · refine J_iconst (v := (-1)) hC dX6_best_31 (by decide) ?_
      exact J_iret hC hr (by first | (simp [vBestM, mBest, aBest, h7, c28, mk5_2]; done) | rfl) (by first | (simp [vBestM, mBest, aBest, h7, c28, mk5_2]; done) | rfl) rfl dX6_best_32
  · refine J_tv (congrArg Value.int (bI_neg h7)) ?_
    refine J_if_ne (tgt := 19) hC dX6_best_10 (by decide) (fun h => absurd h (by decide)) (fun _ => ?_)
    refine J_aload_n hC (j := 0) dX6_best_13 rfl rfl ?_
    refine J_iconst (v := 1) hC dX6_best_14 (by decide) ?_
    refine J_callV hC (ct_X6_no l G D E (setT g 0) S A o 1) mw_X6_no qw_788 nl_m0 ent_m0 rfl rfl rfl (Nat.le_of_ble_eq_true rfl) ⟨Nat.le_of_ble_eq_true rfl, Nat.le_of_ble_eq_true rfl⟩ ⟨Nat.le_of_ble_eq_true rfl, Nat.le_of_ble_eq_true rfl⟩ dX6_best_15 ?_
    exact J_iret hC hr (by first | (simp [vBestM, mBest, aBest, h7, mk5_2]; done) | rfl) (by first | (simp [vBestM, mBest, aBest, h7, mk5_2]; done) | rfl) rfl dX6_best_18
