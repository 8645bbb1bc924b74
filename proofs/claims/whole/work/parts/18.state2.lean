set_option maxHeartbeats 4000000 in
set_option maxRecDepth 100000 in
theorem ct_X5_goAlong (l : Launch) (G : GG) (X : XX) (o : OO) (d : Nat) (hd : d = 3 ∨ d = 4) (D : DD) (p0 : Int32) (hm : vp_in p0 4) (hS : SI D) (hg : GG2 (X 2)) (hy : ¬ D 0 0 < 0) : CT l yX5_goAlong cX5_goAlong 8 none 2 47 0 0 G [.ref (aX G d 0), .int p0] (va_up X d D) o none (va_up X d (goAl (X 2) D p0)) o := by
  refine CT_of (own := RX5) (lv := [(0, .ref (aX G d 0)), (1, .int p0)]) (by decide) rfl (Nat.le_of_ble_eq_true rfl) rfl ?_
  intro p e s m args below meth c hr hC
  refine J_aload_n hC (j := 0) dX5_goAlong_0 rfl rfl ?_
  refine J_get (v' := .ref (aX G 2 0)) hC (nl_s0 hd) (ent_s0 hd) rfl in5 14 (by decide) rfl qw_698 rfl rfl dX5_goAlong_1 ?_
  refine J_getN (v' := .ref (aX G 2 5)) hC nl_m0 ent_m0 rfl in6 8 (by decide) rfl nqw_745 rfl rfl dX5_goAlong_4 ?_
  refine J_bipush (v := 7) hC dX5_goAlong_7 (by decide) ?_
  refine J_iload_n hC (j := 1) dX5_goAlong_9 rfl rfl ?_
  refine J_imul hC dX5_goAlong_10 ?_
  refine J_aload_n hC (j := 0) dX5_goAlong_11 rfl rfl ?_
  refine J_get hC (nl_s0 hd) (ent_s0 hd) rfl in5 0 (by decide) rfl qw_671 rfl rF dX5_goAlong_12 ?_
  refine J_bipush (v := 7) hC dX5_goAlong_15 (by decide) ?_
  refine J_irem hC dX5_goAlong_17 (by decide) ?_
  refine J_iadd hC dX5_goAlong_18 ?_
  refine J_iald (x := (X 2 5 (ix ((7 * p0) + (irem (D 0 0) 7))))) hC (nl_mi (by decide)) (ent_mi5) (vp_ro hm hy) (iv (rO (ne2 hd))) dX5_goAlong_19 ?_
  refine J_istore_n (lv' := [(2, .int (X 2 5 (ix ((7 * p0) + (irem (D 0 0) 7))))), (0, .ref (aX G d 0)), (1, .int p0)]) hC dX5_goAlong_20 rfl (by decide) rfl ?_
  refine J_iload_n hC (j := 0) dX5_goAlong_21 rfl rfl ?_
  refine J_if_ne (tgt := 33) hC dX5_goAlong_22 (by decide) (fun c22 => ?_) (fun c22 => ?_)
  · refine J_aload_n hC (j := 1) dX5_goAlong_33 rfl rfl ?_
    refine J_get (v' := .ref (aX G d 12)) hC (nl_s0 hd) (ent_s0 hd) rfl in5 12 (by decide) rfl qw_695 rfl rfl dX5_goAlong_34 ?_
    refine J_iload_n hC (j := 2) dX5_goAlong_37 rfl rfl ?_
    refine J_iald (x := (D 12 (ix p0))) hC (nl_si12 hd) (ent_si12 hd) hm (iv rF) dX5_goAlong_38 ?_
    refine J_iconst (v := 1) hC dX5_goAlong_39 (by decide) ?_
    refine J_iadd hC dX5_goAlong_40 ?_
    refine J_istore_n (lv' := [(3, .int ((D 12 (ix p0)) + 1)), (2, .int (X 2 5 (ix ((7 * p0) + (irem (D 0 0) 7))))), (0, .ref (aX G d 0)), (1, .int p0)]) hC dX5_goAlong_41 rfl (by decide) rfl ?_
    refine J_iconst (v := 0) hC dX5_goAlong_42 (by decide) ?_
    refine J_istore (lv' := [(4, .int 0), (3, .int ((D 12 (ix p0)) + 1)), (2, .int (X 2 5 (ix ((7 * p0) + (irem (D 0 0) 7))))), (0, .ref (aX G d 0)), (1, .int p0)]) hC dX5_goAlong_43 (by decide) rfl ?_
    refine J_iconst (v := 0) hC dX5_goAlong_45 (by decide) ?_
    refine J_istore (lv' := [(5, .int 0), (4, .int 0), (3, .int ((D 12 (ix p0)) + 1)), (2, .int (X 2 5 (ix ((7 * p0) + (irem (D 0 0) 7))))), (0, .ref (aX G d 0)), (1, .int p0)]) hC dX5_goAlong_46 (by decide) rfl ?_
    have L48 : ∀ n i : Nat, i + n = 10 → Jd p l e ({ frames := 2, cells := 0, slots := 0, locals := 47 }) s m args below meth c (MQ below (CQ G none (va_up X d (goAl (X 2) D p0)) o) args s 0 0 (gB G)) G 8 0 0 (va_up X d (gaLoop (X 2) D p0 ((D 12 (ix p0)) + 1) (X 2 5 (ix ((7 * p0) + (irem (D 0 0) 7)))) i).1) o 48 [(0, .ref (aX G d 0)), (1, .int p0), (2, .int (X 2 5 (ix ((7 * p0) + (irem (D 0 0) 7))))), (3, .int ((D 12 (ix p0)) + 1)), (4, .int (gaLoop (X 2) D p0 ((D 12 (ix p0)) + 1) (X 2 5 (ix ((7 * p0) + (irem (D 0 0) 7)))) i).2), (5, .int (nI i))] [] := by
      intro n
      induction n with
      | zero =>
        intro i hn 
        obtain rfl : i = 10 := by omega
        refine J_iload hC (j := 5) dX5_goAlong_48 rfl ?_
        refine J_bipush (v := 10) hC dX5_goAlong_50 (by decide) ?_
        refine J_icmp_ge (tgt := 134) hC dX5_goAlong_52 (by decide) (fun c52 => ?_) (fun c52 => absurd c52 (not_not_intro (le_nI (K := 10) rfl (by omega) (by omega))))
        exact J_vret hC hr (congrArg (va_up X d) (by rw [goAl, gaWhat, if_neg c22])) rfl dX5_goAlong_134
      | succ n ih =>
        intro i hn 
        refine J_iload hC (j := 5) dX5_goAlong_48 rfl ?_
        refine J_bipush (v := 10) hC dX5_goAlong_50 (by decide) ?_
        refine J_icmp_ge (tgt := 134) hC dX5_goAlong_52 (by decide) (fun c52 => absurd c52 (nle_nI (K := 10) rfl (by omega) (by omega))) (fun c52 => ?_)
        refine J_iload hC (j := 4) dX5_goAlong_55 rfl ?_
        refine J_aload_n hC (j := 0) dX5_goAlong_57 rfl rfl ?_
        refine J_get (v' := .ref (aX G 2 0)) hC (nl_s0 hd) (ent_s0 hd) rfl in5 14 (by decide) rfl qw_698 rfl rfl dX5_goAlong_58 ?_
        refine J_getN (v' := .ref (aX G 2 4)) hC nl_m0 ent_m0 rfl in6 7 (by decide) rfl nqw_743 rfl rfl dX5_goAlong_61 ?_
        refine J_iload_n hC (j := 1) dX5_goAlong_64 rfl rfl ?_
        refine J_iald (x := (X 2 4 (ix p0))) hC (nl_mi (by decide)) (ent_mi4) hm (iv (rO (ne2 hd))) dX5_goAlong_65 ?_
        refine J_icmp_ge (tgt := 134) hC dX5_goAlong_66 (by decide) (fun c66 => ?_) (fun c66 => ?_)
        · exact J_vret hC hr (congrArg (va_up X d) (by rw [goAl, gaWhat, if_neg c22]; exact (congrArg Prod.fst (ga_stop c66 (by omega))).symm)) rfl dX5_goAlong_134
        · refine J_iload_n hC (j := 3) dX5_goAlong_69 rfl rfl ?_
          refine J_iload hC (j := 5) dX5_goAlong_70 rfl ?_
          refine J_iadd hC dX5_goAlong_72 ?_
          refine J_bipush (v := 10) hC dX5_goAlong_73 (by decide) ?_
          refine J_irem hC dX5_goAlong_75 (by decide) ?_
          refine J_istore (lv' := [(6, .int (irem (((D 12 (ix p0)) + 1) + (nI i)) 10)), (0, .ref (aX G d 0)), (1, .int p0), (2, .int (X 2 5 (ix ((7 * p0) + (irem (D 0 0) 7))))), (3, .int ((D 12 (ix p0)) + 1)), (4, .int (gaLoop (X 2) D p0 ((D 12 (ix p0)) + 1) (X 2 5 (ix ((7 * p0) + (irem (D 0 0) 7)))) i).2), (5, .int (nI i))]) hC dX5_goAlong_76 (by decide) rfl ?_
          refine J_aload_n hC (j := 1) dX5_goAlong_78 rfl rfl ?_
          refine J_get (v' := .ref (aX G d 1)) hC (nl_s0 hd) (ent_s0 hd) rfl in5 1 (by decide) rfl qw_673 rfl rfl dX5_goAlong_79 ?_
          refine J_bipush (v := 10) hC dX5_goAlong_82 (by decide) ?_
          refine J_aload_n hC (j := 1) dX5_goAlong_84 rfl rfl ?_
          refine J_get (v' := .ref (aX G 2 0)) hC (nl_s0 hd) (ent_s0 hd) rfl in5 14 (by decide) rfl qw_698 rfl rfl dX5_goAlong_85 ?_
          refine J_getN (v' := .ref (aX G 2 3)) hC nl_m0 ent_m0 rfl in6 6 (by decide) rfl nqw_741 rfl rfl dX5_goAlong_88 ?_
          refine J_iload_n hC (j := 2) dX5_goAlong_91 rfl rfl ?_
          refine J_iald (x := (X 2 3 (ix p0))) hC (nl_mi (by decide)) (ent_mi3) hm (iv (rO (ne2 hd))) dX5_goAlong_92 ?_
          refine J_imul hC dX5_goAlong_93 ?_
          refine J_iload hC (j := 0) dX5_goAlong_94 rfl ?_
          refine J_iadd hC dX5_goAlong_96 ?_
          refine J_iald (x := ((gaLoop (X 2) D p0 ((D 12 (ix p0)) + 1) (X 2 5 (ix ((7 * p0) + (irem (D 0 0) 7)))) i).1 1 (ix ((10 * (X 2 3 (ix p0))) + (irem (((D 12 (ix p0)) + 1) + (nI i)) 10))))) hC (nl_si1 hd) (ent_si1 hd) (vp_bd (hg.1 _ (vp_lt hm)) (vp_pl (hS.2.2 _ (vp_lt hm)).1 (hS.2.2 _ (vp_lt hm)).2 (by omega))) (iv rF) dX5_goAlong_97 ?_
          refine J_istore (lv' := [(7, .int ((gaLoop (X 2) D p0 ((D 12 (ix p0)) + 1) (X 2 5 (ix ((7 * p0) + (irem (D 0 0) 7)))) i).1 1 (ix ((10 * (X 2 3 (ix p0))) + (irem (((D 12 (ix p0)) + 1) + (nI i)) 10))))), (6, .int (irem (((D 12 (ix p0)) + 1) + (nI i)) 10)), (0, .ref (aX G d 0)), (1, .int p0), (2, .int (X 2 5 (ix ((7 * p0) + (irem (D 0 0) 7))))), (3, .int ((D 12 (ix p0)) + 1)), (4, .int (gaLoop (X 2) D p0 ((D 12 (ix p0)) + 1) (X 2 5 (ix ((7 * p0) + (irem (D 0 0) 7)))) i).2), (5, .int (nI i))]) hC dX5_goAlong_98 (by decide) rfl ?_
          refine J_iload hC (j := 0) dX5_goAlong_100 rfl ?_
          refine J_iconst (v := (-1)) hC dX5_goAlong_102 (by decide) ?_
          refine J_icmp_ne (tgt := 109) hC dX5_goAlong_103 (by decide) (fun c103 => ?_) (fun c103 => ?_)
          · refine J_aload_n hC (j := 2) dX5_goAlong_109 rfl rfl ?_
            refine J_iload_n hC (j := 3) dX5_goAlong_110 rfl rfl ?_
            refine J_iload hC (j := 0) dX5_goAlong_111 rfl ?_
            refine J_iload_n hC (j := 4) dX5_goAlong_113 rfl rfl ?_
            refine J_callVv hC (ct_X5_work l G X o d hd (gaLoop (X 2) D p0 ((D 12 (ix p0)) + 1) (X 2 5 (ix ((7 * p0) + (irem (D 0 0) 7)))) i).1 p0 ((gaLoop (X 2) D p0 ((D 12 (ix p0)) + 1) (X 2 5 (ix ((7 * p0) + (irem (D 0 0) 7)))) i).1 1 (ix ((10 * (X 2 3 (ix p0))) + (irem (((D 12 (ix p0)) + 1) + (nI i)) 10)))) (X 2 5 (ix ((7 * p0) + (irem (D 0 0) 7)))) hm (SI_bd (SI_gaLoop hS hm i (by omega)) (vp_bd (hg.1 _ (vp_lt hm)) (vp_pl (hS.2.2 _ (vp_lt hm)).1 (hS.2.2 _ (vp_lt hm)).2 (by omega))) c103)) mw_X5_work qw_914 (nl_s0 hd) (ent_s0 hd) rfl rfl rfl (Nat.le_of_ble_eq_true rfl) ⟨Nat.le_of_ble_eq_true rfl, Nat.le_of_ble_eq_true rfl⟩ ⟨Nat.le_of_ble_eq_true rfl, Nat.le_of_ble_eq_true rfl⟩ dX5_goAlong_114 ?_
            refine J_aload_n hC (j := 2) dX5_goAlong_117 rfl rfl ?_
            refine J_get (v' := .ref (aX G d 12)) hC (nl_s0 hd) (ent_s0 hd) rfl in5 12 (by decide) rfl qw_695 rfl rfl dX5_goAlong_118 ?_
            refine J_iload_n hC (j := 3) dX5_goAlong_121 rfl rfl ?_
            refine J_iload hC (j := 1) dX5_goAlong_122 rfl ?_
            refine J_iast (X' := (va_up X d (va_up (sWork (gaLoop (X 2) D p0 ((D 12 (ix p0)) + 1) (X 2 5 (ix ((7 * p0) + (irem (D 0 0) 7)))) i).1 p0 ((gaLoop (X 2) D p0 ((D 12 (ix p0)) + 1) (X 2 5 (ix ((7 * p0) + (irem (D 0 0) 7)))) i).1 1 (ix ((10 * (X 2 3 (ix p0))) + (irem (((D 12 (ix p0)) + 1) + (nI i)) 10)))) (X 2 5 (ix ((7 * p0) + (irem (D 0 0) 7))))) 12 (va_up ((sWork (gaLoop (X 2) D p0 ((D 12 (ix p0)) + 1) (X 2 5 (ix ((7 * p0) + (irem (D 0 0) 7)))) i).1 p0 ((gaLoop (X 2) D p0 ((D 12 (ix p0)) + 1) (X 2 5 (ix ((7 * p0) + (irem (D 0 0) 7)))) i).1 1 (ix ((10 * (X 2 3 (ix p0))) + (irem (((D 12 (ix p0)) + 1) + (nI i)) 10)))) (X 2 5 (ix ((7 * p0) + (irem (D 0 0) 7))))) 12) (ix p0) (irem (((D 12 (ix p0)) + 1) + (nI i)) 10))))) hC (nl_si12 hd) (ent_si12 hd) hm (pu_si12F hd) dX5_goAlong_124 ?_
            refine J_iinc (j := 6) (v := ((gaLoop (X 2) D p0 ((D 12 (ix p0)) + 1) (X 2 5 (ix ((7 * p0) + (irem (D 0 0) 7)))) i).2 + 1)) (lv' := [(4, .int ((gaLoop (X 2) D p0 ((D 12 (ix p0)) + 1) (X 2 5 (ix ((7 * p0) + (irem (D 0 0) 7)))) i).2 + 1)), (7, .int ((gaLoop (X 2) D p0 ((D 12 (ix p0)) + 1) (X 2 5 (ix ((7 * p0) + (irem (D 0 0) 7)))) i).1 1 (ix ((10 * (X 2 3 (ix p0))) + (irem (((D 12 (ix p0)) + 1) + (nI i)) 10))))), (6, .int (irem (((D 12 (ix p0)) + 1) + (nI i)) 10)), (0, .ref (aX G d 0)), (1, .int p0), (2, .int (X 2 5 (ix ((7 * p0) + (irem (D 0 0) 7))))), (3, .int ((D 12 (ix p0)) + 1)), (5, .int (nI i))]) hC dX5_goAlong_125 rfl rfl (by decide) rfl ?_
            refine J_iinc (j := 7) (v := ((nI i) + 1)) (lv' := [(5, .int ((nI i) + 1)), (4, .int ((gaLoop (X 2) D p0 ((D 12 (ix p0)) + 1) (X 2 5 (ix ((7 * p0) + (irem (D 0 0) 7)))) i).2 + 1)), (7, .int ((gaLoop (X 2) D p0 ((D 12 (ix p0)) + 1) (X 2 5 (ix ((7 * p0) + (irem (D 0 0) 7)))) i).1 1 (ix ((10 * (X 2 3 (ix p0))) + (irem (((D 12 (ix p0)) + 1) + (nI i)) 10))))), (6, .int (irem (((D 12 (ix p0)) + 1) + (nI i)) 10)), (0, .ref (aX G d 0)), (1, .int p0), (2, .int (X 2 5 (ix ((7 * p0) + (irem (D 0 0) 7))))), (3, .int ((D 12 (ix p0)) + 1))]) hC dX5_goAlong_128 rfl rfl (by decide) rfl ?_
            refine J_goto (tgt := 48) hC dX5_goAlong_131 (by decide) ?_
            refine J_lv [4, 5, 6, 7, 1, 0] (lv' := [(0, .ref (aX G d 0)), (1, .int p0), (2, .int (X 2 5 (ix ((7 * p0) + (irem (D 0 0) 7))))), (3, .int ((D 12 (ix p0)) + 1)), (4, .int ((gaLoop (X 2) D p0 ((D 12 (ix p0)) + 1) (X 2 5 (ix ((7 * p0) + (irem (D 0 0) 7)))) i).2 + 1)), (5, .int ((nI i) + 1))]) rfl ?_
            exact J_cast (congrArg (va_up X d) (by rw [ga_step1 c66 c103])) (by rw [ga_step1 c66 c103, nI_succ]) rfl (ih (i + 1) (by omega) )
          · refine J_goto (tgt := 128) hC dX5_goAlong_106 (by decide) ?_
            refine J_iinc (j := 7) (v := ((nI i) + 1)) (lv' := [(5, .int ((nI i) + 1)), (7, .int ((gaLoop (X 2) D p0 ((D 12 (ix p0)) + 1) (X 2 5 (ix ((7 * p0) + (irem (D 0 0) 7)))) i).1 1 (ix ((10 * (X 2 3 (ix p0))) + (irem (((D 12 (ix p0)) + 1) + (nI i)) 10))))), (6, .int (irem (((D 12 (ix p0)) + 1) + (nI i)) 10)), (0, .ref (aX G d 0)), (1, .int p0), (2, .int (X 2 5 (ix ((7 * p0) + (irem (D 0 0) 7))))), (3, .int ((D 12 (ix p0)) + 1)), (4, .int (gaLoop (X 2) D p0 ((D 12 (ix p0)) + 1) (X 2 5 (ix ((7 * p0) + (irem (D 0 0) 7)))) i).2)]) hC dX5_goAlong_128 rfl rfl (by decide) rfl ?_
            refine J_goto (tgt := 48) hC dX5_goAlong_131 (by decide) ?_
            refine J_lv [3, 4, 5, 6, 7, 0] (lv' := [(0, .ref (aX G d 0)), (1, .int p0), (2, .int (X 2 5 (ix ((7 * p0) + (irem (D 0 0) 7))))), (3, .int ((D 12 (ix p0)) + 1)), (4, .int (gaLoop (X 2) D p0 ((D 12 (ix p0)) + 1) (X 2 5 (ix ((7 * p0) + (irem (D 0 0) 7)))) i).2), (5, .int ((nI i) + 1))]) rfl ?_
            exact J_cast (congrArg (va_up X d) (by rw [ga_step0 c66 c103])) (by rw [ga_step0 c66 c103, nI_succ]) rfl (ih (i + 1) (by omega) )
    refine J_lv [4, 5, 3, 2, 1, 0] (lv' := [(0, .ref (aX G d 0)), (1, .int p0), (2, .int (X 2 5 (ix ((7 * p0) + (irem (D 0 0) 7))))), (3, .int ((D 12 (ix p0)) + 1)), (4, .int 0), (5, .int 0)]) rfl ?_
    exact J_cast (by simp [gaLoop, rep]) (by first | rfl | simp [nI_0, gaLoop, rep]) rfl (L48 10 0 (by omega) )
  · refine J_aload_n hC (j := 1) dX5_goAlong_25 rfl rfl ?_
    refine J_get (v' := .ref (aX G d 11)) hC (nl_s0 hd) (ent_s0 hd) rfl in5 11 (by decide) rfl qw_693 rfl rfl dX5_goAlong_26 ?_
    refine J_iload_n hC (j := 2) dX5_goAlong_29 rfl rfl ?_
    refine J_iconst (v := 0) hC dX5_goAlong_30 (by decide) ?_
    refine J_iast (X' := (va_up X d (va_up D 11 (va_up (D 11) (ix p0) 0)))) hC (nl_si11 hd) (ent_si11 hd) hm (pu_si11F hd) dX5_goAlong_31 ?_
    exact J_vret hC hr (congrArg (va_up X d) (by simp [goAl, gaWhat, c22])) rfl dX5_goAlong_32
set_option maxHeartbeats 4000000 in
set_option maxRecDepth 100000 in
theorem ct_X5_ripen (l : Launch) (G : GG) (X : XX) (o : OO) (d : Nat) (hd : d = 3 ∨ d = 4) (D : DD) (p0 : Int32) (hw : vp_in p0 24) (hS : SI D) : CT l yX5_ripen cX5_ripen 3 none 1 22 0 0 G [.ref (aX G d 0), .int p0] (va_up X d D) o none (va_up X d (sRip (X 2) D p0)) o := by
  refine CT_of (own := RX5) (lv := [(0, .ref (aX G d 0)), (1, .int p0)]) (by decide) rfl (Nat.le_of_ble_eq_true rfl) rfl ?_
  intro p e s m args below meth c hr hC
  have T160 : Jd p l e ({ frames := 1, cells := 0, slots := 0, locals := 22 }) s m args below meth c (MQ below (CQ G none (va_up X d (sRip (X 2) D p0)) o) args s 0 0 (gB G)) G 3 0 0 (va_up X d (rpN (X 2) D p0)) o 160 [(2, .int ((D 3 (ix p0)) / 10)), (0, .ref (aX G d 0)), (1, .int p0)] [] := by
    refine J_aload_n hC (j := 1) dX5_ripen_160 rfl rfl ?_
    refine J_get (v' := .ref (aX G d 8)) hC (nl_s0 hd) (ent_s0 hd) rfl in5 8 (by decide) rfl qw_687 rfl rfl dX5_ripen_161 ?_
    refine J_iload_n hC (j := 2) dX5_ripen_164 rfl rfl ?_
    refine J_iald (x := ((rpN (X 2) D p0) 8 (ix p0))) hC (nl_si8 hd) (ent_si8 hd) hw (iv rF) dX5_ripen_165 ?_
    refine J_iconst (v := 3) hC dX5_ripen_166 (by decide) ?_
    refine J_icmp_ne (tgt := 181) hC dX5_ripen_167 (by decide) (fun c167 => ?_) (fun c167 => ?_)
    · refine J_aload_n hC (j := 1) dX5_ripen_181 rfl rfl ?_
      refine J_get (v' := .ref (aX G d 6)) hC (nl_s0 hd) (ent_s0 hd) rfl in5 6 (by decide) rfl qw_683 rfl rfl dX5_ripen_182 ?_
      refine J_iload_n hC (j := 2) dX5_ripen_185 rfl rfl ?_
      refine J_iald (x := ((rpN (X 2) D p0) 6 (ix p0))) hC (nl_si6 hd) (ent_si6 hd) hw (iv rF) dX5_ripen_186 ?_
      refine J_if_ne (tgt := 196) hC dX5_ripen_187 (by decide) (fun c187 => ?_) (fun c187 => ?_)
      · exact J_vret hC hr (congrArg (va_up X d) (by simp [sRip, c167, c187])) rfl dX5_ripen_196
      · refine J_aload_n hC (j := 1) dX5_ripen_190 rfl rfl ?_
        refine J_iload_n hC (j := 2) dX5_ripen_191 rfl rfl ?_
        refine J_iconst (v := 2) hC dX5_ripen_192 (by decide) ?_
        refine J_callVv hC (ct_X5_leave l G X o d hd (rpN (X 2) D p0) p0 2 hw (rp_at hS hw (rpN_row (by decide)))) mw_X5_leave qw_936 (nl_s0 hd) (ent_s0 hd) rfl rfl rfl (Nat.le_of_ble_eq_true rfl) ⟨Nat.le_of_ble_eq_true rfl, Nat.le_of_ble_eq_true rfl⟩ ⟨Nat.le_of_ble_eq_true rfl, Nat.le_of_ble_eq_true rfl⟩ dX5_ripen_193 ?_
        exact J_vret hC hr (congrArg (va_up X d) (by simp [sRip, c167, c187])) rfl dX5_ripen_196
    · refine J_aload_n hC (j := 1) dX5_ripen_170 rfl rfl ?_
      refine J_get (v' := .ref (aX G d 9)) hC (nl_s0 hd) (ent_s0 hd) rfl in5 9 (by decide) rfl qw_689 rfl rfl dX5_ripen_171 ?_
      refine J_iload_n hC (j := 2) dX5_ripen_174 rfl rfl ?_
      refine J_iald (x := ((rpN (X 2) D p0) 9 (ix p0))) hC (nl_si9 hd) (ent_si9 hd) hw (iv rF) dX5_ripen_175 ?_
      refine J_bipush (v := 9) hC dX5_ripen_176 (by decide) ?_
      refine J_icmp_eq (tgt := 190) hC dX5_ripen_178 (by decide) (fun c178 => ?_) (fun c178 => ?_)
      · refine J_aload_n hC (j := 1) dX5_ripen_190 rfl rfl ?_
        refine J_iload_n hC (j := 2) dX5_ripen_191 rfl rfl ?_
        refine J_iconst (v := 2) hC dX5_ripen_192 (by decide) ?_
        refine J_callVv hC (ct_X5_leave l G X o d hd (rpN (X 2) D p0) p0 2 hw (rp_at hS hw (rpN_row (by decide)))) mw_X5_leave qw_936 (nl_s0 hd) (ent_s0 hd) rfl rfl rfl (Nat.le_of_ble_eq_true rfl) ⟨Nat.le_of_ble_eq_true rfl, Nat.le_of_ble_eq_true rfl⟩ ⟨Nat.le_of_ble_eq_true rfl, Nat.le_of_ble_eq_true rfl⟩ dX5_ripen_193 ?_
        exact J_vret hC hr (congrArg (va_up X d) (by simp [sRip, c167, c178])) rfl dX5_ripen_196
      · refine J_aload_n hC (j := 1) dX5_ripen_181 rfl rfl ?_
        refine J_get (v' := .ref (aX G d 6)) hC (nl_s0 hd) (ent_s0 hd) rfl in5 6 (by decide) rfl qw_683 rfl rfl dX5_ripen_182 ?_
        refine J_iload_n hC (j := 2) dX5_ripen_185 rfl rfl ?_
        refine J_iald (x := ((rpN (X 2) D p0) 6 (ix p0))) hC (nl_si6 hd) (ent_si6 hd) hw (iv rF) dX5_ripen_186 ?_
        refine J_if_ne (tgt := 196) hC dX5_ripen_187 (by decide) (fun c187 => ?_) (fun c187 => ?_)
        · exact J_vret hC hr (congrArg (va_up X d) (by simp [sRip, c167, c178, c187])) rfl dX5_ripen_196
        · refine J_aload_n hC (j := 1) dX5_ripen_190 rfl rfl ?_
          refine J_iload_n hC (j := 2) dX5_ripen_191 rfl rfl ?_
          refine J_iconst (v := 2) hC dX5_ripen_192 (by decide) ?_
          refine J_callVv hC (ct_X5_leave l G X o d hd (rpN (X 2) D p0) p0 2 hw (rp_at hS hw (rpN_row (by decide)))) mw_X5_leave qw_936 (nl_s0 hd) (ent_s0 hd) rfl rfl rfl (Nat.le_of_ble_eq_true rfl) ⟨Nat.le_of_ble_eq_true rfl, Nat.le_of_ble_eq_true rfl⟩ ⟨Nat.le_of_ble_eq_true rfl, Nat.le_of_ble_eq_true rfl⟩ dX5_ripen_193 ?_
          exact J_vret hC hr (congrArg (va_up X d) (by simp [sRip, c167, c178, c187])) rfl dX5_ripen_196
  have T119 : Jd p l e ({ frames := 1, cells := 0, slots := 0, locals := 22 }) s m args below meth c (MQ below (CQ G none (va_up X d (sRip (X 2) D p0)) o) args s 0 0 (gB G)) G 3 0 0 (va_up X d (rp2_ (X 2) (rp1_ (X 2) D p0 ((D 3 (ix p0)) / 10)) p0 ((D 3 (ix p0)) / 10))) o 119 [(2, .int ((D 3 (ix p0)) / 10)), (0, .ref (aX G d 0)), (1, .int p0)] [] := by
    refine J_aload_n hC (j := 1) dX5_ripen_119 rfl rfl ?_
    refine J_get (v' := .ref (aX G d 6)) hC (nl_s0 hd) (ent_s0 hd) rfl in5 6 (by decide) rfl qw_683 rfl rfl dX5_ripen_120 ?_
    refine J_iload_n hC (j := 2) dX5_ripen_123 rfl rfl ?_
    refine J_iconst (v := 0) hC dX5_ripen_124 (by decide) ?_
    refine J_aload_n hC (j := 1) dX5_ripen_125 rfl rfl ?_
    refine J_get (v' := .ref (aX G d 6)) hC (nl_s0 hd) (ent_s0 hd) rfl in5 6 (by decide) rfl qw_683 rfl rfl dX5_ripen_126 ?_
    refine J_iload_n hC (j := 2) dX5_ripen_129 rfl rfl ?_
    refine J_iald (x := ((rp2_ (X 2) (rp1_ (X 2) D p0 ((D 3 (ix p0)) / 10)) p0 ((D 3 (ix p0)) / 10)) 6 (ix p0))) hC (nl_si6 hd) (ent_si6 hd) hw (iv rF) dX5_ripen_130 ?_
    refine J_bipush (v := 10) hC dX5_ripen_131 (by decide) ?_
    refine J_aload_n hC (j := 1) dX5_ripen_133 rfl rfl ?_
    refine J_get (v' := .ref (aX G 2 0)) hC (nl_s0 hd) (ent_s0 hd) rfl in5 14 (by decide) rfl qw_698 rfl rfl dX5_ripen_134 ?_
    refine J_getN (v' := .ref (aX G 2 2)) hC nl_m0 ent_m0 rfl in6 3 (by decide) rfl nqw_735 rfl rfl dX5_ripen_137 ?_
    refine J_iload_n hC (j := 0) dX5_ripen_140 rfl rfl ?_
    refine J_iald (x := (X 2 2 (ix ((D 3 (ix p0)) / 10)))) hC (nl_mi (by decide)) (ent_mi2) (vp_ca (hS.1 _ (vp_lt hw))) (iv (rO (ne2 hd))) dX5_ripen_141 ?_
    refine J_isub hC dX5_ripen_142 ?_
    refine J_iconst (v := 2) hC dX5_ripen_143 (by decide) ?_
    refine J_idiv hC dX5_ripen_144 (by decide) ?_
    refine J_isub hC dX5_ripen_145 ?_
    refine J_max hC qw_841 qw_221 qw_41 qw_222 ⟨Nat.le_of_ble_eq_true rfl, Nat.le_of_ble_eq_true rfl, Nat.le_of_ble_eq_true rfl, Nat.le_of_ble_eq_true rfl⟩ dX5_ripen_146 ?_
    refine J_iast (X' := (va_up X d (va_up (rp2_ (X 2) (rp1_ (X 2) D p0 ((D 3 (ix p0)) / 10)) p0 ((D 3 (ix p0)) / 10)) 6 (va_up ((rp2_ (X 2) (rp1_ (X 2) D p0 ((D 3 (ix p0)) / 10)) p0 ((D 3 (ix p0)) / 10)) 6) (ix p0) (imax 0 (((rp2_ (X 2) (rp1_ (X 2) D p0 ((D 3 (ix p0)) / 10)) p0 ((D 3 (ix p0)) / 10)) 6 (ix p0)) - ((10 - (X 2 2 (ix ((D 3 (ix p0)) / 10)))) / 2))))))) hC (nl_si6 hd) (ent_si6 hd) hw (pu_si6F hd) dX5_ripen_149 ?_
    refine J_aload_n hC (j := 1) dX5_ripen_150 rfl rfl ?_
    refine J_get (v' := .ref (aX G d 7)) hC (nl_s0 hd) (ent_s0 hd) rfl in5 7 (by decide) rfl qw_685 rfl rfl dX5_ripen_151 ?_
    refine J_iload_n hC (j := 2) dX5_ripen_154 rfl rfl ?_
    refine J_dup2 hC dX5_ripen_155 rfl rfl ?_
    refine J_iald (x := ((rp2_ (X 2) (rp1_ (X 2) D p0 ((D 3 (ix p0)) / 10)) p0 ((D 3 (ix p0)) / 10)) 7 (ix p0))) hC (nl_si7 hd) (ent_si7 hd) hw (iv (rG (x := ((rp2_ (X 2) (rp1_ (X 2) D p0 ((D 3 (ix p0)) / 10)) p0 ((D 3 (ix p0)) / 10)) 7 (ix p0))) (by first | simp only [va_up_self] | rfl | simp [va_up]))) dX5_ripen_156 ?_
    refine J_iconst (v := 1) hC dX5_ripen_157 (by decide) ?_
    refine J_iadd hC dX5_ripen_158 ?_
    refine J_iast (X' := (va_up X d (va_up (va_up (rp2_ (X 2) (rp1_ (X 2) D p0 ((D 3 (ix p0)) / 10)) p0 ((D 3 (ix p0)) / 10)) 6 (va_up ((rp2_ (X 2) (rp1_ (X 2) D p0 ((D 3 (ix p0)) / 10)) p0 ((D 3 (ix p0)) / 10)) 6) (ix p0) (imax 0 (((rp2_ (X 2) (rp1_ (X 2) D p0 ((D 3 (ix p0)) / 10)) p0 ((D 3 (ix p0)) / 10)) 6 (ix p0)) - ((10 - (X 2 2 (ix ((D 3 (ix p0)) / 10)))) / 2))))) 7 (va_up ((rp2_ (X 2) (rp1_ (X 2) D p0 ((D 3 (ix p0)) / 10)) p0 ((D 3 (ix p0)) / 10)) 7) (ix p0) (((rp2_ (X 2) (rp1_ (X 2) D p0 ((D 3 (ix p0)) / 10)) p0 ((D 3 (ix p0)) / 10)) 7 (ix p0)) + 1))))) hC (nl_si7 hd) (ent_si7 hd) hw (pu_si7F hd) dX5_ripen_159 ?_
    refine J_lv [0, 1, 2] (lv' := [(2, .int ((D 3 (ix p0)) / 10)), (0, .ref (aX G d 0)), (1, .int p0)]) rfl ?_
    exact J_cast (congrArg (va_up X d) (by first | rfl | simp [rpN, rp3_, rp4_])) (by first | rfl | simp [rpN, rp3_, rp4_]) (by first | rfl | simp [rpN, rp3_, rp4_]) T160
  have T67 : Jd p l e ({ frames := 1, cells := 0, slots := 0, locals := 22 }) s m args below meth c (MQ below (CQ G none (va_up X d (sRip (X 2) D p0)) o) args s 0 0 (gB G)) G 3 0 0 (va_up X d (rp1_ (X 2) D p0 ((D 3 (ix p0)) / 10))) o 67 [(2, .int ((D 3 (ix p0)) / 10)), (0, .ref (aX G d 0)), (1, .int p0)] [] := by
    refine J_aload_n hC (j := 1) dX5_ripen_67 rfl rfl ?_
    refine J_get (v' := .ref (aX G d 4)) hC (nl_s0 hd) (ent_s0 hd) rfl in5 4 (by decide) rfl qw_679 rfl rfl dX5_ripen_68 ?_
    refine J_iload_n hC (j := 2) dX5_ripen_71 rfl rfl ?_
    refine J_bipush (v := 100) hC dX5_ripen_72 (by decide) ?_
    refine J_aload_n hC (j := 1) dX5_ripen_74 rfl rfl ?_
    refine J_get (v' := .ref (aX G d 4)) hC (nl_s0 hd) (ent_s0 hd) rfl in5 4 (by decide) rfl qw_679 rfl rfl dX5_ripen_75 ?_
    refine J_iload_n hC (j := 2) dX5_ripen_78 rfl rfl ?_
    refine J_iald (x := ((rp1_ (X 2) D p0 ((D 3 (ix p0)) / 10)) 4 (ix p0))) hC (nl_si4 hd) (ent_si4 hd) hw (iv rF) dX5_ripen_79 ?_
    refine J_aload_n hC (j := 1) dX5_ripen_80 rfl rfl ?_
    refine J_get (v' := .ref (aX G d 7)) hC (nl_s0 hd) (ent_s0 hd) rfl in5 7 (by decide) rfl qw_685 rfl rfl dX5_ripen_81 ?_
    refine J_iload_n hC (j := 2) dX5_ripen_84 rfl rfl ?_
    refine J_iald (x := ((rp1_ (X 2) D p0 ((D 3 (ix p0)) / 10)) 7 (ix p0))) hC (nl_si7 hd) (ent_si7 hd) hw (iv rF) dX5_ripen_85 ?_
    refine J_bipush (v := 7) hC dX5_ripen_86 (by decide) ?_
    refine J_icmp_lt (tgt := 105) hC dX5_ripen_88 (by decide) (fun c88 => ?_) (fun c88 => ?_)
    · refine J_aload_n hC (j := 1) dX5_ripen_105 rfl rfl ?_
      refine J_get (v' := .ref (aX G 2 0)) hC (nl_s0 hd) (ent_s0 hd) rfl in5 14 (by decide) rfl qw_698 rfl rfl dX5_ripen_106 ?_
      refine J_getN (v' := .ref (aX G 2 1)) hC nl_m0 ent_m0 rfl in6 2 (by decide) rfl nqw_733 rfl rfl dX5_ripen_109 ?_
      refine J_iload_n hC (j := 0) dX5_ripen_112 rfl rfl ?_
      refine J_iald (x := (X 2 1 (ix ((D 3 (ix p0)) / 10)))) hC (nl_mi (by decide)) (ent_mi1) (vp_ca (hS.1 _ (vp_lt hw))) (iv (rO (ne2 hd))) dX5_ripen_113 ?_
      refine J_iadd hC dX5_ripen_114 ?_
      refine J_min hC qw_918 qw_569 qw_41 qw_570 ⟨Nat.le_of_ble_eq_true rfl, Nat.le_of_ble_eq_true rfl, Nat.le_of_ble_eq_true rfl, Nat.le_of_ble_eq_true rfl⟩ dX5_ripen_115 ?_
      refine J_iast (X' := (va_up X d (va_up (rp1_ (X 2) D p0 ((D 3 (ix p0)) / 10)) 4 (va_up ((rp1_ (X 2) D p0 ((D 3 (ix p0)) / 10)) 4) (ix p0) (imin 100 (((rp1_ (X 2) D p0 ((D 3 (ix p0)) / 10)) 4 (ix p0)) + (X 2 1 (ix ((D 3 (ix p0)) / 10))))))))) hC (nl_si4 hd) (ent_si4 hd) hw (pu_si4F hd) dX5_ripen_118 ?_
      refine J_lv [0, 1, 2] (lv' := [(2, .int ((D 3 (ix p0)) / 10)), (0, .ref (aX G d 0)), (1, .int p0)]) rfl ?_
      exact J_cast (congrArg (va_up X d) (by first | rfl | simp [rp2_, c88])) (by first | rfl | simp [rp2_, c88]) (by first | rfl | simp [rp2_, c88]) T119
    · refine J_aload_n hC (j := 1) dX5_ripen_91 rfl rfl ?_
      refine J_get (v' := .ref (aX G 2 0)) hC (nl_s0 hd) (ent_s0 hd) rfl in5 14 (by decide) rfl qw_698 rfl rfl dX5_ripen_92 ?_
      refine J_getN (v' := .ref (aX G 2 1)) hC nl_m0 ent_m0 rfl in6 2 (by decide) rfl nqw_733 rfl rfl dX5_ripen_95 ?_
      refine J_iload_n hC (j := 0) dX5_ripen_98 rfl rfl ?_
      refine J_iald (x := (X 2 1 (ix ((D 3 (ix p0)) / 10)))) hC (nl_mi (by decide)) (ent_mi1) (vp_ca (hS.1 _ (vp_lt hw))) (iv (rO (ne2 hd))) dX5_ripen_99 ?_
      refine J_iconst (v := 2) hC dX5_ripen_100 (by decide) ?_
      refine J_idiv hC dX5_ripen_101 (by decide) ?_
      refine J_goto (tgt := 114) hC dX5_ripen_102 (by decide) ?_
      refine J_iadd hC dX5_ripen_114 ?_
      refine J_min hC qw_918 qw_569 qw_41 qw_570 ⟨Nat.le_of_ble_eq_true rfl, Nat.le_of_ble_eq_true rfl, Nat.le_of_ble_eq_true rfl, Nat.le_of_ble_eq_true rfl⟩ dX5_ripen_115 ?_
      refine J_iast (X' := (va_up X d (va_up (rp1_ (X 2) D p0 ((D 3 (ix p0)) / 10)) 4 (va_up ((rp1_ (X 2) D p0 ((D 3 (ix p0)) / 10)) 4) (ix p0) (imin 100 (((rp1_ (X 2) D p0 ((D 3 (ix p0)) / 10)) 4 (ix p0)) + ((X 2 1 (ix ((D 3 (ix p0)) / 10))) / 2))))))) hC (nl_si4 hd) (ent_si4 hd) hw (pu_si4F hd) dX5_ripen_118 ?_
      refine J_lv [0, 1, 2] (lv' := [(2, .int ((D 3 (ix p0)) / 10)), (0, .ref (aX G d 0)), (1, .int p0)]) rfl ?_
      exact J_cast (congrArg (va_up X d) (by first | rfl | simp [rp2_, c88])) (by first | rfl | simp [rp2_, c88]) (by first | rfl | simp [rp2_, c88]) T119
  refine J_aload_n hC (j := 0) dX5_ripen_0 rfl rfl ?_
  refine J_get (v' := .ref (aX G d 3)) hC (nl_s0 hd) (ent_s0 hd) rfl in5 3 (by decide) rfl qw_677 rfl rfl dX5_ripen_1 ?_
  refine J_iload_n hC (j := 1) dX5_ripen_4 rfl rfl ?_
  refine J_iald (x := (D 3 (ix p0))) hC (nl_si3 hd) (ent_si3 hd) hw (iv rF) dX5_ripen_5 ?_
  refine J_bipush (v := 10) hC dX5_ripen_6 (by decide) ?_
  refine J_idiv hC dX5_ripen_8 (by decide) ?_
  refine J_istore_n (lv' := [(2, .int ((D 3 (ix p0)) / 10)), (0, .ref (aX G d 0)), (1, .int p0)]) hC dX5_ripen_9 rfl (by decide) rfl ?_
  refine J_aload_n hC (j := 1) dX5_ripen_10 rfl rfl ?_
  refine J_get (v' := .ref (aX G d 8)) hC (nl_s0 hd) (ent_s0 hd) rfl in5 8 (by decide) rfl qw_687 rfl rfl dX5_ripen_11 ?_
  refine J_iload_n hC (j := 2) dX5_ripen_14 rfl rfl ?_
  refine J_iald (x := (D 8 (ix p0))) hC (nl_si8 hd) (ent_si8 hd) hw (iv rF) dX5_ripen_15 ?_
  refine J_if_le (tgt := 67) hC dX5_ripen_16 (by decide) (fun c16 => ?_) (fun c16 => ?_)
  · refine J_lv [0, 1, 2] (lv' := [(2, .int ((D 3 (ix p0)) / 10)), (0, .ref (aX G d 0)), (1, .int p0)]) rfl ?_
    exact J_cast (congrArg (va_up X d) (by first | rfl | simp [rp1_, c16])) (by first | rfl | simp [rp1_, c16]) (by first | rfl | simp [rp1_, c16]) T67
  · refine J_aload_n hC (j := 1) dX5_ripen_19 rfl rfl ?_
    refine J_get (v' := .ref (aX G d 5)) hC (nl_s0 hd) (ent_s0 hd) rfl in5 5 (by decide) rfl qw_681 rfl rfl dX5_ripen_20 ?_
    refine J_iload_n hC (j := 2) dX5_ripen_23 rfl rfl ?_
    refine J_iald (x := (D 5 (ix p0))) hC (nl_si5 hd) (ent_si5 hd) hw (iv rF) dX5_ripen_24 ?_
    refine J_bipush (v := 12) hC dX5_ripen_25 (by decide) ?_
    refine J_icmp_ge (tgt := 67) hC dX5_ripen_27 (by decide) (fun c27 => ?_) (fun c27 => ?_)
    · refine J_lv [0, 1, 2] (lv' := [(2, .int ((D 3 (ix p0)) / 10)), (0, .ref (aX G d 0)), (1, .int p0)]) rfl ?_
      exact J_cast (congrArg (va_up X d) (by first | rfl | simp [rp1_, c16, c27])) (by first | rfl | simp [rp1_, c16, c27]) (by first | rfl | simp [rp1_, c16, c27]) T67
    · refine J_aload_n hC (j := 1) dX5_ripen_30 rfl rfl ?_
      refine J_get (v' := .ref (aX G d 9)) hC (nl_s0 hd) (ent_s0 hd) rfl in5 9 (by decide) rfl qw_689 rfl rfl dX5_ripen_31 ?_
      refine J_iload_n hC (j := 2) dX5_ripen_34 rfl rfl ?_
      refine J_bipush (v := 9) hC dX5_ripen_35 (by decide) ?_
      refine J_aload_n hC (j := 1) dX5_ripen_37 rfl rfl ?_
      refine J_get (v' := .ref (aX G d 9)) hC (nl_s0 hd) (ent_s0 hd) rfl in5 9 (by decide) rfl qw_689 rfl rfl dX5_ripen_38 ?_
      refine J_iload_n hC (j := 2) dX5_ripen_41 rfl rfl ?_
      refine J_iald (x := (D 9 (ix p0))) hC (nl_si9 hd) (ent_si9 hd) hw (iv rF) dX5_ripen_42 ?_
      refine J_aload_n hC (j := 1) dX5_ripen_43 rfl rfl ?_
      refine J_get (v' := .ref (aX G 2 0)) hC (nl_s0 hd) (ent_s0 hd) rfl in5 14 (by decide) rfl qw_698 rfl rfl dX5_ripen_44 ?_
      refine J_getN (v' := .ref (aX G 2 2)) hC nl_m0 ent_m0 rfl in6 3 (by decide) rfl nqw_735 rfl rfl dX5_ripen_47 ?_
      refine J_iload_n hC (j := 0) dX5_ripen_50 rfl rfl ?_
      refine J_iald (x := (X 2 2 (ix ((D 3 (ix p0)) / 10)))) hC (nl_mi (by decide)) (ent_mi2) (vp_ca (hS.1 _ (vp_lt hw))) (iv (rO (ne2 hd))) dX5_ripen_51 ?_
      refine J_bipush (v := 6) hC dX5_ripen_52 (by decide) ?_
      refine J_icmp_lt (tgt := 61) hC dX5_ripen_54 (by decide) (fun c54 => ?_) (fun c54 => ?_)
      · refine J_iconst (v := 1) hC dX5_ripen_61 (by decide) ?_
        refine J_iadd hC dX5_ripen_62 ?_
        refine J_min hC qw_918 qw_569 qw_41 qw_570 ⟨Nat.le_of_ble_eq_true rfl, Nat.le_of_ble_eq_true rfl, Nat.le_of_ble_eq_true rfl, Nat.le_of_ble_eq_true rfl⟩ dX5_ripen_63 ?_
        refine J_iast (X' := (va_up X d (va_up D 9 (va_up (D 9) (ix p0) (imin 9 ((D 9 (ix p0)) + 1)))))) hC (nl_si9 hd) (ent_si9 hd) hw (pu_si9F hd) dX5_ripen_66 ?_
        refine J_lv [0, 1, 2] (lv' := [(2, .int ((D 3 (ix p0)) / 10)), (0, .ref (aX G d 0)), (1, .int p0)]) rfl ?_
        exact J_cast (congrArg (va_up X d) (by first | rfl | simp [rp1_, c16, c27, c54])) (by first | rfl | simp [rp1_, c16, c27, c54]) (by first | rfl | simp [rp1_, c16, c27, c54]) T67
      · refine J_iconst (v := 2) hC dX5_ripen_57 (by decide) ?_
        refine J_goto (tgt := 62) hC dX5_ripen_58 (by decide) ?_
        refine J_iadd hC dX5_ripen_62 ?_
        refine J_min hC qw_918 qw_569 qw_41 qw_570 ⟨Nat.le_of_ble_eq_true rfl, Nat.le_of_ble_eq_true rfl, Nat.le_of_ble_eq_true rfl, Nat.le_of_ble_eq_true rfl⟩ dX5_ripen_63 ?_
        refine J_iast (X' := (va_up X d (va_up D 9 (va_up (D 9) (ix p0) (imin 9 ((D 9 (ix p0)) + 2)))))) hC (nl_si9 hd) (ent_si9 hd) hw (pu_si9F hd) dX5_ripen_66 ?_
        refine J_lv [0, 1, 2] (lv' := [(2, .int ((D 3 (ix p0)) / 10)), (0, .ref (aX G d 0)), (1, .int p0)]) rfl ?_
        exact J_cast (congrArg (va_up X d) (by first | rfl | simp [rp1_, c16, c27, c54])) (by first | rfl | simp [rp1_, c16, c27, c54]) (by first | rfl | simp [rp1_, c16, c27, c54]) T67
set_option maxHeartbeats 4000000 in
set_option maxRecDepth 100000 in
theorem ct_X5_many (l : Launch) (G : GG) (X : XX) (o : OO) (d : Nat) (hd : d = 3 ∨ d = 4) (D : DD) (p0 : Int32) (hg : GG2 (X 2)) : CT l yX5_many cX5_many 4 (some .int) 0 0 0 0 G [.ref (aX G d 0), .int p0] (va_up X d D) o (some (.int (manyS (X 2) D p0 (ix (X 2 0 4))))) (va_up X d D) o := by
  refine CT_of (own := RX5) (lv := [(0, .ref (aX G d 0)), (1, .int p0)]) (by decide) rfl (Nat.le_of_ble_eq_true rfl) rfl ?_
  intro p e s m args below meth c hr hC
  have h24 := g2w hg
  refine J_iconst (v := 0) hC dX5_many_0 (by decide) ?_
  refine J_istore_n (lv' := [(2, .int 0), (0, .ref (aX G d 0)), (1, .int p0)]) hC dX5_many_1 rfl (by decide) rfl ?_
  refine J_iconst (v := 0) hC dX5_many_2 (by decide) ?_
  refine J_istore_n (lv' := [(3, .int 0), (2, .int 0), (0, .ref (aX G d 0)), (1, .int p0)]) hC dX5_many_3 rfl (by decide) rfl ?_
  have L4 : ∀ n i : Nat, i + n = (ix (X 2 0 4)) → Jd p l e ({ frames := 0, cells := 0, slots := 0, locals := 0 }) s m args below meth c (MQ below (CQ G (some (.int (manyS (X 2) D p0 (ix (X 2 0 4))))) (va_up X d D) o) args s 0 0 (gB G)) G 4 0 0 (va_up X d D) o 4 [(0, .ref (aX G d 0)), (1, .int p0), (2, .int (manyS (X 2) D p0 i)), (3, .int (nI i))] [] := by
    intro n
    induction n with
    | zero =>
      intro i hn 
      have hz : i = (ix (X 2 0 4)) := by omega
      subst hz
      refine J_iload_n hC (j := 3) dX5_many_4 rfl rfl ?_
      refine J_aload_n hC (j := 0) dX5_many_5 rfl rfl ?_
      refine J_get (v' := .ref (aX G 2 0)) hC (nl_s0 hd) (ent_s0 hd) rfl in5 14 (by decide) rfl qw_698 rfl rfl dX5_many_6 ?_
      refine J_getN hC nl_m0 ent_m0 rfl in6 4 (by decide) rfl nqw_737 rfl (rO (ne2 hd)) dX5_many_9 ?_
      refine J_icmp_ge (tgt := 39) hC dX5_many_12 (by decide) (fun c12 => ?_) (fun c12 => absurd c12 (not_not_intro (le_ix (X 2 0 4))))
      refine J_iload_n hC (j := 2) dX5_many_39 rfl rfl ?_
      exact J_iret hC hr rfl rfl rfl dX5_many_40
    | succ n ih =>
      intro i hn 
      refine J_iload_n hC (j := 3) dX5_many_4 rfl rfl ?_
      refine J_aload_n hC (j := 0) dX5_many_5 rfl rfl ?_
      refine J_get (v' := .ref (aX G 2 0)) hC (nl_s0 hd) (ent_s0 hd) rfl in5 14 (by decide) rfl qw_698 rfl rfl dX5_many_6 ?_
      refine J_getN hC nl_m0 ent_m0 rfl in6 4 (by decide) rfl nqw_737 rfl (rO (ne2 hd)) dX5_many_9 ?_
      refine J_icmp_ge (tgt := 39) hC dX5_many_12 (by decide) (fun c12 => absurd c12 (nle_ix (by omega))) (fun c12 => ?_)
      refine J_iload_n hC (j := 2) dX5_many_15 rfl rfl ?_
      refine J_aload_n hC (j := 0) dX5_many_16 rfl rfl ?_
      refine J_get (v' := .ref (aX G d 2)) hC (nl_s0 hd) (ent_s0 hd) rfl in5 2 (by decide) rfl qw_675 rfl rfl dX5_many_17 ?_
      refine J_iload_n hC (j := 3) dX5_many_20 rfl rfl ?_
      refine J_iald (x := (D 2 (ix (nI i)))) hC (nl_si2 hd) (ent_si2 hd) (vp_nI (by omega)) (iv rF) dX5_many_21 ?_
      refine J_iload_n hC (j := 1) dX5_many_22 rfl rfl ?_
      refine J_icmp_ne (tgt := 30) hC dX5_many_23 (by decide) (fun c23 => ?_) (fun c23 => ?_)
      · refine J_iconst (v := 0) hC dX5_many_30 (by decide) ?_
        refine J_iadd hC dX5_many_31 ?_
        refine J_istore_n (lv' := [(2, .int ((manyS (X 2) D p0 i) + 0)), (0, .ref (aX G d 0)), (1, .int p0), (3, .int (nI i))]) hC dX5_many_32 rfl (by decide) rfl ?_
        refine J_iinc (j := 3) (v := ((nI i) + 1)) (lv' := [(3, .int ((nI i) + 1)), (2, .int ((manyS (X 2) D p0 i) + 0)), (0, .ref (aX G d 0)), (1, .int p0)]) hC dX5_many_33 rfl rfl (by decide) rfl ?_
        refine J_goto (tgt := 4) hC dX5_many_36 (by decide) ?_
        refine J_lv [2, 3, 1, 0] (lv' := [(0, .ref (aX G d 0)), (1, .int p0), (2, .int ((manyS (X 2) D p0 i) + 0)), (3, .int ((nI i) + 1))]) rfl ?_
        exact J_cast rfl (by simp [nI_succ, manyS, rep, c23]) rfl (ih (i + 1) (by omega) )
      · refine J_iconst (v := 1) hC dX5_many_26 (by decide) ?_
        refine J_goto (tgt := 31) hC dX5_many_27 (by decide) ?_
        refine J_iadd hC dX5_many_31 ?_
        refine J_istore_n (lv' := [(2, .int ((manyS (X 2) D p0 i) + 1)), (0, .ref (aX G d 0)), (1, .int p0), (3, .int (nI i))]) hC dX5_many_32 rfl (by decide) rfl ?_
        refine J_iinc (j := 3) (v := ((nI i) + 1)) (lv' := [(3, .int ((nI i) + 1)), (2, .int ((manyS (X 2) D p0 i) + 1)), (0, .ref (aX G d 0)), (1, .int p0)]) hC dX5_many_33 rfl rfl (by decide) rfl ?_
        refine J_goto (tgt := 4) hC dX5_many_36 (by decide) ?_
        refine J_lv [2, 3, 1, 0] (lv' := [(0, .ref (aX G d 0)), (1, .int p0), (2, .int ((manyS (X 2) D p0 i) + 1)), (3, .int ((nI i) + 1))]) rfl ?_
        exact J_cast rfl (by simp [nI_succ, manyS, rep, c23]) rfl (ih (i + 1) (by omega) )
  refine J_lv [2, 3, 1, 0] (lv' := [(0, .ref (aX G d 0)), (1, .int p0), (2, .int 0), (3, .int 0)]) rfl ?_
  exact J_cast rfl (by first | rfl | simp [manyS, rep, nI_0]) rfl (L4 (ix (X 2 0 4)) 0 (by omega) )
set_option maxHeartbeats 4000000 in
set_option maxRecDepth 100000 in
theorem ct_X5_mouldy (l : Launch) (G : GG) (X : XX) (o : OO) (d : Nat) (hd : d = 3 ∨ d = 4) (D : DD) (hg : GG2 (X 2)) : CT l yX5_mouldy cX5_mouldy 3 (some .int) 0 0 0 0 G [.ref (aX G d 0)] (va_up X d D) o (some (.int (mouldyS (X 2) D (ix (X 2 0 4))))) (va_up X d D) o := by
  refine CT_of (own := RX5) (lv := [(0, .ref (aX G d 0))]) (by decide) rfl (Nat.le_of_ble_eq_true rfl) rfl ?_
  intro p e s m args below meth c hr hC
  have h24 := g2w hg
  refine J_iconst (v := 0) hC dX5_mouldy_0 (by decide) ?_
  refine J_istore_n (lv' := [(1, .int 0), (0, .ref (aX G d 0))]) hC dX5_mouldy_1 rfl (by decide) rfl ?_
  refine J_iconst (v := 0) hC dX5_mouldy_2 (by decide) ?_
  refine J_istore_n (lv' := [(2, .int 0), (1, .int 0), (0, .ref (aX G d 0))]) hC dX5_mouldy_3 rfl (by decide) rfl ?_
  have L4 : ∀ n i : Nat, i + n = (ix (X 2 0 4)) → Jd p l e ({ frames := 0, cells := 0, slots := 0, locals := 0 }) s m args below meth c (MQ below (CQ G (some (.int (mouldyS (X 2) D (ix (X 2 0 4))))) (va_up X d D) o) args s 0 0 (gB G)) G 3 0 0 (va_up X d D) o 4 [(0, .ref (aX G d 0)), (1, .int (mouldyS (X 2) D i)), (2, .int (nI i))] [] := by
    intro n
    induction n with
    | zero =>
      intro i hn 
      have hz : i = (ix (X 2 0 4)) := by omega
      subst hz
      refine J_iload_n hC (j := 2) dX5_mouldy_4 rfl rfl ?_
      refine J_aload_n hC (j := 0) dX5_mouldy_5 rfl rfl ?_
      refine J_get (v' := .ref (aX G 2 0)) hC (nl_s0 hd) (ent_s0 hd) rfl in5 14 (by decide) rfl qw_698 rfl rfl dX5_mouldy_6 ?_
      refine J_getN hC nl_m0 ent_m0 rfl in6 4 (by decide) rfl nqw_737 rfl (rO (ne2 hd)) dX5_mouldy_9 ?_
      refine J_icmp_ge (tgt := 47) hC dX5_mouldy_12 (by decide) (fun c12 => ?_) (fun c12 => absurd c12 (not_not_intro (le_ix (X 2 0 4))))
      refine J_iload_n hC (j := 1) dX5_mouldy_47 rfl rfl ?_
      exact J_iret hC hr rfl rfl rfl dX5_mouldy_48
    | succ n ih =>
      intro i hn 
      refine J_iload_n hC (j := 2) dX5_mouldy_4 rfl rfl ?_
      refine J_aload_n hC (j := 0) dX5_mouldy_5 rfl rfl ?_
      refine J_get (v' := .ref (aX G 2 0)) hC (nl_s0 hd) (ent_s0 hd) rfl in5 14 (by decide) rfl qw_698 rfl rfl dX5_mouldy_6 ?_
      refine J_getN hC nl_m0 ent_m0 rfl in6 4 (by decide) rfl nqw_737 rfl (rO (ne2 hd)) dX5_mouldy_9 ?_
      refine J_icmp_ge (tgt := 47) hC dX5_mouldy_12 (by decide) (fun c12 => absurd c12 (nle_ix (by omega))) (fun c12 => ?_)
      refine J_iload_n hC (j := 1) dX5_mouldy_15 rfl rfl ?_
      refine J_aload_n hC (j := 0) dX5_mouldy_16 rfl rfl ?_
      refine J_get (v' := .ref (aX G d 2)) hC (nl_s0 hd) (ent_s0 hd) rfl in5 2 (by decide) rfl qw_675 rfl rfl dX5_mouldy_17 ?_
      refine J_iload_n hC (j := 2) dX5_mouldy_20 rfl rfl ?_
      refine J_iald (x := (D 2 (ix (nI i)))) hC (nl_si2 hd) (ent_si2 hd) (vp_nI (by omega)) (iv rF) dX5_mouldy_21 ?_
      refine J_if_ne (tgt := 38) hC dX5_mouldy_22 (by decide) (fun c22 => ?_) (fun c22 => ?_)
      · refine J_iconst (v := 0) hC dX5_mouldy_38 (by decide) ?_
        refine J_iadd hC dX5_mouldy_39 ?_
        refine J_istore_n (lv' := [(1, .int ((mouldyS (X 2) D i) + 0)), (0, .ref (aX G d 0)), (2, .int (nI i))]) hC dX5_mouldy_40 rfl (by decide) rfl ?_
        refine J_iinc (j := 2) (v := ((nI i) + 1)) (lv' := [(2, .int ((nI i) + 1)), (1, .int ((mouldyS (X 2) D i) + 0)), (0, .ref (aX G d 0))]) hC dX5_mouldy_41 rfl rfl (by decide) rfl ?_
        refine J_goto (tgt := 4) hC dX5_mouldy_44 (by decide) ?_
        refine J_lv [2, 1, 0] (lv' := [(0, .ref (aX G d 0)), (1, .int ((mouldyS (X 2) D i) + 0)), (2, .int ((nI i) + 1))]) rfl ?_
        exact J_cast rfl (by simp [nI_succ, mouldyS, rep, c22]) rfl (ih (i + 1) (by omega) )
      · refine J_aload_n hC (j := 0) dX5_mouldy_25 rfl rfl ?_
        refine J_get (v' := .ref (aX G d 8)) hC (nl_s0 hd) (ent_s0 hd) rfl in5 8 (by decide) rfl qw_687 rfl rfl dX5_mouldy_26 ?_
        refine J_iload_n hC (j := 2) dX5_mouldy_29 rfl rfl ?_
        refine J_iald (x := (D 8 (ix (nI i)))) hC (nl_si8 hd) (ent_si8 hd) (vp_nI (by omega)) (iv rF) dX5_mouldy_30 ?_
        refine J_if_le (tgt := 38) hC dX5_mouldy_31 (by decide) (fun c31 => ?_) (fun c31 => ?_)
        · refine J_iconst (v := 0) hC dX5_mouldy_38 (by decide) ?_
          refine J_iadd hC dX5_mouldy_39 ?_
          refine J_istore_n (lv' := [(1, .int ((mouldyS (X 2) D i) + 0)), (0, .ref (aX G d 0)), (2, .int (nI i))]) hC dX5_mouldy_40 rfl (by decide) rfl ?_
          refine J_iinc (j := 2) (v := ((nI i) + 1)) (lv' := [(2, .int ((nI i) + 1)), (1, .int ((mouldyS (X 2) D i) + 0)), (0, .ref (aX G d 0))]) hC dX5_mouldy_41 rfl rfl (by decide) rfl ?_
          refine J_goto (tgt := 4) hC dX5_mouldy_44 (by decide) ?_
          refine J_lv [2, 1, 0] (lv' := [(0, .ref (aX G d 0)), (1, .int ((mouldyS (X 2) D i) + 0)), (2, .int ((nI i) + 1))]) rfl ?_
          exact J_cast rfl (by simp [nI_succ, mouldyS, rep, c22, c31]) rfl (ih (i + 1) (by omega) )
        · refine J_iconst (v := 1) hC dX5_mouldy_34 (by decide) ?_
          refine J_goto (tgt := 39) hC dX5_mouldy_35 (by decide) ?_
          refine J_iadd hC dX5_mouldy_39 ?_
          refine J_istore_n (lv' := [(1, .int ((mouldyS (X 2) D i) + 1)), (0, .ref (aX G d 0)), (2, .int (nI i))]) hC dX5_mouldy_40 rfl (by decide) rfl ?_
          refine J_iinc (j := 2) (v := ((nI i) + 1)) (lv' := [(2, .int ((nI i) + 1)), (1, .int ((mouldyS (X 2) D i) + 1)), (0, .ref (aX G d 0))]) hC dX5_mouldy_41 rfl rfl (by decide) rfl ?_
          refine J_goto (tgt := 4) hC dX5_mouldy_44 (by decide) ?_
          refine J_lv [2, 1, 0] (lv' := [(0, .ref (aX G d 0)), (1, .int ((mouldyS (X 2) D i) + 1)), (2, .int ((nI i) + 1))]) rfl ?_
          exact J_cast rfl (by simp [nI_succ, mouldyS, rep, c22, c31]) rfl (ih (i + 1) (by omega) )
  refine J_lv [2, 1, 0] (lv' := [(0, .ref (aX G d 0)), (1, .int 0), (2, .int 0)]) rfl ?_
  exact J_cast rfl (by first | rfl | simp [mouldyS, rep, nI_0]) rfl (L4 (ix (X 2 0 4)) 0 (by omega) )
set_option maxHeartbeats 4000000 in
set_option maxRecDepth 100000 in
theorem ct_X5_worthInAll (l : Launch) (G : GG) (X : XX) (o : OO) (d : Nat) (hd : d = 3 ∨ d = 4) (D : DD) (hg : GG2 (X 2)) : CT l yX5_worthInAll cX5_worthInAll 3 (some .int) 2 44 0 0 G [.ref (aX G d 0)] (va_up X d D) o (some (.int (worthAS D (ix (X 2 0 4))))) (va_up X d D) o := by
  refine CT_of (own := RX5) (lv := [(0, .ref (aX G d 0))]) (by decide) rfl (Nat.le_of_ble_eq_true rfl) rfl ?_
  intro p e s m args below meth c hr hC
  have h24 := g2w hg
  refine J_iconst (v := 0) hC dX5_worthInAll_0 (by decide) ?_
  refine J_istore_n (lv' := [(1, .int 0), (0, .ref (aX G d 0))]) hC dX5_worthInAll_1 rfl (by decide) rfl ?_
  refine J_iconst (v := 0) hC dX5_worthInAll_2 (by decide) ?_
  refine J_istore_n (lv' := [(2, .int 0), (1, .int 0), (0, .ref (aX G d 0))]) hC dX5_worthInAll_3 rfl (by decide) rfl ?_
  have L4 : ∀ n i : Nat, i + n = (ix (X 2 0 4)) → Jd p l e ({ frames := 2, cells := 0, slots := 0, locals := 44 }) s m args below meth c (MQ below (CQ G (some (.int (worthAS D (ix (X 2 0 4))))) (va_up X d D) o) args s 0 0 (gB G)) G 3 0 0 (va_up X d D) o 4 [(0, .ref (aX G d 0)), (1, .int (worthAS D i)), (2, .int (nI i))] [] := by
    intro n
    induction n with
    | zero =>
      intro i hn 
      have hz : i = (ix (X 2 0 4)) := by omega
      subst hz
      refine J_iload_n hC (j := 2) dX5_worthInAll_4 rfl rfl ?_
      refine J_aload_n hC (j := 0) dX5_worthInAll_5 rfl rfl ?_
      refine J_get (v' := .ref (aX G 2 0)) hC (nl_s0 hd) (ent_s0 hd) rfl in5 14 (by decide) rfl qw_698 rfl rfl dX5_worthInAll_6 ?_
      refine J_getN hC nl_m0 ent_m0 rfl in6 4 (by decide) rfl nqw_737 rfl (rO (ne2 hd)) dX5_worthInAll_9 ?_
      refine J_icmp_ge (tgt := 42) hC dX5_worthInAll_12 (by decide) (fun c12 => ?_) (fun c12 => absurd c12 (not_not_intro (le_ix (X 2 0 4))))
      refine J_iload_n hC (j := 1) dX5_worthInAll_42 rfl rfl ?_
      exact J_iret hC hr rfl rfl rfl dX5_worthInAll_43
    | succ n ih =>
      intro i hn 
      refine J_iload_n hC (j := 2) dX5_worthInAll_4 rfl rfl ?_
      refine J_aload_n hC (j := 0) dX5_worthInAll_5 rfl rfl ?_
      refine J_get (v' := .ref (aX G 2 0)) hC (nl_s0 hd) (ent_s0 hd) rfl in5 14 (by decide) rfl qw_698 rfl rfl dX5_worthInAll_6 ?_
      refine J_getN hC nl_m0 ent_m0 rfl in6 4 (by decide) rfl nqw_737 rfl (rO (ne2 hd)) dX5_worthInAll_9 ?_
      refine J_icmp_ge (tgt := 42) hC dX5_worthInAll_12 (by decide) (fun c12 => absurd c12 (nle_ix (by omega))) (fun c12 => ?_)
      refine J_iload_n hC (j := 1) dX5_worthInAll_15 rfl rfl ?_
      refine J_aload_n hC (j := 0) dX5_worthInAll_16 rfl rfl ?_
      refine J_get (v' := .ref (aX G d 2)) hC (nl_s0 hd) (ent_s0 hd) rfl in5 2 (by decide) rfl qw_675 rfl rfl dX5_worthInAll_17 ?_
      refine J_iload_n hC (j := 2) dX5_worthInAll_20 rfl rfl ?_
      refine J_iald (x := (D 2 (ix (nI i)))) hC (nl_si2 hd) (ent_si2 hd) (vp_nI (by omega)) (iv rF) dX5_worthInAll_21 ?_
      refine J_if_ne (tgt := 33) hC dX5_worthInAll_22 (by decide) (fun c22 => ?_) (fun c22 => ?_)
      · refine J_iconst (v := 0) hC dX5_worthInAll_33 (by decide) ?_
        refine J_iadd hC dX5_worthInAll_34 ?_
        refine J_istore_n (lv' := [(1, .int ((worthAS D i) + 0)), (0, .ref (aX G d 0)), (2, .int (nI i))]) hC dX5_worthInAll_35 rfl (by decide) rfl ?_
        refine J_iinc (j := 2) (v := ((nI i) + 1)) (lv' := [(2, .int ((nI i) + 1)), (1, .int ((worthAS D i) + 0)), (0, .ref (aX G d 0))]) hC dX5_worthInAll_36 rfl rfl (by decide) rfl ?_
        refine J_goto (tgt := 4) hC dX5_worthInAll_39 (by decide) ?_
        refine J_lv [2, 1, 0] (lv' := [(0, .ref (aX G d 0)), (1, .int ((worthAS D i) + 0)), (2, .int ((nI i) + 1))]) rfl ?_
        exact J_cast rfl (by simp [nI_succ, worthAS, rep, c22]) rfl (ih (i + 1) (by omega) )
      · refine J_aload_n hC (j := 0) dX5_worthInAll_25 rfl rfl ?_
        refine J_iload_n hC (j := 2) dX5_worthInAll_26 rfl rfl ?_
        refine J_callV hC (ct_X5_worth l G X o d hd D (nI i) (vp_nI (by omega))) mw_X5_worth qw_956 (nl_s0 hd) (ent_s0 hd) rfl rfl rfl (Nat.le_of_ble_eq_true rfl) ⟨Nat.le_of_ble_eq_true rfl, Nat.le_of_ble_eq_true rfl⟩ ⟨Nat.le_of_ble_eq_true rfl, Nat.le_of_ble_eq_true rfl⟩ dX5_worthInAll_27 ?_
        refine J_goto (tgt := 34) hC dX5_worthInAll_30 (by decide) ?_
        refine J_iadd hC dX5_worthInAll_34 ?_
        refine J_istore_n (lv' := [(1, .int ((worthAS D i) + (sWorth D (nI i)))), (0, .ref (aX G d 0)), (2, .int (nI i))]) hC dX5_worthInAll_35 rfl (by decide) rfl ?_
        refine J_iinc (j := 2) (v := ((nI i) + 1)) (lv' := [(2, .int ((nI i) + 1)), (1, .int ((worthAS D i) + (sWorth D (nI i)))), (0, .ref (aX G d 0))]) hC dX5_worthInAll_36 rfl rfl (by decide) rfl ?_
        refine J_goto (tgt := 4) hC dX5_worthInAll_39 (by decide) ?_
        refine J_lv [2, 1, 0] (lv' := [(0, .ref (aX G d 0)), (1, .int ((worthAS D i) + (sWorth D (nI i)))), (2, .int ((nI i) + 1))]) rfl ?_
        exact J_cast rfl (by simp [nI_succ, worthAS, rep, c22]) rfl (ih (i + 1) (by omega) )
  refine J_lv [2, 1, 0] (lv' := [(0, .ref (aX G d 0)), (1, .int 0), (2, .int 0)]) rfl ?_
  exact J_cast rfl (by first | rfl | simp [worthAS, rep, nI_0]) rfl (L4 (ix (X 2 0 4)) 0 (by omega) )
set_option maxHeartbeats 4000000 in
set_option maxRecDepth 100000 in
theorem ct_X5_pass (l : Launch) (G : GG) (X : XX) (o : OO) (d : Nat) (hd : d = 3 ∨ d = 4) (D : DD) (hS : SI D) (hg : GG2 (X 2)) (hy : ¬ D 0 0 < 0) : CT l yX5_pass cX5_pass 2 none 3 74 0 0 G [.ref (aX G d 0)] (va_up X d D) o none (va_up X d (passM (X 2) D)) o := by
  refine CT_of (own := RX5) (lv := [(0, .ref (aX G d 0))]) (by decide) rfl (Nat.le_of_ble_eq_true rfl) rfl ?_
  intro p e s m args below meth c hr hC
  have h24 := g2w hg
  have h4 := g2m hg
  refine J_iconst (v := 0) hC dX5_pass_0 (by decide) ?_
  refine J_istore_n (lv' := [(1, .int 0), (0, .ref (aX G d 0))]) hC dX5_pass_1 rfl (by decide) rfl ?_
  have L2 : ∀ n i : Nat, i + n = (ix (X 2 0 5)) → Jd p l e ({ frames := 3, cells := 0, slots := 0, locals := 74 }) s m args below meth c (MQ below (CQ G none (va_up X d (passM (X 2) D)) o) args s 0 0 (gB G)) G 2 0 0 (va_up X d (gaAll (X 2) D i)) o 2 [(0, .ref (aX G d 0)), (1, .int (nI i))] [] := by
    intro n
    induction n with
    | zero =>
      intro i hn 
      have hz : i = (ix (X 2 0 5)) := by omega
      subst hz
      refine J_iload_n hC (j := 1) dX5_pass_2 rfl rfl ?_
      refine J_aload_n hC (j := 0) dX5_pass_3 rfl rfl ?_
      refine J_get (v' := .ref (aX G 2 0)) hC (nl_s0 hd) (ent_s0 hd) rfl in5 14 (by decide) rfl qw_698 rfl rfl dX5_pass_4 ?_
      refine J_getN hC nl_m0 ent_m0 rfl in6 5 (by decide) rfl nqw_739 rfl (rO (ne2 hd)) dX5_pass_7 ?_
      refine J_icmp_ge (tgt := 24) hC dX5_pass_10 (by decide) (fun c10 => ?_) (fun c10 => absurd c10 (not_not_intro (le_ix (X 2 0 5))))
      refine J_aload_n hC (j := 0) dX5_pass_24 rfl rfl ?_
      refine J_callVv hC (ct_X5_leap l G X o d hd (gaAll (X 2) D (ix (X 2 0 5))) (SI_gaAll hS _ h4) hg) mw_X5_leap qw_924 (nl_s0 hd) (ent_s0 hd) rfl rfl rfl (Nat.le_of_ble_eq_true rfl) ⟨Nat.le_of_ble_eq_true rfl, Nat.le_of_ble_eq_true rfl⟩ ⟨Nat.le_of_ble_eq_true rfl, Nat.le_of_ble_eq_true rfl⟩ dX5_pass_25 ?_
      refine J_iconst (v := 0) hC dX5_pass_28 (by decide) ?_
      refine J_istore_n (lv' := [(1, .int 0), (0, .ref (aX G d 0))]) hC dX5_pass_29 rfl (by decide) rfl ?_
      have L30 : ∀ n i : Nat, i + n = (ix (X 2 0 4)) → Jd p l e ({ frames := 3, cells := 0, slots := 0, locals := 74 }) s m args below meth c (MQ below (CQ G none (va_up X d (passM (X 2) D)) o) args s 0 0 (gB G)) G 2 0 0 (va_up X d (ripAll (X 2) (leapM (X 2) (gaAll (X 2) D (ix (X 2 0 5)))) i)) o 30 [(0, .ref (aX G d 0)), (1, .int (nI i))] [] := by
        intro n
        induction n with
        | zero =>
          intro i hn 
          have hz : i = (ix (X 2 0 4)) := by omega
          subst hz
          refine J_iload_n hC (j := 1) dX5_pass_30 rfl rfl ?_
          refine J_aload_n hC (j := 0) dX5_pass_31 rfl rfl ?_
          refine J_get (v' := .ref (aX G 2 0)) hC (nl_s0 hd) (ent_s0 hd) rfl in5 14 (by decide) rfl qw_698 rfl rfl dX5_pass_32 ?_
          refine J_getN hC nl_m0 ent_m0 rfl in6 4 (by decide) rfl nqw_737 rfl (rO (ne2 hd)) dX5_pass_35 ?_
          refine J_icmp_ge (tgt := 61) hC dX5_pass_38 (by decide) (fun c38 => ?_) (fun c38 => absurd c38 (not_not_intro (le_ix (X 2 0 4))))
          refine J_aload_n hC (j := 0) dX5_pass_61 rfl rfl ?_
          refine J_dup hC dX5_pass_62 rfl ?_
          refine J_get hC (nl_s0 hd) (ent_s0 hd) rfl in5 0 (by decide) rfl qw_671 rfl rF dX5_pass_63 ?_
          refine J_iconst (v := 1) hC dX5_pass_66 (by decide) ?_
          refine J_iadd hC dX5_pass_67 ?_
          refine J_put (X' := (va_up X d (va_up (ripAll (X 2) (leapM (X 2) (gaAll (X 2) D (ix (X 2 0 5)))) (ix (X 2 0 4))) 0 (va_up ((ripAll (X 2) (leapM (X 2) (gaAll (X 2) D (ix (X 2 0 5)))) (ix (X 2 0 4))) 0) 0 (((ripAll (X 2) (leapM (X 2) (gaAll (X 2) D (ix (X 2 0 5)))) (ix (X 2 0 4))) 0 0) + 1))))) hC (nl_s0 hd) (ent_s0 hd) rfl in5 tyX5_ok nmX5 0 (by decide) rfl qw_671 rfl (by decide) (Nat.le_of_ble_eq_true rfl) (pu_s0F hd (by decide)) dX5_pass_68 ?_
          exact J_vret hC hr (congrArg (va_up X d) (by simp [passM, sDay])) rfl dX5_pass_71
        | succ n ih =>
          intro i hn 
          refine J_iload_n hC (j := 1) dX5_pass_30 rfl rfl ?_
          refine J_aload_n hC (j := 0) dX5_pass_31 rfl rfl ?_
          refine J_get (v' := .ref (aX G 2 0)) hC (nl_s0 hd) (ent_s0 hd) rfl in5 14 (by decide) rfl qw_698 rfl rfl dX5_pass_32 ?_
          refine J_getN hC nl_m0 ent_m0 rfl in6 4 (by decide) rfl nqw_737 rfl (rO (ne2 hd)) dX5_pass_35 ?_
          refine J_icmp_ge (tgt := 61) hC dX5_pass_38 (by decide) (fun c38 => absurd c38 (nle_ix (by omega))) (fun c38 => ?_)
          refine J_aload_n hC (j := 0) dX5_pass_41 rfl rfl ?_
          refine J_get (v' := .ref (aX G d 2)) hC (nl_s0 hd) (ent_s0 hd) rfl in5 2 (by decide) rfl qw_675 rfl rfl dX5_pass_42 ?_
          refine J_iload_n hC (j := 1) dX5_pass_45 rfl rfl ?_
          refine J_iald (x := ((ripAll (X 2) (leapM (X 2) (gaAll (X 2) D (ix (X 2 0 5)))) i) 2 (ix (nI i)))) hC (nl_si2 hd) (ent_si2 hd) (vp_nI (by omega)) (iv rF) dX5_pass_46 ?_
          refine J_if_ne (tgt := 55) hC dX5_pass_47 (by decide) (fun c47 => ?_) (fun c47 => ?_)
          · refine J_iinc (j := 1) (v := ((nI i) + 1)) (lv' := [(1, .int ((nI i) + 1)), (0, .ref (aX G d 0))]) hC dX5_pass_55 rfl rfl (by decide) rfl ?_
            refine J_goto (tgt := 30) hC dX5_pass_58 (by decide) ?_
            refine J_lv [1, 0] (lv' := [(0, .ref (aX G d 0)), (1, .int ((nI i) + 1))]) rfl ?_
            exact J_cast (congrArg (va_up X d) (by show _ = (if (ripAll (X 2) (leapM (X 2) (gaAll (X 2) D (ix (X 2 0 5)))) i) 2 (ix (nI i)) = 0 then sRip (X 2) (ripAll (X 2) (leapM (X 2) (gaAll (X 2) D (ix (X 2 0 5)))) i) (nI i) else (ripAll (X 2) (leapM (X 2) (gaAll (X 2) D (ix (X 2 0 5)))) i)); simp [c47])) (by simp [nI_succ, c47]) rfl (ih (i + 1) (by omega) )
          · refine J_aload_n hC (j := 0) dX5_pass_50 rfl rfl ?_
            refine J_iload_n hC (j := 1) dX5_pass_51 rfl rfl ?_
            refine J_callVv hC (ct_X5_ripen l G X o d hd (ripAll (X 2) (leapM (X 2) (gaAll (X 2) D (ix (X 2 0 5)))) i) (nI i) (vp_nI (by omega)) (SI_ripAll (SI_leap (SI_gaAll hS _ h4)) _)) mw_X5_ripen qw_932 (nl_s0 hd) (ent_s0 hd) rfl rfl rfl (Nat.le_of_ble_eq_true rfl) ⟨Nat.le_of_ble_eq_true rfl, Nat.le_of_ble_eq_true rfl⟩ ⟨Nat.le_of_ble_eq_true rfl, Nat.le_of_ble_eq_true rfl⟩ dX5_pass_52 ?_
            refine J_iinc (j := 1) (v := ((nI i) + 1)) (lv' := [(1, .int ((nI i) + 1)), (0, .ref (aX G d 0))]) hC dX5_pass_55 rfl rfl (by decide) rfl ?_
            refine J_goto (tgt := 30) hC dX5_pass_58 (by decide) ?_
            refine J_lv [1, 0] (lv' := [(0, .ref (aX G d 0)), (1, .int ((nI i) + 1))]) rfl ?_
            exact J_cast (congrArg (va_up X d) (by show _ = (if (ripAll (X 2) (leapM (X 2) (gaAll (X 2) D (ix (X 2 0 5)))) i) 2 (ix (nI i)) = 0 then sRip (X 2) (ripAll (X 2) (leapM (X 2) (gaAll (X 2) D (ix (X 2 0 5)))) i) (nI i) else (ripAll (X 2) (leapM (X 2) (gaAll (X 2) D (ix (X 2 0 5)))) i)); simp [c47])) (by simp [nI_succ, c47]) rfl (ih (i + 1) (by omega) )
      refine J_lv [1, 0] (lv' := [(0, .ref (aX G d 0)), (1, .int 0)]) rfl ?_
      exact J_cast rfl (by first | rfl | simp [nI_0]) rfl (L30 (ix (X 2 0 4)) 0 (by omega) )
    | succ n ih =>
      intro i hn 
      refine J_iload_n hC (j := 1) dX5_pass_2 rfl rfl ?_
      refine J_aload_n hC (j := 0) dX5_pass_3 rfl rfl ?_
      refine J_get (v' := .ref (aX G 2 0)) hC (nl_s0 hd) (ent_s0 hd) rfl in5 14 (by decide) rfl qw_698 rfl rfl dX5_pass_4 ?_
      refine J_getN hC nl_m0 ent_m0 rfl in6 5 (by decide) rfl nqw_739 rfl (rO (ne2 hd)) dX5_pass_7 ?_
      refine J_icmp_ge (tgt := 24) hC dX5_pass_10 (by decide) (fun c10 => absurd c10 (nle_ix (by omega))) (fun c10 => ?_)
      refine J_aload_n hC (j := 0) dX5_pass_13 rfl rfl ?_
      refine J_iload_n hC (j := 1) dX5_pass_14 rfl rfl ?_
      refine J_callVv hC (ct_X5_goAlong l G X o d hd (gaAll (X 2) D i) (nI i) (vp_nI (by omega)) (SI_gaAll hS _ (by omega)) hg (by rw [gaAll_row0]; exact hy)) mw_X5_goAlong qw_910 (nl_s0 hd) (ent_s0 hd) rfl rfl rfl (Nat.le_of_ble_eq_true rfl) ⟨Nat.le_of_ble_eq_true rfl, Nat.le_of_ble_eq_true rfl⟩ ⟨Nat.le_of_ble_eq_true rfl, Nat.le_of_ble_eq_true rfl⟩ dX5_pass_15 ?_
      refine J_iinc (j := 1) (v := ((nI i) + 1)) (lv' := [(1, .int ((nI i) + 1)), (0, .ref (aX G d 0))]) hC dX5_pass_18 rfl rfl (by decide) rfl ?_
      refine J_goto (tgt := 2) hC dX5_pass_21 (by decide) ?_
      refine J_lv [1, 0] (lv' := [(0, .ref (aX G d 0)), (1, .int ((nI i) + 1))]) rfl ?_
      exact J_cast rfl (by simp [nI_succ]) rfl (ih (i + 1) (by omega) )
  refine J_lv [1, 0] (lv' := [(0, .ref (aX G d 0)), (1, .int 0)]) rfl ?_
  exact J_cast (by first | rfl | simp) (by first | rfl | simp [nI_0]) rfl (L2 (ix (X 2 0 5)) 0 (by omega) )
set_option maxHeartbeats 4000000 in
set_option maxRecDepth 100000 in
theorem ct_X5_pass_ (l : Launch) (G : GG) (X : XX) (o : OO) (d : Nat) (hd : d = 3 ∨ d = 4) (D : DD) (p0 : Int32) (hS : SI D) (hg : GG2 (X 2)) (b : Nat) (hy : DY D b) (hb : b + ix p0 < 2147483648) : CT l yX5_pass_ cX5_pass_ 3 none 4 95 0 0 G [.ref (aX G d 0), .int p0] (va_up X d D) o none (va_up X d (passN (X 2) D (ix p0))) o := by
  refine CT_of (own := RX5) (lv := [(0, .ref (aX G d 0)), (1, .int p0)]) (by decide) rfl (Nat.le_of_ble_eq_true rfl) rfl ?_
  intro p e s m args below meth c hr hC
  refine J_iconst (v := 0) hC dX5_pass__0 (by decide) ?_
  refine J_istore_n (lv' := [(2, .int 0), (0, .ref (aX G d 0)), (1, .int p0)]) hC dX5_pass__1 rfl (by decide) rfl ?_
  have L2 : ∀ n i : Nat, i + n = (ix p0) → Jd p l e ({ frames := 4, cells := 0, slots := 0, locals := 95 }) s m args below meth c (MQ below (CQ G none (va_up X d (passN (X 2) D (ix p0))) o) args s 0 0 (gB G)) G 3 0 0 (va_up X d (passN (X 2) D i)) o 2 [(0, .ref (aX G d 0)), (1, .int p0), (2, .int (nI i))] [] := by
    intro n
    induction n with
    | zero =>
      intro i hn 
      have hz : i = (ix p0) := by omega
      subst hz
      refine J_iload_n hC (j := 2) dX5_pass__2 rfl rfl ?_
      refine J_iload_n hC (j := 1) dX5_pass__3 rfl rfl ?_
      refine J_icmp_ge (tgt := 17) hC dX5_pass__4 (by decide) (fun c4 => ?_) (fun c4 => absurd c4 (not_not_intro (le_ix p0)))
      exact J_vret hC hr rfl rfl dX5_pass__17
    | succ n ih =>
      intro i hn 
      refine J_iload_n hC (j := 2) dX5_pass__2 rfl rfl ?_
      refine J_iload_n hC (j := 1) dX5_pass__3 rfl rfl ?_
      refine J_icmp_ge (tgt := 17) hC dX5_pass__4 (by decide) (fun c4 => absurd c4 (nle_ix (by omega))) (fun c4 => ?_)
      refine J_aload_n hC (j := 0) dX5_pass__7 rfl rfl ?_
      refine J_callVv hC (ct_X5_pass l G X o d hd (passN (X 2) D i) (SI_passN hg hS _) hg (DY_nn (DY_passN hy i) (by omega))) mw_X5_pass qw_906 (nl_s0 hd) (ent_s0 hd) rfl rfl rfl (Nat.le_of_ble_eq_true rfl) ⟨Nat.le_of_ble_eq_true rfl, Nat.le_of_ble_eq_true rfl⟩ ⟨Nat.le_of_ble_eq_true rfl, Nat.le_of_ble_eq_true rfl⟩ dX5_pass__8 ?_
      refine J_iinc (j := 2) (v := ((nI i) + 1)) (lv' := [(2, .int ((nI i) + 1)), (0, .ref (aX G d 0)), (1, .int p0)]) hC dX5_pass__11 rfl rfl (by decide) rfl ?_
      refine J_goto (tgt := 2) hC dX5_pass__14 (by decide) ?_
      refine J_lv [1, 2, 0] (lv' := [(0, .ref (aX G d 0)), (1, .int p0), (2, .int ((nI i) + 1))]) rfl ?_
      exact J_cast rfl (by simp [nI_succ]) rfl (ih (i + 1) (by omega) )
  refine J_lv [1, 2, 0] (lv' := [(0, .ref (aX G d 0)), (1, .int p0), (2, .int 0)]) rfl ?_
  exact J_cast (by first | rfl | simp) (by first | rfl | simp [nI_0]) rfl (L2 (ix p0) 0 (by omega) )
set_option maxHeartbeats 4000000 in
set_option maxRecDepth 100000 in
theorem ct1_X5_copy (l : Launch) (G : GG) (X : XX) (o : OO) (D : DD) : CT l yX5_copy cX5_copy 3 none 1 40 0 0 G [.ref (aX G 4 0), .ref (aX G 3 1), .ref (aX G 4 1)] (va_up X 4 D) o none (va_up X 4 (va_up D 1 (va_cpy (X 3 1) (D 1) 0 0 40))) o := by
  refine CT_of (own := RX5) (lv := [(0, .ref (aX G 4 0)), (1, .ref (aX G 3 1)), (2, .ref (aX G 4 1))]) (by decide) rfl (Nat.le_of_ble_eq_true rfl) rfl ?_
  intro p e s m args below meth c hr hC
  refine J_aload_n hC (j := 1) dX5_copy_0 rfl rfl ?_
  refine J_iconst (v := 0) hC dX5_copy_1 (by decide) ?_
  refine J_aload_n hC (j := 2) dX5_copy_2 rfl rfl ?_
  refine J_iconst (v := 0) hC dX5_copy_3 (by decide) ?_
  refine J_aload_n hC (j := 1) dX5_copy_4 rfl rfl ?_
  refine J_alen (t := 0) (v := 40) hC (nl_si1 (Or.inl rfl)) (ent_si1 (Or.inl rfl)) rfl rfl dX5_copy_5 ?_
  refine J_copyi (X' := (va_up X 4 (va_up D 1 (va_cpy (X 3 1) (D 1) 0 0 40)))) hC qw_949 qw_951 qw_950 qw_42 (nl_si1 (Or.inl rfl)) (nl_si1 (Or.inr rfl)) (ent_si1 (Or.inl rfl)) (ent_si1 (Or.inr rfl)) (by decide) (by decide) (by decide) (by decide) (by decide) (cpyS1 (by decide)) ⟨Nat.le_of_ble_eq_true rfl, Nat.le_of_ble_eq_true rfl⟩ dX5_copy_6 ?_
  exact J_vret hC hr rfl rfl dX5_copy_9
set_option maxHeartbeats 4000000 in
set_option maxRecDepth 100000 in
theorem ct2_X5_copy (l : Launch) (G : GG) (X : XX) (o : OO) (D : DD) : CT l yX5_copy cX5_copy 3 none 1 40 0 0 G [.ref (aX G 4 0), .ref (aX G 3 2), .ref (aX G 4 2)] (va_up X 4 D) o none (va_up X 4 (va_up D 2 (va_cpy (X 3 2) (D 2) 0 0 24))) o := by
  refine CT_of (own := RX5) (lv := [(0, .ref (aX G 4 0)), (1, .ref (aX G 3 2)), (2, .ref (aX G 4 2))]) (by decide) rfl (Nat.le_of_ble_eq_true rfl) rfl ?_
  intro p e s m args below meth c hr hC
  refine J_aload_n hC (j := 1) dX5_copy_0 rfl rfl ?_
  refine J_iconst (v := 0) hC dX5_copy_1 (by decide) ?_
  refine J_aload_n hC (j := 2) dX5_copy_2 rfl rfl ?_
  refine J_iconst (v := 0) hC dX5_copy_3 (by decide) ?_
  refine J_aload_n hC (j := 1) dX5_copy_4 rfl rfl ?_
  refine J_alen (t := 0) (v := 24) hC (nl_si2 (Or.inl rfl)) (ent_si2 (Or.inl rfl)) rfl rfl dX5_copy_5 ?_
  refine J_copyi (X' := (va_up X 4 (va_up D 2 (va_cpy (X 3 2) (D 2) 0 0 24)))) hC qw_949 qw_951 qw_950 qw_42 (nl_si2 (Or.inl rfl)) (nl_si2 (Or.inr rfl)) (ent_si2 (Or.inl rfl)) (ent_si2 (Or.inr rfl)) (by decide) (by decide) (by decide) (by decide) (by decide) (cpyS2 (by decide)) ⟨Nat.le_of_ble_eq_true rfl, Nat.le_of_ble_eq_true rfl⟩ dX5_copy_6 ?_
  exact J_vret hC hr rfl rfl dX5_copy_9
set_option maxHeartbeats 4000000 in
set_option maxRecDepth 100000 in
theorem ct3_X5_copy (l : Launch) (G : GG) (X : XX) (o : OO) (D : DD) : CT l yX5_copy cX5_copy 3 none 1 40 0 0 G [.ref (aX G 4 0), .ref (aX G 3 3), .ref (aX G 4 3)] (va_up X 4 D) o none (va_up X 4 (va_up D 3 (va_cpy (X 3 3) (D 3) 0 0 24))) o := by
  refine CT_of (own := RX5) (lv := [(0, .ref (aX G 4 0)), (1, .ref (aX G 3 3)), (2, .ref (aX G 4 3))]) (by decide) rfl (Nat.le_of_ble_eq_true rfl) rfl ?_
  intro p e s m args below meth c hr hC
  refine J_aload_n hC (j := 1) dX5_copy_0 rfl rfl ?_
  refine J_iconst (v := 0) hC dX5_copy_1 (by decide) ?_
  refine J_aload_n hC (j := 2) dX5_copy_2 rfl rfl ?_
  refine J_iconst (v := 0) hC dX5_copy_3 (by decide) ?_
  refine J_aload_n hC (j := 1) dX5_copy_4 rfl rfl ?_
  refine J_alen (t := 0) (v := 24) hC (nl_si3 (Or.inl rfl)) (ent_si3 (Or.inl rfl)) rfl rfl dX5_copy_5 ?_
  refine J_copyi (X' := (va_up X 4 (va_up D 3 (va_cpy (X 3 3) (D 3) 0 0 24)))) hC qw_949 qw_951 qw_950 qw_42 (nl_si3 (Or.inl rfl)) (nl_si3 (Or.inr rfl)) (ent_si3 (Or.inl rfl)) (ent_si3 (Or.inr rfl)) (by decide) (by decide) (by decide) (by decide) (by decide) (cpyS3 (by decide)) ⟨Nat.le_of_ble_eq_true rfl, Nat.le_of_ble_eq_true rfl⟩ dX5_copy_6 ?_
  exact J_vret hC hr rfl rfl dX5_copy_9
set_option maxHeartbeats 4000000 in
set_option maxRecDepth 100000 in
theorem ct4_X5_copy (l : Launch) (G : GG) (X : XX) (o : OO) (D : DD) : CT l yX5_copy cX5_copy 3 none 1 40 0 0 G [.ref (aX G 4 0), .ref (aX G 3 4), .ref (aX G 4 4)] (va_up X 4 D) o none (va_up X 4 (va_up D 4 (va_cpy (X 3 4) (D 4) 0 0 24))) o := by
  refine CT_of (own := RX5) (lv := [(0, .ref (aX G 4 0)), (1, .ref (aX G 3 4)), (2, .ref (aX G 4 4))]) (by decide) rfl (Nat.le_of_ble_eq_true rfl) rfl ?_
  intro p e s m args below meth c hr hC
  refine J_aload_n hC (j := 1) dX5_copy_0 rfl rfl ?_
  refine J_iconst (v := 0) hC dX5_copy_1 (by decide) ?_
  refine J_aload_n hC (j := 2) dX5_copy_2 rfl rfl ?_
  refine J_iconst (v := 0) hC dX5_copy_3 (by decide) ?_
  refine J_aload_n hC (j := 1) dX5_copy_4 rfl rfl ?_
  refine J_alen (t := 0) (v := 24) hC (nl_si4 (Or.inl rfl)) (ent_si4 (Or.inl rfl)) rfl rfl dX5_copy_5 ?_
  refine J_copyi (X' := (va_up X 4 (va_up D 4 (va_cpy (X 3 4) (D 4) 0 0 24)))) hC qw_949 qw_951 qw_950 qw_42 (nl_si4 (Or.inl rfl)) (nl_si4 (Or.inr rfl)) (ent_si4 (Or.inl rfl)) (ent_si4 (Or.inr rfl)) (by decide) (by decide) (by decide) (by decide) (by decide) (cpyS4 (by decide)) ⟨Nat.le_of_ble_eq_true rfl, Nat.le_of_ble_eq_true rfl⟩ dX5_copy_6 ?_
  exact J_vret hC hr rfl rfl dX5_copy_9
set_option maxHeartbeats 4000000 in
set_option maxRecDepth 100000 in
theorem ct5_X5_copy (l : Launch) (G : GG) (X : XX) (o : OO) (D : DD) : CT l yX5_copy cX5_copy 3 none 1 40 0 0 G [.ref (aX G 4 0), .ref (aX G 3 5), .ref (aX G 4 5)] (va_up X 4 D) o none (va_up X 4 (va_up D 5 (va_cpy (X 3 5) (D 5) 0 0 24))) o := by
  refine CT_of (own := RX5) (lv := [(0, .ref (aX G 4 0)), (1, .ref (aX G 3 5)), (2, .ref (aX G 4 5))]) (by decide) rfl (Nat.le_of_ble_eq_true rfl) rfl ?_
  intro p e s m args below meth c hr hC
  refine J_aload_n hC (j := 1) dX5_copy_0 rfl rfl ?_
  refine J_iconst (v := 0) hC dX5_copy_1 (by decide) ?_
  refine J_aload_n hC (j := 2) dX5_copy_2 rfl rfl ?_
  refine J_iconst (v := 0) hC dX5_copy_3 (by decide) ?_
  refine J_aload_n hC (j := 1) dX5_copy_4 rfl rfl ?_
  refine J_alen (t := 0) (v := 24) hC (nl_si5 (Or.inl rfl)) (ent_si5 (Or.inl rfl)) rfl rfl dX5_copy_5 ?_
  refine J_copyi (X' := (va_up X 4 (va_up D 5 (va_cpy (X 3 5) (D 5) 0 0 24)))) hC qw_949 qw_951 qw_950 qw_42 (nl_si5 (Or.inl rfl)) (nl_si5 (Or.inr rfl)) (ent_si5 (Or.inl rfl)) (ent_si5 (Or.inr rfl)) (by decide) (by decide) (by decide) (by decide) (by decide) (cpyS5 (by decide)) ⟨Nat.le_of_ble_eq_true rfl, Nat.le_of_ble_eq_true rfl⟩ dX5_copy_6 ?_
  exact J_vret hC hr rfl rfl dX5_copy_9
set_option maxHeartbeats 4000000 in
set_option maxRecDepth 100000 in
theorem ct6_X5_copy (l : Launch) (G : GG) (X : XX) (o : OO) (D : DD) : CT l yX5_copy cX5_copy 3 none 1 40 0 0 G [.ref (aX G 4 0), .ref (aX G 3 6), .ref (aX G 4 6)] (va_up X 4 D) o none (va_up X 4 (va_up D 6 (va_cpy (X 3 6) (D 6) 0 0 24))) o := by
  refine CT_of (own := RX5) (lv := [(0, .ref (aX G 4 0)), (1, .ref (aX G 3 6)), (2, .ref (aX G 4 6))]) (by decide) rfl (Nat.le_of_ble_eq_true rfl) rfl ?_
  intro p e s m args below meth c hr hC
  refine J_aload_n hC (j := 1) dX5_copy_0 rfl rfl ?_
  refine J_iconst (v := 0) hC dX5_copy_1 (by decide) ?_
  refine J_aload_n hC (j := 2) dX5_copy_2 rfl rfl ?_
  refine J_iconst (v := 0) hC dX5_copy_3 (by decide) ?_
  refine J_aload_n hC (j := 1) dX5_copy_4 rfl rfl ?_
  refine J_alen (t := 0) (v := 24) hC (nl_si6 (Or.inl rfl)) (ent_si6 (Or.inl rfl)) rfl rfl dX5_copy_5 ?_
  refine J_copyi (X' := (va_up X 4 (va_up D 6 (va_cpy (X 3 6) (D 6) 0 0 24)))) hC qw_949 qw_951 qw_950 qw_42 (nl_si6 (Or.inl rfl)) (nl_si6 (Or.inr rfl)) (ent_si6 (Or.inl rfl)) (ent_si6 (Or.inr rfl)) (by decide) (by decide) (by decide) (by decide) (by decide) (cpyS6 (by decide)) ⟨Nat.le_of_ble_eq_true rfl, Nat.le_of_ble_eq_true rfl⟩ dX5_copy_6 ?_
  exact J_vret hC hr rfl rfl dX5_copy_9
set_option maxHeartbeats 4000000 in
set_option maxRecDepth 100000 in
theorem ct7_X5_copy (l : Launch) (G : GG) (X : XX) (o : OO) (D : DD) : CT l yX5_copy cX5_copy 3 none 1 40 0 0 G [.ref (aX G 4 0), .ref (aX G 3 7), .ref (aX G 4 7)] (va_up X 4 D) o none (va_up X 4 (va_up D 7 (va_cpy (X 3 7) (D 7) 0 0 24))) o := by
  refine CT_of (own := RX5) (lv := [(0, .ref (aX G 4 0)), (1, .ref (aX G 3 7)), (2, .ref (aX G 4 7))]) (by decide) rfl (Nat.le_of_ble_eq_true rfl) rfl ?_
  intro p e s m args below meth c hr hC
  refine J_aload_n hC (j := 1) dX5_copy_0 rfl rfl ?_
  refine J_iconst (v := 0) hC dX5_copy_1 (by decide) ?_
  refine J_aload_n hC (j := 2) dX5_copy_2 rfl rfl ?_
  refine J_iconst (v := 0) hC dX5_copy_3 (by decide) ?_
  refine J_aload_n hC (j := 1) dX5_copy_4 rfl rfl ?_
  refine J_alen (t := 0) (v := 24) hC (nl_si7 (Or.inl rfl)) (ent_si7 (Or.inl rfl)) rfl rfl dX5_copy_5 ?_
  refine J_copyi (X' := (va_up X 4 (va_up D 7 (va_cpy (X 3 7) (D 7) 0 0 24)))) hC qw_949 qw_951 qw_950 qw_42 (nl_si7 (Or.inl rfl)) (nl_si7 (Or.inr rfl)) (ent_si7 (Or.inl rfl)) (ent_si7 (Or.inr rfl)) (by decide) (by decide) (by decide) (by decide) (by decide) (cpyS7 (by decide)) ⟨Nat.le_of_ble_eq_true rfl, Nat.le_of_ble_eq_true rfl⟩ dX5_copy_6 ?_
  exact J_vret hC hr rfl rfl dX5_copy_9
set_option maxHeartbeats 4000000 in
set_option maxRecDepth 100000 in
theorem ct8_X5_copy (l : Launch) (G : GG) (X : XX) (o : OO) (D : DD) : CT l yX5_copy cX5_copy 3 none 1 40 0 0 G [.ref (aX G 4 0), .ref (aX G 3 8), .ref (aX G 4 8)] (va_up X 4 D) o none (va_up X 4 (va_up D 8 (va_cpy (X 3 8) (D 8) 0 0 24))) o := by
  refine CT_of (own := RX5) (lv := [(0, .ref (aX G 4 0)), (1, .ref (aX G 3 8)), (2, .ref (aX G 4 8))]) (by decide) rfl (Nat.le_of_ble_eq_true rfl) rfl ?_
  intro p e s m args below meth c hr hC
  refine J_aload_n hC (j := 1) dX5_copy_0 rfl rfl ?_
  refine J_iconst (v := 0) hC dX5_copy_1 (by decide) ?_
  refine J_aload_n hC (j := 2) dX5_copy_2 rfl rfl ?_
  refine J_iconst (v := 0) hC dX5_copy_3 (by decide) ?_
  refine J_aload_n hC (j := 1) dX5_copy_4 rfl rfl ?_
  refine J_alen (t := 0) (v := 24) hC (nl_si8 (Or.inl rfl)) (ent_si8 (Or.inl rfl)) rfl rfl dX5_copy_5 ?_
  refine J_copyi (X' := (va_up X 4 (va_up D 8 (va_cpy (X 3 8) (D 8) 0 0 24)))) hC qw_949 qw_951 qw_950 qw_42 (nl_si8 (Or.inl rfl)) (nl_si8 (Or.inr rfl)) (ent_si8 (Or.inl rfl)) (ent_si8 (Or.inr rfl)) (by decide) (by decide) (by decide) (by decide) (by decide) (cpyS8 (by decide)) ⟨Nat.le_of_ble_eq_true rfl, Nat.le_of_ble_eq_true rfl⟩ dX5_copy_6 ?_
  exact J_vret hC hr rfl rfl dX5_copy_9
set_option maxHeartbeats 4000000 in
set_option maxRecDepth 100000 in
theorem ct9_X5_copy (l : Launch) (G : GG) (X : XX) (o : OO) (D : DD) : CT l yX5_copy cX5_copy 3 none 1 40 0 0 G [.ref (aX G 4 0), .ref (aX G 3 9), .ref (aX G 4 9)] (va_up X 4 D) o none (va_up X 4 (va_up D 9 (va_cpy (X 3 9) (D 9) 0 0 24))) o := by
  refine CT_of (own := RX5) (lv := [(0, .ref (aX G 4 0)), (1, .ref (aX G 3 9)), (2, .ref (aX G 4 9))]) (by decide) rfl (Nat.le_of_ble_eq_true rfl) rfl ?_
  intro p e s m args below meth c hr hC
  refine J_aload_n hC (j := 1) dX5_copy_0 rfl rfl ?_
  refine J_iconst (v := 0) hC dX5_copy_1 (by decide) ?_
  refine J_aload_n hC (j := 2) dX5_copy_2 rfl rfl ?_
  refine J_iconst (v := 0) hC dX5_copy_3 (by decide) ?_
  refine J_aload_n hC (j := 1) dX5_copy_4 rfl rfl ?_
  refine J_alen (t := 0) (v := 24) hC (nl_si9 (Or.inl rfl)) (ent_si9 (Or.inl rfl)) rfl rfl dX5_copy_5 ?_
  refine J_copyi (X' := (va_up X 4 (va_up D 9 (va_cpy (X 3 9) (D 9) 0 0 24)))) hC qw_949 qw_951 qw_950 qw_42 (nl_si9 (Or.inl rfl)) (nl_si9 (Or.inr rfl)) (ent_si9 (Or.inl rfl)) (ent_si9 (Or.inr rfl)) (by decide) (by decide) (by decide) (by decide) (by decide) (cpyS9 (by decide)) ⟨Nat.le_of_ble_eq_true rfl, Nat.le_of_ble_eq_true rfl⟩ dX5_copy_6 ?_
  exact J_vret hC hr rfl rfl dX5_copy_9
set_option maxHeartbeats 4000000 in
set_option maxRecDepth 100000 in
theorem ct10_X5_copy (l : Launch) (G : GG) (X : XX) (o : OO) (D : DD) : CT l yX5_copy cX5_copy 3 none 1 40 0 0 G [.ref (aX G 4 0), .ref (aX G 3 10), .ref (aX G 4 10)] (va_up X 4 D) o none (va_up X 4 (va_up D 10 (va_cpy (X 3 10) (D 10) 0 0 24))) o := by
  refine CT_of (own := RX5) (lv := [(0, .ref (aX G 4 0)), (1, .ref (aX G 3 10)), (2, .ref (aX G 4 10))]) (by decide) rfl (Nat.le_of_ble_eq_true rfl) rfl ?_
  intro p e s m args below meth c hr hC
  refine J_aload_n hC (j := 1) dX5_copy_0 rfl rfl ?_
  refine J_iconst (v := 0) hC dX5_copy_1 (by decide) ?_
  refine J_aload_n hC (j := 2) dX5_copy_2 rfl rfl ?_
  refine J_iconst (v := 0) hC dX5_copy_3 (by decide) ?_
  refine J_aload_n hC (j := 1) dX5_copy_4 rfl rfl ?_
  refine J_alen (t := 0) (v := 24) hC (nl_si10 (Or.inl rfl)) (ent_si10 (Or.inl rfl)) rfl rfl dX5_copy_5 ?_
  refine J_copyi (X' := (va_up X 4 (va_up D 10 (va_cpy (X 3 10) (D 10) 0 0 24)))) hC qw_949 qw_951 qw_950 qw_42 (nl_si10 (Or.inl rfl)) (nl_si10 (Or.inr rfl)) (ent_si10 (Or.inl rfl)) (ent_si10 (Or.inr rfl)) (by decide) (by decide) (by decide) (by decide) (by decide) (cpyS10 (by decide)) ⟨Nat.le_of_ble_eq_true rfl, Nat.le_of_ble_eq_true rfl⟩ dX5_copy_6 ?_
  exact J_vret hC hr rfl rfl dX5_copy_9
set_option maxHeartbeats 4000000 in
set_option maxRecDepth 100000 in
theorem ct11_X5_copy (l : Launch) (G : GG) (X : XX) (o : OO) (D : DD) : CT l yX5_copy cX5_copy 3 none 1 40 0 0 G [.ref (aX G 4 0), .ref (aX G 3 11), .ref (aX G 4 11)] (va_up X 4 D) o none (va_up X 4 (va_up D 11 (va_cpy (X 3 11) (D 11) 0 0 4))) o := by
  refine CT_of (own := RX5) (lv := [(0, .ref (aX G 4 0)), (1, .ref (aX G 3 11)), (2, .ref (aX G 4 11))]) (by decide) rfl (Nat.le_of_ble_eq_true rfl) rfl ?_
  intro p e s m args below meth c hr hC
  refine J_aload_n hC (j := 1) dX5_copy_0 rfl rfl ?_
  refine J_iconst (v := 0) hC dX5_copy_1 (by decide) ?_
  refine J_aload_n hC (j := 2) dX5_copy_2 rfl rfl ?_
  refine J_iconst (v := 0) hC dX5_copy_3 (by decide) ?_
  refine J_aload_n hC (j := 1) dX5_copy_4 rfl rfl ?_
  refine J_alen (t := 0) (v := 4) hC (nl_si11 (Or.inl rfl)) (ent_si11 (Or.inl rfl)) rfl rfl dX5_copy_5 ?_
  refine J_copyi (X' := (va_up X 4 (va_up D 11 (va_cpy (X 3 11) (D 11) 0 0 4)))) hC qw_949 qw_951 qw_950 qw_42 (nl_si11 (Or.inl rfl)) (nl_si11 (Or.inr rfl)) (ent_si11 (Or.inl rfl)) (ent_si11 (Or.inr rfl)) (by decide) (by decide) (by decide) (by decide) (by decide) (cpyS11 (by decide)) ⟨Nat.le_of_ble_eq_true rfl, Nat.le_of_ble_eq_true rfl⟩ dX5_copy_6 ?_
  exact J_vret hC hr rfl rfl dX5_copy_9
set_option maxHeartbeats 4000000 in
set_option maxRecDepth 100000 in
theorem ct12_X5_copy (l : Launch) (G : GG) (X : XX) (o : OO) (D : DD) : CT l yX5_copy cX5_copy 3 none 1 40 0 0 G [.ref (aX G 4 0), .ref (aX G 3 12), .ref (aX G 4 12)] (va_up X 4 D) o none (va_up X 4 (va_up D 12 (va_cpy (X 3 12) (D 12) 0 0 4))) o := by
  refine CT_of (own := RX5) (lv := [(0, .ref (aX G 4 0)), (1, .ref (aX G 3 12)), (2, .ref (aX G 4 12))]) (by decide) rfl (Nat.le_of_ble_eq_true rfl) rfl ?_
  intro p e s m args below meth c hr hC
  refine J_aload_n hC (j := 1) dX5_copy_0 rfl rfl ?_
  refine J_iconst (v := 0) hC dX5_copy_1 (by decide) ?_
  refine J_aload_n hC (j := 2) dX5_copy_2 rfl rfl ?_
  refine J_iconst (v := 0) hC dX5_copy_3 (by decide) ?_
  refine J_aload_n hC (j := 1) dX5_copy_4 rfl rfl ?_
  refine J_alen (t := 0) (v := 4) hC (nl_si12 (Or.inl rfl)) (ent_si12 (Or.inl rfl)) rfl rfl dX5_copy_5 ?_
  refine J_copyi (X' := (va_up X 4 (va_up D 12 (va_cpy (X 3 12) (D 12) 0 0 4)))) hC qw_949 qw_951 qw_950 qw_42 (nl_si12 (Or.inl rfl)) (nl_si12 (Or.inr rfl)) (ent_si12 (Or.inl rfl)) (ent_si12 (Or.inr rfl)) (by decide) (by decide) (by decide) (by decide) (by decide) (cpyS12 (by decide)) ⟨Nat.le_of_ble_eq_true rfl, Nat.le_of_ble_eq_true rfl⟩ dX5_copy_6 ?_
  exact J_vret hC hr rfl rfl dX5_copy_9
set_option maxHeartbeats 4000000 in
set_option maxRecDepth 100000 in
theorem ct_X5_become (l : Launch) (G : GG) (X : XX) (o : OO) (D : DD) : CT l yX5_become cX5_become 2 none 2 62 0 0 G [.ref (aX G 4 0), .ref (aX G 3 0)] (va_up X 4 D) o none (va_up X 4 (becomeS D (X 3))) o := by
  refine CT_of (own := RX5) (lv := [(0, .ref (aX G 4 0)), (1, .ref (aX G 3 0))]) (by decide) rfl (Nat.le_of_ble_eq_true rfl) rfl ?_
  intro p e s m args below meth c hr hC
  refine J_aload_n hC (j := 0) dX5_become_0 rfl rfl ?_
  refine J_aload_n hC (j := 1) dX5_become_1 rfl rfl ?_
  refine J_get hC (nl_s0 (Or.inl rfl)) (ent_s0 (Or.inl rfl)) rfl in5 0 (by decide) rfl qw_671 rfl (rO (by decide)) dX5_become_2 ?_
  refine J_put (X' := (va_up X 4 (va_up D 0 (va_up (D 0) 0 (X 3 0 0))))) hC (nl_s0 (Or.inr rfl)) (ent_s0 (Or.inr rfl)) rfl in5 tyX5_ok nmX5 0 (by decide) rfl qw_671 rfl (by decide) (Nat.le_of_ble_eq_true rfl) (pu_s0F (Or.inr rfl) (by decide)) dX5_become_5 ?_
  refine J_aload_n hC (j := 0) dX5_become_8 rfl rfl ?_
  refine J_aload_n hC (j := 1) dX5_become_9 rfl rfl ?_
  refine J_get (v' := .ref (aX G 3 1)) hC (nl_s0 (Or.inl rfl)) (ent_s0 (Or.inl rfl)) rfl in5 1 (by decide) rfl qw_673 rfl rfl dX5_become_10 ?_
  refine J_aload_n hC (j := 0) dX5_become_13 rfl rfl ?_
  refine J_get (v' := .ref (aX G 4 1)) hC (nl_s0 (Or.inr rfl)) (ent_s0 (Or.inr rfl)) rfl in5 1 (by decide) rfl qw_673 rfl rfl dX5_become_14 ?_
  refine J_callVv hC (ct1_X5_copy l G X o (va_up D 0 (va_up (D 0) 0 (X 3 0 0)))) mw_X5_copy qw_945 (nl_s0 (Or.inr rfl)) (ent_s0 (Or.inr rfl)) rfl rfl rfl (Nat.le_of_ble_eq_true rfl) ⟨Nat.le_of_ble_eq_true rfl, Nat.le_of_ble_eq_true rfl⟩ ⟨Nat.le_of_ble_eq_true rfl, Nat.le_of_ble_eq_true rfl⟩ dX5_become_17 ?_
  refine J_aload_n hC (j := 0) dX5_become_20 rfl rfl ?_
  refine J_aload_n hC (j := 1) dX5_become_21 rfl rfl ?_
  refine J_get (v' := .ref (aX G 3 2)) hC (nl_s0 (Or.inl rfl)) (ent_s0 (Or.inl rfl)) rfl in5 2 (by decide) rfl qw_675 rfl rfl dX5_become_22 ?_
  refine J_aload_n hC (j := 0) dX5_become_25 rfl rfl ?_
  refine J_get (v' := .ref (aX G 4 2)) hC (nl_s0 (Or.inr rfl)) (ent_s0 (Or.inr rfl)) rfl in5 2 (by decide) rfl qw_675 rfl rfl dX5_become_26 ?_
  refine J_callVv hC (ct2_X5_copy l G X o (va_up (va_up D 0 (va_up (D 0) 0 (X 3 0 0))) 1 (va_cpy (X 3 1) (D 1) 0 0 40))) mw_X5_copy qw_945 (nl_s0 (Or.inr rfl)) (ent_s0 (Or.inr rfl)) rfl rfl rfl (Nat.le_of_ble_eq_true rfl) ⟨Nat.le_of_ble_eq_true rfl, Nat.le_of_ble_eq_true rfl⟩ ⟨Nat.le_of_ble_eq_true rfl, Nat.le_of_ble_eq_true rfl⟩ dX5_become_29 ?_
  refine J_aload_n hC (j := 0) dX5_become_32 rfl rfl ?_
  refine J_aload_n hC (j := 1) dX5_become_33 rfl rfl ?_
  refine J_get (v' := .ref (aX G 3 3)) hC (nl_s0 (Or.inl rfl)) (ent_s0 (Or.inl rfl)) rfl in5 3 (by decide) rfl qw_677 rfl rfl dX5_become_34 ?_
  refine J_aload_n hC (j := 0) dX5_become_37 rfl rfl ?_
  refine J_get (v' := .ref (aX G 4 3)) hC (nl_s0 (Or.inr rfl)) (ent_s0 (Or.inr rfl)) rfl in5 3 (by decide) rfl qw_677 rfl rfl dX5_become_38 ?_
  refine J_callVv hC (ct3_X5_copy l G X o (va_up (va_up (va_up D 0 (va_up (D 0) 0 (X 3 0 0))) 1 (va_cpy (X 3 1) (D 1) 0 0 40)) 2 (va_cpy (X 3 2) (D 2) 0 0 24))) mw_X5_copy qw_945 (nl_s0 (Or.inr rfl)) (ent_s0 (Or.inr rfl)) rfl rfl rfl (Nat.le_of_ble_eq_true rfl) ⟨Nat.le_of_ble_eq_true rfl, Nat.le_of_ble_eq_true rfl⟩ ⟨Nat.le_of_ble_eq_true rfl, Nat.le_of_ble_eq_true rfl⟩ dX5_become_41 ?_
  refine J_aload_n hC (j := 0) dX5_become_44 rfl rfl ?_
  refine J_aload_n hC (j := 1) dX5_become_45 rfl rfl ?_
  refine J_get (v' := .ref (aX G 3 4)) hC (nl_s0 (Or.inl rfl)) (ent_s0 (Or.inl rfl)) rfl in5 4 (by decide) rfl qw_679 rfl rfl dX5_become_46 ?_
  refine J_aload_n hC (j := 0) dX5_become_49 rfl rfl ?_
  refine J_get (v' := .ref (aX G 4 4)) hC (nl_s0 (Or.inr rfl)) (ent_s0 (Or.inr rfl)) rfl in5 4 (by decide) rfl qw_679 rfl rfl dX5_become_50 ?_
  refine J_callVv hC (ct4_X5_copy l G X o (va_up (va_up (va_up (va_up D 0 (va_up (D 0) 0 (X 3 0 0))) 1 (va_cpy (X 3 1) (D 1) 0 0 40)) 2 (va_cpy (X 3 2) (D 2) 0 0 24)) 3 (va_cpy (X 3 3) (D 3) 0 0 24))) mw_X5_copy qw_945 (nl_s0 (Or.inr rfl)) (ent_s0 (Or.inr rfl)) rfl rfl rfl (Nat.le_of_ble_eq_true rfl) ⟨Nat.le_of_ble_eq_true rfl, Nat.le_of_ble_eq_true rfl⟩ ⟨Nat.le_of_ble_eq_true rfl, Nat.le_of_ble_eq_true rfl⟩ dX5_become_53 ?_
  refine J_aload_n hC (j := 0) dX5_become_56 rfl rfl ?_
  refine J_aload_n hC (j := 1) dX5_become_57 rfl rfl ?_
  refine J_get (v' := .ref (aX G 3 5)) hC (nl_s0 (Or.inl rfl)) (ent_s0 (Or.inl rfl)) rfl in5 5 (by decide) rfl qw_681 rfl rfl dX5_become_58 ?_
  refine J_aload_n hC (j := 0) dX5_become_61 rfl rfl ?_
  refine J_get (v' := .ref (aX G 4 5)) hC (nl_s0 (Or.inr rfl)) (ent_s0 (Or.inr rfl)) rfl in5 5 (by decide) rfl qw_681 rfl rfl dX5_become_62 ?_
  refine J_callVv hC (ct5_X5_copy l G X o (va_up (va_up (va_up (va_up (va_up D 0 (va_up (D 0) 0 (X 3 0 0))) 1 (va_cpy (X 3 1) (D 1) 0 0 40)) 2 (va_cpy (X 3 2) (D 2) 0 0 24)) 3 (va_cpy (X 3 3) (D 3) 0 0 24)) 4 (va_cpy (X 3 4) (D 4) 0 0 24))) mw_X5_copy qw_945 (nl_s0 (Or.inr rfl)) (ent_s0 (Or.inr rfl)) rfl rfl rfl (Nat.le_of_ble_eq_true rfl) ⟨Nat.le_of_ble_eq_true rfl, Nat.le_of_ble_eq_true rfl⟩ ⟨Nat.le_of_ble_eq_true rfl, Nat.le_of_ble_eq_true rfl⟩ dX5_become_65 ?_
  refine J_aload_n hC (j := 0) dX5_become_68 rfl rfl ?_
  refine J_aload_n hC (j := 1) dX5_become_69 rfl rfl ?_
  refine J_get (v' := .ref (aX G 3 6)) hC (nl_s0 (Or.inl rfl)) (ent_s0 (Or.inl rfl)) rfl in5 6 (by decide) rfl qw_683 rfl rfl dX5_become_70 ?_
  refine J_aload_n hC (j := 0) dX5_become_73 rfl rfl ?_
  refine J_get (v' := .ref (aX G 4 6)) hC (nl_s0 (Or.inr rfl)) (ent_s0 (Or.inr rfl)) rfl in5 6 (by decide) rfl qw_683 rfl rfl dX5_become_74 ?_
  refine J_callVv hC (ct6_X5_copy l G X o (va_up (va_up (va_up (va_up (va_up (va_up D 0 (va_up (D 0) 0 (X 3 0 0))) 1 (va_cpy (X 3 1) (D 1) 0 0 40)) 2 (va_cpy (X 3 2) (D 2) 0 0 24)) 3 (va_cpy (X 3 3) (D 3) 0 0 24)) 4 (va_cpy (X 3 4) (D 4) 0 0 24)) 5 (va_cpy (X 3 5) (D 5) 0 0 24))) mw_X5_copy qw_945 (nl_s0 (Or.inr rfl)) (ent_s0 (Or.inr rfl)) rfl rfl rfl (Nat.le_of_ble_eq_true rfl) ⟨Nat.le_of_ble_eq_true rfl, Nat.le_of_ble_eq_true rfl⟩ ⟨Nat.le_of_ble_eq_true rfl, Nat.le_of_ble_eq_true rfl⟩ dX5_become_77 ?_
  refine J_aload_n hC (j := 0) dX5_become_80 rfl rfl ?_
  refine J_aload_n hC (j := 1) dX5_become_81 rfl rfl ?_
  refine J_get (v' := .ref (aX G 3 7)) hC (nl_s0 (Or.inl rfl)) (ent_s0 (Or.inl rfl)) rfl in5 7 (by decide) rfl qw_685 rfl rfl dX5_become_82 ?_
  refine J_aload_n hC (j := 0) dX5_become_85 rfl rfl ?_
  refine J_get (v' := .ref (aX G 4 7)) hC (nl_s0 (Or.inr rfl)) (ent_s0 (Or.inr rfl)) rfl in5 7 (by decide) rfl qw_685 rfl rfl dX5_become_86 ?_
  refine J_callVv hC (ct7_X5_copy l G X o (va_up (va_up (va_up (va_up (va_up (va_up (va_up D 0 (va_up (D 0) 0 (X 3 0 0))) 1 (va_cpy (X 3 1) (D 1) 0 0 40)) 2 (va_cpy (X 3 2) (D 2) 0 0 24)) 3 (va_cpy (X 3 3) (D 3) 0 0 24)) 4 (va_cpy (X 3 4) (D 4) 0 0 24)) 5 (va_cpy (X 3 5) (D 5) 0 0 24)) 6 (va_cpy (X 3 6) (D 6) 0 0 24))) mw_X5_copy qw_945 (nl_s0 (Or.inr rfl)) (ent_s0 (Or.inr rfl)) rfl rfl rfl (Nat.le_of_ble_eq_true rfl) ⟨Nat.le_of_ble_eq_true rfl, Nat.le_of_ble_eq_true rfl⟩ ⟨Nat.le_of_ble_eq_true rfl, Nat.le_of_ble_eq_true rfl⟩ dX5_become_89 ?_
  refine J_aload_n hC (j := 0) dX5_become_92 rfl rfl ?_
  refine J_aload_n hC (j := 1) dX5_become_93 rfl rfl ?_
  refine J_get (v' := .ref (aX G 3 8)) hC (nl_s0 (Or.inl rfl)) (ent_s0 (Or.inl rfl)) rfl in5 8 (by decide) rfl qw_687 rfl rfl dX5_become_94 ?_
  refine J_aload_n hC (j := 0) dX5_become_97 rfl rfl ?_
  refine J_get (v' := .ref (aX G 4 8)) hC (nl_s0 (Or.inr rfl)) (ent_s0 (Or.inr rfl)) rfl in5 8 (by decide) rfl qw_687 rfl rfl dX5_become_98 ?_
  refine J_callVv hC (ct8_X5_copy l G X o (va_up (va_up (va_up (va_up (va_up (va_up (va_up (va_up D 0 (va_up (D 0) 0 (X 3 0 0))) 1 (va_cpy (X 3 1) (D 1) 0 0 40)) 2 (va_cpy (X 3 2) (D 2) 0 0 24)) 3 (va_cpy (X 3 3) (D 3) 0 0 24)) 4 (va_cpy (X 3 4) (D 4) 0 0 24)) 5 (va_cpy (X 3 5) (D 5) 0 0 24)) 6 (va_cpy (X 3 6) (D 6) 0 0 24)) 7 (va_cpy (X 3 7) (D 7) 0 0 24))) mw_X5_copy qw_945 (nl_s0 (Or.inr rfl)) (ent_s0 (Or.inr rfl)) rfl rfl rfl (Nat.le_of_ble_eq_true rfl) ⟨Nat.le_of_ble_eq_true rfl, Nat.le_of_ble_eq_true rfl⟩ ⟨Nat.le_of_ble_eq_true rfl, Nat.le_of_ble_eq_true rfl⟩ dX5_become_101 ?_
  refine J_aload_n hC (j := 0) dX5_become_104 rfl rfl ?_
  refine J_aload_n hC (j := 1) dX5_become_105 rfl rfl ?_
  refine J_get (v' := .ref (aX G 3 9)) hC (nl_s0 (Or.inl rfl)) (ent_s0 (Or.inl rfl)) rfl in5 9 (by decide) rfl qw_689 rfl rfl dX5_become_106 ?_
  refine J_aload_n hC (j := 0) dX5_become_109 rfl rfl ?_
  refine J_get (v' := .ref (aX G 4 9)) hC (nl_s0 (Or.inr rfl)) (ent_s0 (Or.inr rfl)) rfl in5 9 (by decide) rfl qw_689 rfl rfl dX5_become_110 ?_
  refine J_callVv hC (ct9_X5_copy l G X o (va_up (va_up (va_up (va_up (va_up (va_up (va_up (va_up (va_up D 0 (va_up (D 0) 0 (X 3 0 0))) 1 (va_cpy (X 3 1) (D 1) 0 0 40)) 2 (va_cpy (X 3 2) (D 2) 0 0 24)) 3 (va_cpy (X 3 3) (D 3) 0 0 24)) 4 (va_cpy (X 3 4) (D 4) 0 0 24)) 5 (va_cpy (X 3 5) (D 5) 0 0 24)) 6 (va_cpy (X 3 6) (D 6) 0 0 24)) 7 (va_cpy (X 3 7) (D 7) 0 0 24)) 8 (va_cpy (X 3 8) (D 8) 0 0 24))) mw_X5_copy qw_945 (nl_s0 (Or.inr rfl)) (ent_s0 (Or.inr rfl)) rfl rfl rfl (Nat.le_of_ble_eq_true rfl) ⟨Nat.le_of_ble_eq_true rfl, Nat.le_of_ble_eq_true rfl⟩ ⟨Nat.le_of_ble_eq_true rfl, Nat.le_of_ble_eq_true rfl⟩ dX5_become_113 ?_
  refine J_aload_n hC (j := 0) dX5_become_116 rfl rfl ?_
  refine J_aload_n hC (j := 1) dX5_become_117 rfl rfl ?_
  refine J_get (v' := .ref (aX G 3 10)) hC (nl_s0 (Or.inl rfl)) (ent_s0 (Or.inl rfl)) rfl in5 10 (by decide) rfl qw_691 rfl rfl dX5_become_118 ?_
  refine J_aload_n hC (j := 0) dX5_become_121 rfl rfl ?_
  refine J_get (v' := .ref (aX G 4 10)) hC (nl_s0 (Or.inr rfl)) (ent_s0 (Or.inr rfl)) rfl in5 10 (by decide) rfl qw_691 rfl rfl dX5_become_122 ?_
  refine J_callVv hC (ct10_X5_copy l G X o (va_up (va_up (va_up (va_up (va_up (va_up (va_up (va_up (va_up (va_up D 0 (va_up (D 0) 0 (X 3 0 0))) 1 (va_cpy (X 3 1) (D 1) 0 0 40)) 2 (va_cpy (X 3 2) (D 2) 0 0 24)) 3 (va_cpy (X 3 3) (D 3) 0 0 24)) 4 (va_cpy (X 3 4) (D 4) 0 0 24)) 5 (va_cpy (X 3 5) (D 5) 0 0 24)) 6 (va_cpy (X 3 6) (D 6) 0 0 24)) 7 (va_cpy (X 3 7) (D 7) 0 0 24)) 8 (va_cpy (X 3 8) (D 8) 0 0 24)) 9 (va_cpy (X 3 9) (D 9) 0 0 24))) mw_X5_copy qw_945 (nl_s0 (Or.inr rfl)) (ent_s0 (Or.inr rfl)) rfl rfl rfl (Nat.le_of_ble_eq_true rfl) ⟨Nat.le_of_ble_eq_true rfl, Nat.le_of_ble_eq_true rfl⟩ ⟨Nat.le_of_ble_eq_true rfl, Nat.le_of_ble_eq_true rfl⟩ dX5_become_125 ?_
  refine J_aload_n hC (j := 0) dX5_become_128 rfl rfl ?_
  refine J_aload_n hC (j := 1) dX5_become_129 rfl rfl ?_
  refine J_get (v' := .ref (aX G 3 11)) hC (nl_s0 (Or.inl rfl)) (ent_s0 (Or.inl rfl)) rfl in5 11 (by decide) rfl qw_693 rfl rfl dX5_become_130 ?_
  refine J_aload_n hC (j := 0) dX5_become_133 rfl rfl ?_
  refine J_get (v' := .ref (aX G 4 11)) hC (nl_s0 (Or.inr rfl)) (ent_s0 (Or.inr rfl)) rfl in5 11 (by decide) rfl qw_693 rfl rfl dX5_become_134 ?_
  refine J_callVv hC (ct11_X5_copy l G X o (va_up (va_up (va_up (va_up (va_up (va_up (va_up (va_up (va_up (va_up (va_up D 0 (va_up (D 0) 0 (X 3 0 0))) 1 (va_cpy (X 3 1) (D 1) 0 0 40)) 2 (va_cpy (X 3 2) (D 2) 0 0 24)) 3 (va_cpy (X 3 3) (D 3) 0 0 24)) 4 (va_cpy (X 3 4) (D 4) 0 0 24)) 5 (va_cpy (X 3 5) (D 5) 0 0 24)) 6 (va_cpy (X 3 6) (D 6) 0 0 24)) 7 (va_cpy (X 3 7) (D 7) 0 0 24)) 8 (va_cpy (X 3 8) (D 8) 0 0 24)) 9 (va_cpy (X 3 9) (D 9) 0 0 24)) 10 (va_cpy (X 3 10) (D 10) 0 0 24))) mw_X5_copy qw_945 (nl_s0 (Or.inr rfl)) (ent_s0 (Or.inr rfl)) rfl rfl rfl (Nat.le_of_ble_eq_true rfl) ⟨Nat.le_of_ble_eq_true rfl, Nat.le_of_ble_eq_true rfl⟩ ⟨Nat.le_of_ble_eq_true rfl, Nat.le_of_ble_eq_true rfl⟩ dX5_become_137 ?_
  refine J_aload_n hC (j := 0) dX5_become_140 rfl rfl ?_
  refine J_aload_n hC (j := 1) dX5_become_141 rfl rfl ?_
  refine J_get (v' := .ref (aX G 3 12)) hC (nl_s0 (Or.inl rfl)) (ent_s0 (Or.inl rfl)) rfl in5 12 (by decide) rfl qw_695 rfl rfl dX5_become_142 ?_
  refine J_aload_n hC (j := 0) dX5_become_145 rfl rfl ?_
  refine J_get (v' := .ref (aX G 4 12)) hC (nl_s0 (Or.inr rfl)) (ent_s0 (Or.inr rfl)) rfl in5 12 (by decide) rfl qw_695 rfl rfl dX5_become_146 ?_
  refine J_callVv hC (ct12_X5_copy l G X o (va_up (va_up (va_up (va_up (va_up (va_up (va_up (va_up (va_up (va_up (va_up (va_up D 0 (va_up (D 0) 0 (X 3 0 0))) 1 (va_cpy (X 3 1) (D 1) 0 0 40)) 2 (va_cpy (X 3 2) (D 2) 0 0 24)) 3 (va_cpy (X 3 3) (D 3) 0 0 24)) 4 (va_cpy (X 3 4) (D 4) 0 0 24)) 5 (va_cpy (X 3 5) (D 5) 0 0 24)) 6 (va_cpy (X 3 6) (D 6) 0 0 24)) 7 (va_cpy (X 3 7) (D 7) 0 0 24)) 8 (va_cpy (X 3 8) (D 8) 0 0 24)) 9 (va_cpy (X 3 9) (D 9) 0 0 24)) 10 (va_cpy (X 3 10) (D 10) 0 0 24)) 11 (va_cpy (X 3 11) (D 11) 0 0 4))) mw_X5_copy qw_945 (nl_s0 (Or.inr rfl)) (ent_s0 (Or.inr rfl)) rfl rfl rfl (Nat.le_of_ble_eq_true rfl) ⟨Nat.le_of_ble_eq_true rfl, Nat.le_of_ble_eq_true rfl⟩ ⟨Nat.le_of_ble_eq_true rfl, Nat.le_of_ble_eq_true rfl⟩ dX5_become_149 ?_
  exact J_vret hC hr (congrArg (va_up X 4) rfl) rfl dX5_become_152
