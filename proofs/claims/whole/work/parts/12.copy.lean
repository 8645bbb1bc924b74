set_option maxHeartbeats 4000000 in
set_option maxRecDepth 100000 in
theorem ctn_X0_copyFrom (l : Launch) (G : GG) (X : XX) (o : OO) (E : DD) (q : Nat) (hq : q < 4) : CT l yX0_copyFrom cX0_copyFrom 3 none 0 0 0 0 G [.ref (aX G 1 (24 + q)), .null] (va_up X 1 E) o none (va_up X 1 E) o := by
  refine CT_of (own := RX0) (lv := [(0, .ref (aX G 1 (24 + q))), (1, .null)]) (by decide) rfl (Nat.le_of_ble_eq_true rfl) rfl ?_
  intro p e s m args below meth c hr hC
  refine J_aload_nN hC (j := 1) dX0_copyFrom_0 rfl rfl ?_
  refine J_ifnonnullN hC dX0_copyFrom_1 ?_
  exact J_vret hC hr rfl rfl dX0_copyFrom_4
set_option maxHeartbeats 4000000 in
set_option maxRecDepth 100000 in
theorem ct_X0_copyFrom (l : Launch) (G : GG) (X : XX) (o : OO) (E : DD) (q : Nat) (hq : q < 4) (r : Nat) (hr0 : r < 4) : CT l yX0_copyFrom cX0_copyFrom 3 none 1 21 0 0 G [.ref (aX G 1 (24 + q)), .ref (aX G 0 (24 + r))] (va_up X 1 E) o none (va_up X 1 (cpC E (X 0) q r)) o := by
  refine CT_of (own := RX0) (lv := [(0, .ref (aX G 1 (24 + q))), (1, .ref (aX G 0 (24 + r)))]) (by decide) rfl (Nat.le_of_ble_eq_true rfl) rfl ?_
  intro p e s m args below meth c hr hC
  refine J_aload_n hC (j := 1) dX0_copyFrom_0 rfl rfl ?_
  refine J_ifnonnull (tgt := 5) hC dX0_copyFrom_1 (by decide) ?_
  refine J_aload_n hC (j := 0) dX0_copyFrom_5 rfl rfl ?_
  refine J_aload_n hC (j := 1) dX0_copyFrom_6 rfl rfl ?_
  refine J_get hC (nl_ce (by decide) hr0) (ent_ce (by decide) hr0) rfl in0 0 (by decide) rfl qw_68 rfl (rO (by decide)) dX0_copyFrom_7 ?_
  refine J_put (X' := (va_up X 1 (va_up E (24 + q) (va_up (E (24 + q)) 0 (X 0 (24 + r) 0))))) hC (nl_ce (by decide) hq) (ent_ce (by decide) hq) rfl in0 tyX0_ok nmX0 0 (by decide) rfl qw_68 rfl (by decide) (Nat.le_of_ble_eq_true rfl) (pu_ceF (by decide) hq (by decide)) dX0_copyFrom_10 ?_
  refine J_aload_n hC (j := 0) dX0_copyFrom_13 rfl rfl ?_
  refine J_aload_n hC (j := 1) dX0_copyFrom_14 rfl rfl ?_
  refine J_get hC (nl_ce (by decide) hr0) (ent_ce (by decide) hr0) rfl in0 1 (by decide) rfl qw_71 rfl (rO (by decide)) dX0_copyFrom_15 ?_
  refine J_put (X' := (va_up X 1 (va_up E (24 + q) (va_up (va_up (E (24 + q)) 0 (X 0 (24 + r) 0)) 1 (X 0 (24 + r) 1))))) hC (nl_ce (by decide) hq) (ent_ce (by decide) hq) rfl in0 tyX0_ok nmX0 1 (by decide) rfl qw_71 rfl (by decide) (Nat.le_of_ble_eq_true rfl) (pu_ceW (by decide) hq (by decide)) dX0_copyFrom_18 ?_
  refine J_iconst (v := 0) hC dX0_copyFrom_21 (by decide) ?_
  refine J_istore_n (lv' := [(2, .int 0), (0, .ref (aX G 1 (24 + q))), (1, .ref (aX G 0 (24 + r)))]) hC dX0_copyFrom_22 rfl (by decide) rfl ?_
  have L23 : ∀ n i : Nat, i + n = 10 → Jd p l e ({ frames := 1, cells := 0, slots := 0, locals := 21 }) s m args below meth c (MQ below (CQ G none (va_up X 1 (cpC E (X 0) q r)) o) args s 0 0 (gB G)) G 3 0 0 (va_up X 1 (va_up (cpC1 E (X 0) q r) (28 + q) (cpB ((cpC1 E (X 0) q r) (28 + q)) (X 0 (28 + r)) i))) o 23 [(0, .ref (aX G 1 (24 + q))), (1, .ref (aX G 0 (24 + r))), (2, .int (nI i))] [] := by
    intro n
    induction n with
    | zero =>
      intro i hn 
      obtain rfl : i = 10 := by omega
      refine J_iload_n hC (j := 2) dX0_copyFrom_23 rfl rfl ?_
      refine J_aload_n hC (j := 0) dX0_copyFrom_24 rfl rfl ?_
      refine J_get (v' := .ref (aX G 1 (28 + q))) hC (nl_ce (by decide) hq) (ent_ce (by decide) hq) rfl in0 2 (by decide) rfl qw_74 rfl rfl dX0_copyFrom_25 ?_
      refine J_alen (t := 0) (v := 10) hC (nl_bo (by decide) hq) (ent_bo (by decide) hq) rfl rfl dX0_copyFrom_28 ?_
      refine J_icmp_ge (tgt := 49) hC dX0_copyFrom_29 (by decide) (fun c29 => ?_) (fun c29 => absurd c29 (not_not_intro (le_nI (K := 10) rfl (by omega) (by omega))))
      exact J_vret hC hr (congrArg (va_up X 1) (by simp [cpC])) rfl dX0_copyFrom_49
    | succ n ih =>
      intro i hn 
      refine J_iload_n hC (j := 2) dX0_copyFrom_23 rfl rfl ?_
      refine J_aload_n hC (j := 0) dX0_copyFrom_24 rfl rfl ?_
      refine J_get (v' := .ref (aX G 1 (28 + q))) hC (nl_ce (by decide) hq) (ent_ce (by decide) hq) rfl in0 2 (by decide) rfl qw_74 rfl rfl dX0_copyFrom_25 ?_
      refine J_alen (t := 0) (v := 10) hC (nl_bo (by decide) hq) (ent_bo (by decide) hq) rfl rfl dX0_copyFrom_28 ?_
      refine J_icmp_ge (tgt := 49) hC dX0_copyFrom_29 (by decide) (fun c29 => absurd c29 (nle_nI (K := 10) rfl (by omega) (by omega))) (fun c29 => ?_)
      refine J_aload_n hC (j := 0) dX0_copyFrom_32 rfl rfl ?_
      refine J_get (v' := .ref (aX G 1 (28 + q))) hC (nl_ce (by decide) hq) (ent_ce (by decide) hq) rfl in0 2 (by decide) rfl qw_74 rfl rfl dX0_copyFrom_33 ?_
      refine J_iload_n hC (j := 2) dX0_copyFrom_36 rfl rfl ?_
      refine J_aload_n hC (j := 1) dX0_copyFrom_37 rfl rfl ?_
      refine J_iload_n hC (j := 2) dX0_copyFrom_38 rfl rfl ?_
      refine J_callV hC (ct_rw (fo (by decide)) (fo (by decide)) (ct_X0_wheelAt l G (va_up X 1 (va_up (cpC1 E (X 0) q r) (28 + q) (cpB ((cpC1 E (X 0) q r) (28 + q)) (X 0 (28 + r)) i))) o 0 (by decide) (X 0) r hr0 (nI i))) mw_X0_wheelAt qw_624 (nl_ce (by decide) hr0) (ent_ce (by decide) hr0) rfl rfl rfl (Nat.le_of_ble_eq_true rfl) ⟨Nat.le_of_ble_eq_true rfl, Nat.le_of_ble_eq_true rfl⟩ ⟨Nat.le_of_ble_eq_true rfl, Nat.le_of_ble_eq_true rfl⟩ dX0_copyFrom_39 ?_
      refine J_iast (X' := (va_up X 1 (va_up (cpC1 E (X 0) q r) (28 + q) (va_up (cpB ((cpC1 E (X 0) q r) (28 + q)) (X 0 (28 + r)) i) (ix (nI i)) (wAt ((X 0) (28 + r)) (nI i)))))) hC (nl_bo (by decide) hq) (ent_bo (by decide) hq) (vp_nI (by omega)) (pu_boW (by decide) hq) dX0_copyFrom_42 ?_
      refine J_iinc (j := 2) (v := ((nI i) + 1)) (lv' := [(2, .int ((nI i) + 1)), (0, .ref (aX G 1 (24 + q))), (1, .ref (aX G 0 (24 + r)))]) hC dX0_copyFrom_43 rfl rfl (by decide) rfl ?_
      refine J_goto (tgt := 23) hC dX0_copyFrom_46 (by decide) ?_
      refine J_lv [1, 2, 0] (lv' := [(0, .ref (aX G 1 (24 + q))), (1, .ref (aX G 0 (24 + r))), (2, .int ((nI i) + 1))]) rfl ?_
      exact J_cast rfl (by simp [nI_succ]) rfl (ih (i + 1) (by omega) )
  refine J_lv [1, 2, 0] (lv' := [(0, .ref (aX G 1 (24 + q))), (1, .ref (aX G 0 (24 + r))), (2, .int 0)]) rfl ?_
  exact J_cast (by rw [show cpB ((cpC1 E (X 0) q r) (28 + q)) (X 0 (28 + r)) 0 = (cpC1 E (X 0) q r) (28 + q) from rfl, va_up_eq]; rfl) (by first | rfl | simp [nI_0]) rfl (L23 10 0 (by omega) )
set_option maxHeartbeats 4000000 in
set_option maxRecDepth 100000 in
theorem ctn_X3_copyFrom (l : Launch) (G : GG) (X : XX) (o : OO) (E : DD) (q : Nat) (hq : q < 24) : CT l yX3_copyFrom cX3_copyFrom 2 none 0 0 0 0 G [.ref (aX G 1 q), .null] (va_up X 1 E) o none (va_up X 1 E) o := by
  refine CT_of (own := RX3) (lv := [(0, .ref (aX G 1 q)), (1, .null)]) (by decide) rfl (Nat.le_of_ble_eq_true rfl) rfl ?_
  intro p e s m args below meth c hr hC
  refine J_aload_nN hC (j := 1) dX3_copyFrom_0 rfl rfl ?_
  refine J_ifnonnullN hC dX3_copyFrom_1 ?_
  exact J_vret hC hr rfl rfl dX3_copyFrom_4
set_option maxHeartbeats 4000000 in
set_option maxRecDepth 100000 in
theorem ct_X3_copyFrom (l : Launch) (G : GG) (X : XX) (o : OO) (E : DD) (q : Nat) (hq : q < 24) (r : Nat) (hr0 : r < 24) : CT l yX3_copyFrom cX3_copyFrom 2 none 0 0 0 0 G [.ref (aX G 1 q), .ref (aX G 0 r)] (va_up X 1 E) o none (va_up X 1 (va_up E q (cpW (E q) ((X 0) r)))) o := by
  refine CT_of (own := RX3) (lv := [(0, .ref (aX G 1 q)), (1, .ref (aX G 0 r))]) (by decide) rfl (Nat.le_of_ble_eq_true rfl) rfl ?_
  intro p e s m args below meth c hr hC
  refine J_aload_n hC (j := 1) dX3_copyFrom_0 rfl rfl ?_
  refine J_ifnonnull (tgt := 5) hC dX3_copyFrom_1 (by decide) ?_
  refine J_aload_n hC (j := 0) dX3_copyFrom_5 rfl rfl ?_
  refine J_aload_n hC (j := 1) dX3_copyFrom_6 rfl rfl ?_
  refine J_get hC (nl_wh (by decide) hr0) (ent_wh (by decide) hr0) rfl in3 0 (by decide) rfl qw_88 rfl (rO (by decide)) dX3_copyFrom_7 ?_
  refine J_put (X' := (va_up X 1 (va_up E q (va_up (E q) 0 (X 0 r 0))))) hC (nl_wh (by decide) hq) (ent_wh (by decide) hq) rfl in3 tyX3_ok nmX3 0 (by decide) rfl qw_88 rfl (by decide) (Nat.le_of_ble_eq_true rfl) (pu_whF (by decide) hq (by decide)) dX3_copyFrom_10 ?_
  refine J_aload_n hC (j := 0) dX3_copyFrom_13 rfl rfl ?_
  refine J_aload_n hC (j := 1) dX3_copyFrom_14 rfl rfl ?_
  refine J_get hC (nl_wh (by decide) hr0) (ent_wh (by decide) hr0) rfl in3 1 (by decide) rfl qw_90 rfl (rO (by decide)) dX3_copyFrom_15 ?_
  refine J_put (X' := (va_up X 1 (va_up E q (va_up (va_up (E q) 0 (X 0 r 0)) 1 (X 0 r 1))))) hC (nl_wh (by decide) hq) (ent_wh (by decide) hq) rfl in3 tyX3_ok nmX3 1 (by decide) rfl qw_90 rfl (by decide) (Nat.le_of_ble_eq_true rfl) (pu_whW (by decide) hq (by decide)) dX3_copyFrom_18 ?_
  refine J_aload_n hC (j := 0) dX3_copyFrom_21 rfl rfl ?_
  refine J_aload_n hC (j := 1) dX3_copyFrom_22 rfl rfl ?_
  refine J_get hC (nl_wh (by decide) hr0) (ent_wh (by decide) hr0) rfl in3 2 (by decide) rfl qw_93 rfl (rO (by decide)) dX3_copyFrom_23 ?_
  refine J_put (X' := (va_up X 1 (va_up E q (va_up (va_up (va_up (E q) 0 (X 0 r 0)) 1 (X 0 r 1)) 2 (X 0 r 2))))) hC (nl_wh (by decide) hq) (ent_wh (by decide) hq) rfl in3 tyX3_ok nmX3 2 (by decide) rfl qw_93 rfl (by decide) (Nat.le_of_ble_eq_true rfl) (pu_whW (by decide) hq (by decide)) dX3_copyFrom_26 ?_
  refine J_aload_n hC (j := 0) dX3_copyFrom_29 rfl rfl ?_
  refine J_aload_n hC (j := 1) dX3_copyFrom_30 rfl rfl ?_
  refine J_get hC (nl_wh (by decide) hr0) (ent_wh (by decide) hr0) rfl in3 3 (by decide) rfl qw_96 rfl (rO (by decide)) dX3_copyFrom_31 ?_
  refine J_put (X' := (va_up X 1 (va_up E q (va_up (va_up (va_up (va_up (E q) 0 (X 0 r 0)) 1 (X 0 r 1)) 2 (X 0 r 2)) 3 (X 0 r 3))))) hC (nl_wh (by decide) hq) (ent_wh (by decide) hq) rfl in3 tyX3_ok nmX3 3 (by decide) rfl qw_96 rfl (by decide) (Nat.le_of_ble_eq_true rfl) (pu_whW (by decide) hq (by decide)) dX3_copyFrom_34 ?_
  refine J_aload_n hC (j := 0) dX3_copyFrom_37 rfl rfl ?_
  refine J_aload_n hC (j := 1) dX3_copyFrom_38 rfl rfl ?_
  refine J_get hC (nl_wh (by decide) hr0) (ent_wh (by decide) hr0) rfl in3 4 (by decide) rfl qw_97 rfl (rO (by decide)) dX3_copyFrom_39 ?_
  refine J_put (X' := (va_up X 1 (va_up E q (va_up (va_up (va_up (va_up (va_up (E q) 0 (X 0 r 0)) 1 (X 0 r 1)) 2 (X 0 r 2)) 3 (X 0 r 3)) 4 (X 0 r 4))))) hC (nl_wh (by decide) hq) (ent_wh (by decide) hq) rfl in3 tyX3_ok nmX3 4 (by decide) rfl qw_97 rfl (by decide) (Nat.le_of_ble_eq_true rfl) (pu_whW (by decide) hq (by decide)) dX3_copyFrom_42 ?_
  refine J_aload_n hC (j := 0) dX3_copyFrom_45 rfl rfl ?_
  refine J_aload_n hC (j := 1) dX3_copyFrom_46 rfl rfl ?_
  refine J_get hC (nl_wh (by decide) hr0) (ent_wh (by decide) hr0) rfl in3 5 (by decide) rfl qw_98 rfl (rO (by decide)) dX3_copyFrom_47 ?_
  refine J_put (X' := (va_up X 1 (va_up E q (va_up (va_up (va_up (va_up (va_up (va_up (E q) 0 (X 0 r 0)) 1 (X 0 r 1)) 2 (X 0 r 2)) 3 (X 0 r 3)) 4 (X 0 r 4)) 5 (X 0 r 5))))) hC (nl_wh (by decide) hq) (ent_wh (by decide) hq) rfl in3 tyX3_ok nmX3 5 (by decide) rfl qw_98 rfl (by decide) (Nat.le_of_ble_eq_true rfl) (pu_whW (by decide) hq (by decide)) dX3_copyFrom_50 ?_
  refine J_aload_n hC (j := 0) dX3_copyFrom_53 rfl rfl ?_
  refine J_aload_n hC (j := 1) dX3_copyFrom_54 rfl rfl ?_
  refine J_get hC (nl_wh (by decide) hr0) (ent_wh (by decide) hr0) rfl in3 6 (by decide) rfl qw_99 rfl (rO (by decide)) dX3_copyFrom_55 ?_
  refine J_put (X' := (va_up X 1 (va_up E q (va_up (va_up (va_up (va_up (va_up (va_up (va_up (E q) 0 (X 0 r 0)) 1 (X 0 r 1)) 2 (X 0 r 2)) 3 (X 0 r 3)) 4 (X 0 r 4)) 5 (X 0 r 5)) 6 (X 0 r 6))))) hC (nl_wh (by decide) hq) (ent_wh (by decide) hq) rfl in3 tyX3_ok nmX3 6 (by decide) rfl qw_99 rfl (by decide) (Nat.le_of_ble_eq_true rfl) (pu_whW (by decide) hq (by decide)) dX3_copyFrom_58 ?_
  refine J_aload_n hC (j := 0) dX3_copyFrom_61 rfl rfl ?_
  refine J_aload_n hC (j := 1) dX3_copyFrom_62 rfl rfl ?_
  refine J_get hC (nl_wh (by decide) hr0) (ent_wh (by decide) hr0) rfl in3 7 (by decide) rfl qw_100 rfl (rO (by decide)) dX3_copyFrom_63 ?_
  refine J_put (X' := (va_up X 1 (va_up E q (va_up (va_up (va_up (va_up (va_up (va_up (va_up (va_up (E q) 0 (X 0 r 0)) 1 (X 0 r 1)) 2 (X 0 r 2)) 3 (X 0 r 3)) 4 (X 0 r 4)) 5 (X 0 r 5)) 6 (X 0 r 6)) 7 (X 0 r 7))))) hC (nl_wh (by decide) hq) (ent_wh (by decide) hq) rfl in3 tyX3_ok nmX3 7 (by decide) rfl qw_100 rfl (by decide) (Nat.le_of_ble_eq_true rfl) (pu_whW (by decide) hq (by decide)) dX3_copyFrom_66 ?_
  refine J_aload_n hC (j := 0) dX3_copyFrom_69 rfl rfl ?_
  refine J_aload_n hC (j := 1) dX3_copyFrom_70 rfl rfl ?_
  refine J_get hC (nl_wh (by decide) hr0) (ent_wh (by decide) hr0) rfl in3 8 (by decide) rfl qw_103 rfl (rO (by decide)) dX3_copyFrom_71 ?_
  refine J_put (X' := (va_up X 1 (va_up E q (va_up (va_up (va_up (va_up (va_up (va_up (va_up (va_up (va_up (E q) 0 (X 0 r 0)) 1 (X 0 r 1)) 2 (X 0 r 2)) 3 (X 0 r 3)) 4 (X 0 r 4)) 5 (X 0 r 5)) 6 (X 0 r 6)) 7 (X 0 r 7)) 8 (X 0 r 8))))) hC (nl_wh (by decide) hq) (ent_wh (by decide) hq) rfl in3 tyX3_ok nmX3 8 (by decide) rfl qw_103 rfl (by decide) (Nat.le_of_ble_eq_true rfl) (pu_whW (by decide) hq (by decide)) dX3_copyFrom_74 ?_
  refine J_aload_n hC (j := 0) dX3_copyFrom_77 rfl rfl ?_
  refine J_aload_n hC (j := 1) dX3_copyFrom_78 rfl rfl ?_
  refine J_get hC (nl_wh (by decide) hr0) (ent_wh (by decide) hr0) rfl in3 9 (by decide) rfl qw_105 rfl (rO (by decide)) dX3_copyFrom_79 ?_
  refine J_put (X' := (va_up X 1 (va_up E q (va_up (va_up (va_up (va_up (va_up (va_up (va_up (va_up (va_up (va_up (E q) 0 (X 0 r 0)) 1 (X 0 r 1)) 2 (X 0 r 2)) 3 (X 0 r 3)) 4 (X 0 r 4)) 5 (X 0 r 5)) 6 (X 0 r 6)) 7 (X 0 r 7)) 8 (X 0 r 8)) 9 (X 0 r 9))))) hC (nl_wh (by decide) hq) (ent_wh (by decide) hq) rfl in3 tyX3_ok nmX3 9 (by decide) rfl qw_105 rfl (by decide) (Nat.le_of_ble_eq_true rfl) (pu_whW (by decide) hq (by decide)) dX3_copyFrom_82 ?_
  exact J_vret hC hr (congrArg (fun w => va_up X 1 (va_up E q w)) (by simp [cpW])) rfl dX3_copyFrom_85
set_option maxHeartbeats 4000000 in
set_option maxRecDepth 100000 in
theorem ctn_X2_copyFrom (l : Launch) (G : GG) (X : XX) (o : OO) (E : DD) (q : Nat) (hq : q < 4) : CT l yX2_copyFrom cX2_copyFrom 3 none 0 0 0 0 G [.ref (aX G 1 (32 + q)), .null] (va_up X 1 E) o none (va_up X 1 E) o := by
  refine CT_of (own := RX2) (lv := [(0, .ref (aX G 1 (32 + q))), (1, .null)]) (by decide) rfl (Nat.le_of_ble_eq_true rfl) rfl ?_
  intro p e s m args below meth c hr hC
  refine J_aload_nN hC (j := 1) dX2_copyFrom_0 rfl rfl ?_
  refine J_ifnonnullN hC dX2_copyFrom_1 ?_
  exact J_vret hC hr rfl rfl dX2_copyFrom_4
set_option maxHeartbeats 4000000 in
set_option maxRecDepth 100000 in
theorem ct_X2_copyFrom (l : Launch) (G : GG) (X : XX) (o : OO) (E : DD) (q : Nat) (hq : q < 4) (r : Nat) (hr0 : r < 4) : CT l yX2_copyFrom cX2_copyFrom 3 none 2 44 0 0 G [.ref (aX G 1 (32 + q)), .ref (aX G 0 (32 + r))] (va_up X 1 E) o none (va_up X 1 (cpM E (X 0) q r)) o := by
  refine CT_of (own := RX2) (lv := [(0, .ref (aX G 1 (32 + q))), (1, .ref (aX G 0 (32 + r)))]) (by decide) rfl (Nat.le_of_ble_eq_true rfl) rfl ?_
  intro p e s m args below meth c hr hC
  refine J_aload_n hC (j := 1) dX2_copyFrom_0 rfl rfl ?_
  refine J_ifnonnull (tgt := 5) hC dX2_copyFrom_1 (by decide) ?_
  refine J_aload_n hC (j := 0) dX2_copyFrom_5 rfl rfl ?_
  refine J_aload_n hC (j := 1) dX2_copyFrom_6 rfl rfl ?_
  refine J_get hC (nl_mk (by decide) hr0) (ent_mk (by decide) hr0) rfl in2 0 (by decide) rfl qw_132 rfl (rO (by decide)) dX2_copyFrom_7 ?_
  refine J_put (X' := (va_up X 1 (va_up E (32 + q) (va_up (E (32 + q)) 0 (X 0 (32 + r) 0))))) hC (nl_mk (by decide) hq) (ent_mk (by decide) hq) rfl in2 tyX2_ok nmX2 0 (by decide) rfl qw_132 rfl (by decide) (Nat.le_of_ble_eq_true rfl) (pu_mkF (by decide) hq (by decide)) dX2_copyFrom_10 ?_
  refine J_aload_n hC (j := 0) dX2_copyFrom_13 rfl rfl ?_
  refine J_aload_n hC (j := 1) dX2_copyFrom_14 rfl rfl ?_
  refine J_get hC (nl_mk (by decide) hr0) (ent_mk (by decide) hr0) rfl in2 1 (by decide) rfl qw_134 rfl (rO (by decide)) dX2_copyFrom_15 ?_
  refine J_put (X' := (va_up X 1 (va_up E (32 + q) (va_up (va_up (E (32 + q)) 0 (X 0 (32 + r) 0)) 1 (X 0 (32 + r) 1))))) hC (nl_mk (by decide) hq) (ent_mk (by decide) hq) rfl in2 tyX2_ok nmX2 1 (by decide) rfl qw_134 rfl (by decide) (Nat.le_of_ble_eq_true rfl) (pu_mkW (by decide) hq (by decide)) dX2_copyFrom_18 ?_
  refine J_aload_n hC (j := 0) dX2_copyFrom_21 rfl rfl ?_
  refine J_aload_n hC (j := 1) dX2_copyFrom_22 rfl rfl ?_
  refine J_get hC (nl_mk (by decide) hr0) (ent_mk (by decide) hr0) rfl in2 2 (by decide) rfl qw_136 rfl (rO (by decide)) dX2_copyFrom_23 ?_
  refine J_put (X' := (va_up X 1 (va_up E (32 + q) (va_up (va_up (va_up (E (32 + q)) 0 (X 0 (32 + r) 0)) 1 (X 0 (32 + r) 1)) 2 (X 0 (32 + r) 2))))) hC (nl_mk (by decide) hq) (ent_mk (by decide) hq) rfl in2 tyX2_ok nmX2 2 (by decide) rfl qw_136 rfl (by decide) (Nat.le_of_ble_eq_true rfl) (pu_mkW (by decide) hq (by decide)) dX2_copyFrom_26 ?_
  refine J_aload_n hC (j := 0) dX2_copyFrom_29 rfl rfl ?_
  refine J_aload_n hC (j := 1) dX2_copyFrom_30 rfl rfl ?_
  refine J_get hC (nl_mk (by decide) hr0) (ent_mk (by decide) hr0) rfl in2 3 (by decide) rfl qw_138 rfl (rO (by decide)) dX2_copyFrom_31 ?_
  refine J_put (X' := (va_up X 1 (va_up E (32 + q) (va_up (va_up (va_up (va_up (E (32 + q)) 0 (X 0 (32 + r) 0)) 1 (X 0 (32 + r) 1)) 2 (X 0 (32 + r) 2)) 3 (X 0 (32 + r) 3))))) hC (nl_mk (by decide) hq) (ent_mk (by decide) hq) rfl in2 tyX2_ok nmX2 3 (by decide) rfl qw_138 rfl (by decide) (Nat.le_of_ble_eq_true rfl) (pu_mkW (by decide) hq (by decide)) dX2_copyFrom_34 ?_
  refine J_iconst (v := 0) hC dX2_copyFrom_37 (by decide) ?_
  refine J_istore_n (lv' := [(2, .int 0), (0, .ref (aX G 1 (32 + q))), (1, .ref (aX G 0 (32 + r)))]) hC dX2_copyFrom_38 rfl (by decide) rfl ?_
  have L39 : ∀ n i : Nat, i + n = 7 → Jd p l e ({ frames := 2, cells := 0, slots := 0, locals := 44 }) s m args below meth c (MQ below (CQ G none (va_up X 1 (cpM E (X 0) q r)) o) args s 0 0 (gB G)) G 3 0 0 (va_up X 1 (va_up (cpM1 E (X 0) q r) (36 + q) (cpR ((cpM1 E (X 0) q r) (36 + q)) (X 0 (36 + r)) i))) o 39 [(0, .ref (aX G 1 (32 + q))), (1, .ref (aX G 0 (32 + r))), (2, .int (nI i))] [] := by
    intro n
    induction n with
    | zero =>
      intro i hn 
      obtain rfl : i = 7 := by omega
      refine J_iload_n hC (j := 2) dX2_copyFrom_39 rfl rfl ?_
      refine J_aload_n hC (j := 0) dX2_copyFrom_40 rfl rfl ?_
      refine J_get (v' := .ref (aX G 1 (36 + q))) hC (nl_mk (by decide) hq) (ent_mk (by decide) hq) rfl in2 4 (by decide) rfl qw_140 rfl rfl dX2_copyFrom_41 ?_
      refine J_alen (t := 0) (v := 7) hC (nl_ro (by decide) hq) (ent_ro (by decide) hq) rfl rfl dX2_copyFrom_44 ?_
      refine J_icmp_ge (tgt := 65) hC dX2_copyFrom_45 (by decide) (fun c45 => ?_) (fun c45 => absurd c45 (not_not_intro (le_nI (K := 7) rfl (by omega) (by omega))))
      exact J_vret hC hr (congrArg (va_up X 1) (by simp [cpM])) rfl dX2_copyFrom_65
    | succ n ih =>
      intro i hn 
      refine J_iload_n hC (j := 2) dX2_copyFrom_39 rfl rfl ?_
      refine J_aload_n hC (j := 0) dX2_copyFrom_40 rfl rfl ?_
      refine J_get (v' := .ref (aX G 1 (36 + q))) hC (nl_mk (by decide) hq) (ent_mk (by decide) hq) rfl in2 4 (by decide) rfl qw_140 rfl rfl dX2_copyFrom_41 ?_
      refine J_alen (t := 0) (v := 7) hC (nl_ro (by decide) hq) (ent_ro (by decide) hq) rfl rfl dX2_copyFrom_44 ?_
      refine J_icmp_ge (tgt := 65) hC dX2_copyFrom_45 (by decide) (fun c45 => absurd c45 (nle_nI (K := 7) rfl (by omega) (by omega))) (fun c45 => ?_)
      refine J_aload_n hC (j := 0) dX2_copyFrom_48 rfl rfl ?_
      refine J_get (v' := .ref (aX G 1 (36 + q))) hC (nl_mk (by decide) hq) (ent_mk (by decide) hq) rfl in2 4 (by decide) rfl qw_140 rfl rfl dX2_copyFrom_49 ?_
      refine J_iload_n hC (j := 2) dX2_copyFrom_52 rfl rfl ?_
      refine J_aload_n hC (j := 1) dX2_copyFrom_53 rfl rfl ?_
      refine J_iload_n hC (j := 2) dX2_copyFrom_54 rfl rfl ?_
      refine J_callV hC (ct_rw (fo (by decide)) (fo (by decide)) (ct_X2_workOn l G (va_up X 1 (va_up (cpM1 E (X 0) q r) (36 + q) (cpR ((cpM1 E (X 0) q r) (36 + q)) (X 0 (36 + r)) i))) o 0 (by decide) (X 0) r hr0 (nI i))) mw_X2_workOn qw_275 (nl_mk (by decide) hr0) (ent_mk (by decide) hr0) rfl rfl rfl (Nat.le_of_ble_eq_true rfl) ⟨Nat.le_of_ble_eq_true rfl, Nat.le_of_ble_eq_true rfl⟩ ⟨Nat.le_of_ble_eq_true rfl, Nat.le_of_ble_eq_true rfl⟩ dX2_copyFrom_55 ?_
      refine J_iast (X' := (va_up X 1 (va_up (cpM1 E (X 0) q r) (36 + q) (va_up (cpR ((cpM1 E (X 0) q r) (36 + q)) (X 0 (36 + r)) i) (ix (nI i)) (wOn ((X 0) (36 + r)) (nI i)))))) hC (nl_ro (by decide) hq) (ent_ro (by decide) hq) (vp_nI (by omega)) (pu_roW (by decide) hq) dX2_copyFrom_58 ?_
      refine J_iinc (j := 2) (v := ((nI i) + 1)) (lv' := [(2, .int ((nI i) + 1)), (0, .ref (aX G 1 (32 + q))), (1, .ref (aX G 0 (32 + r)))]) hC dX2_copyFrom_59 rfl rfl (by decide) rfl ?_
      refine J_goto (tgt := 39) hC dX2_copyFrom_62 (by decide) ?_
      refine J_lv [1, 2, 0] (lv' := [(0, .ref (aX G 1 (32 + q))), (1, .ref (aX G 0 (32 + r))), (2, .int ((nI i) + 1))]) rfl ?_
      exact J_cast rfl (by simp [nI_succ]) rfl (ih (i + 1) (by omega) )
  refine J_lv [1, 2, 0] (lv' := [(0, .ref (aX G 1 (32 + q))), (1, .ref (aX G 0 (32 + r))), (2, .int 0)]) rfl ?_
  exact J_cast (by rw [show cpR ((cpM1 E (X 0) q r) (36 + q)) (X 0 (36 + r)) 0 = (cpM1 E (X 0) q r) (36 + q) from rfl, va_up_eq]; rfl) (by first | rfl | simp [nI_0]) rfl (L39 7 0 (by omega) )
set_option maxHeartbeats 4000000 in
set_option maxRecDepth 100000 in
theorem ct_X1_copyFrom (l : Launch) (G : GG) (X : XX) (o : OO) (E : DD) : CT l yX1_copyFrom cX1_copyFrom 4 none 3 66 0 0 G [.ref (aX G 1 40), .ref (aX G 0 40)] (va_up X 1 E) o none (va_up X 1 (cpD E (X 0))) o := by
  refine CT_of (own := RX1) (lv := [(0, .ref (aX G 1 40)), (1, .ref (aX G 0 40))]) (by decide) rfl (Nat.le_of_ble_eq_true rfl) rfl ?_
  intro p e s m args below meth c hr hC
  refine J_aload_n hC (j := 1) dX1_copyFrom_0 rfl rfl ?_
  refine J_ifnonnull (tgt := 5) hC dX1_copyFrom_1 (by decide) ?_
  refine J_aload_n hC (j := 0) dX1_copyFrom_5 rfl rfl ?_
  refine J_aload_n hC (j := 1) dX1_copyFrom_6 rfl rfl ?_
  refine J_get hC (nl_da (by decide)) (ent_da (by decide)) rfl in1 0 (by decide) rfl qw_152 rfl (rO (by decide)) dX1_copyFrom_7 ?_
  refine J_put (X' := (va_up X 1 (va_up E 40 (va_up (E 40) 0 (X 0 40 0))))) hC (nl_da (by decide)) (ent_da (by decide)) rfl in1 tyX1_ok nmX1 0 (by decide) rfl qw_152 rfl (by decide) (Nat.le_of_ble_eq_true rfl) (pu_daF (by decide) (by decide)) dX1_copyFrom_10 ?_
  refine J_aload_n hC (j := 0) dX1_copyFrom_13 rfl rfl ?_
  refine J_aload_n hC (j := 1) dX1_copyFrom_14 rfl rfl ?_
  refine J_get hC (nl_da (by decide)) (ent_da (by decide)) rfl in1 1 (by decide) rfl qw_154 rfl (rO (by decide)) dX1_copyFrom_15 ?_
  refine J_put (X' := (va_up X 1 (va_up E 40 (va_up (va_up (E 40) 0 (X 0 40 0)) 1 (X 0 40 1))))) hC (nl_da (by decide)) (ent_da (by decide)) rfl in1 tyX1_ok nmX1 1 (by decide) rfl qw_154 rfl (by decide) (Nat.le_of_ble_eq_true rfl) (pu_daW (by decide) (by decide)) dX1_copyFrom_18 ?_
  refine J_aload_n hC (j := 0) dX1_copyFrom_21 rfl rfl ?_
  refine J_aload_n hC (j := 1) dX1_copyFrom_22 rfl rfl ?_
  refine J_get hC (nl_da (by decide)) (ent_da (by decide)) rfl in1 2 (by decide) rfl qw_156 rfl (rO (by decide)) dX1_copyFrom_23 ?_
  refine J_put (X' := (va_up X 1 (va_up E 40 (va_up (va_up (va_up (E 40) 0 (X 0 40 0)) 1 (X 0 40 1)) 2 (X 0 40 2))))) hC (nl_da (by decide)) (ent_da (by decide)) rfl in1 tyX1_ok nmX1 2 (by decide) rfl qw_156 rfl (by decide) (Nat.le_of_ble_eq_true rfl) (pu_daW (by decide) (by decide)) dX1_copyFrom_26 ?_
  refine J_aload_n hC (j := 0) dX1_copyFrom_29 rfl rfl ?_
  refine J_aload_n hC (j := 1) dX1_copyFrom_30 rfl rfl ?_
  refine J_get hC (nl_da (by decide)) (ent_da (by decide)) rfl in1 3 (by decide) rfl qw_158 rfl (rO (by decide)) dX1_copyFrom_31 ?_
  refine J_put (X' := (va_up X 1 (va_up E 40 (va_up (va_up (va_up (va_up (E 40) 0 (X 0 40 0)) 1 (X 0 40 1)) 2 (X 0 40 2)) 3 (X 0 40 3))))) hC (nl_da (by decide)) (ent_da (by decide)) rfl in1 tyX1_ok nmX1 3 (by decide) rfl qw_158 rfl (by decide) (Nat.le_of_ble_eq_true rfl) (pu_daW (by decide) (by decide)) dX1_copyFrom_34 ?_
  refine J_aload_n hC (j := 0) dX1_copyFrom_37 rfl rfl ?_
  refine J_aload_n hC (j := 1) dX1_copyFrom_38 rfl rfl ?_
  refine J_get hC (nl_da (by decide)) (ent_da (by decide)) rfl in1 4 (by decide) rfl qw_160 rfl (rO (by decide)) dX1_copyFrom_39 ?_
  refine J_put (X' := (va_up X 1 (va_up E 40 (va_up (va_up (va_up (va_up (va_up (E 40) 0 (X 0 40 0)) 1 (X 0 40 1)) 2 (X 0 40 2)) 3 (X 0 40 3)) 4 (X 0 40 4))))) hC (nl_da (by decide)) (ent_da (by decide)) rfl in1 tyX1_ok nmX1 4 (by decide) rfl qw_160 rfl (by decide) (Nat.le_of_ble_eq_true rfl) (pu_daW (by decide) (by decide)) dX1_copyFrom_42 ?_
  refine J_iconst (v := 0) hC dX1_copyFrom_45 (by decide) ?_
  refine J_istore_n (lv' := [(2, .int 0), (0, .ref (aX G 1 40)), (1, .ref (aX G 0 40))]) hC dX1_copyFrom_46 rfl (by decide) rfl ?_
  have L47 : ∀ n i : Nat, i + n = 4 → Jd p l e ({ frames := 3, cells := 0, slots := 0, locals := 66 }) s m args below meth c (MQ below (CQ G none (va_up X 1 (cpD E (X 0))) o) args s 0 0 (gB G)) G 4 0 0 (va_up X 1 (cpD1 (cpD0 E (X 0)) (X 0) i)) o 47 [(0, .ref (aX G 1 40)), (1, .ref (aX G 0 40)), (2, .int (nI i))] [] := by
    intro n
    induction n with
    | zero =>
      intro i hn 
      obtain rfl : i = 4 := by omega
      refine J_iload_n hC (j := 2) dX1_copyFrom_47 rfl rfl ?_
      refine J_aload_n hC (j := 0) dX1_copyFrom_48 rfl rfl ?_
      refine J_get (v' := .ref (aX G 1 41)) hC (nl_da (by decide)) (ent_da (by decide)) rfl in1 5 (by decide) rfl qw_162 rfl rfl dX1_copyFrom_49 ?_
      refine J_alen (t := 1) (v := 4) hC (nl_ca (by decide)) (ent_ca (by decide)) rfl rfl dX1_copyFrom_52 ?_
      refine J_icmp_ge (tgt := 82) hC dX1_copyFrom_53 (by decide) (fun c53 => ?_) (fun c53 => absurd c53 (not_not_intro (le_nI (K := 4) rfl (by omega) (by omega))))
      refine J_iconst (v := 0) hC dX1_copyFrom_82 (by decide) ?_
      refine J_istore_n (lv' := [(2, .int 0), (0, .ref (aX G 1 40)), (1, .ref (aX G 0 40))]) hC dX1_copyFrom_83 rfl (by decide) rfl ?_
      have L84 : ∀ n i : Nat, i + n = 24 → Jd p l e ({ frames := 3, cells := 0, slots := 0, locals := 66 }) s m args below meth c (MQ below (CQ G none (va_up X 1 (cpD E (X 0))) o) args s 0 0 (gB G)) G 4 0 0 (va_up X 1 (cpD2 (cpD1 (cpD0 E (X 0)) (X 0) 4) (X 0) i)) o 84 [(0, .ref (aX G 1 40)), (1, .ref (aX G 0 40)), (2, .int (nI i))] [] := by
        intro n
        induction n with
        | zero =>
          intro i hn 
          obtain rfl : i = 24 := by omega
          refine J_iload_n hC (j := 2) dX1_copyFrom_84 rfl rfl ?_
          refine J_aload_n hC (j := 0) dX1_copyFrom_85 rfl rfl ?_
          refine J_get (v' := .ref (aX G 1 42)) hC (nl_da (by decide)) (ent_da (by decide)) rfl in1 6 (by decide) rfl qw_163 rfl rfl dX1_copyFrom_86 ?_
          refine J_alen (t := 2) (v := 24) hC (nl_wa (by decide)) (ent_wa (by decide)) rfl rfl dX1_copyFrom_89 ?_
          refine J_icmp_ge (tgt := 119) hC dX1_copyFrom_90 (by decide) (fun c90 => ?_) (fun c90 => absurd c90 (not_not_intro (le_nI (K := 24) rfl (by omega) (by omega))))
          refine J_iconst (v := 0) hC dX1_copyFrom_119 (by decide) ?_
          refine J_istore_n (lv' := [(2, .int 0), (0, .ref (aX G 1 40)), (1, .ref (aX G 0 40))]) hC dX1_copyFrom_120 rfl (by decide) rfl ?_
          have L121 : ∀ n i : Nat, i + n = 4 → Jd p l e ({ frames := 3, cells := 0, slots := 0, locals := 66 }) s m args below meth c (MQ below (CQ G none (va_up X 1 (cpD E (X 0))) o) args s 0 0 (gB G)) G 4 0 0 (va_up X 1 (cpD3 (cpD2 (cpD1 (cpD0 E (X 0)) (X 0) 4) (X 0) 24) (X 0) i)) o 121 [(0, .ref (aX G 1 40)), (1, .ref (aX G 0 40)), (2, .int (nI i))] [] := by
            intro n
            induction n with
            | zero =>
              intro i hn 
              obtain rfl : i = 4 := by omega
              refine J_iload_n hC (j := 2) dX1_copyFrom_121 rfl rfl ?_
              refine J_aload_n hC (j := 0) dX1_copyFrom_122 rfl rfl ?_
              refine J_get (v' := .ref (aX G 1 43)) hC (nl_da (by decide)) (ent_da (by decide)) rfl in1 7 (by decide) rfl qw_164 rfl rfl dX1_copyFrom_123 ?_
              refine J_alen (t := 3) (v := 4) hC (nl_ma (by decide)) (ent_ma (by decide)) rfl rfl dX1_copyFrom_126 ?_
              refine J_icmp_ge (tgt := 156) hC dX1_copyFrom_127 (by decide) (fun c127 => ?_) (fun c127 => absurd c127 (not_not_intro (le_nI (K := 4) rfl (by omega) (by omega))))
              exact J_vret hC hr (congrArg (va_up X 1) (by simp [cpD])) rfl dX1_copyFrom_156
            | succ n ih =>
              intro i hn 
              refine J_iload_n hC (j := 2) dX1_copyFrom_121 rfl rfl ?_
              refine J_aload_n hC (j := 0) dX1_copyFrom_122 rfl rfl ?_
              refine J_get (v' := .ref (aX G 1 43)) hC (nl_da (by decide)) (ent_da (by decide)) rfl in1 7 (by decide) rfl qw_164 rfl rfl dX1_copyFrom_123 ?_
              refine J_alen (t := 3) (v := 4) hC (nl_ma (by decide)) (ent_ma (by decide)) rfl rfl dX1_copyFrom_126 ?_
              refine J_icmp_ge (tgt := 156) hC dX1_copyFrom_127 (by decide) (fun c127 => absurd c127 (nle_nI (K := 4) rfl (by omega) (by omega))) (fun c127 => ?_)
              refine J_aload_n hC (j := 0) dX1_copyFrom_130 rfl rfl ?_
              refine J_get (v' := .ref (aX G 1 43)) hC (nl_da (by decide)) (ent_da (by decide)) rfl in1 7 (by decide) rfl qw_164 rfl rfl dX1_copyFrom_131 ?_
              refine J_iload_n hC (j := 2) dX1_copyFrom_134 rfl rfl ?_
              refine J_aald (t := 3) (a := (aX G 1 (32 + (ix (nI i))))) hC (nl_ma (by decide)) (ent_ma (by decide)) rfl (vp_nI (by omega)) rfl dX1_copyFrom_135 ?_
              refine J_astore_n (lv' := [(3, .ref (aX G 1 (32 + (ix (nI i))))), (0, .ref (aX G 1 40)), (1, .ref (aX G 0 40)), (2, .int (nI i))]) hC dX1_copyFrom_136 rfl (by decide) rfl ?_
              refine J_aload_n hC (j := 0) dX1_copyFrom_137 rfl rfl ?_
              refine J_ifnull hC dX1_copyFrom_138 ?_
              refine J_aload_n hC (j := 0) dX1_copyFrom_141 rfl rfl ?_
              refine J_aload_n hC (j := 2) dX1_copyFrom_142 rfl rfl ?_
              refine J_iload_n hC (j := 3) dX1_copyFrom_143 rfl rfl ?_
              refine J_callV hC (ct_rw (fo (by decide)) (fo (by decide)) (ct_X1_monkOf l G (va_up X 1 (cpD3 (cpD2 (cpD1 (cpD0 E (X 0)) (X 0) 4) (X 0) 24) (X 0) i)) o 0 (by decide) (X 0) (nI i))) mw_X1_monkOf qw_493 (nl_da (by decide)) (ent_da (by decide)) rfl rfl rfl (Nat.le_of_ble_eq_true rfl) ⟨Nat.le_of_ble_eq_true rfl, Nat.le_of_ble_eq_true rfl⟩ ⟨Nat.le_of_ble_eq_true rfl, Nat.le_of_ble_eq_true rfl⟩ dX1_copyFrom_144 ?_
              by_cases h144 : inM (X 0) (nI i) = true
              · refine J_tv (mkV_p h144) ?_
                refine J_callVv hC (ct_X2_copyFrom l G X o (cpD3 (cpD2 (cpD1 (cpD0 E (X 0)) (X 0) 4) (X 0) 24) (X 0) i) (ix (nI i)) (vp_lt (vp_nI (by omega))) (ix (nI i)) (inM_lt h144)) mw_X2_copyFrom qw_629 (nl_mk (by decide) (vp_lt (vp_nI (by omega)))) (ent_mk (by decide) (vp_lt (vp_nI (by omega)))) rfl rfl rfl (Nat.le_of_ble_eq_true rfl) ⟨Nat.le_of_ble_eq_true rfl, Nat.le_of_ble_eq_true rfl⟩ ⟨Nat.le_of_ble_eq_true rfl, Nat.le_of_ble_eq_true rfl⟩ dX1_copyFrom_147 ?_
                refine J_iinc (j := 3) (v := ((nI i) + 1)) (lv' := [(2, .int ((nI i) + 1)), (3, .ref (aX G 1 (32 + (ix (nI i))))), (0, .ref (aX G 1 40)), (1, .ref (aX G 0 40))]) hC dX1_copyFrom_150 rfl rfl (by decide) rfl ?_
                refine J_goto (tgt := 121) hC dX1_copyFrom_153 (by decide) ?_
                refine J_lv [2, 3, 0] (lv' := [(0, .ref (aX G 1 40)), (1, .ref (aX G 0 40)), (2, .int ((nI i) + 1))]) rfl ?_
                exact J_cast (congrArg (va_up X 1) (by simp [cpD3, rep, h144])) (by simp [nI_succ, h144]) rfl (ih (i + 1) (by omega) )
              · refine J_tv (mkV_n h144) ?_
                refine J_callVv hC (ctn_X2_copyFrom l G X o (cpD3 (cpD2 (cpD1 (cpD0 E (X 0)) (X 0) 4) (X 0) 24) (X 0) i) (ix (nI i)) (vp_lt (vp_nI (by omega)))) mw_X2_copyFrom qw_629 (nl_mk (by decide) (vp_lt (vp_nI (by omega)))) (ent_mk (by decide) (vp_lt (vp_nI (by omega)))) rfl rfl rfl (Nat.le_of_ble_eq_true rfl) ⟨Nat.le_of_ble_eq_true rfl, Nat.le_of_ble_eq_true rfl⟩ ⟨Nat.le_of_ble_eq_true rfl, Nat.le_of_ble_eq_true rfl⟩ dX1_copyFrom_147 ?_
                refine J_iinc (j := 3) (v := ((nI i) + 1)) (lv' := [(2, .int ((nI i) + 1)), (3, .ref (aX G 1 (32 + (ix (nI i))))), (0, .ref (aX G 1 40)), (1, .ref (aX G 0 40))]) hC dX1_copyFrom_150 rfl rfl (by decide) rfl ?_
                refine J_goto (tgt := 121) hC dX1_copyFrom_153 (by decide) ?_
                refine J_lv [2, 3, 0] (lv' := [(0, .ref (aX G 1 40)), (1, .ref (aX G 0 40)), (2, .int ((nI i) + 1))]) rfl ?_
                exact J_cast (congrArg (va_up X 1) (by simp [cpD3, rep, h144])) (by simp [nI_succ, h144]) rfl (ih (i + 1) (by omega) )
          refine J_lv [1, 2, 0] (lv' := [(0, .ref (aX G 1 40)), (1, .ref (aX G 0 40)), (2, .int 0)]) rfl ?_
          exact J_cast rfl (by first | rfl | simp [nI_0]) rfl (L121 4 0 (by omega) )
        | succ n ih =>
          intro i hn 
          refine J_iload_n hC (j := 2) dX1_copyFrom_84 rfl rfl ?_
          refine J_aload_n hC (j := 0) dX1_copyFrom_85 rfl rfl ?_
          refine J_get (v' := .ref (aX G 1 42)) hC (nl_da (by decide)) (ent_da (by decide)) rfl in1 6 (by decide) rfl qw_163 rfl rfl dX1_copyFrom_86 ?_
          refine J_alen (t := 2) (v := 24) hC (nl_wa (by decide)) (ent_wa (by decide)) rfl rfl dX1_copyFrom_89 ?_
          refine J_icmp_ge (tgt := 119) hC dX1_copyFrom_90 (by decide) (fun c90 => absurd c90 (nle_nI (K := 24) rfl (by omega) (by omega))) (fun c90 => ?_)
          refine J_aload_n hC (j := 0) dX1_copyFrom_93 rfl rfl ?_
          refine J_get (v' := .ref (aX G 1 42)) hC (nl_da (by decide)) (ent_da (by decide)) rfl in1 6 (by decide) rfl qw_163 rfl rfl dX1_copyFrom_94 ?_
          refine J_iload_n hC (j := 2) dX1_copyFrom_97 rfl rfl ?_
          refine J_aald (t := 2) (a := (aX G 1 (ix (nI i)))) hC (nl_wa (by decide)) (ent_wa (by decide)) rfl (vp_nI (by omega)) rfl dX1_copyFrom_98 ?_
          refine J_astore_n (lv' := [(3, .ref (aX G 1 (ix (nI i)))), (0, .ref (aX G 1 40)), (1, .ref (aX G 0 40)), (2, .int (nI i))]) hC dX1_copyFrom_99 rfl (by decide) rfl ?_
          refine J_aload_n hC (j := 0) dX1_copyFrom_100 rfl rfl ?_
          refine J_ifnull hC dX1_copyFrom_101 ?_
          refine J_aload_n hC (j := 0) dX1_copyFrom_104 rfl rfl ?_
          refine J_aload_n hC (j := 2) dX1_copyFrom_105 rfl rfl ?_
          refine J_iload_n hC (j := 3) dX1_copyFrom_106 rfl rfl ?_
          refine J_callV hC (ct_rw (fo (by decide)) (fo (by decide)) (ct_X1_wheelOf l G (va_up X 1 (cpD2 (cpD1 (cpD0 E (X 0)) (X 0) 4) (X 0) i)) o 0 (by decide) (X 0) (nI i))) mw_X1_wheelOf qw_197 (nl_da (by decide)) (ent_da (by decide)) rfl rfl rfl (Nat.le_of_ble_eq_true rfl) ⟨Nat.le_of_ble_eq_true rfl, Nat.le_of_ble_eq_true rfl⟩ ⟨Nat.le_of_ble_eq_true rfl, Nat.le_of_ble_eq_true rfl⟩ dX1_copyFrom_107 ?_
          by_cases h107 : inW (X 0) (nI i) = true
          · refine J_tv (whV_p h107) ?_
            refine J_callVv hC (ct_X3_copyFrom l G X o (cpD2 (cpD1 (cpD0 E (X 0)) (X 0) 4) (X 0) i) (ix (nI i)) (vp_lt (vp_nI (by omega))) (ix (nI i)) (inW_lt h107)) mw_X3_copyFrom qw_625 (nl_wh (by decide) (vp_lt (vp_nI (by omega)))) (ent_wh (by decide) (vp_lt (vp_nI (by omega)))) rfl rfl rfl (Nat.le_of_ble_eq_true rfl) ⟨Nat.le_of_ble_eq_true rfl, Nat.le_of_ble_eq_true rfl⟩ ⟨Nat.le_of_ble_eq_true rfl, Nat.le_of_ble_eq_true rfl⟩ dX1_copyFrom_110 ?_
            refine J_iinc (j := 3) (v := ((nI i) + 1)) (lv' := [(2, .int ((nI i) + 1)), (3, .ref (aX G 1 (ix (nI i)))), (0, .ref (aX G 1 40)), (1, .ref (aX G 0 40))]) hC dX1_copyFrom_113 rfl rfl (by decide) rfl ?_
            refine J_goto (tgt := 84) hC dX1_copyFrom_116 (by decide) ?_
            refine J_lv [2, 3, 0] (lv' := [(0, .ref (aX G 1 40)), (1, .ref (aX G 0 40)), (2, .int ((nI i) + 1))]) rfl ?_
            exact J_cast (congrArg (va_up X 1) (by simp [cpD2, rep, h107])) (by simp [nI_succ, h107]) rfl (ih (i + 1) (by omega) )
          · refine J_tv (whV_n h107) ?_
            refine J_callVv hC (ctn_X3_copyFrom l G X o (cpD2 (cpD1 (cpD0 E (X 0)) (X 0) 4) (X 0) i) (ix (nI i)) (vp_lt (vp_nI (by omega)))) mw_X3_copyFrom qw_625 (nl_wh (by decide) (vp_lt (vp_nI (by omega)))) (ent_wh (by decide) (vp_lt (vp_nI (by omega)))) rfl rfl rfl (Nat.le_of_ble_eq_true rfl) ⟨Nat.le_of_ble_eq_true rfl, Nat.le_of_ble_eq_true rfl⟩ ⟨Nat.le_of_ble_eq_true rfl, Nat.le_of_ble_eq_true rfl⟩ dX1_copyFrom_110 ?_
            refine J_iinc (j := 3) (v := ((nI i) + 1)) (lv' := [(2, .int ((nI i) + 1)), (3, .ref (aX G 1 (ix (nI i)))), (0, .ref (aX G 1 40)), (1, .ref (aX G 0 40))]) hC dX1_copyFrom_113 rfl rfl (by decide) rfl ?_
            refine J_goto (tgt := 84) hC dX1_copyFrom_116 (by decide) ?_
            refine J_lv [2, 3, 0] (lv' := [(0, .ref (aX G 1 40)), (1, .ref (aX G 0 40)), (2, .int ((nI i) + 1))]) rfl ?_
            exact J_cast (congrArg (va_up X 1) (by simp [cpD2, rep, h107])) (by simp [nI_succ, h107]) rfl (ih (i + 1) (by omega) )
      refine J_lv [1, 2, 0] (lv' := [(0, .ref (aX G 1 40)), (1, .ref (aX G 0 40)), (2, .int 0)]) rfl ?_
      exact J_cast rfl (by first | rfl | simp [nI_0]) rfl (L84 24 0 (by omega) )
    | succ n ih =>
      intro i hn 
      refine J_iload_n hC (j := 2) dX1_copyFrom_47 rfl rfl ?_
      refine J_aload_n hC (j := 0) dX1_copyFrom_48 rfl rfl ?_
      refine J_get (v' := .ref (aX G 1 41)) hC (nl_da (by decide)) (ent_da (by decide)) rfl in1 5 (by decide) rfl qw_162 rfl rfl dX1_copyFrom_49 ?_
      refine J_alen (t := 1) (v := 4) hC (nl_ca (by decide)) (ent_ca (by decide)) rfl rfl dX1_copyFrom_52 ?_
      refine J_icmp_ge (tgt := 82) hC dX1_copyFrom_53 (by decide) (fun c53 => absurd c53 (nle_nI (K := 4) rfl (by omega) (by omega))) (fun c53 => ?_)
      refine J_aload_n hC (j := 0) dX1_copyFrom_56 rfl rfl ?_
      refine J_get (v' := .ref (aX G 1 41)) hC (nl_da (by decide)) (ent_da (by decide)) rfl in1 5 (by decide) rfl qw_162 rfl rfl dX1_copyFrom_57 ?_
      refine J_iload_n hC (j := 2) dX1_copyFrom_60 rfl rfl ?_
      refine J_aald (t := 1) (a := (aX G 1 (24 + (ix (nI i))))) hC (nl_ca (by decide)) (ent_ca (by decide)) rfl (vp_nI (by omega)) rfl dX1_copyFrom_61 ?_
      refine J_astore_n (lv' := [(3, .ref (aX G 1 (24 + (ix (nI i))))), (0, .ref (aX G 1 40)), (1, .ref (aX G 0 40)), (2, .int (nI i))]) hC dX1_copyFrom_62 rfl (by decide) rfl ?_
      refine J_aload_n hC (j := 0) dX1_copyFrom_63 rfl rfl ?_
      refine J_ifnull hC dX1_copyFrom_64 ?_
      refine J_aload_n hC (j := 0) dX1_copyFrom_67 rfl rfl ?_
      refine J_aload_n hC (j := 2) dX1_copyFrom_68 rfl rfl ?_
      refine J_iload_n hC (j := 3) dX1_copyFrom_69 rfl rfl ?_
      refine J_callV hC (ct_rw (fo (by decide)) (fo (by decide)) (ct_X1_cellarOf l G (va_up X 1 (cpD1 (cpD0 E (X 0)) (X 0) i)) o 0 (by decide) (X 0) (nI i))) mw_X1_cellarOf qw_246 (nl_da (by decide)) (ent_da (by decide)) rfl rfl rfl (Nat.le_of_ble_eq_true rfl) ⟨Nat.le_of_ble_eq_true rfl, Nat.le_of_ble_eq_true rfl⟩ ⟨Nat.le_of_ble_eq_true rfl, Nat.le_of_ble_eq_true rfl⟩ dX1_copyFrom_70 ?_
      by_cases h70 : inC (X 0) (nI i) = true
      · refine J_tv (ceV_p h70) ?_
        refine J_callVv hC (ct_X0_copyFrom l G X o (cpD1 (cpD0 E (X 0)) (X 0) i) (ix (nI i)) (vp_lt (vp_nI (by omega))) (ix (nI i)) (inC_lt h70)) mw_X0_copyFrom qw_620 (nl_ce (by decide) (vp_lt (vp_nI (by omega)))) (ent_ce (by decide) (vp_lt (vp_nI (by omega)))) rfl rfl rfl (Nat.le_of_ble_eq_true rfl) ⟨Nat.le_of_ble_eq_true rfl, Nat.le_of_ble_eq_true rfl⟩ ⟨Nat.le_of_ble_eq_true rfl, Nat.le_of_ble_eq_true rfl⟩ dX1_copyFrom_73 ?_
        refine J_iinc (j := 3) (v := ((nI i) + 1)) (lv' := [(2, .int ((nI i) + 1)), (3, .ref (aX G 1 (24 + (ix (nI i))))), (0, .ref (aX G 1 40)), (1, .ref (aX G 0 40))]) hC dX1_copyFrom_76 rfl rfl (by decide) rfl ?_
        refine J_goto (tgt := 47) hC dX1_copyFrom_79 (by decide) ?_
        refine J_lv [2, 3, 0] (lv' := [(0, .ref (aX G 1 40)), (1, .ref (aX G 0 40)), (2, .int ((nI i) + 1))]) rfl ?_
        exact J_cast (congrArg (va_up X 1) (by simp [cpD1, rep, h70])) (by simp [nI_succ, h70]) rfl (ih (i + 1) (by omega) )
      · refine J_tv (ceV_n h70) ?_
        refine J_callVv hC (ctn_X0_copyFrom l G X o (cpD1 (cpD0 E (X 0)) (X 0) i) (ix (nI i)) (vp_lt (vp_nI (by omega)))) mw_X0_copyFrom qw_620 (nl_ce (by decide) (vp_lt (vp_nI (by omega)))) (ent_ce (by decide) (vp_lt (vp_nI (by omega)))) rfl rfl rfl (Nat.le_of_ble_eq_true rfl) ⟨Nat.le_of_ble_eq_true rfl, Nat.le_of_ble_eq_true rfl⟩ ⟨Nat.le_of_ble_eq_true rfl, Nat.le_of_ble_eq_true rfl⟩ dX1_copyFrom_73 ?_
        refine J_iinc (j := 3) (v := ((nI i) + 1)) (lv' := [(2, .int ((nI i) + 1)), (3, .ref (aX G 1 (24 + (ix (nI i))))), (0, .ref (aX G 1 40)), (1, .ref (aX G 0 40))]) hC dX1_copyFrom_76 rfl rfl (by decide) rfl ?_
        refine J_goto (tgt := 47) hC dX1_copyFrom_79 (by decide) ?_
        refine J_lv [2, 3, 0] (lv' := [(0, .ref (aX G 1 40)), (1, .ref (aX G 0 40)), (2, .int ((nI i) + 1))]) rfl ?_
        exact J_cast (congrArg (va_up X 1) (by simp [cpD1, rep, h70])) (by simp [nI_succ, h70]) rfl (ih (i + 1) (by omega) )
  refine J_lv [1, 2, 0] (lv' := [(0, .ref (aX G 1 40)), (1, .ref (aX G 0 40)), (2, .int 0)]) rfl ?_
  exact J_cast rfl (by first | rfl | simp [nI_0]) rfl (L47 4 0 (by omega) )
