def vMeanC (D : DD) : UInt64 := if cntSt D 0 24 = 0 then FP.dconst0 else FP.ddiv (FP.i2d (worthAll D 24)) (FP.i2d (cntSt D 0 24))
def vMeanM (g S : DD) : UInt64 := if manyS g S 0 (ix (g 0 4)) = 0 then FP.dconst0 else FP.ddiv (FP.i2d (worthAS S (ix (g 0 4)))) (FP.i2d (manyS g S 0 (ix (g 0 4))))
set_option maxHeartbeats 4000000 in
set_option maxRecDepth 100000 in
theorem ct_X4_mean (l : Launch) (G : GG) (D E g S A : DD) (o : OO) : CT l yX4_mean cX4_mean 2 (some .double) 4 88 0 0 G [.ref (gA G 88)] (mk5 D E g S A) o (some (.double (vMeanC D))) (mk5 D E g S A) o := by
  refine CT_of (own := RX4) (lv := [(0, .ref (gA G 88))]) (by decide) rfl (Nat.le_of_ble_eq_true rfl) rfl ?_
  intro p e s m args below meth c hr hC
  refine J_aload_n hC (j := 0) dX4_mean_0 rfl rfl ?_
  refine J_get (v' := .ref (aX G 0 40)) hC (by decide) ent_rt rfl in4 0 (by decide) rfl qw_182 rfl rfl dX4_mean_1 ?_
  refine J_iconst (v := 0) hC dX4_mean_4 (by decide) ?_
  refine J_callV hC (ct_rw m5u0 m5u0 (ct_X1_wheelsBeing l G (mk5 D E g S A) o 0 (by decide) D 0)) mw_X1_wheelsBeing qw_193 (nl_da (by decide)) (ent_da (by decide)) rfl rfl rfl (Nat.le_of_ble_eq_true rfl) ⟨Nat.le_of_ble_eq_true rfl, Nat.le_of_ble_eq_true rfl⟩ ⟨Nat.le_of_ble_eq_true rfl, Nat.le_of_ble_eq_true rfl⟩ dX4_mean_5 ?_
  refine J_istore_n (lv' := [(1, .int (cntSt D 0 24)), (0, .ref (gA G 88))]) hC dX4_mean_8 rfl (by decide) rfl ?_
  refine J_iload_n hC (j := 0) dX4_mean_9 rfl rfl ?_
  refine J_if_ne (tgt := 15) hC dX4_mean_10 (by decide) (fun c10 => ?_) (fun c10 => ?_)
  · refine J_aload_n hC (j := 1) dX4_mean_15 rfl rfl ?_
    refine J_get (v' := .ref (aX G 0 40)) hC (by decide) ent_rt rfl in4 0 (by decide) rfl qw_182 rfl rfl dX4_mean_16 ?_
    refine J_callV hC (ct_rw m5u0 m5u0 (ct_X1_worthOfAllLying l G (mk5 D E g S A) o 0 (by decide) D)) mw_X1_worthOfAllLying qw_201 (nl_da (by decide)) (ent_da (by decide)) rfl rfl rfl (Nat.le_of_ble_eq_true rfl) ⟨Nat.le_of_ble_eq_true rfl, Nat.le_of_ble_eq_true rfl⟩ ⟨Nat.le_of_ble_eq_true rfl, Nat.le_of_ble_eq_true rfl⟩ dX4_mean_19 ?_
    refine J_i2d hC dX4_mean_22 ?_
    refine J_iload_n hC (j := 0) dX4_mean_23 rfl rfl ?_
    refine J_i2d hC dX4_mean_24 ?_
    refine J_ddiv hC dX4_mean_25 (mean_nn c10) ?_
    exact J_dret hC hr (by simp [vMeanC, c10]) rfl rfl dX4_mean_26
  · refine J_dconst0 hC dX4_mean_13 ?_
    exact J_dret hC hr (by simp [vMeanC, c10]) rfl rfl dX4_mean_14
set_option maxHeartbeats 4000000 in
set_option maxRecDepth 100000 in
theorem ct_X6_mean (l : Launch) (G : GG) (D E g S A : DD) (o : OO) (hg : GG2 (setT g 0)) : CT l yX6_mean cX6_mean 1 (some .double) 3 66 0 0 G [.ref (aX G 2 0)] (mk5 D E g S A) o (some (.double (vMeanM (setT g 0) S))) (mk5 D E (setT g 0) S A) o := by
  refine CT_of (own := RX6) (lv := [(0, .ref (aX G 2 0))]) (by decide) rfl (Nat.le_of_ble_eq_true rfl) rfl ?_
  intro p e s m args below meth c hr hC
  refine J_aload_n hC (j := 0) dX6_mean_0 rfl rfl ?_
  refine J_iconst (v := 0) hC dX6_mean_1 (by decide) ?_
  refine J_X (X' := (va_up (mk5 D E g S A) 2 g)) m5u2.symm ?_
  refine J_put (X' := (va_up (mk5 D E g S A) 2 (va_up g 0 (va_up (g 0) 0 0)))) hC nl_m0 ent_m0 rfl in6 tyX6_ok nmX6 0 (by decide) rfl qw_730 rfl (by decide) (Nat.le_of_ble_eq_true rfl) (pu_m0F  (by decide)) dX6_mean_2 ?_
  refine J_X (X' := (mk5 D E (va_up g 0 (va_up (g 0) 0 0)) S A)) m5u2 ?_
  refine J_X (X' := (mk5 D E (setT g 0) S A)) rfl ?_
  refine J_aload_n hC (j := 0) dX6_mean_5 rfl rfl ?_
  refine J_get (v' := .ref (aX G 3 0)) hC nl_m0 ent_m0 rfl in6 10 (by decide) rfl qw_747 rfl rfl dX6_mean_6 ?_
  refine J_iconst (v := 0) hC dX6_mean_9 (by decide) ?_
  refine J_callV hC (ct_rw (X4 := (mk5 D E (setT g 0) S A)) m5u3 m5u3 (ct_X5_many l G (mk5 D E (setT g 0) S A) o 3 (Or.inl rfl) S 0 hg)) mw_X5_many qw_890 (nl_s0 (Or.inl rfl)) (ent_s0 (Or.inl rfl)) rfl rfl rfl (Nat.le_of_ble_eq_true rfl) ⟨Nat.le_of_ble_eq_true rfl, Nat.le_of_ble_eq_true rfl⟩ ⟨Nat.le_of_ble_eq_true rfl, Nat.le_of_ble_eq_true rfl⟩ dX6_mean_10 ?_
  refine J_if_ne (tgt := 20) hC dX6_mean_13 (by decide) (fun c13 => ?_) (fun c13 => ?_)
  · refine J_aload_n hC (j := 0) dX6_mean_20 rfl rfl ?_
    refine J_get (v' := .ref (aX G 3 0)) hC nl_m0 ent_m0 rfl in6 10 (by decide) rfl qw_747 rfl rfl dX6_mean_21 ?_
    refine J_callV hC (ct_rw (X4 := (mk5 D E (setT g 0) S A)) m5u3 m5u3 (ct_X5_worthInAll l G (mk5 D E (setT g 0) S A) o 3 (Or.inl rfl) S hg)) mw_X5_worthInAll qw_962 (nl_s0 (Or.inl rfl)) (ent_s0 (Or.inl rfl)) rfl rfl rfl (Nat.le_of_ble_eq_true rfl) ⟨Nat.le_of_ble_eq_true rfl, Nat.le_of_ble_eq_true rfl⟩ ⟨Nat.le_of_ble_eq_true rfl, Nat.le_of_ble_eq_true rfl⟩ dX6_mean_24 ?_
    refine J_i2d hC dX6_mean_27 ?_
    refine J_aload_n hC (j := 0) dX6_mean_28 rfl rfl ?_
    refine J_get (v' := .ref (aX G 3 0)) hC nl_m0 ent_m0 rfl in6 10 (by decide) rfl qw_747 rfl rfl dX6_mean_29 ?_
    refine J_iconst (v := 0) hC dX6_mean_32 (by decide) ?_
    refine J_callV hC (ct_rw (X4 := (mk5 D E (setT g 0) S A)) m5u3 m5u3 (ct_X5_many l G (mk5 D E (setT g 0) S A) o 3 (Or.inl rfl) S 0 hg)) mw_X5_many qw_890 (nl_s0 (Or.inl rfl)) (ent_s0 (Or.inl rfl)) rfl rfl rfl (Nat.le_of_ble_eq_true rfl) ⟨Nat.le_of_ble_eq_true rfl, Nat.le_of_ble_eq_true rfl⟩ ⟨Nat.le_of_ble_eq_true rfl, Nat.le_of_ble_eq_true rfl⟩ dX6_mean_33 ?_
    refine J_i2d hC dX6_mean_36 ?_
    refine J_ddiv hC dX6_mean_37 (mean_nn c13) ?_
    exact J_dret hC hr (by unfold vMeanM; exact (if_neg c13).symm) rfl rfl dX6_mean_38
  · refine J_dconst0 hC dX6_mean_16 ?_
    refine J_goto (tgt := 38) hC dX6_mean_17 (by decide) ?_
    exact J_dret hC hr (by unfold vMeanM; exact (if_pos c13).symm) rfl rfl dX6_mean_38
