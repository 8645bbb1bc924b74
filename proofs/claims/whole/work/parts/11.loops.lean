set_option maxHeartbeats 4000000 in
set_option maxRecDepth 100000 in
theorem ct_X1_wheelsBeing (l : Launch) (G : GG) (X : XX) (o : OO) (d : Nat) (hd : d < 2) (D : DD) (p0 : Int32) : CT l yX1_wheelsBeing cX1_wheelsBeing 5 (some .int) 1 22 0 0 G [.ref (aX G d 40), .int p0] (va_up X d D) o (some (.int (cntSt D p0 24))) (va_up X d D) o := by
  refine CT_of (own := RX1) (lv := [(0, .ref (aX G d 40)), (1, .int p0)]) (by decide) rfl (Nat.le_of_ble_eq_true rfl) rfl ?_
  intro p e s m args below meth c hr hC
  refine J_iconst (v := 0) hC dX1_wheelsBeing_0 (by decide) ?_
  refine J_istore_n (lv' := [(2, .int 0), (0, .ref (aX G d 40)), (1, .int p0)]) hC dX1_wheelsBeing_1 rfl (by decide) rfl ?_
  refine J_iconst (v := 0) hC dX1_wheelsBeing_2 (by decide) ?_
  refine J_istore_n (lv' := [(3, .int 0), (2, .int 0), (0, .ref (aX G d 40)), (1, .int p0)]) hC dX1_wheelsBeing_3 rfl (by decide) rfl ?_
  have L4 : ∀ n i : Nat, i + n = 24 → Jd p l e ({ frames := 1, cells := 0, slots := 0, locals := 22 }) s m args below meth c (MQ below (CQ G (some (.int (cntSt D p0 24))) (va_up X d D) o) args s 0 0 (gB G)) G 5 0 0 (va_up X d D) o 4 [(0, .ref (aX G d 40)), (1, .int p0), (2, .int (cntSt D p0 i)), (3, .int (nI i))] [] := by
    intro n
    induction n with
    | zero =>
      intro i hn 
      obtain rfl : i = 24 := by omega
      refine J_iload_n hC (j := 3) dX1_wheelsBeing_4 rfl rfl ?_
      refine J_bipush (v := 24) hC dX1_wheelsBeing_5 (by decide) ?_
      refine J_icmp_ge (tgt := 40) hC dX1_wheelsBeing_7 (by decide) (fun c7 => ?_) (fun c7 => absurd c7 (not_not_intro (le_nI (K := 24) rfl (by omega) (by omega))))
      refine J_iload_n hC (j := 2) dX1_wheelsBeing_40 rfl rfl ?_
      exact J_iret hC hr rfl rfl rfl dX1_wheelsBeing_41
    | succ n ih =>
      intro i hn 
      refine J_iload_n hC (j := 3) dX1_wheelsBeing_4 rfl rfl ?_
      refine J_bipush (v := 24) hC dX1_wheelsBeing_5 (by decide) ?_
      refine J_icmp_ge (tgt := 40) hC dX1_wheelsBeing_7 (by decide) (fun c7 => absurd c7 (nle_nI (K := 24) rfl (by omega) (by omega))) (fun c7 => ?_)
      refine J_aload_n hC (j := 0) dX1_wheelsBeing_10 rfl rfl ?_
      refine J_iload_n hC (j := 3) dX1_wheelsBeing_11 rfl rfl ?_
      refine J_callV hC (ct_X1_wheelOf l G X o d hd D (nI i)) mw_X1_wheelOf qw_197 (nl_da hd) (ent_da hd) rfl rfl rfl (Nat.le_of_ble_eq_true rfl) ⟨Nat.le_of_ble_eq_true rfl, Nat.le_of_ble_eq_true rfl⟩ ⟨Nat.le_of_ble_eq_true rfl, Nat.le_of_ble_eq_true rfl⟩ dX1_wheelsBeing_12 ?_
      by_cases h12 : inW D (nI i) = true
      · refine J_tv (whV_p h12) ?_
        refine J_astore (lv' := [(4, .ref (aX G d (ix (nI i)))), (0, .ref (aX G d 40)), (1, .int p0), (2, .int (cntSt D p0 i)), (3, .int (nI i))]) hC dX1_wheelsBeing_15 (by decide) rfl ?_
        refine J_aload hC (j := 0) dX1_wheelsBeing_17 rfl ?_
        refine J_ifnull hC dX1_wheelsBeing_19 ?_
        refine J_aload hC (j := 0) dX1_wheelsBeing_22 rfl ?_
        refine J_get hC (nl_wh hd (inW_lt h12)) (ent_wh hd (inW_lt h12)) rfl in3 0 (by decide) rfl qw_89 rfl rF dX1_wheelsBeing_24 ?_
        refine J_iload_n hC (j := 2) dX1_wheelsBeing_27 rfl rfl ?_
        refine J_icmp_ne (tgt := 34) hC dX1_wheelsBeing_28 (by decide) (fun c28 => ?_) (fun c28 => ?_)
        · refine J_iinc (j := 4) (v := ((nI i) + 1)) (lv' := [(3, .int ((nI i) + 1)), (4, .ref (aX G d (ix (nI i)))), (0, .ref (aX G d 40)), (1, .int p0), (2, .int (cntSt D p0 i))]) hC dX1_wheelsBeing_34 rfl rfl (by decide) rfl ?_
          refine J_goto (tgt := 4) hC dX1_wheelsBeing_37 (by decide) ?_
          refine J_lv [2, 3, 4, 0] (lv' := [(0, .ref (aX G d 40)), (1, .int p0), (2, .int (cntSt D p0 i)), (3, .int ((nI i) + 1))]) rfl ?_
          exact J_cast rfl (by simp [nI_succ, cntSt, rep, h12, c28]) rfl (ih (i + 1) (by omega) )
        · refine J_iinc (j := 3) (v := ((cntSt D p0 i) + 1)) (lv' := [(2, .int ((cntSt D p0 i) + 1)), (4, .ref (aX G d (ix (nI i)))), (0, .ref (aX G d 40)), (1, .int p0), (3, .int (nI i))]) hC dX1_wheelsBeing_31 rfl rfl (by decide) rfl ?_
          refine J_iinc (j := 4) (v := ((nI i) + 1)) (lv' := [(3, .int ((nI i) + 1)), (2, .int ((cntSt D p0 i) + 1)), (4, .ref (aX G d (ix (nI i)))), (0, .ref (aX G d 40)), (1, .int p0)]) hC dX1_wheelsBeing_34 rfl rfl (by decide) rfl ?_
          refine J_goto (tgt := 4) hC dX1_wheelsBeing_37 (by decide) ?_
          refine J_lv [3, 4, 1, 0] (lv' := [(0, .ref (aX G d 40)), (1, .int p0), (2, .int ((cntSt D p0 i) + 1)), (3, .int ((nI i) + 1))]) rfl ?_
          exact J_cast rfl (by simp [nI_succ, cntSt, rep, h12, c28]) rfl (ih (i + 1) (by omega) )
      · refine J_tv (whV_n h12) ?_
        refine J_astoreN (lv' := [(4, .null), (0, .ref (aX G d 40)), (1, .int p0), (2, .int (cntSt D p0 i)), (3, .int (nI i))]) hC dX1_wheelsBeing_15 (by decide) rfl ?_
        refine J_aloadN hC (j := 0) dX1_wheelsBeing_17 rfl ?_
        refine J_ifnullN (tgt := 34) hC dX1_wheelsBeing_19 (by decide) ?_
        refine J_iinc (j := 4) (v := ((nI i) + 1)) (lv' := [(3, .int ((nI i) + 1)), (4, .null), (0, .ref (aX G d 40)), (1, .int p0), (2, .int (cntSt D p0 i))]) hC dX1_wheelsBeing_34 rfl rfl (by decide) rfl ?_
        refine J_goto (tgt := 4) hC dX1_wheelsBeing_37 (by decide) ?_
        refine J_lv [2, 3, 4, 0] (lv' := [(0, .ref (aX G d 40)), (1, .int p0), (2, .int (cntSt D p0 i)), (3, .int ((nI i) + 1))]) rfl ?_
        exact J_cast rfl (by simp [nI_succ, cntSt, rep, h12]) rfl (ih (i + 1) (by omega) )
  refine J_lv [2, 3, 1, 0] (lv' := [(0, .ref (aX G d 40)), (1, .int p0), (2, .int 0), (3, .int 0)]) rfl ?_
  exact J_cast rfl (by first | rfl | simp [cntSt, rep, nI_0]) rfl (L4 24 0 (by omega) )
set_option maxHeartbeats 4000000 in
set_option maxRecDepth 100000 in
theorem ct_X1_wheelsIn (l : Launch) (G : GG) (X : XX) (o : OO) (d : Nat) (hd : d < 2) (D : DD) (p0 : Int32) : CT l yX1_wheelsIn cX1_wheelsIn 5 (some .int) 2 44 0 0 G [.ref (aX G d 40), .int p0] (va_up X d D) o (some (.int (wheelsIn D p0 24))) (va_up X d D) o := by
  refine CT_of (own := RX1) (lv := [(0, .ref (aX G d 40)), (1, .int p0)]) (by decide) rfl (Nat.le_of_ble_eq_true rfl) rfl ?_
  intro p e s m args below meth c hr hC
  refine J_iconst (v := 0) hC dX1_wheelsIn_0 (by decide) ?_
  refine J_istore_n (lv' := [(2, .int 0), (0, .ref (aX G d 40)), (1, .int p0)]) hC dX1_wheelsIn_1 rfl (by decide) rfl ?_
  refine J_iconst (v := 0) hC dX1_wheelsIn_2 (by decide) ?_
  refine J_istore_n (lv' := [(3, .int 0), (2, .int 0), (0, .ref (aX G d 40)), (1, .int p0)]) hC dX1_wheelsIn_3 rfl (by decide) rfl ?_
  have L4 : ∀ n i : Nat, i + n = 24 → Jd p l e ({ frames := 2, cells := 0, slots := 0, locals := 44 }) s m args below meth c (MQ below (CQ G (some (.int (wheelsIn D p0 24))) (va_up X d D) o) args s 0 0 (gB G)) G 5 0 0 (va_up X d D) o 4 [(0, .ref (aX G d 40)), (1, .int p0), (2, .int (wheelsIn D p0 i)), (3, .int (nI i))] [] := by
    intro n
    induction n with
    | zero =>
      intro i hn 
      obtain rfl : i = 24 := by omega
      refine J_iload_n hC (j := 3) dX1_wheelsIn_4 rfl rfl ?_
      refine J_bipush (v := 24) hC dX1_wheelsIn_5 (by decide) ?_
      refine J_icmp_ge (tgt := 40) hC dX1_wheelsIn_7 (by decide) (fun c7 => ?_) (fun c7 => absurd c7 (not_not_intro (le_nI (K := 24) rfl (by omega) (by omega))))
      refine J_iload_n hC (j := 2) dX1_wheelsIn_40 rfl rfl ?_
      exact J_iret hC hr rfl rfl rfl dX1_wheelsIn_41
    | succ n ih =>
      intro i hn 
      refine J_iload_n hC (j := 3) dX1_wheelsIn_4 rfl rfl ?_
      refine J_bipush (v := 24) hC dX1_wheelsIn_5 (by decide) ?_
      refine J_icmp_ge (tgt := 40) hC dX1_wheelsIn_7 (by decide) (fun c7 => absurd c7 (nle_nI (K := 24) rfl (by omega) (by omega))) (fun c7 => ?_)
      refine J_aload_n hC (j := 0) dX1_wheelsIn_10 rfl rfl ?_
      refine J_iload_n hC (j := 3) dX1_wheelsIn_11 rfl rfl ?_
      refine J_callV hC (ct_X1_lyingWheel l G X o d hd D (nI i)) mw_X1_lyingWheel qw_209 (nl_da hd) (ent_da hd) rfl rfl rfl (Nat.le_of_ble_eq_true rfl) ⟨Nat.le_of_ble_eq_true rfl, Nat.le_of_ble_eq_true rfl⟩ ⟨Nat.le_of_ble_eq_true rfl, Nat.le_of_ble_eq_true rfl⟩ dX1_wheelsIn_12 ?_
      by_cases h12 : lies D (nI i) = true
      · refine J_tv (lyV_p h12) ?_
        refine J_astore (lv' := [(4, .ref (aX G d (ix (nI i)))), (0, .ref (aX G d 40)), (1, .int p0), (2, .int (wheelsIn D p0 i)), (3, .int (nI i))]) hC dX1_wheelsIn_15 (by decide) rfl ?_
        refine J_aload hC (j := 0) dX1_wheelsIn_17 rfl ?_
        refine J_ifnull hC dX1_wheelsIn_19 ?_
        refine J_aload hC (j := 0) dX1_wheelsIn_22 rfl ?_
        refine J_get hC (nl_wh hd (inW_lt (lies_w h12))) (ent_wh hd (inW_lt (lies_w h12))) rfl in3 1 (by decide) rfl qw_92 rfl rF dX1_wheelsIn_24 ?_
        refine J_iload_n hC (j := 2) dX1_wheelsIn_27 rfl rfl ?_
        refine J_icmp_ne (tgt := 34) hC dX1_wheelsIn_28 (by decide) (fun c28 => ?_) (fun c28 => ?_)
        · refine J_iinc (j := 4) (v := ((nI i) + 1)) (lv' := [(3, .int ((nI i) + 1)), (4, .ref (aX G d (ix (nI i)))), (0, .ref (aX G d 40)), (1, .int p0), (2, .int (wheelsIn D p0 i))]) hC dX1_wheelsIn_34 rfl rfl (by decide) rfl ?_
          refine J_goto (tgt := 4) hC dX1_wheelsIn_37 (by decide) ?_
          refine J_lv [2, 3, 4, 0] (lv' := [(0, .ref (aX G d 40)), (1, .int p0), (2, .int (wheelsIn D p0 i)), (3, .int ((nI i) + 1))]) rfl ?_
          exact J_cast rfl (by simp [nI_succ, wheelsIn, rep, h12, c28]) rfl (ih (i + 1) (by omega) )
        · refine J_iinc (j := 3) (v := ((wheelsIn D p0 i) + 1)) (lv' := [(2, .int ((wheelsIn D p0 i) + 1)), (4, .ref (aX G d (ix (nI i)))), (0, .ref (aX G d 40)), (1, .int p0), (3, .int (nI i))]) hC dX1_wheelsIn_31 rfl rfl (by decide) rfl ?_
          refine J_iinc (j := 4) (v := ((nI i) + 1)) (lv' := [(3, .int ((nI i) + 1)), (2, .int ((wheelsIn D p0 i) + 1)), (4, .ref (aX G d (ix (nI i)))), (0, .ref (aX G d 40)), (1, .int p0)]) hC dX1_wheelsIn_34 rfl rfl (by decide) rfl ?_
          refine J_goto (tgt := 4) hC dX1_wheelsIn_37 (by decide) ?_
          refine J_lv [3, 4, 1, 0] (lv' := [(0, .ref (aX G d 40)), (1, .int p0), (2, .int ((wheelsIn D p0 i) + 1)), (3, .int ((nI i) + 1))]) rfl ?_
          exact J_cast rfl (by simp [nI_succ, wheelsIn, rep, h12, c28]) rfl (ih (i + 1) (by omega) )
      · refine J_tv (lyV_n h12) ?_
        refine J_astoreN (lv' := [(4, .null), (0, .ref (aX G d 40)), (1, .int p0), (2, .int (wheelsIn D p0 i)), (3, .int (nI i))]) hC dX1_wheelsIn_15 (by decide) rfl ?_
        refine J_aloadN hC (j := 0) dX1_wheelsIn_17 rfl ?_
        refine J_ifnullN (tgt := 34) hC dX1_wheelsIn_19 (by decide) ?_
        refine J_iinc (j := 4) (v := ((nI i) + 1)) (lv' := [(3, .int ((nI i) + 1)), (4, .null), (0, .ref (aX G d 40)), (1, .int p0), (2, .int (wheelsIn D p0 i))]) hC dX1_wheelsIn_34 rfl rfl (by decide) rfl ?_
        refine J_goto (tgt := 4) hC dX1_wheelsIn_37 (by decide) ?_
        refine J_lv [2, 3, 4, 0] (lv' := [(0, .ref (aX G d 40)), (1, .int p0), (2, .int (wheelsIn D p0 i)), (3, .int ((nI i) + 1))]) rfl ?_
        exact J_cast rfl (by simp [nI_succ, wheelsIn, rep, h12]) rfl (ih (i + 1) (by omega) )
  refine J_lv [2, 3, 1, 0] (lv' := [(0, .ref (aX G d 40)), (1, .int p0), (2, .int 0), (3, .int 0)]) rfl ?_
  exact J_cast rfl (by first | rfl | simp [wheelsIn, rep, nI_0]) rfl (L4 24 0 (by omega) )
set_option maxHeartbeats 4000000 in
set_option maxRecDepth 100000 in
theorem ct_X1_mouldyWheelsIn (l : Launch) (G : GG) (X : XX) (o : OO) (d : Nat) (hd : d < 2) (D : DD) (p0 : Int32) : CT l yX1_mouldyWheelsIn cX1_mouldyWheelsIn 5 (some .int) 2 44 0 0 G [.ref (aX G d 40), .int p0] (va_up X d D) o (some (.int (mouldyIn D p0 24))) (va_up X d D) o := by
  refine CT_of (own := RX1) (lv := [(0, .ref (aX G d 40)), (1, .int p0)]) (by decide) rfl (Nat.le_of_ble_eq_true rfl) rfl ?_
  intro p e s m args below meth c hr hC
  refine J_iconst (v := 0) hC dX1_mouldyWheelsIn_0 (by decide) ?_
  refine J_istore_n (lv' := [(2, .int 0), (0, .ref (aX G d 40)), (1, .int p0)]) hC dX1_mouldyWheelsIn_1 rfl (by decide) rfl ?_
  refine J_iconst (v := 0) hC dX1_mouldyWheelsIn_2 (by decide) ?_
  refine J_istore_n (lv' := [(3, .int 0), (2, .int 0), (0, .ref (aX G d 40)), (1, .int p0)]) hC dX1_mouldyWheelsIn_3 rfl (by decide) rfl ?_
  have L4 : ∀ n i : Nat, i + n = 24 → Jd p l e ({ frames := 2, cells := 0, slots := 0, locals := 44 }) s m args below meth c (MQ below (CQ G (some (.int (mouldyIn D p0 24))) (va_up X d D) o) args s 0 0 (gB G)) G 5 0 0 (va_up X d D) o 4 [(0, .ref (aX G d 40)), (1, .int p0), (2, .int (mouldyIn D p0 i)), (3, .int (nI i))] [] := by
    intro n
    induction n with
    | zero =>
      intro i hn 
      obtain rfl : i = 24 := by omega
      refine J_iload_n hC (j := 3) dX1_mouldyWheelsIn_4 rfl rfl ?_
      refine J_bipush (v := 24) hC dX1_mouldyWheelsIn_5 (by decide) ?_
      refine J_icmp_ge (tgt := 48) hC dX1_mouldyWheelsIn_7 (by decide) (fun c7 => ?_) (fun c7 => absurd c7 (not_not_intro (le_nI (K := 24) rfl (by omega) (by omega))))
      refine J_iload_n hC (j := 2) dX1_mouldyWheelsIn_48 rfl rfl ?_
      exact J_iret hC hr rfl rfl rfl dX1_mouldyWheelsIn_49
    | succ n ih =>
      intro i hn 
      refine J_iload_n hC (j := 3) dX1_mouldyWheelsIn_4 rfl rfl ?_
      refine J_bipush (v := 24) hC dX1_mouldyWheelsIn_5 (by decide) ?_
      refine J_icmp_ge (tgt := 48) hC dX1_mouldyWheelsIn_7 (by decide) (fun c7 => absurd c7 (nle_nI (K := 24) rfl (by omega) (by omega))) (fun c7 => ?_)
      refine J_aload_n hC (j := 0) dX1_mouldyWheelsIn_10 rfl rfl ?_
      refine J_iload_n hC (j := 3) dX1_mouldyWheelsIn_11 rfl rfl ?_
      refine J_callV hC (ct_X1_lyingWheel l G X o d hd D (nI i)) mw_X1_lyingWheel qw_209 (nl_da hd) (ent_da hd) rfl rfl rfl (Nat.le_of_ble_eq_true rfl) ⟨Nat.le_of_ble_eq_true rfl, Nat.le_of_ble_eq_true rfl⟩ ⟨Nat.le_of_ble_eq_true rfl, Nat.le_of_ble_eq_true rfl⟩ dX1_mouldyWheelsIn_12 ?_
      by_cases h12 : lies D (nI i) = true
      · refine J_tv (lyV_p h12) ?_
        refine J_astore (lv' := [(4, .ref (aX G d (ix (nI i)))), (0, .ref (aX G d 40)), (1, .int p0), (2, .int (mouldyIn D p0 i)), (3, .int (nI i))]) hC dX1_mouldyWheelsIn_15 (by decide) rfl ?_
        refine J_aload hC (j := 0) dX1_mouldyWheelsIn_17 rfl ?_
        refine J_ifnull hC dX1_mouldyWheelsIn_19 ?_
        refine J_aload hC (j := 0) dX1_mouldyWheelsIn_22 rfl ?_
        refine J_get hC (nl_wh hd (inW_lt (lies_w h12))) (ent_wh hd (inW_lt (lies_w h12))) rfl in3 1 (by decide) rfl qw_92 rfl rF dX1_mouldyWheelsIn_24 ?_
        refine J_iload_n hC (j := 2) dX1_mouldyWheelsIn_27 rfl rfl ?_
        refine J_icmp_ne (tgt := 42) hC dX1_mouldyWheelsIn_28 (by decide) (fun c28 => ?_) (fun c28 => ?_)
        · refine J_iinc (j := 4) (v := ((nI i) + 1)) (lv' := [(3, .int ((nI i) + 1)), (4, .ref (aX G d (ix (nI i)))), (0, .ref (aX G d 40)), (1, .int p0), (2, .int (mouldyIn D p0 i))]) hC dX1_mouldyWheelsIn_42 rfl rfl (by decide) rfl ?_
          refine J_goto (tgt := 4) hC dX1_mouldyWheelsIn_45 (by decide) ?_
          refine J_lv [2, 3, 4, 0] (lv' := [(0, .ref (aX G d 40)), (1, .int p0), (2, .int (mouldyIn D p0 i)), (3, .int ((nI i) + 1))]) rfl ?_
          exact J_cast rfl (by simp [nI_succ, mouldyIn, rep, h12, c28]) rfl (ih (i + 1) (by omega) )
        · refine J_aload hC (j := 0) dX1_mouldyWheelsIn_31 rfl ?_
          refine J_get hC (nl_wh hd (inW_lt (lies_w h12))) (ent_wh hd (inW_lt (lies_w h12))) rfl in3 7 (by decide) rfl qw_102 rfl rF dX1_mouldyWheelsIn_33 ?_
          refine J_if_eq (tgt := 42) hC dX1_mouldyWheelsIn_36 (by decide) (fun c36 => ?_) (fun c36 => ?_)
          · refine J_iinc (j := 4) (v := ((nI i) + 1)) (lv' := [(3, .int ((nI i) + 1)), (4, .ref (aX G d (ix (nI i)))), (0, .ref (aX G d 40)), (1, .int p0), (2, .int (mouldyIn D p0 i))]) hC dX1_mouldyWheelsIn_42 rfl rfl (by decide) rfl ?_
            refine J_goto (tgt := 4) hC dX1_mouldyWheelsIn_45 (by decide) ?_
            refine J_lv [2, 3, 4, 0] (lv' := [(0, .ref (aX G d 40)), (1, .int p0), (2, .int (mouldyIn D p0 i)), (3, .int ((nI i) + 1))]) rfl ?_
            exact J_cast rfl (by simp [nI_succ, mouldyIn, rep, h12, c28, c36]) rfl (ih (i + 1) (by omega) )
          · refine J_iinc (j := 3) (v := ((mouldyIn D p0 i) + 1)) (lv' := [(2, .int ((mouldyIn D p0 i) + 1)), (4, .ref (aX G d (ix (nI i)))), (0, .ref (aX G d 40)), (1, .int p0), (3, .int (nI i))]) hC dX1_mouldyWheelsIn_39 rfl rfl (by decide) rfl ?_
            refine J_iinc (j := 4) (v := ((nI i) + 1)) (lv' := [(3, .int ((nI i) + 1)), (2, .int ((mouldyIn D p0 i) + 1)), (4, .ref (aX G d (ix (nI i)))), (0, .ref (aX G d 40)), (1, .int p0)]) hC dX1_mouldyWheelsIn_42 rfl rfl (by decide) rfl ?_
            refine J_goto (tgt := 4) hC dX1_mouldyWheelsIn_45 (by decide) ?_
            refine J_lv [3, 4, 1, 0] (lv' := [(0, .ref (aX G d 40)), (1, .int p0), (2, .int ((mouldyIn D p0 i) + 1)), (3, .int ((nI i) + 1))]) rfl ?_
            exact J_cast rfl (by simp [nI_succ, mouldyIn, rep, h12, c28, c36]) rfl (ih (i + 1) (by omega) )
      · refine J_tv (lyV_n h12) ?_
        refine J_astoreN (lv' := [(4, .null), (0, .ref (aX G d 40)), (1, .int p0), (2, .int (mouldyIn D p0 i)), (3, .int (nI i))]) hC dX1_mouldyWheelsIn_15 (by decide) rfl ?_
        refine J_aloadN hC (j := 0) dX1_mouldyWheelsIn_17 rfl ?_
        refine J_ifnullN (tgt := 42) hC dX1_mouldyWheelsIn_19 (by decide) ?_
        refine J_iinc (j := 4) (v := ((nI i) + 1)) (lv' := [(3, .int ((nI i) + 1)), (4, .null), (0, .ref (aX G d 40)), (1, .int p0), (2, .int (mouldyIn D p0 i))]) hC dX1_mouldyWheelsIn_42 rfl rfl (by decide) rfl ?_
        refine J_goto (tgt := 4) hC dX1_mouldyWheelsIn_45 (by decide) ?_
        refine J_lv [2, 3, 4, 0] (lv' := [(0, .ref (aX G d 40)), (1, .int p0), (2, .int (mouldyIn D p0 i)), (3, .int ((nI i) + 1))]) rfl ?_
        exact J_cast rfl (by simp [nI_succ, mouldyIn, rep, h12]) rfl (ih (i + 1) (by omega) )
  refine J_lv [2, 3, 1, 0] (lv' := [(0, .ref (aX G d 40)), (1, .int p0), (2, .int 0), (3, .int 0)]) rfl ?_
  exact J_cast rfl (by first | rfl | simp [mouldyIn, rep, nI_0]) rfl (L4 24 0 (by omega) )
set_option maxHeartbeats 4000000 in
set_option maxRecDepth 100000 in
theorem ct_X1_mouldyWheels (l : Launch) (G : GG) (X : XX) (o : OO) (d : Nat) (hd : d < 2) (D : DD) : CT l yX1_mouldyWheels cX1_mouldyWheels 3 (some .int) 3 68 0 0 G [.ref (aX G d 40)] (va_up X d D) o (some (.int (mouldyAll D 4))) (va_up X d D) o := by
  refine CT_of (own := RX1) (lv := [(0, .ref (aX G d 40))]) (by decide) rfl (Nat.le_of_ble_eq_true rfl) rfl ?_
  intro p e s m args below meth c hr hC
  refine J_iconst (v := 0) hC dX1_mouldyWheels_0 (by decide) ?_
  refine J_istore_n (lv' := [(1, .int 0), (0, .ref (aX G d 40))]) hC dX1_mouldyWheels_1 rfl (by decide) rfl ?_
  refine J_iconst (v := 0) hC dX1_mouldyWheels_2 (by decide) ?_
  refine J_istore_n (lv' := [(2, .int 0), (1, .int 0), (0, .ref (aX G d 40))]) hC dX1_mouldyWheels_3 rfl (by decide) rfl ?_
  have L4 : ∀ n i : Nat, i + n = 4 → Jd p l e ({ frames := 3, cells := 0, slots := 0, locals := 68 }) s m args below meth c (MQ below (CQ G (some (.int (mouldyAll D 4))) (va_up X d D) o) args s 0 0 (gB G)) G 3 0 0 (va_up X d D) o 4 [(0, .ref (aX G d 40)), (1, .int (mouldyAll D i)), (2, .int (nI i))] [] := by
    intro n
    induction n with
    | zero =>
      intro i hn 
      obtain rfl : i = 4 := by omega
      refine J_iload_n hC (j := 2) dX1_mouldyWheels_4 rfl rfl ?_
      refine J_iconst (v := 4) hC dX1_mouldyWheels_5 (by decide) ?_
      refine J_icmp_ge (tgt := 23) hC dX1_mouldyWheels_6 (by decide) (fun c6 => ?_) (fun c6 => absurd c6 (not_not_intro (le_nI (K := 4) rfl (by omega) (by omega))))
      refine J_iload_n hC (j := 1) dX1_mouldyWheels_23 rfl rfl ?_
      exact J_iret hC hr rfl rfl rfl dX1_mouldyWheels_24
    | succ n ih =>
      intro i hn 
      refine J_iload_n hC (j := 2) dX1_mouldyWheels_4 rfl rfl ?_
      refine J_iconst (v := 4) hC dX1_mouldyWheels_5 (by decide) ?_
      refine J_icmp_ge (tgt := 23) hC dX1_mouldyWheels_6 (by decide) (fun c6 => absurd c6 (nle_nI (K := 4) rfl (by omega) (by omega))) (fun c6 => ?_)
      refine J_iload_n hC (j := 1) dX1_mouldyWheels_9 rfl rfl ?_
      refine J_aload_n hC (j := 0) dX1_mouldyWheels_10 rfl rfl ?_
      refine J_iload_n hC (j := 2) dX1_mouldyWheels_11 rfl rfl ?_
      refine J_callV hC (ct_X1_mouldyWheelsIn l G X o d hd D (nI i)) mw_X1_mouldyWheelsIn qw_238 (nl_da hd) (ent_da hd) rfl rfl rfl (Nat.le_of_ble_eq_true rfl) ⟨Nat.le_of_ble_eq_true rfl, Nat.le_of_ble_eq_true rfl⟩ ⟨Nat.le_of_ble_eq_true rfl, Nat.le_of_ble_eq_true rfl⟩ dX1_mouldyWheels_12 ?_
      refine J_iadd hC dX1_mouldyWheels_15 ?_
      refine J_istore_n (lv' := [(1, .int ((mouldyAll D i) + (mouldyIn D (nI i) 24))), (0, .ref (aX G d 40)), (2, .int (nI i))]) hC dX1_mouldyWheels_16 rfl (by decide) rfl ?_
      refine J_iinc (j := 2) (v := ((nI i) + 1)) (lv' := [(2, .int ((nI i) + 1)), (1, .int ((mouldyAll D i) + (mouldyIn D (nI i) 24))), (0, .ref (aX G d 40))]) hC dX1_mouldyWheels_17 rfl rfl (by decide) rfl ?_
      refine J_goto (tgt := 4) hC dX1_mouldyWheels_20 (by decide) ?_
      refine J_lv [2, 1, 0] (lv' := [(0, .ref (aX G d 40)), (1, .int ((mouldyAll D i) + (mouldyIn D (nI i) 24))), (2, .int ((nI i) + 1))]) rfl ?_
      exact J_cast rfl (by simp [nI_succ, mouldyAll, rep]) rfl (ih (i + 1) (by omega) )
  refine J_lv [2, 1, 0] (lv' := [(0, .ref (aX G d 40)), (1, .int 0), (2, .int 0)]) rfl ?_
  exact J_cast rfl (by first | rfl | simp [mouldyAll, rep, nI_0]) rfl (L4 4 0 (by omega) )
set_option maxHeartbeats 4000000 in
set_option maxRecDepth 100000 in
theorem ct_X1_worthOfLying (l : Launch) (G : GG) (X : XX) (o : OO) (d : Nat) (hd : d < 2) (D : DD) (p0 : Int32) : CT l yX1_worthOfLying cX1_worthOfLying 3 (some .int) 2 44 0 0 G [.ref (aX G d 40), .int p0] (va_up X d D) o (some (.int (worthL D p0))) (va_up X d D) o := by
  refine CT_of (own := RX1) (lv := [(0, .ref (aX G d 40)), (1, .int p0)]) (by decide) rfl (Nat.le_of_ble_eq_true rfl) rfl ?_
  intro p e s m args below meth c hr hC
  refine J_aload_n hC (j := 0) dX1_worthOfLying_0 rfl rfl ?_
  refine J_iload_n hC (j := 1) dX1_worthOfLying_1 rfl rfl ?_
  refine J_callV hC (ct_X1_lyingWheel l G X o d hd D p0) mw_X1_lyingWheel qw_209 (nl_da hd) (ent_da hd) rfl rfl rfl (Nat.le_of_ble_eq_true rfl) ⟨Nat.le_of_ble_eq_true rfl, Nat.le_of_ble_eq_true rfl⟩ ⟨Nat.le_of_ble_eq_true rfl, Nat.le_of_ble_eq_true rfl⟩ dX1_worthOfLying_2 ?_
  by_cases h2 : lies D p0 = true
  · refine J_tv (lyV_p h2) ?_
    refine J_astore_n (lv' := [(2, .ref (aX G d (ix p0))), (0, .ref (aX G d 40)), (1, .int p0)]) hC dX1_worthOfLying_5 rfl (by decide) rfl ?_
    refine J_aload_n hC (j := 0) dX1_worthOfLying_6 rfl rfl ?_
    refine J_ifnonnull (tgt := 14) hC dX1_worthOfLying_7 (by decide) ?_
    refine J_aload_n hC (j := 0) dX1_worthOfLying_14 rfl rfl ?_
    refine J_callV hC (ct_X3_worth l G X o d hd D (ix p0) (inW_lt (lies_w h2))) mw_X3_worth qw_213 (nl_wh hd (inW_lt (lies_w h2))) (ent_wh hd (inW_lt (lies_w h2))) rfl rfl rfl (Nat.le_of_ble_eq_true rfl) ⟨Nat.le_of_ble_eq_true rfl, Nat.le_of_ble_eq_true rfl⟩ ⟨Nat.le_of_ble_eq_true rfl, Nat.le_of_ble_eq_true rfl⟩ dX1_worthOfLying_15 ?_
    exact J_iret hC hr (by simp [worthL, h2]) rfl rfl dX1_worthOfLying_18
  · refine J_tv (lyV_n h2) ?_
    refine J_astore_nN (lv' := [(2, .null), (0, .ref (aX G d 40)), (1, .int p0)]) hC dX1_worthOfLying_5 rfl (by decide) rfl ?_
    refine J_aload_nN hC (j := 0) dX1_worthOfLying_6 rfl rfl ?_
    refine J_ifnonnullN hC dX1_worthOfLying_7 ?_
    refine J_iconst (v := 0) hC dX1_worthOfLying_10 (by decide) ?_
    refine J_goto (tgt := 18) hC dX1_worthOfLying_11 (by decide) ?_
    exact J_iret hC hr (by simp [worthL, h2]) rfl rfl dX1_worthOfLying_18
set_option maxHeartbeats 4000000 in
set_option maxRecDepth 100000 in
theorem ct_X1_worthOfAllLying (l : Launch) (G : GG) (X : XX) (o : OO) (d : Nat) (hd : d < 2) (D : DD) : CT l yX1_worthOfAllLying cX1_worthOfAllLying 3 (some .int) 3 66 0 0 G [.ref (aX G d 40)] (va_up X d D) o (some (.int (worthAll D 24))) (va_up X d D) o := by
  refine CT_of (own := RX1) (lv := [(0, .ref (aX G d 40))]) (by decide) rfl (Nat.le_of_ble_eq_true rfl) rfl ?_
  intro p e s m args below meth c hr hC
  refine J_iconst (v := 0) hC dX1_worthOfAllLying_0 (by decide) ?_
  refine J_istore_n (lv' := [(1, .int 0), (0, .ref (aX G d 40))]) hC dX1_worthOfAllLying_1 rfl (by decide) rfl ?_
  refine J_iconst (v := 0) hC dX1_worthOfAllLying_2 (by decide) ?_
  refine J_istore_n (lv' := [(2, .int 0), (1, .int 0), (0, .ref (aX G d 40))]) hC dX1_worthOfAllLying_3 rfl (by decide) rfl ?_
  have L4 : ∀ n i : Nat, i + n = 24 → Jd p l e ({ frames := 3, cells := 0, slots := 0, locals := 66 }) s m args below meth c (MQ below (CQ G (some (.int (worthAll D 24))) (va_up X d D) o) args s 0 0 (gB G)) G 3 0 0 (va_up X d D) o 4 [(0, .ref (aX G d 40)), (1, .int (worthAll D i)), (2, .int (nI i))] [] := by
    intro n
    induction n with
    | zero =>
      intro i hn 
      obtain rfl : i = 24 := by omega
      refine J_iload_n hC (j := 2) dX1_worthOfAllLying_4 rfl rfl ?_
      refine J_bipush (v := 24) hC dX1_worthOfAllLying_5 (by decide) ?_
      refine J_icmp_ge (tgt := 24) hC dX1_worthOfAllLying_7 (by decide) (fun c7 => ?_) (fun c7 => absurd c7 (not_not_intro (le_nI (K := 24) rfl (by omega) (by omega))))
      refine J_iload_n hC (j := 1) dX1_worthOfAllLying_24 rfl rfl ?_
      exact J_iret hC hr rfl rfl rfl dX1_worthOfAllLying_25
    | succ n ih =>
      intro i hn 
      refine J_iload_n hC (j := 2) dX1_worthOfAllLying_4 rfl rfl ?_
      refine J_bipush (v := 24) hC dX1_worthOfAllLying_5 (by decide) ?_
      refine J_icmp_ge (tgt := 24) hC dX1_worthOfAllLying_7 (by decide) (fun c7 => absurd c7 (nle_nI (K := 24) rfl (by omega) (by omega))) (fun c7 => ?_)
      refine J_iload_n hC (j := 1) dX1_worthOfAllLying_10 rfl rfl ?_
      refine J_aload_n hC (j := 0) dX1_worthOfAllLying_11 rfl rfl ?_
      refine J_iload_n hC (j := 2) dX1_worthOfAllLying_12 rfl rfl ?_
      refine J_callV hC (ct_X1_worthOfLying l G X o d hd D (nI i)) mw_X1_worthOfLying qw_205 (nl_da hd) (ent_da hd) rfl rfl rfl (Nat.le_of_ble_eq_true rfl) ⟨Nat.le_of_ble_eq_true rfl, Nat.le_of_ble_eq_true rfl⟩ ⟨Nat.le_of_ble_eq_true rfl, Nat.le_of_ble_eq_true rfl⟩ dX1_worthOfAllLying_13 ?_
      refine J_iadd hC dX1_worthOfAllLying_16 ?_
      refine J_istore_n (lv' := [(1, .int ((worthAll D i) + (worthL D (nI i)))), (0, .ref (aX G d 40)), (2, .int (nI i))]) hC dX1_worthOfAllLying_17 rfl (by decide) rfl ?_
      refine J_iinc (j := 2) (v := ((nI i) + 1)) (lv' := [(2, .int ((nI i) + 1)), (1, .int ((worthAll D i) + (worthL D (nI i)))), (0, .ref (aX G d 40))]) hC dX1_worthOfAllLying_18 rfl rfl (by decide) rfl ?_
      refine J_goto (tgt := 4) hC dX1_worthOfAllLying_21 (by decide) ?_
      refine J_lv [2, 1, 0] (lv' := [(0, .ref (aX G d 40)), (1, .int ((worthAll D i) + (worthL D (nI i)))), (2, .int ((nI i) + 1))]) rfl ?_
      exact J_cast rfl (by simp [nI_succ, worthAll, rep]) rfl (ih (i + 1) (by omega) )
  refine J_lv [2, 1, 0] (lv' := [(0, .ref (aX G d 40)), (1, .int 0), (2, .int 0)]) rfl ?_
  exact J_cast rfl (by first | rfl | simp [worthAll, rep, nI_0]) rfl (L4 24 0 (by omega) )
set_option maxHeartbeats 4000000 in
set_option maxRecDepth 100000 in
theorem ct_X1_cellarFact (l : Launch) (G : GG) (X : XX) (o : OO) (d : Nat) (hd : d < 2) (D : DD) (p0 : Int32) (p1 : Int32) : CT l yX1_cellarFact cX1_cellarFact 4 (some .int) 3 68 0 0 G [.ref (aX G d 40), .int p0, .int p1] (va_up X d D) o (some (.int (ceFact D p0 p1))) (va_up X d D) o := by
  refine CT_of (own := RX1) (lv := [(0, .ref (aX G d 40)), (1, .int p0), (2, .int p1)]) (by decide) rfl (Nat.le_of_ble_eq_true rfl) rfl ?_
  intro p e s m args below meth c hr hC
  refine J_aload_n hC (j := 0) dX1_cellarFact_0 rfl rfl ?_
  refine J_iload_n hC (j := 1) dX1_cellarFact_1 rfl rfl ?_
  refine J_callV hC (ct_X1_cellarOf l G X o d hd D p0) mw_X1_cellarOf qw_246 (nl_da hd) (ent_da hd) rfl rfl rfl (Nat.le_of_ble_eq_true rfl) ⟨Nat.le_of_ble_eq_true rfl, Nat.le_of_ble_eq_true rfl⟩ ⟨Nat.le_of_ble_eq_true rfl, Nat.le_of_ble_eq_true rfl⟩ dX1_cellarFact_2 ?_
  by_cases h2 : inC D p0 = true
  · refine J_tv (ceV_p h2) ?_
    refine J_astore_n (lv' := [(3, .ref (aX G d (24 + (ix p0)))), (0, .ref (aX G d 40)), (1, .int p0), (2, .int p1)]) hC dX1_cellarFact_5 rfl (by decide) rfl ?_
    refine J_aload_n hC (j := 0) dX1_cellarFact_6 rfl rfl ?_
    refine J_ifnonnull (tgt := 12) hC dX1_cellarFact_7 (by decide) ?_
    refine J_iload_n hC (j := 3) dX1_cellarFact_12 rfl rfl ?_
    by_cases c13_0 : p1 = 0
    · refine J_tableIn (off := 27) (tgt := 40) hC dX1_cellarFact_13 (by rw [c13_0]; decide) (by rw [c13_0]; decide) (by rw [c13_0]; decide) (by decide) ?_
      refine J_aload_n hC (j := 0) dX1_cellarFact_40 rfl rfl ?_
      refine J_get hC (nl_ce hd (inC_lt h2)) (ent_ce hd (inC_lt h2)) rfl in0 0 (by decide) rfl qw_70 rfl rF dX1_cellarFact_41 ?_
      exact J_iret hC hr (by simp [ceFact, h2, c13_0]) rfl rfl dX1_cellarFact_44
    by_cases c13_1 : p1 = 1
    · refine J_tableIn (off := 32) (tgt := 45) hC dX1_cellarFact_13 (by rw [c13_1]; decide) (by rw [c13_1]; decide) (by rw [c13_1]; decide) (by decide) ?_
      refine J_aload_n hC (j := 0) dX1_cellarFact_45 rfl rfl ?_
      refine J_get hC (nl_ce hd (inC_lt h2)) (ent_ce hd (inC_lt h2)) rfl in0 1 (by decide) rfl qw_73 rfl rF dX1_cellarFact_46 ?_
      exact J_iret hC hr (by simp [ceFact, h2, c13_0, c13_1]) rfl rfl dX1_cellarFact_49
    by_cases c13_2 : p1 = 2
    · refine J_tableIn (off := 37) (tgt := 50) hC dX1_cellarFact_13 (by rw [c13_2]; decide) (by rw [c13_2]; decide) (by rw [c13_2]; decide) (by decide) ?_
      refine J_aload_n hC (j := 1) dX1_cellarFact_50 rfl rfl ?_
      refine J_iload_n hC (j := 2) dX1_cellarFact_51 rfl rfl ?_
      refine J_callV hC (ct_X1_wheelsIn l G X o d hd D p0) mw_X1_wheelsIn qw_250 (nl_da hd) (ent_da hd) rfl rfl rfl (Nat.le_of_ble_eq_true rfl) ⟨Nat.le_of_ble_eq_true rfl, Nat.le_of_ble_eq_true rfl⟩ ⟨Nat.le_of_ble_eq_true rfl, Nat.le_of_ble_eq_true rfl⟩ dX1_cellarFact_52 ?_
      exact J_iret hC hr (by simp [ceFact, h2, c13_0, c13_1, c13_2]) rfl rfl dX1_cellarFact_55
    refine J_tableOut (tgt := 56) hC dX1_cellarFact_13 (sw3 c13_0 c13_1 c13_2) (by decide) ?_
    refine J_aload_n hC (j := 1) dX1_cellarFact_56 rfl rfl ?_
    refine J_iload_n hC (j := 2) dX1_cellarFact_57 rfl rfl ?_
    refine J_callV hC (ct_X1_mouldyWheelsIn l G X o d hd D p0) mw_X1_mouldyWheelsIn qw_238 (nl_da hd) (ent_da hd) rfl rfl rfl (Nat.le_of_ble_eq_true rfl) ⟨Nat.le_of_ble_eq_true rfl, Nat.le_of_ble_eq_true rfl⟩ ⟨Nat.le_of_ble_eq_true rfl, Nat.le_of_ble_eq_true rfl⟩ dX1_cellarFact_58 ?_
    exact J_iret hC hr (by simp [ceFact, h2, c13_0, c13_1, c13_2]) rfl rfl dX1_cellarFact_61
  · refine J_tv (ceV_n h2) ?_
    refine J_astore_nN (lv' := [(3, .null), (0, .ref (aX G d 40)), (1, .int p0), (2, .int p1)]) hC dX1_cellarFact_5 rfl (by decide) rfl ?_
    refine J_aload_nN hC (j := 0) dX1_cellarFact_6 rfl rfl ?_
    refine J_ifnonnullN hC dX1_cellarFact_7 ?_
    refine J_iconst (v := 0) hC dX1_cellarFact_10 (by decide) ?_
    exact J_iret hC hr (by simp [ceFact, h2]) rfl rfl dX1_cellarFact_11
set_option maxHeartbeats 4000000 in
set_option maxRecDepth 100000 in
theorem ct_X1_fact (l : Launch) (G : GG) (X : XX) (o : OO) (d : Nat) (hd : d < 2) (D : DD) (p0 : Int32) : CT l yX1_fact cX1_fact 2 (some .int) 4 90 0 0 G [.ref (aX G d 40), .int p0] (va_up X d D) o (some (.int (dFact D p0))) (va_up X d D) o := by
  refine CT_of (own := RX1) (lv := [(0, .ref (aX G d 40)), (1, .int p0)]) (by decide) rfl (Nat.le_of_ble_eq_true rfl) rfl ?_
  intro p e s m args below meth c hr hC
  refine J_iload_n hC (j := 1) dX1_fact_0 rfl rfl ?_
  by_cases c1_0 : p0 = 0
  · refine J_tableIn (off := 47) (tgt := 48) hC dX1_fact_1 (by rw [c1_0]; decide) (by rw [c1_0]; decide) (by rw [c1_0]; decide) (by decide) ?_
    refine J_aload_n hC (j := 0) dX1_fact_48 rfl rfl ?_
    refine J_get hC (nl_da hd) (ent_da hd) rfl in1 0 (by decide) rfl qw_152 rfl rF dX1_fact_49 ?_
    exact J_iret hC hr (by simp [dFact, c1_0]) rfl rfl dX1_fact_52
  by_cases c1_1 : p0 = 1
  · refine J_tableIn (off := 52) (tgt := 53) hC dX1_fact_1 (by rw [c1_1]; decide) (by rw [c1_1]; decide) (by rw [c1_1]; decide) (by decide) ?_
    refine J_aload_n hC (j := 0) dX1_fact_53 rfl rfl ?_
    refine J_get hC (nl_da hd) (ent_da hd) rfl in1 2 (by decide) rfl qw_156 rfl rF dX1_fact_54 ?_
    exact J_iret hC hr (by simp [dFact, c1_0, c1_1]) rfl rfl dX1_fact_57
  by_cases c1_2 : p0 = 2
  · refine J_tableIn (off := 57) (tgt := 58) hC dX1_fact_1 (by rw [c1_2]; decide) (by rw [c1_2]; decide) (by rw [c1_2]; decide) (by decide) ?_
    refine J_aload_n hC (j := 0) dX1_fact_58 rfl rfl ?_
    refine J_get hC (nl_da hd) (ent_da hd) rfl in1 3 (by decide) rfl qw_158 rfl rF dX1_fact_59 ?_
    exact J_iret hC hr (by simp [dFact, c1_0, c1_1, c1_2]) rfl rfl dX1_fact_62
  by_cases c1_3 : p0 = 3
  · refine J_tableIn (off := 62) (tgt := 63) hC dX1_fact_1 (by rw [c1_3]; decide) (by rw [c1_3]; decide) (by rw [c1_3]; decide) (by decide) ?_
    refine J_aload_n hC (j := 0) dX1_fact_63 rfl rfl ?_
    refine J_iconst (v := 0) hC dX1_fact_64 (by decide) ?_
    refine J_callV hC (ct_X1_wheelsBeing l G X o d hd D 0) mw_X1_wheelsBeing qw_233 (nl_da hd) (ent_da hd) rfl rfl rfl (Nat.le_of_ble_eq_true rfl) ⟨Nat.le_of_ble_eq_true rfl, Nat.le_of_ble_eq_true rfl⟩ ⟨Nat.le_of_ble_eq_true rfl, Nat.le_of_ble_eq_true rfl⟩ dX1_fact_65 ?_
    exact J_iret hC hr (by simp [dFact, c1_0, c1_1, c1_2, c1_3]) rfl rfl dX1_fact_68
  by_cases c1_4 : p0 = 4
  · refine J_tableIn (off := 68) (tgt := 69) hC dX1_fact_1 (by rw [c1_4]; decide) (by rw [c1_4]; decide) (by rw [c1_4]; decide) (by decide) ?_
    refine J_aload_n hC (j := 0) dX1_fact_69 rfl rfl ?_
    refine J_iconst (v := 1) hC dX1_fact_70 (by decide) ?_
    refine J_callV hC (ct_X1_wheelsBeing l G X o d hd D 1) mw_X1_wheelsBeing qw_233 (nl_da hd) (ent_da hd) rfl rfl rfl (Nat.le_of_ble_eq_true rfl) ⟨Nat.le_of_ble_eq_true rfl, Nat.le_of_ble_eq_true rfl⟩ ⟨Nat.le_of_ble_eq_true rfl, Nat.le_of_ble_eq_true rfl⟩ dX1_fact_71 ?_
    exact J_iret hC hr (by simp [dFact, c1_0, c1_1, c1_2, c1_3, c1_4]) rfl rfl dX1_fact_74
  by_cases c1_5 : p0 = 5
  · refine J_tableIn (off := 74) (tgt := 75) hC dX1_fact_1 (by rw [c1_5]; decide) (by rw [c1_5]; decide) (by rw [c1_5]; decide) (by decide) ?_
    refine J_aload_n hC (j := 0) dX1_fact_75 rfl rfl ?_
    refine J_iconst (v := 2) hC dX1_fact_76 (by decide) ?_
    refine J_callV hC (ct_X1_wheelsBeing l G X o d hd D 2) mw_X1_wheelsBeing qw_233 (nl_da hd) (ent_da hd) rfl rfl rfl (Nat.le_of_ble_eq_true rfl) ⟨Nat.le_of_ble_eq_true rfl, Nat.le_of_ble_eq_true rfl⟩ ⟨Nat.le_of_ble_eq_true rfl, Nat.le_of_ble_eq_true rfl⟩ dX1_fact_77 ?_
    exact J_iret hC hr (by simp [dFact, c1_0, c1_1, c1_2, c1_3, c1_4, c1_5]) rfl rfl dX1_fact_80
  by_cases c1_6 : p0 = 6
  · refine J_tableIn (off := 80) (tgt := 81) hC dX1_fact_1 (by rw [c1_6]; decide) (by rw [c1_6]; decide) (by rw [c1_6]; decide) (by decide) ?_
    refine J_aload_n hC (j := 0) dX1_fact_81 rfl rfl ?_
    refine J_callV hC (ct_X1_mouldyWheels l G X o d hd D) mw_X1_mouldyWheels qw_234 (nl_da hd) (ent_da hd) rfl rfl rfl (Nat.le_of_ble_eq_true rfl) ⟨Nat.le_of_ble_eq_true rfl, Nat.le_of_ble_eq_true rfl⟩ ⟨Nat.le_of_ble_eq_true rfl, Nat.le_of_ble_eq_true rfl⟩ dX1_fact_82 ?_
    exact J_iret hC hr (by simp [dFact, c1_0, c1_1, c1_2, c1_3, c1_4, c1_5, c1_6]) rfl rfl dX1_fact_85
  by_cases c1_7 : p0 = 7
  · refine J_tableIn (off := 85) (tgt := 86) hC dX1_fact_1 (by rw [c1_7]; decide) (by rw [c1_7]; decide) (by rw [c1_7]; decide) (by decide) ?_
    refine J_aload_n hC (j := 0) dX1_fact_86 rfl rfl ?_
    refine J_get hC (nl_da hd) (ent_da hd) rfl in1 1 (by decide) rfl qw_154 rfl rF dX1_fact_87 ?_
    exact J_iret hC hr (by simp [dFact, c1_0, c1_1, c1_2, c1_3, c1_4, c1_5, c1_6, c1_7]) rfl rfl dX1_fact_90
  refine J_tableOut (tgt := 91) hC dX1_fact_1 (sw8 c1_0 c1_1 c1_2 c1_3 c1_4 c1_5 c1_6 c1_7) (by decide) ?_
  refine J_aload_n hC (j := 0) dX1_fact_91 rfl rfl ?_
  refine J_get hC (nl_da hd) (ent_da hd) rfl in1 4 (by decide) rfl qw_160 rfl rF dX1_fact_92 ?_
  exact J_iret hC hr (by simp [dFact, c1_0, c1_1, c1_2, c1_3, c1_4, c1_5, c1_6, c1_7]) rfl rfl dX1_fact_95
set_option maxHeartbeats 4000000 in
set_option maxRecDepth 100000 in
theorem ct_X1_touch (l : Launch) (G : GG) (X : XX) (o : OO) (d : Nat) (hd : d < 2) (D : DD) (mm : Nat) (hm : mm < 4) (p0 : Int32) (i : Nat) (hi : i < 24) : CT l yX1_touch cX1_touch 3 none 1 22 0 0 G [.ref (aX G d (32 + mm)), .int p0, .ref (aX G d i)] (va_up X d D) o none (va_up X d (touchD D mm p0 i)) o := by
  refine CT_of (own := RX1) (lv := [(0, .ref (aX G d (32 + mm))), (1, .int p0), (2, .ref (aX G d i))]) (by decide) rfl (Nat.le_of_ble_eq_true rfl) rfl ?_
  intro p e s m args below meth c hr hC
  refine J_aload_n hC (j := 0) dX1_touch_0 rfl rfl ?_
  refine J_ifnull hC dX1_touch_1 ?_
  refine J_aload_n hC (j := 2) dX1_touch_4 rfl rfl ?_
  refine J_ifnonnull (tgt := 9) hC dX1_touch_5 (by decide) ?_
  refine J_aload_n hC (j := 2) dX1_touch_9 rfl rfl ?_
  refine J_get hC (nl_wh hd hi) (ent_wh hd hi) rfl in3 8 (by decide) rfl qw_104 rfl rF dX1_touch_10 ?_
  refine J_iconst (v := 4) hC dX1_touch_13 (by decide) ?_
  refine J_icmp_lt (tgt := 28) hC dX1_touch_14 (by decide) (fun c14 => ?_) (fun c14 => ?_)
  · refine J_aload_n hC (j := 0) dX1_touch_28 rfl rfl ?_
    refine J_get hC (nl_mk hd hm) (ent_mk hd hm) rfl in2 2 (by decide) rfl qw_137 rfl rF dX1_touch_29 ?_
    refine J_if_eq (tgt := 54) hC dX1_touch_32 (by decide) (fun c32 => ?_) (fun c32 => ?_)
    · exact J_vret hC hr (congrArg (va_up X d) (by simp [touchD, c14, c32])) rfl dX1_touch_54
    · refine J_aload_n hC (j := 2) dX1_touch_35 rfl rfl ?_
      refine J_callV hC (ct_X3_canCatch l G X o d hd D i hi) mw_X3_canCatch qw_579 (nl_wh hd hi) (ent_wh hd hi) rfl rfl rfl (Nat.le_of_ble_eq_true rfl) ⟨Nat.le_of_ble_eq_true rfl, Nat.le_of_ble_eq_true rfl⟩ ⟨Nat.le_of_ble_eq_true rfl, Nat.le_of_ble_eq_true rfl⟩ dX1_touch_36 ?_
      by_cases h36 : cCatch (D i) = true
      · refine J_tv (congrArg Value.int (bI_pos h36)) ?_
        refine J_if_eq (tgt := 54) hC dX1_touch_39 (by decide) (fun h => absurd h (by decide)) (fun _ => ?_)
        refine J_aload_n hC (j := 2) dX1_touch_42 rfl rfl ?_
        refine J_aload_n hC (j := 0) dX1_touch_43 rfl rfl ?_
        refine J_get hC (nl_mk hd hm) (ent_mk hd hm) rfl in2 2 (by decide) rfl qw_137 rfl rF dX1_touch_44 ?_
        refine J_bipush (v := 100) hC dX1_touch_47 (by decide) ?_
        refine J_iload_n hC (j := 1) dX1_touch_49 rfl rfl ?_
        refine J_iadd hC dX1_touch_50 ?_
        refine J_callVv hC (ct_X3_takeMould l G X o d hd D i hi (D (32 + mm) 2) (100 + p0)) mw_X3_takeMould qw_583 (nl_wh hd hi) (ent_wh hd hi) rfl rfl rfl (Nat.le_of_ble_eq_true rfl) ⟨Nat.le_of_ble_eq_true rfl, Nat.le_of_ble_eq_true rfl⟩ ⟨Nat.le_of_ble_eq_true rfl, Nat.le_of_ble_eq_true rfl⟩ dX1_touch_51 ?_
        exact J_vret hC hr (congrArg (va_up X d) (by simp [touchD, c14, c32, h36])) rfl dX1_touch_54
      · refine J_tv (congrArg Value.int (bI_neg h36)) ?_
        refine J_if_eq (tgt := 54) hC dX1_touch_39 (by decide) (fun _ => ?_) (fun h => absurd h (by decide))
        exact J_vret hC hr (congrArg (va_up X d) (by simp [touchD, c14, c32, h36])) rfl dX1_touch_54
  · refine J_aload_n hC (j := 0) dX1_touch_17 rfl rfl ?_
    refine J_aload_n hC (j := 2) dX1_touch_18 rfl rfl ?_
    refine J_get hC (nl_wh hd hi) (ent_wh hd hi) rfl in3 7 (by decide) rfl qw_102 rfl rF dX1_touch_19 ?_
    refine J_put (X' := (va_up X d (va_up D (32 + mm) (va_up (D (32 + mm)) 2 (D i 7))))) hC (nl_mk hd hm) (ent_mk hd hm) rfl in2 tyX2_ok nmX2 2 (by decide) rfl qw_137 rfl (by decide) (Nat.le_of_ble_eq_true rfl) (pu_mkF hd hm (by decide)) dX1_touch_22 ?_
    refine J_goto (tgt := 54) hC dX1_touch_25 (by decide) ?_
    exact J_vret hC hr (congrArg (va_up X d) (by simp [touchD, c14])) rfl dX1_touch_54
set_option maxHeartbeats 4000000 in
set_option maxRecDepth 100000 in
theorem ct_X1_leapingWheelAt (l : Launch) (G : GG) (X : XX) (o : OO) (d : Nat) (hd : d < 2) (D : DD) (q : Nat) (hq : q < 4) (p0 : Int32) : CT l yX1_leapingWheelAt cX1_leapingWheelAt 5 (some .int) 2 44 0 0 G [.ref (aX G d 40), .ref (aX G d (24 + q)), .int p0] (va_up X d D) o (some (.int (leapAt D q p0))) (va_up X d D) o := by
  refine CT_of (own := RX1) (lv := [(0, .ref (aX G d 40)), (1, .ref (aX G d (24 + q))), (2, .int p0)]) (by decide) rfl (Nat.le_of_ble_eq_true rfl) rfl ?_
  intro p e s m args below meth c hr hC
  refine J_aload_n hC (j := 1) dX1_leapingWheelAt_0 rfl rfl ?_
  refine J_ifnonnull (tgt := 6) hC dX1_leapingWheelAt_1 (by decide) ?_
  refine J_aload_n hC (j := 1) dX1_leapingWheelAt_6 rfl rfl ?_
  refine J_iload_n hC (j := 2) dX1_leapingWheelAt_7 rfl rfl ?_
  refine J_callV hC (ct_X0_wheelAt l G X o d hd D q hq p0) mw_X0_wheelAt qw_563 (nl_ce hd hq) (ent_ce hd hq) rfl rfl rfl (Nat.le_of_ble_eq_true rfl) ⟨Nat.le_of_ble_eq_true rfl, Nat.le_of_ble_eq_true rfl⟩ ⟨Nat.le_of_ble_eq_true rfl, Nat.le_of_ble_eq_true rfl⟩ dX1_leapingWheelAt_8 ?_
  refine J_istore_n (lv' := [(3, .int (wAt (D (28 + q)) p0)), (0, .ref (aX G d 40)), (1, .ref (aX G d (24 + q))), (2, .int p0)]) hC dX1_leapingWheelAt_11 rfl (by decide) rfl ?_
  refine J_aload_n hC (j := 1) dX1_leapingWheelAt_12 rfl rfl ?_
  refine J_iload_n hC (j := 0) dX1_leapingWheelAt_13 rfl rfl ?_
  refine J_callV hC (ct_X1_lyingWheel l G X o d hd D (wAt (D (28 + q)) p0)) mw_X1_lyingWheel qw_209 (nl_da hd) (ent_da hd) rfl rfl rfl (Nat.le_of_ble_eq_true rfl) ⟨Nat.le_of_ble_eq_true rfl, Nat.le_of_ble_eq_true rfl⟩ ⟨Nat.le_of_ble_eq_true rfl, Nat.le_of_ble_eq_true rfl⟩ dX1_leapingWheelAt_14 ?_
  by_cases h14 : lies D (wAt (D (28 + q)) p0) = true
  · refine J_tv (lyV_p h14) ?_
    refine J_astore (lv' := [(4, .ref (aX G d (ix (wAt (D (28 + q)) p0)))), (3, .int (wAt (D (28 + q)) p0)), (0, .ref (aX G d 40)), (1, .ref (aX G d (24 + q))), (2, .int p0)]) hC dX1_leapingWheelAt_17 (by decide) rfl ?_
    refine J_aload hC (j := 0) dX1_leapingWheelAt_19 rfl ?_
    refine J_ifnull hC dX1_leapingWheelAt_21 ?_
    refine J_aload hC (j := 0) dX1_leapingWheelAt_24 rfl ?_
    refine J_get hC (nl_wh hd (inW_lt (lies_w h14))) (ent_wh hd (inW_lt (lies_w h14))) rfl in3 8 (by decide) rfl qw_104 rfl rF dX1_leapingWheelAt_26 ?_
    refine J_aload_n hC (j := 3) dX1_leapingWheelAt_29 rfl rfl ?_
    refine J_callV hC (ct_X0_growthThatLeaps l G X o d hd D q hq) mw_X0_growthThatLeaps qw_592 (nl_ce hd hq) (ent_ce hd hq) rfl rfl rfl (Nat.le_of_ble_eq_true rfl) ⟨Nat.le_of_ble_eq_true rfl, Nat.le_of_ble_eq_true rfl⟩ ⟨Nat.le_of_ble_eq_true rfl, Nat.le_of_ble_eq_true rfl⟩ dX1_leapingWheelAt_30 ?_
    refine J_icmp_lt (tgt := 40) hC dX1_leapingWheelAt_33 (by decide) (fun c33 => ?_) (fun c33 => ?_)
    · refine J_iconst (v := (-1)) hC dX1_leapingWheelAt_40 (by decide) ?_
      exact J_iret hC hr (by simp [leapAt, h14, c33]) rfl rfl dX1_leapingWheelAt_41
    · refine J_iload_n hC (j := 1) dX1_leapingWheelAt_36 rfl rfl ?_
      refine J_goto (tgt := 41) hC dX1_leapingWheelAt_37 (by decide) ?_
      exact J_iret hC hr (by simp [leapAt, h14, c33]) rfl rfl dX1_leapingWheelAt_41
  · refine J_tv (lyV_n h14) ?_
    refine J_astoreN (lv' := [(4, .null), (3, .int (wAt (D (28 + q)) p0)), (0, .ref (aX G d 40)), (1, .ref (aX G d (24 + q))), (2, .int p0)]) hC dX1_leapingWheelAt_17 (by decide) rfl ?_
    refine J_aloadN hC (j := 0) dX1_leapingWheelAt_19 rfl ?_
    refine J_ifnullN (tgt := 40) hC dX1_leapingWheelAt_21 (by decide) ?_
    refine J_iconst (v := (-1)) hC dX1_leapingWheelAt_40 (by decide) ?_
    exact J_iret hC hr (by simp [leapAt, h14]) rfl rfl dX1_leapingWheelAt_41
set_option maxHeartbeats 4000000 in
set_option maxRecDepth 100000 in
theorem ct_X1_letMouldsLeap (l : Launch) (G : GG) (X : XX) (o : OO) (d : Nat) (hd : d < 2) (D : DD) : CT l yX1_letMouldsLeap cX1_letMouldsLeap 6 none 3 68 0 0 G [.ref (aX G d 40)] (va_up X d D) o none (va_up X d (leapAll D 24)) o := by
  refine CT_of (own := RX1) (lv := [(0, .ref (aX G d 40))]) (by decide) rfl (Nat.le_of_ble_eq_true rfl) rfl ?_
  intro p e s m args below meth c hr hC
  refine J_iconst (v := 0) hC dX1_letMouldsLeap_0 (by decide) ?_
  refine J_istore_n (lv' := [(1, .int 0), (0, .ref (aX G d 40))]) hC dX1_letMouldsLeap_1 rfl (by decide) rfl ?_
  have L2 : ∀ n i : Nat, i + n = 24 → Jd p l e ({ frames := 3, cells := 0, slots := 0, locals := 68 }) s m args below meth c (MQ below (CQ G none (va_up X d (leapAll D 24)) o) args s 0 0 (gB G)) G 6 0 0 (va_up X d (leapAll D i)) o 2 [(0, .ref (aX G d 40)), (1, .int (nI i))] [] := by
    intro n
    induction n with
    | zero =>
      intro i hn 
      obtain rfl : i = 24 := by omega
      refine J_iload_n hC (j := 1) dX1_letMouldsLeap_2 rfl rfl ?_
      refine J_bipush (v := 24) hC dX1_letMouldsLeap_3 (by decide) ?_
      refine J_icmp_ge (tgt := 108) hC dX1_letMouldsLeap_5 (by decide) (fun c5 => ?_) (fun c5 => absurd c5 (not_not_intro (le_nI (K := 24) rfl (by omega) (by omega))))
      exact J_vret hC hr rfl rfl dX1_letMouldsLeap_108
    | succ n ih =>
      intro i hn 
      refine J_iload_n hC (j := 1) dX1_letMouldsLeap_2 rfl rfl ?_
      refine J_bipush (v := 24) hC dX1_letMouldsLeap_3 (by decide) ?_
      refine J_icmp_ge (tgt := 108) hC dX1_letMouldsLeap_5 (by decide) (fun c5 => absurd c5 (nle_nI (K := 24) rfl (by omega) (by omega))) (fun c5 => ?_)
      refine J_aload_n hC (j := 0) dX1_letMouldsLeap_8 rfl rfl ?_
      refine J_iload_n hC (j := 1) dX1_letMouldsLeap_9 rfl rfl ?_
      refine J_callV hC (ct_X1_lyingWheel l G X o d hd (leapAll D i) (nI i)) mw_X1_lyingWheel qw_209 (nl_da hd) (ent_da hd) rfl rfl rfl (Nat.le_of_ble_eq_true rfl) ⟨Nat.le_of_ble_eq_true rfl, Nat.le_of_ble_eq_true rfl⟩ ⟨Nat.le_of_ble_eq_true rfl, Nat.le_of_ble_eq_true rfl⟩ dX1_letMouldsLeap_10 ?_
      by_cases h10 : lies (leapAll D i) (nI i) = true
      · refine J_tv (lyV_p h10) ?_
        refine J_astore_n (lv' := [(2, .ref (aX G d (ix (nI i)))), (0, .ref (aX G d 40)), (1, .int (nI i))]) hC dX1_letMouldsLeap_13 rfl (by decide) rfl ?_
        refine J_aload_n hC (j := 0) dX1_letMouldsLeap_14 rfl rfl ?_
        refine J_ifnonnull (tgt := 22) hC dX1_letMouldsLeap_15 (by decide) ?_
        refine J_aload_n hC (j := 1) dX1_letMouldsLeap_22 rfl rfl ?_
        refine J_aload_n hC (j := 0) dX1_letMouldsLeap_23 rfl rfl ?_
        refine J_get hC (nl_wh hd (inW_lt (lies_w h10))) (ent_wh hd (inW_lt (lies_w h10))) rfl in3 1 (by decide) rfl qw_92 rfl rF dX1_letMouldsLeap_24 ?_
        refine J_callV hC (ct_X1_cellarOf l G X o d hd (leapAll D i) ((leapAll D i) (ix (nI i)) 1)) mw_X1_cellarOf qw_246 (nl_da hd) (ent_da hd) rfl rfl rfl (Nat.le_of_ble_eq_true rfl) ⟨Nat.le_of_ble_eq_true rfl, Nat.le_of_ble_eq_true rfl⟩ ⟨Nat.le_of_ble_eq_true rfl, Nat.le_of_ble_eq_true rfl⟩ dX1_letMouldsLeap_27 ?_
        by_cases h27 : inC (leapAll D i) ((leapAll D i) (ix (nI i)) 1) = true
        · refine J_tv (ceV_p h27) ?_
          refine J_astore_n (lv' := [(3, .ref (aX G d (24 + (ix ((leapAll D i) (ix (nI i)) 1))))), (2, .ref (aX G d (ix (nI i)))), (0, .ref (aX G d 40)), (1, .int (nI i))]) hC dX1_letMouldsLeap_30 rfl (by decide) rfl ?_
          refine J_aload_n hC (j := 1) dX1_letMouldsLeap_31 rfl rfl ?_
          refine J_ifnull hC dX1_letMouldsLeap_32 ?_
          refine J_aload_n hC (j := 0) dX1_letMouldsLeap_35 rfl rfl ?_
          refine J_ifnull hC dX1_letMouldsLeap_36 ?_
          refine J_aload_n hC (j := 1) dX1_letMouldsLeap_39 rfl rfl ?_
          refine J_callV hC (ct_X3_canCatch l G X o d hd (leapAll D i) (ix (nI i)) (inW_lt (lies_w h10))) mw_X3_canCatch qw_579 (nl_wh hd (inW_lt (lies_w h10))) (ent_wh hd (inW_lt (lies_w h10))) rfl rfl rfl (Nat.le_of_ble_eq_true rfl) ⟨Nat.le_of_ble_eq_true rfl, Nat.le_of_ble_eq_true rfl⟩ ⟨Nat.le_of_ble_eq_true rfl, Nat.le_of_ble_eq_true rfl⟩ dX1_letMouldsLeap_40 ?_
          by_cases h40 : cCatch ((leapAll D i) (ix (nI i))) = true
          · refine J_tv (congrArg Value.int (bI_pos h40)) ?_
            refine J_if_eq (tgt := 102) hC dX1_letMouldsLeap_43 (by decide) (fun h => absurd h (by decide)) (fun _ => ?_)
            refine J_aload_n hC (j := 2) dX1_letMouldsLeap_46 rfl rfl ?_
            refine J_aload_n hC (j := 0) dX1_letMouldsLeap_47 rfl rfl ?_
            refine J_aload_n hC (j := 1) dX1_letMouldsLeap_48 rfl rfl ?_
            refine J_get hC (nl_wh hd (inW_lt (lies_w h10))) (ent_wh hd (inW_lt (lies_w h10))) rfl in3 2 (by decide) rfl qw_95 rfl rF dX1_letMouldsLeap_49 ?_
            refine J_iconst (v := 1) hC dX1_letMouldsLeap_52 (by decide) ?_
            refine J_isub hC dX1_letMouldsLeap_53 ?_
            refine J_callV hC (ct_X1_leapingWheelAt l G X o d hd (leapAll D i) (ix ((leapAll D i) (ix (nI i)) 1)) (inC_lt h27) (((leapAll D i) (ix (nI i)) 2) - 1)) mw_X1_leapingWheelAt qw_588 (nl_da hd) (ent_da hd) rfl rfl rfl (Nat.le_of_ble_eq_true rfl) ⟨Nat.le_of_ble_eq_true rfl, Nat.le_of_ble_eq_true rfl⟩ ⟨Nat.le_of_ble_eq_true rfl, Nat.le_of_ble_eq_true rfl⟩ dX1_letMouldsLeap_54 ?_
            refine J_istore (lv' := [(4, .int (leapAt (leapAll D i) (ix ((leapAll D i) (ix (nI i)) 1)) (((leapAll D i) (ix (nI i)) 2) - 1))), (3, .ref (aX G d (24 + (ix ((leapAll D i) (ix (nI i)) 1))))), (2, .ref (aX G d (ix (nI i)))), (0, .ref (aX G d 40)), (1, .int (nI i))]) hC dX1_letMouldsLeap_57 (by decide) rfl ?_
            refine J_iload hC (j := 0) dX1_letMouldsLeap_59 rfl ?_
            refine J_iconst (v := (-1)) hC dX1_letMouldsLeap_61 (by decide) ?_
            refine J_icmp_ne (tgt := 78) hC dX1_letMouldsLeap_62 (by decide) (fun c62 => ?_) (fun c62 => ?_)
            · refine J_aload_n hC (j := 3) dX1_letMouldsLeap_78 rfl rfl ?_
              refine J_iload hC (j := 0) dX1_letMouldsLeap_79 rfl ?_
              refine J_callV hC (ct_X1_lyingWheel l G X o d hd (leapAll D i) (leapAt (leapAll D i) (ix ((leapAll D i) (ix (nI i)) 1)) (((leapAll D i) (ix (nI i)) 2) - 1))) mw_X1_lyingWheel qw_209 (nl_da hd) (ent_da hd) rfl rfl rfl (Nat.le_of_ble_eq_true rfl) ⟨Nat.le_of_ble_eq_true rfl, Nat.le_of_ble_eq_true rfl⟩ ⟨Nat.le_of_ble_eq_true rfl, Nat.le_of_ble_eq_true rfl⟩ dX1_letMouldsLeap_81 ?_
              by_cases h81 : lies (leapAll D i) (leapAt (leapAll D i) (ix ((leapAll D i) (ix (nI i)) 1)) (((leapAll D i) (ix (nI i)) 2) - 1)) = true
              · refine J_tv (lyV_p h81) ?_
                refine J_astore (lv' := [(5, .ref (aX G d (ix (leapAt (leapAll D i) (ix ((leapAll D i) (ix (nI i)) 1)) (((leapAll D i) (ix (nI i)) 2) - 1))))), (4, .int (leapAt (leapAll D i) (ix ((leapAll D i) (ix (nI i)) 1)) (((leapAll D i) (ix (nI i)) 2) - 1))), (3, .ref (aX G d (24 + (ix ((leapAll D i) (ix (nI i)) 1))))), (2, .ref (aX G d (ix (nI i)))), (0, .ref (aX G d 40)), (1, .int (nI i))]) hC dX1_letMouldsLeap_84 (by decide) rfl ?_
                refine J_aload hC (j := 0) dX1_letMouldsLeap_86 rfl ?_
                refine J_ifnull hC dX1_letMouldsLeap_88 ?_
                refine J_aload_n hC (j := 3) dX1_letMouldsLeap_91 rfl rfl ?_
                refine J_aload hC (j := 0) dX1_letMouldsLeap_92 rfl ?_
                refine J_get hC (nl_wh hd (inW_lt (lies_w h81))) (ent_wh hd (inW_lt (lies_w h81))) rfl in3 7 (by decide) rfl qw_102 rfl rF dX1_letMouldsLeap_94 ?_
                refine J_iload hC (j := 1) dX1_letMouldsLeap_97 rfl ?_
                refine J_callVv hC (ct_X3_takeMould l G X o d hd (leapAll D i) (ix (nI i)) (inW_lt (lies_w h10)) ((leapAll D i) (ix (leapAt (leapAll D i) (ix ((leapAll D i) (ix (nI i)) 1)) (((leapAll D i) (ix (nI i)) 2) - 1))) 7) (leapAt (leapAll D i) (ix ((leapAll D i) (ix (nI i)) 1)) (((leapAll D i) (ix (nI i)) 2) - 1))) mw_X3_takeMould qw_583 (nl_wh hd (inW_lt (lies_w h10))) (ent_wh hd (inW_lt (lies_w h10))) rfl rfl rfl (Nat.le_of_ble_eq_true rfl) ⟨Nat.le_of_ble_eq_true rfl, Nat.le_of_ble_eq_true rfl⟩ ⟨Nat.le_of_ble_eq_true rfl, Nat.le_of_ble_eq_true rfl⟩ dX1_letMouldsLeap_99 ?_
                refine J_iinc (j := 5) (v := ((nI i) + 1)) (lv' := [(1, .int ((nI i) + 1)), (5, .ref (aX G d (ix (leapAt (leapAll D i) (ix ((leapAll D i) (ix (nI i)) 1)) (((leapAll D i) (ix (nI i)) 2) - 1))))), (4, .int (leapAt (leapAll D i) (ix ((leapAll D i) (ix (nI i)) 1)) (((leapAll D i) (ix (nI i)) 2) - 1))), (3, .ref (aX G d (24 + (ix ((leapAll D i) (ix (nI i)) 1))))), (2, .ref (aX G d (ix (nI i)))), (0, .ref (aX G d 40))]) hC dX1_letMouldsLeap_102 rfl rfl (by decide) rfl ?_
                refine J_goto (tgt := 2) hC dX1_letMouldsLeap_105 (by decide) ?_
                refine J_lv [5, 0] (lv' := [(0, .ref (aX G d 40)), (1, .int ((nI i) + 1))]) rfl ?_
                exact J_cast (congrArg (va_up X d) (by show _ = leapW (leapAll D i) (nI i); simp [leapW, leapS, h10, h27, h40, c62, h81])) (by simp [nI_succ, h10, h27, h40, c62, h81]) rfl (ih (i + 1) (by omega) )
              · refine J_tv (lyV_n h81) ?_
                refine J_astoreN (lv' := [(5, .null), (4, .int (leapAt (leapAll D i) (ix ((leapAll D i) (ix (nI i)) 1)) (((leapAll D i) (ix (nI i)) 2) - 1))), (3, .ref (aX G d (24 + (ix ((leapAll D i) (ix (nI i)) 1))))), (2, .ref (aX G d (ix (nI i)))), (0, .ref (aX G d 40)), (1, .int (nI i))]) hC dX1_letMouldsLeap_84 (by decide) rfl ?_
                refine J_aloadN hC (j := 0) dX1_letMouldsLeap_86 rfl ?_
                refine J_ifnullN (tgt := 102) hC dX1_letMouldsLeap_88 (by decide) ?_
                refine J_iinc (j := 5) (v := ((nI i) + 1)) (lv' := [(1, .int ((nI i) + 1)), (5, .null), (4, .int (leapAt (leapAll D i) (ix ((leapAll D i) (ix (nI i)) 1)) (((leapAll D i) (ix (nI i)) 2) - 1))), (3, .ref (aX G d (24 + (ix ((leapAll D i) (ix (nI i)) 1))))), (2, .ref (aX G d (ix (nI i)))), (0, .ref (aX G d 40))]) hC dX1_letMouldsLeap_102 rfl rfl (by decide) rfl ?_
                refine J_goto (tgt := 2) hC dX1_letMouldsLeap_105 (by decide) ?_
                refine J_lv [5, 0] (lv' := [(0, .ref (aX G d 40)), (1, .int ((nI i) + 1))]) rfl ?_
                exact J_cast (congrArg (va_up X d) (by show _ = leapW (leapAll D i) (nI i); simp [leapW, leapS, h10, h27, h40, c62, h81])) (by simp [nI_succ, h10, h27, h40, c62, h81]) rfl (ih (i + 1) (by omega) )
            · refine J_aload_n hC (j := 3) dX1_letMouldsLeap_65 rfl rfl ?_
              refine J_aload_n hC (j := 1) dX1_letMouldsLeap_66 rfl rfl ?_
              refine J_aload_n hC (j := 2) dX1_letMouldsLeap_67 rfl rfl ?_
              refine J_get hC (nl_wh hd (inW_lt (lies_w h10))) (ent_wh hd (inW_lt (lies_w h10))) rfl in3 2 (by decide) rfl qw_95 rfl rF dX1_letMouldsLeap_68 ?_
              refine J_iconst (v := 1) hC dX1_letMouldsLeap_71 (by decide) ?_
              refine J_iadd hC dX1_letMouldsLeap_72 ?_
              refine J_callV hC (ct_X1_leapingWheelAt l G X o d hd (leapAll D i) (ix ((leapAll D i) (ix (nI i)) 1)) (inC_lt h27) (((leapAll D i) (ix (nI i)) 2) + 1)) mw_X1_leapingWheelAt qw_588 (nl_da hd) (ent_da hd) rfl rfl rfl (Nat.le_of_ble_eq_true rfl) ⟨Nat.le_of_ble_eq_true rfl, Nat.le_of_ble_eq_true rfl⟩ ⟨Nat.le_of_ble_eq_true rfl, Nat.le_of_ble_eq_true rfl⟩ dX1_letMouldsLeap_73 ?_
              refine J_istore (lv' := [(4, .int (leapAt (leapAll D i) (ix ((leapAll D i) (ix (nI i)) 1)) (((leapAll D i) (ix (nI i)) 2) + 1))), (3, .ref (aX G d (24 + (ix ((leapAll D i) (ix (nI i)) 1))))), (2, .ref (aX G d (ix (nI i)))), (0, .ref (aX G d 40)), (1, .int (nI i))]) hC dX1_letMouldsLeap_76 (by decide) rfl ?_
              refine J_aload_n hC (j := 3) dX1_letMouldsLeap_78 rfl rfl ?_
              refine J_iload hC (j := 0) dX1_letMouldsLeap_79 rfl ?_
              refine J_callV hC (ct_X1_lyingWheel l G X o d hd (leapAll D i) (leapAt (leapAll D i) (ix ((leapAll D i) (ix (nI i)) 1)) (((leapAll D i) (ix (nI i)) 2) + 1))) mw_X1_lyingWheel qw_209 (nl_da hd) (ent_da hd) rfl rfl rfl (Nat.le_of_ble_eq_true rfl) ⟨Nat.le_of_ble_eq_true rfl, Nat.le_of_ble_eq_true rfl⟩ ⟨Nat.le_of_ble_eq_true rfl, Nat.le_of_ble_eq_true rfl⟩ dX1_letMouldsLeap_81 ?_
              by_cases h81 : lies (leapAll D i) (leapAt (leapAll D i) (ix ((leapAll D i) (ix (nI i)) 1)) (((leapAll D i) (ix (nI i)) 2) + 1)) = true
              · refine J_tv (lyV_p h81) ?_
                refine J_astore (lv' := [(5, .ref (aX G d (ix (leapAt (leapAll D i) (ix ((leapAll D i) (ix (nI i)) 1)) (((leapAll D i) (ix (nI i)) 2) + 1))))), (4, .int (leapAt (leapAll D i) (ix ((leapAll D i) (ix (nI i)) 1)) (((leapAll D i) (ix (nI i)) 2) + 1))), (3, .ref (aX G d (24 + (ix ((leapAll D i) (ix (nI i)) 1))))), (2, .ref (aX G d (ix (nI i)))), (0, .ref (aX G d 40)), (1, .int (nI i))]) hC dX1_letMouldsLeap_84 (by decide) rfl ?_
                refine J_aload hC (j := 0) dX1_letMouldsLeap_86 rfl ?_
                refine J_ifnull hC dX1_letMouldsLeap_88 ?_
                refine J_aload_n hC (j := 3) dX1_letMouldsLeap_91 rfl rfl ?_
                refine J_aload hC (j := 0) dX1_letMouldsLeap_92 rfl ?_
                refine J_get hC (nl_wh hd (inW_lt (lies_w h81))) (ent_wh hd (inW_lt (lies_w h81))) rfl in3 7 (by decide) rfl qw_102 rfl rF dX1_letMouldsLeap_94 ?_
                refine J_iload hC (j := 1) dX1_letMouldsLeap_97 rfl ?_
                refine J_callVv hC (ct_X3_takeMould l G X o d hd (leapAll D i) (ix (nI i)) (inW_lt (lies_w h10)) ((leapAll D i) (ix (leapAt (leapAll D i) (ix ((leapAll D i) (ix (nI i)) 1)) (((leapAll D i) (ix (nI i)) 2) + 1))) 7) (leapAt (leapAll D i) (ix ((leapAll D i) (ix (nI i)) 1)) (((leapAll D i) (ix (nI i)) 2) + 1))) mw_X3_takeMould qw_583 (nl_wh hd (inW_lt (lies_w h10))) (ent_wh hd (inW_lt (lies_w h10))) rfl rfl rfl (Nat.le_of_ble_eq_true rfl) ⟨Nat.le_of_ble_eq_true rfl, Nat.le_of_ble_eq_true rfl⟩ ⟨Nat.le_of_ble_eq_true rfl, Nat.le_of_ble_eq_true rfl⟩ dX1_letMouldsLeap_99 ?_
                refine J_iinc (j := 5) (v := ((nI i) + 1)) (lv' := [(1, .int ((nI i) + 1)), (5, .ref (aX G d (ix (leapAt (leapAll D i) (ix ((leapAll D i) (ix (nI i)) 1)) (((leapAll D i) (ix (nI i)) 2) + 1))))), (4, .int (leapAt (leapAll D i) (ix ((leapAll D i) (ix (nI i)) 1)) (((leapAll D i) (ix (nI i)) 2) + 1))), (3, .ref (aX G d (24 + (ix ((leapAll D i) (ix (nI i)) 1))))), (2, .ref (aX G d (ix (nI i)))), (0, .ref (aX G d 40))]) hC dX1_letMouldsLeap_102 rfl rfl (by decide) rfl ?_
                refine J_goto (tgt := 2) hC dX1_letMouldsLeap_105 (by decide) ?_
                refine J_lv [5, 0] (lv' := [(0, .ref (aX G d 40)), (1, .int ((nI i) + 1))]) rfl ?_
                exact J_cast (congrArg (va_up X d) (by show _ = leapW (leapAll D i) (nI i); simp [leapW, leapS, h10, h27, h40, c62, h81])) (by simp [nI_succ, h10, h27, h40, c62, h81]) rfl (ih (i + 1) (by omega) )
              · refine J_tv (lyV_n h81) ?_
                refine J_astoreN (lv' := [(5, .null), (4, .int (leapAt (leapAll D i) (ix ((leapAll D i) (ix (nI i)) 1)) (((leapAll D i) (ix (nI i)) 2) + 1))), (3, .ref (aX G d (24 + (ix ((leapAll D i) (ix (nI i)) 1))))), (2, .ref (aX G d (ix (nI i)))), (0, .ref (aX G d 40)), (1, .int (nI i))]) hC dX1_letMouldsLeap_84 (by decide) rfl ?_
                refine J_aloadN hC (j := 0) dX1_letMouldsLeap_86 rfl ?_
                refine J_ifnullN (tgt := 102) hC dX1_letMouldsLeap_88 (by decide) ?_
                refine J_iinc (j := 5) (v := ((nI i) + 1)) (lv' := [(1, .int ((nI i) + 1)), (5, .null), (4, .int (leapAt (leapAll D i) (ix ((leapAll D i) (ix (nI i)) 1)) (((leapAll D i) (ix (nI i)) 2) + 1))), (3, .ref (aX G d (24 + (ix ((leapAll D i) (ix (nI i)) 1))))), (2, .ref (aX G d (ix (nI i)))), (0, .ref (aX G d 40))]) hC dX1_letMouldsLeap_102 rfl rfl (by decide) rfl ?_
                refine J_goto (tgt := 2) hC dX1_letMouldsLeap_105 (by decide) ?_
                refine J_lv [5, 0] (lv' := [(0, .ref (aX G d 40)), (1, .int ((nI i) + 1))]) rfl ?_
                exact J_cast (congrArg (va_up X d) (by show _ = leapW (leapAll D i) (nI i); simp [leapW, leapS, h10, h27, h40, c62, h81])) (by simp [nI_succ, h10, h27, h40, c62, h81]) rfl (ih (i + 1) (by omega) )
          · refine J_tv (congrArg Value.int (bI_neg h40)) ?_
            refine J_if_eq (tgt := 102) hC dX1_letMouldsLeap_43 (by decide) (fun _ => ?_) (fun h => absurd h (by decide))
            refine J_iinc (j := 3) (v := ((nI i) + 1)) (lv' := [(1, .int ((nI i) + 1)), (3, .ref (aX G d (24 + (ix ((leapAll D i) (ix (nI i)) 1))))), (2, .ref (aX G d (ix (nI i)))), (0, .ref (aX G d 40))]) hC dX1_letMouldsLeap_102 rfl rfl (by decide) rfl ?_
            refine J_goto (tgt := 2) hC dX1_letMouldsLeap_105 (by decide) ?_
            refine J_lv [3, 0] (lv' := [(0, .ref (aX G d 40)), (1, .int ((nI i) + 1))]) rfl ?_
            exact J_cast (congrArg (va_up X d) (by show _ = leapW (leapAll D i) (nI i); simp [leapW, leapS, h10, h27, h40])) (by simp [nI_succ, h10, h27, h40]) rfl (ih (i + 1) (by omega) )
        · refine J_tv (ceV_n h27) ?_
          refine J_astore_nN (lv' := [(3, .null), (2, .ref (aX G d (ix (nI i)))), (0, .ref (aX G d 40)), (1, .int (nI i))]) hC dX1_letMouldsLeap_30 rfl (by decide) rfl ?_
          refine J_aload_n hC (j := 1) dX1_letMouldsLeap_31 rfl rfl ?_
          refine J_ifnull hC dX1_letMouldsLeap_32 ?_
          refine J_aload_nN hC (j := 0) dX1_letMouldsLeap_35 rfl rfl ?_
          refine J_ifnullN (tgt := 102) hC dX1_letMouldsLeap_36 (by decide) ?_
          refine J_iinc (j := 3) (v := ((nI i) + 1)) (lv' := [(1, .int ((nI i) + 1)), (3, .null), (2, .ref (aX G d (ix (nI i)))), (0, .ref (aX G d 40))]) hC dX1_letMouldsLeap_102 rfl rfl (by decide) rfl ?_
          refine J_goto (tgt := 2) hC dX1_letMouldsLeap_105 (by decide) ?_
          refine J_lv [3, 0] (lv' := [(0, .ref (aX G d 40)), (1, .int ((nI i) + 1))]) rfl ?_
          exact J_cast (congrArg (va_up X d) (by show _ = leapW (leapAll D i) (nI i); simp [leapW, leapS, h10, h27])) (by simp [nI_succ, h10, h27]) rfl (ih (i + 1) (by omega) )
      · refine J_tv (lyV_n h10) ?_
        refine J_astore_nN (lv' := [(2, .null), (0, .ref (aX G d 40)), (1, .int (nI i))]) hC dX1_letMouldsLeap_13 rfl (by decide) rfl ?_
        refine J_aload_nN hC (j := 0) dX1_letMouldsLeap_14 rfl rfl ?_
        refine J_ifnonnullN hC dX1_letMouldsLeap_15 ?_
        refine J_null hC dX1_letMouldsLeap_18 ?_
        refine J_goto (tgt := 30) hC dX1_letMouldsLeap_19 (by decide) ?_
        refine J_astore_nN (lv' := [(3, .null), (2, .null), (0, .ref (aX G d 40)), (1, .int (nI i))]) hC dX1_letMouldsLeap_30 rfl (by decide) rfl ?_
        refine J_aload_nN hC (j := 1) dX1_letMouldsLeap_31 rfl rfl ?_
        refine J_ifnullN (tgt := 102) hC dX1_letMouldsLeap_32 (by decide) ?_
        refine J_iinc (j := 3) (v := ((nI i) + 1)) (lv' := [(1, .int ((nI i) + 1)), (3, .null), (2, .null), (0, .ref (aX G d 40))]) hC dX1_letMouldsLeap_102 rfl rfl (by decide) rfl ?_
        refine J_goto (tgt := 2) hC dX1_letMouldsLeap_105 (by decide) ?_
        refine J_lv [3, 0] (lv' := [(0, .ref (aX G d 40)), (1, .int ((nI i) + 1))]) rfl ?_
        exact J_cast (congrArg (va_up X d) (by show _ = leapW (leapAll D i) (nI i); simp [leapW, leapS, h10])) (by simp [nI_succ, h10]) rfl (ih (i + 1) (by omega) )
  refine J_lv [1, 0] (lv' := [(0, .ref (aX G d 40)), (1, .int 0)]) rfl ?_
  exact J_cast (by first | rfl | simp) (by first | rfl | simp [nI_0]) rfl (L2 24 0 (by omega) )
set_option maxHeartbeats 4000000 in
set_option maxRecDepth 100000 in
theorem ct_X1_letWheelsAge (l : Launch) (G : GG) (X : XX) (o : OO) (d : Nat) (hd : d < 2) (D : DD) : CT l yX1_letWheelsAge cX1_letWheelsAge 4 none 3 68 0 0 G [.ref (aX G d 40)] (va_up X d D) o none (va_up X d (ageAll D 24)) o := by
  refine CT_of (own := RX1) (lv := [(0, .ref (aX G d 40))]) (by decide) rfl (Nat.le_of_ble_eq_true rfl) rfl ?_
  intro p e s m args below meth c hr hC
  refine J_iconst (v := 0) hC dX1_letWheelsAge_0 (by decide) ?_
  refine J_istore_n (lv' := [(1, .int 0), (0, .ref (aX G d 40))]) hC dX1_letWheelsAge_1 rfl (by decide) rfl ?_
  have L2 : ∀ n i : Nat, i + n = 24 → Jd p l e ({ frames := 3, cells := 0, slots := 0, locals := 68 }) s m args below meth c (MQ below (CQ G none (va_up X d (ageAll D 24)) o) args s 0 0 (gB G)) G 4 0 0 (va_up X d (ageAll D i)) o 2 [(0, .ref (aX G d 40)), (1, .int (nI i))] [] := by
    intro n
    induction n with
    | zero =>
      intro i hn 
      obtain rfl : i = 24 := by omega
      refine J_iload_n hC (j := 1) dX1_letWheelsAge_2 rfl rfl ?_
      refine J_bipush (v := 24) hC dX1_letWheelsAge_3 (by decide) ?_
      refine J_icmp_ge (tgt := 70) hC dX1_letWheelsAge_5 (by decide) (fun c5 => ?_) (fun c5 => absurd c5 (not_not_intro (le_nI (K := 24) rfl (by omega) (by omega))))
      exact J_vret hC hr rfl rfl dX1_letWheelsAge_70
    | succ n ih =>
      intro i hn 
      refine J_iload_n hC (j := 1) dX1_letWheelsAge_2 rfl rfl ?_
      refine J_bipush (v := 24) hC dX1_letWheelsAge_3 (by decide) ?_
      refine J_icmp_ge (tgt := 70) hC dX1_letWheelsAge_5 (by decide) (fun c5 => absurd c5 (nle_nI (K := 24) rfl (by omega) (by omega))) (fun c5 => ?_)
      refine J_aload_n hC (j := 0) dX1_letWheelsAge_8 rfl rfl ?_
      refine J_iload_n hC (j := 1) dX1_letWheelsAge_9 rfl rfl ?_
      refine J_callV hC (ct_X1_lyingWheel l G X o d hd (ageAll D i) (nI i)) mw_X1_lyingWheel qw_209 (nl_da hd) (ent_da hd) rfl rfl rfl (Nat.le_of_ble_eq_true rfl) ⟨Nat.le_of_ble_eq_true rfl, Nat.le_of_ble_eq_true rfl⟩ ⟨Nat.le_of_ble_eq_true rfl, Nat.le_of_ble_eq_true rfl⟩ dX1_letWheelsAge_10 ?_
      by_cases h10 : lies (ageAll D i) (nI i) = true
      · refine J_tv (lyV_p h10) ?_
        refine J_astore_n (lv' := [(2, .ref (aX G d (ix (nI i)))), (0, .ref (aX G d 40)), (1, .int (nI i))]) hC dX1_letWheelsAge_13 rfl (by decide) rfl ?_
        refine J_aload_n hC (j := 0) dX1_letWheelsAge_14 rfl rfl ?_
        refine J_ifnonnull (tgt := 22) hC dX1_letWheelsAge_15 (by decide) ?_
        refine J_aload_n hC (j := 1) dX1_letWheelsAge_22 rfl rfl ?_
        refine J_aload_n hC (j := 0) dX1_letWheelsAge_23 rfl rfl ?_
        refine J_get hC (nl_wh hd (inW_lt (lies_w h10))) (ent_wh hd (inW_lt (lies_w h10))) rfl in3 1 (by decide) rfl qw_92 rfl rF dX1_letWheelsAge_24 ?_
        refine J_callV hC (ct_X1_cellarOf l G X o d hd (ageAll D i) ((ageAll D i) (ix (nI i)) 1)) mw_X1_cellarOf qw_246 (nl_da hd) (ent_da hd) rfl rfl rfl (Nat.le_of_ble_eq_true rfl) ⟨Nat.le_of_ble_eq_true rfl, Nat.le_of_ble_eq_true rfl⟩ ⟨Nat.le_of_ble_eq_true rfl, Nat.le_of_ble_eq_true rfl⟩ dX1_letWheelsAge_27 ?_
        by_cases h27 : inC (ageAll D i) ((ageAll D i) (ix (nI i)) 1) = true
        · refine J_tv (ceV_p h27) ?_
          refine J_astore_n (lv' := [(3, .ref (aX G d (24 + (ix ((ageAll D i) (ix (nI i)) 1))))), (2, .ref (aX G d (ix (nI i)))), (0, .ref (aX G d 40)), (1, .int (nI i))]) hC dX1_letWheelsAge_30 rfl (by decide) rfl ?_
          refine J_aload_n hC (j := 1) dX1_letWheelsAge_31 rfl rfl ?_
          refine J_ifnull hC dX1_letWheelsAge_32 ?_
          refine J_aload_n hC (j := 0) dX1_letWheelsAge_35 rfl rfl ?_
          refine J_ifnull hC dX1_letWheelsAge_36 ?_
          refine J_aload_n hC (j := 1) dX1_letWheelsAge_39 rfl rfl ?_
          refine J_aload_n hC (j := 0) dX1_letWheelsAge_40 rfl rfl ?_
          refine J_get hC (nl_ce hd (inC_lt h27)) (ent_ce hd (inC_lt h27)) rfl in0 0 (by decide) rfl qw_70 rfl rF dX1_letWheelsAge_41 ?_
          refine J_aload_n hC (j := 0) dX1_letWheelsAge_44 rfl rfl ?_
          refine J_get hC (nl_ce hd (inC_lt h27)) (ent_ce hd (inC_lt h27)) rfl in0 1 (by decide) rfl qw_73 rfl rF dX1_letWheelsAge_45 ?_
          refine J_callVv hC (ct_X3_ageOneDay l G X o d hd (ageAll D i) (ix (nI i)) (inW_lt (lies_w h10)) ((ageAll D i) (24 + (ix ((ageAll D i) (ix (nI i)) 1))) 0) ((ageAll D i) (24 + (ix ((ageAll D i) (ix (nI i)) 1))) 1)) mw_X3_ageOneDay qw_600 (nl_wh hd (inW_lt (lies_w h10))) (ent_wh hd (inW_lt (lies_w h10))) rfl rfl rfl (Nat.le_of_ble_eq_true rfl) ⟨Nat.le_of_ble_eq_true rfl, Nat.le_of_ble_eq_true rfl⟩ ⟨Nat.le_of_ble_eq_true rfl, Nat.le_of_ble_eq_true rfl⟩ dX1_letWheelsAge_48 ?_
          refine J_aload_n hC (j := 1) dX1_letWheelsAge_51 rfl rfl ?_
          refine J_callV hC (ct_X3_isSpoiled l G X o d hd (va_up (ageAll D i) (ix (nI i)) (age ((ageAll D i) (ix (nI i))) ((ageAll D i) (24 + (ix ((ageAll D i) (ix (nI i)) 1))) 0) ((ageAll D i) (24 + (ix ((ageAll D i) (ix (nI i)) 1))) 1))) (ix (nI i)) (inW_lt (lies_w h10))) mw_X3_isSpoiled qw_604 (nl_wh hd (inW_lt (lies_w h10))) (ent_wh hd (inW_lt (lies_w h10))) rfl rfl rfl (Nat.le_of_ble_eq_true rfl) ⟨Nat.le_of_ble_eq_true rfl, Nat.le_of_ble_eq_true rfl⟩ ⟨Nat.le_of_ble_eq_true rfl, Nat.le_of_ble_eq_true rfl⟩ dX1_letWheelsAge_52 ?_
          by_cases h52 : spoiled ((va_up (ageAll D i) (ix (nI i)) (age ((ageAll D i) (ix (nI i))) ((ageAll D i) (24 + (ix ((ageAll D i) (ix (nI i)) 1))) 0) ((ageAll D i) (24 + (ix ((ageAll D i) (ix (nI i)) 1))) 1))) (ix (nI i))) = true
          · refine J_tv (congrArg Value.int (bI_pos h52)) ?_
            refine J_if_eq (tgt := 64) hC dX1_letWheelsAge_55 (by decide) (fun h => absurd h (by decide)) (fun _ => ?_)
            refine J_aload_n hC (j := 2) dX1_letWheelsAge_58 rfl rfl ?_
            refine J_iload_n hC (j := 3) dX1_letWheelsAge_59 rfl rfl ?_
            refine J_iconst (v := 2) hC dX1_letWheelsAge_60 (by decide) ?_
            refine J_callVv hC (ct_X1_takeAway l G X o d hd (va_up (ageAll D i) (ix (nI i)) (age ((ageAll D i) (ix (nI i))) ((ageAll D i) (24 + (ix ((ageAll D i) (ix (nI i)) 1))) 0) ((ageAll D i) (24 + (ix ((ageAll D i) (ix (nI i)) 1))) 1))) (nI i) 2) mw_X1_takeAway qw_608 (nl_da hd) (ent_da hd) rfl rfl rfl (Nat.le_of_ble_eq_true rfl) ⟨Nat.le_of_ble_eq_true rfl, Nat.le_of_ble_eq_true rfl⟩ ⟨Nat.le_of_ble_eq_true rfl, Nat.le_of_ble_eq_true rfl⟩ dX1_letWheelsAge_61 ?_
            refine J_iinc (j := 3) (v := ((nI i) + 1)) (lv' := [(1, .int ((nI i) + 1)), (3, .ref (aX G d (24 + (ix ((ageAll D i) (ix (nI i)) 1))))), (2, .ref (aX G d (ix (nI i)))), (0, .ref (aX G d 40))]) hC dX1_letWheelsAge_64 rfl rfl (by decide) rfl ?_
            refine J_goto (tgt := 2) hC dX1_letWheelsAge_67 (by decide) ?_
            refine J_lv [3, 0] (lv' := [(0, .ref (aX G d 40)), (1, .int ((nI i) + 1))]) rfl ?_
            exact J_cast (congrArg (va_up X d) (by show _ = ageW (ageAll D i) (nI i); simp [ageW, ageD, h10, h27, h52])) (by simp [nI_succ, h10, h27, h52]) rfl (ih (i + 1) (by omega) )
          · refine J_tv (congrArg Value.int (bI_neg h52)) ?_
            refine J_if_eq (tgt := 64) hC dX1_letWheelsAge_55 (by decide) (fun _ => ?_) (fun h => absurd h (by decide))
            refine J_iinc (j := 3) (v := ((nI i) + 1)) (lv' := [(1, .int ((nI i) + 1)), (3, .ref (aX G d (24 + (ix ((ageAll D i) (ix (nI i)) 1))))), (2, .ref (aX G d (ix (nI i)))), (0, .ref (aX G d 40))]) hC dX1_letWheelsAge_64 rfl rfl (by decide) rfl ?_
            refine J_goto (tgt := 2) hC dX1_letWheelsAge_67 (by decide) ?_
            refine J_lv [3, 0] (lv' := [(0, .ref (aX G d 40)), (1, .int ((nI i) + 1))]) rfl ?_
            exact J_cast (congrArg (va_up X d) (by show _ = ageW (ageAll D i) (nI i); simp [ageW, ageD, h10, h27, h52])) (by simp [nI_succ, h10, h27, h52]) rfl (ih (i + 1) (by omega) )
        · refine J_tv (ceV_n h27) ?_
          refine J_astore_nN (lv' := [(3, .null), (2, .ref (aX G d (ix (nI i)))), (0, .ref (aX G d 40)), (1, .int (nI i))]) hC dX1_letWheelsAge_30 rfl (by decide) rfl ?_
          refine J_aload_n hC (j := 1) dX1_letWheelsAge_31 rfl rfl ?_
          refine J_ifnull hC dX1_letWheelsAge_32 ?_
          refine J_aload_nN hC (j := 0) dX1_letWheelsAge_35 rfl rfl ?_
          refine J_ifnullN (tgt := 64) hC dX1_letWheelsAge_36 (by decide) ?_
          refine J_iinc (j := 3) (v := ((nI i) + 1)) (lv' := [(1, .int ((nI i) + 1)), (3, .null), (2, .ref (aX G d (ix (nI i)))), (0, .ref (aX G d 40))]) hC dX1_letWheelsAge_64 rfl rfl (by decide) rfl ?_
          refine J_goto (tgt := 2) hC dX1_letWheelsAge_67 (by decide) ?_
          refine J_lv [3, 0] (lv' := [(0, .ref (aX G d 40)), (1, .int ((nI i) + 1))]) rfl ?_
          exact J_cast (congrArg (va_up X d) (by show _ = ageW (ageAll D i) (nI i); simp [ageW, ageD, h10, h27])) (by simp [nI_succ, h10, h27]) rfl (ih (i + 1) (by omega) )
      · refine J_tv (lyV_n h10) ?_
        refine J_astore_nN (lv' := [(2, .null), (0, .ref (aX G d 40)), (1, .int (nI i))]) hC dX1_letWheelsAge_13 rfl (by decide) rfl ?_
        refine J_aload_nN hC (j := 0) dX1_letWheelsAge_14 rfl rfl ?_
        refine J_ifnonnullN hC dX1_letWheelsAge_15 ?_
        refine J_null hC dX1_letWheelsAge_18 ?_
        refine J_goto (tgt := 30) hC dX1_letWheelsAge_19 (by decide) ?_
        refine J_astore_nN (lv' := [(3, .null), (2, .null), (0, .ref (aX G d 40)), (1, .int (nI i))]) hC dX1_letWheelsAge_30 rfl (by decide) rfl ?_
        refine J_aload_nN hC (j := 1) dX1_letWheelsAge_31 rfl rfl ?_
        refine J_ifnullN (tgt := 64) hC dX1_letWheelsAge_32 (by decide) ?_
        refine J_iinc (j := 3) (v := ((nI i) + 1)) (lv' := [(1, .int ((nI i) + 1)), (3, .null), (2, .null), (0, .ref (aX G d 40))]) hC dX1_letWheelsAge_64 rfl rfl (by decide) rfl ?_
        refine J_goto (tgt := 2) hC dX1_letWheelsAge_67 (by decide) ?_
        refine J_lv [3, 0] (lv' := [(0, .ref (aX G d 40)), (1, .int ((nI i) + 1))]) rfl ?_
        exact J_cast (congrArg (va_up X d) (by show _ = ageW (ageAll D i) (nI i); simp [ageW, ageD, h10])) (by simp [nI_succ, h10]) rfl (ih (i + 1) (by omega) )
  refine J_lv [1, 0] (lv' := [(0, .ref (aX G d 40)), (1, .int 0)]) rfl ?_
  exact J_cast (by first | rfl | simp) (by first | rfl | simp [nI_0]) rfl (L2 24 0 (by omega) )
set_option maxHeartbeats 4000000 in
set_option maxRecDepth 100000 in
theorem ct_X1_letMonkWork (l : Launch) (G : GG) (X : XX) (o : OO) (d : Nat) (hd : d < 2) (D : DD) (p0 : Int32) : CT l yX1_letMonkWork cX1_letMonkWork 10 none 3 63 0 0 G [.ref (aX G d 40), .int p0] (va_up X d D) o none (va_up X d (monkW D p0)) o := by
  refine CT_of (own := RX1) (lv := [(0, .ref (aX G d 40)), (1, .int p0)]) (by decide) rfl (Nat.le_of_ble_eq_true rfl) rfl ?_
  intro p e s m args below meth c hr hC
  refine J_aload_n hC (j := 0) dX1_letMonkWork_0 rfl rfl ?_
  refine J_iload_n hC (j := 1) dX1_letMonkWork_1 rfl rfl ?_
  refine J_callV hC (ct_X1_monkOf l G X o d hd D p0) mw_X1_monkOf qw_493 (nl_da hd) (ent_da hd) rfl rfl rfl (Nat.le_of_ble_eq_true rfl) ⟨Nat.le_of_ble_eq_true rfl, Nat.le_of_ble_eq_true rfl⟩ ⟨Nat.le_of_ble_eq_true rfl, Nat.le_of_ble_eq_true rfl⟩ dX1_letMonkWork_2 ?_
  by_cases h2 : inM D p0 = true
  · refine J_tv (mkV_p h2) ?_
    refine J_astore_n (lv' := [(2, .ref (aX G d (32 + (ix p0)))), (0, .ref (aX G d 40)), (1, .int p0)]) hC dX1_letMonkWork_5 rfl (by decide) rfl ?_
    refine J_aload_n hC (j := 0) dX1_letMonkWork_6 rfl rfl ?_
    refine J_ifnonnull (tgt := 11) hC dX1_letMonkWork_7 (by decide) ?_
    refine J_aload_n hC (j := 0) dX1_letMonkWork_11 rfl rfl ?_
    refine J_aload_n hC (j := 1) dX1_letMonkWork_12 rfl rfl ?_
    refine J_get hC (nl_da hd) (ent_da hd) rfl in1 0 (by decide) rfl qw_152 rfl rF dX1_letMonkWork_13 ?_
    refine J_callV hC (ct_X2_workOn l G X o d hd D (ix p0) (inM_lt h2) (D 40 0)) mw_X2_workOn qw_562 (nl_mk hd (inM_lt h2)) (ent_mk hd (inM_lt h2)) rfl rfl rfl (Nat.le_of_ble_eq_true rfl) ⟨Nat.le_of_ble_eq_true rfl, Nat.le_of_ble_eq_true rfl⟩ ⟨Nat.le_of_ble_eq_true rfl, Nat.le_of_ble_eq_true rfl⟩ dX1_letMonkWork_16 ?_
    refine J_istore_n (lv' := [(3, .int (wOn (D (36 + (ix p0))) (D 40 0))), (2, .ref (aX G d (32 + (ix p0)))), (0, .ref (aX G d 40)), (1, .int p0)]) hC dX1_letMonkWork_19 rfl (by decide) rfl ?_
    refine J_iload_n hC (j := 0) dX1_letMonkWork_20 rfl rfl ?_
    refine J_if_ne (tgt := 30) hC dX1_letMonkWork_21 (by decide) (fun c21 => ?_) (fun c21 => ?_)
    · refine J_aload_n hC (j := 2) dX1_letMonkWork_30 rfl rfl ?_
      refine J_aload_n hC (j := 1) dX1_letMonkWork_31 rfl rfl ?_
      refine J_get hC (nl_mk hd (inM_lt h2)) (ent_mk hd (inM_lt h2)) rfl in2 0 (by decide) rfl qw_133 rfl rF dX1_letMonkWork_32 ?_
      refine J_callV hC (ct_X1_cellarOf l G X o d hd D (D (32 + (ix p0)) 0)) mw_X1_cellarOf qw_246 (nl_da hd) (ent_da hd) rfl rfl rfl (Nat.le_of_ble_eq_true rfl) ⟨Nat.le_of_ble_eq_true rfl, Nat.le_of_ble_eq_true rfl⟩ ⟨Nat.le_of_ble_eq_true rfl, Nat.le_of_ble_eq_true rfl⟩ dX1_letMonkWork_35 ?_
      by_cases h35 : inC D (D (32 + (ix p0)) 0) = true
      · refine J_tv (ceV_p h35) ?_
        refine J_astore (lv' := [(4, .ref (aX G d (24 + (ix (D (32 + (ix p0)) 0))))), (3, .int (wOn (D (36 + (ix p0))) (D 40 0))), (2, .ref (aX G d (32 + (ix p0)))), (0, .ref (aX G d 40)), (1, .int p0)]) hC dX1_letMonkWork_38 (by decide) rfl ?_
        refine J_aload_n hC (j := 2) dX1_letMonkWork_40 rfl rfl ?_
        refine J_get hC (nl_mk hd (inM_lt h2)) (ent_mk hd (inM_lt h2)) rfl in2 3 (by decide) rfl qw_139 rfl rF dX1_letMonkWork_41 ?_
        refine J_iconst (v := 1) hC dX1_letMonkWork_44 (by decide) ?_
        refine J_iadd hC dX1_letMonkWork_45 ?_
        refine J_istore (lv' := [(5, .int ((D (32 + (ix p0)) 3) + 1)), (4, .ref (aX G d (24 + (ix (D (32 + (ix p0)) 0))))), (3, .int (wOn (D (36 + (ix p0))) (D 40 0))), (2, .ref (aX G d (32 + (ix p0)))), (0, .ref (aX G d 40)), (1, .int p0)]) hC dX1_letMonkWork_46 (by decide) rfl ?_
        refine J_iconst (v := 0) hC dX1_letMonkWork_48 (by decide) ?_
        refine J_istore (lv' := [(6, .int 0), (5, .int ((D (32 + (ix p0)) 3) + 1)), (4, .ref (aX G d (24 + (ix (D (32 + (ix p0)) 0))))), (3, .int (wOn (D (36 + (ix p0))) (D 40 0))), (2, .ref (aX G d (32 + (ix p0)))), (0, .ref (aX G d 40)), (1, .int p0)]) hC dX1_letMonkWork_49 (by decide) rfl ?_
        refine J_iconst (v := 0) hC dX1_letMonkWork_51 (by decide) ?_
        refine J_istore (lv' := [(7, .int 0), (6, .int 0), (5, .int ((D (32 + (ix p0)) 3) + 1)), (4, .ref (aX G d (24 + (ix (D (32 + (ix p0)) 0))))), (3, .int (wOn (D (36 + (ix p0))) (D 40 0))), (2, .ref (aX G d (32 + (ix p0)))), (0, .ref (aX G d 40)), (1, .int p0)]) hC dX1_letMonkWork_52 (by decide) rfl ?_
        have L54 : ∀ n i : Nat, i + n = 10 → Jd p l e ({ frames := 3, cells := 0, slots := 0, locals := 63 }) s m args below meth c (MQ below (CQ G none (va_up X d (monkW D p0)) o) args s 0 0 (gB G)) G 10 0 0 (va_up X d (mwLoop D (ix p0) (ix (D (32 + (ix p0)) 0)) ((D (32 + (ix p0)) 3) + 1) (wOn (D (36 + (ix p0))) (D 40 0)) p0 i).1) o 54 [(0, .ref (aX G d 40)), (1, .int p0), (2, .ref (aX G d (32 + (ix p0)))), (3, .int (wOn (D (36 + (ix p0))) (D 40 0))), (4, .ref (aX G d (24 + (ix (D (32 + (ix p0)) 0))))), (5, .int ((D (32 + (ix p0)) 3) + 1)), (6, .int (mwLoop D (ix p0) (ix (D (32 + (ix p0)) 0)) ((D (32 + (ix p0)) 3) + 1) (wOn (D (36 + (ix p0))) (D 40 0)) p0 i).2), (7, .int (nI i))] [] := by
          intro n
          induction n with
          | zero =>
            intro i hn 
            obtain rfl : i = 10 := by omega
            refine J_iload hC (j := 7) dX1_letMonkWork_54 rfl ?_
            refine J_bipush (v := 10) hC dX1_letMonkWork_56 (by decide) ?_
            refine J_icmp_ge (tgt := 131) hC dX1_letMonkWork_58 (by decide) (fun c58 => ?_) (fun c58 => absurd c58 (not_not_intro (le_nI (K := 10) rfl (by omega) (by omega))))
            exact J_vret hC hr (congrArg (va_up X d) (by rw [monkW, if_pos h2, if_neg c21, if_pos h35])) rfl dX1_letMonkWork_131
          | succ n ih =>
            intro i hn 
            refine J_iload hC (j := 7) dX1_letMonkWork_54 rfl ?_
            refine J_bipush (v := 10) hC dX1_letMonkWork_56 (by decide) ?_
            refine J_icmp_ge (tgt := 131) hC dX1_letMonkWork_58 (by decide) (fun c58 => absurd c58 (nle_nI (K := 10) rfl (by omega) (by omega))) (fun c58 => ?_)
            refine J_iload hC (j := 6) dX1_letMonkWork_61 rfl ?_
            refine J_aload_n hC (j := 2) dX1_letMonkWork_63 rfl rfl ?_
            refine J_get hC (nl_mk hd (inM_lt h2)) (ent_mk hd (inM_lt h2)) rfl in2 1 (by decide) rfl qw_135 rfl rF dX1_letMonkWork_64 ?_
            refine J_icmp_ge (tgt := 131) hC dX1_letMonkWork_67 (by decide) (fun c67 => ?_) (fun c67 => ?_)
            · exact J_vret hC hr (congrArg (va_up X d) (by rw [monkW, if_pos h2, if_neg c21, if_pos h35]; exact (congrArg Prod.fst (mw_stop c67 (by omega))).symm)) rfl dX1_letMonkWork_131
            · refine J_aload hC (j := 4) dX1_letMonkWork_70 rfl ?_
              refine J_ifnull hC dX1_letMonkWork_72 ?_
              refine J_iload hC (j := 5) dX1_letMonkWork_75 rfl ?_
              refine J_iload hC (j := 7) dX1_letMonkWork_77 rfl ?_
              refine J_iadd hC dX1_letMonkWork_79 ?_
              refine J_bipush (v := 10) hC dX1_letMonkWork_80 (by decide) ?_
              refine J_irem hC dX1_letMonkWork_82 (by decide) ?_
              refine J_istore (lv' := [(8, .int (irem (((D (32 + (ix p0)) 3) + 1) + (nI i)) 10)), (0, .ref (aX G d 40)), (1, .int p0), (2, .ref (aX G d (32 + (ix p0)))), (3, .int (wOn (D (36 + (ix p0))) (D 40 0))), (4, .ref (aX G d (24 + (ix (D (32 + (ix p0)) 0))))), (5, .int ((D (32 + (ix p0)) 3) + 1)), (6, .int (mwLoop D (ix p0) (ix (D (32 + (ix p0)) 0)) ((D (32 + (ix p0)) 3) + 1) (wOn (D (36 + (ix p0))) (D 40 0)) p0 i).2), (7, .int (nI i))]) hC dX1_letMonkWork_83 (by decide) rfl ?_
              refine J_aload_n hC (j := 1) dX1_letMonkWork_85 rfl rfl ?_
              refine J_aload hC (j := 5) dX1_letMonkWork_86 rfl ?_
              refine J_iload hC (j := 0) dX1_letMonkWork_88 rfl ?_
              refine J_callV hC (ct_X0_wheelAt l G X o d hd (mwLoop D (ix p0) (ix (D (32 + (ix p0)) 0)) ((D (32 + (ix p0)) 3) + 1) (wOn (D (36 + (ix p0))) (D 40 0)) p0 i).1 (ix (D (32 + (ix p0)) 0)) (inC_lt h35) (irem (((D (32 + (ix p0)) 3) + 1) + (nI i)) 10)) mw_X0_wheelAt qw_563 (nl_ce hd (inC_lt h35)) (ent_ce hd (inC_lt h35)) rfl rfl rfl (Nat.le_of_ble_eq_true rfl) ⟨Nat.le_of_ble_eq_true rfl, Nat.le_of_ble_eq_true rfl⟩ ⟨Nat.le_of_ble_eq_true rfl, Nat.le_of_ble_eq_true rfl⟩ dX1_letMonkWork_90 ?_
              refine J_callV hC (ct_X1_lyingWheel l G X o d hd (mwLoop D (ix p0) (ix (D (32 + (ix p0)) 0)) ((D (32 + (ix p0)) 3) + 1) (wOn (D (36 + (ix p0))) (D 40 0)) p0 i).1 (wAt ((mwLoop D (ix p0) (ix (D (32 + (ix p0)) 0)) ((D (32 + (ix p0)) 3) + 1) (wOn (D (36 + (ix p0))) (D 40 0)) p0 i).1 (28 + (ix (D (32 + (ix p0)) 0)))) (irem (((D (32 + (ix p0)) 3) + 1) + (nI i)) 10))) mw_X1_lyingWheel qw_209 (nl_da hd) (ent_da hd) rfl rfl rfl (Nat.le_of_ble_eq_true rfl) ⟨Nat.le_of_ble_eq_true rfl, Nat.le_of_ble_eq_true rfl⟩ ⟨Nat.le_of_ble_eq_true rfl, Nat.le_of_ble_eq_true rfl⟩ dX1_letMonkWork_93 ?_
              by_cases h93 : lies (mwLoop D (ix p0) (ix (D (32 + (ix p0)) 0)) ((D (32 + (ix p0)) 3) + 1) (wOn (D (36 + (ix p0))) (D 40 0)) p0 i).1 (wAt ((mwLoop D (ix p0) (ix (D (32 + (ix p0)) 0)) ((D (32 + (ix p0)) 3) + 1) (wOn (D (36 + (ix p0))) (D 40 0)) p0 i).1 (28 + (ix (D (32 + (ix p0)) 0)))) (irem (((D (32 + (ix p0)) 3) + 1) + (nI i)) 10)) = true
              · refine J_tv (lyV_p h93) ?_
                refine J_astore (lv' := [(9, .ref (aX G d (ix (wAt ((mwLoop D (ix p0) (ix (D (32 + (ix p0)) 0)) ((D (32 + (ix p0)) 3) + 1) (wOn (D (36 + (ix p0))) (D 40 0)) p0 i).1 (28 + (ix (D (32 + (ix p0)) 0)))) (irem (((D (32 + (ix p0)) 3) + 1) + (nI i)) 10))))), (8, .int (irem (((D (32 + (ix p0)) 3) + 1) + (nI i)) 10)), (0, .ref (aX G d 40)), (1, .int p0), (2, .ref (aX G d (32 + (ix p0)))), (3, .int (wOn (D (36 + (ix p0))) (D 40 0))), (4, .ref (aX G d (24 + (ix (D (32 + (ix p0)) 0))))), (5, .int ((D (32 + (ix p0)) 3) + 1)), (6, .int (mwLoop D (ix p0) (ix (D (32 + (ix p0)) 0)) ((D (32 + (ix p0)) 3) + 1) (wOn (D (36 + (ix p0))) (D 40 0)) p0 i).2), (7, .int (nI i))]) hC dX1_letMonkWork_96 (by decide) rfl ?_
                refine J_aload hC (j := 0) dX1_letMonkWork_98 rfl ?_
                refine J_ifnull hC dX1_letMonkWork_100 ?_
                refine J_aload hC (j := 0) dX1_letMonkWork_103 rfl ?_
                refine J_iload_n hC (j := 5) dX1_letMonkWork_105 rfl rfl ?_
                refine J_callVv hC (ct_X3_undergo l G X o d hd (mwLoop D (ix p0) (ix (D (32 + (ix p0)) 0)) ((D (32 + (ix p0)) 3) + 1) (wOn (D (36 + (ix p0))) (D 40 0)) p0 i).1 (ix (wAt ((mwLoop D (ix p0) (ix (D (32 + (ix p0)) 0)) ((D (32 + (ix p0)) 3) + 1) (wOn (D (36 + (ix p0))) (D 40 0)) p0 i).1 (28 + (ix (D (32 + (ix p0)) 0)))) (irem (((D (32 + (ix p0)) 3) + 1) + (nI i)) 10))) (inW_lt (lies_w h93)) (wOn (D (36 + (ix p0))) (D 40 0))) mw_X3_undergo qw_564 (nl_wh hd (inW_lt (lies_w h93))) (ent_wh hd (inW_lt (lies_w h93))) rfl rfl rfl (Nat.le_of_ble_eq_true rfl) ⟨Nat.le_of_ble_eq_true rfl, Nat.le_of_ble_eq_true rfl⟩ ⟨Nat.le_of_ble_eq_true rfl, Nat.le_of_ble_eq_true rfl⟩ dX1_letMonkWork_106 ?_
                refine J_aload_n hC (j := 4) dX1_letMonkWork_109 rfl rfl ?_
                refine J_iload_n hC (j := 3) dX1_letMonkWork_110 rfl rfl ?_
                refine J_aload hC (j := 0) dX1_letMonkWork_111 rfl ?_
                refine J_callSv hC (ct_X1_touch l G X o d hd (va_up (mwLoop D (ix p0) (ix (D (32 + (ix p0)) 0)) ((D (32 + (ix p0)) 3) + 1) (wOn (D (36 + (ix p0))) (D 40 0)) p0 i).1 (ix (wAt ((mwLoop D (ix p0) (ix (D (32 + (ix p0)) 0)) ((D (32 + (ix p0)) 3) + 1) (wOn (D (36 + (ix p0))) (D 40 0)) p0 i).1 (28 + (ix (D (32 + (ix p0)) 0)))) (irem (((D (32 + (ix p0)) 3) + 1) + (nI i)) 10))) (undergo ((mwLoop D (ix p0) (ix (D (32 + (ix p0)) 0)) ((D (32 + (ix p0)) 3) + 1) (wOn (D (36 + (ix p0))) (D 40 0)) p0 i).1 (ix (wAt ((mwLoop D (ix p0) (ix (D (32 + (ix p0)) 0)) ((D (32 + (ix p0)) 3) + 1) (wOn (D (36 + (ix p0))) (D 40 0)) p0 i).1 (28 + (ix (D (32 + (ix p0)) 0)))) (irem (((D (32 + (ix p0)) 3) + 1) + (nI i)) 10)))) (wOn (D (36 + (ix p0))) (D 40 0)))) (ix p0) (inM_lt h2) p0 (ix (wAt ((mwLoop D (ix p0) (ix (D (32 + (ix p0)) 0)) ((D (32 + (ix p0)) 3) + 1) (wOn (D (36 + (ix p0))) (D 40 0)) p0 i).1 (28 + (ix (D (32 + (ix p0)) 0)))) (irem (((D (32 + (ix p0)) 3) + 1) + (nI i)) 10))) (inW_lt (lies_w h93))) ms_X1_touch qw_576 rfl rfl (Nat.le_of_ble_eq_true rfl) ⟨Nat.le_of_ble_eq_true rfl, Nat.le_of_ble_eq_true rfl⟩ ⟨Nat.le_of_ble_eq_true rfl, Nat.le_of_ble_eq_true rfl⟩ dX1_letMonkWork_113 ?_
                refine J_aload_n hC (j := 4) dX1_letMonkWork_116 rfl rfl ?_
                refine J_iload hC (j := 1) dX1_letMonkWork_117 rfl ?_
                refine J_put (X' := (va_up X d (va_up (touchD (va_up (mwLoop D (ix p0) (ix (D (32 + (ix p0)) 0)) ((D (32 + (ix p0)) 3) + 1) (wOn (D (36 + (ix p0))) (D 40 0)) p0 i).1 (ix (wAt ((mwLoop D (ix p0) (ix (D (32 + (ix p0)) 0)) ((D (32 + (ix p0)) 3) + 1) (wOn (D (36 + (ix p0))) (D 40 0)) p0 i).1 (28 + (ix (D (32 + (ix p0)) 0)))) (irem (((D (32 + (ix p0)) 3) + 1) + (nI i)) 10))) (undergo ((mwLoop D (ix p0) (ix (D (32 + (ix p0)) 0)) ((D (32 + (ix p0)) 3) + 1) (wOn (D (36 + (ix p0))) (D 40 0)) p0 i).1 (ix (wAt ((mwLoop D (ix p0) (ix (D (32 + (ix p0)) 0)) ((D (32 + (ix p0)) 3) + 1) (wOn (D (36 + (ix p0))) (D 40 0)) p0 i).1 (28 + (ix (D (32 + (ix p0)) 0)))) (irem (((D (32 + (ix p0)) 3) + 1) + (nI i)) 10)))) (wOn (D (36 + (ix p0))) (D 40 0)))) (ix p0) p0 (ix (wAt ((mwLoop D (ix p0) (ix (D (32 + (ix p0)) 0)) ((D (32 + (ix p0)) 3) + 1) (wOn (D (36 + (ix p0))) (D 40 0)) p0 i).1 (28 + (ix (D (32 + (ix p0)) 0)))) (irem (((D (32 + (ix p0)) 3) + 1) + (nI i)) 10)))) (32 + (ix p0)) (va_up ((touchD (va_up (mwLoop D (ix p0) (ix (D (32 + (ix p0)) 0)) ((D (32 + (ix p0)) 3) + 1) (wOn (D (36 + (ix p0))) (D 40 0)) p0 i).1 (ix (wAt ((mwLoop D (ix p0) (ix (D (32 + (ix p0)) 0)) ((D (32 + (ix p0)) 3) + 1) (wOn (D (36 + (ix p0))) (D 40 0)) p0 i).1 (28 + (ix (D (32 + (ix p0)) 0)))) (irem (((D (32 + (ix p0)) 3) + 1) + (nI i)) 10))) (undergo ((mwLoop D (ix p0) (ix (D (32 + (ix p0)) 0)) ((D (32 + (ix p0)) 3) + 1) (wOn (D (36 + (ix p0))) (D 40 0)) p0 i).1 (ix (wAt ((mwLoop D (ix p0) (ix (D (32 + (ix p0)) 0)) ((D (32 + (ix p0)) 3) + 1) (wOn (D (36 + (ix p0))) (D 40 0)) p0 i).1 (28 + (ix (D (32 + (ix p0)) 0)))) (irem (((D (32 + (ix p0)) 3) + 1) + (nI i)) 10)))) (wOn (D (36 + (ix p0))) (D 40 0)))) (ix p0) p0 (ix (wAt ((mwLoop D (ix p0) (ix (D (32 + (ix p0)) 0)) ((D (32 + (ix p0)) 3) + 1) (wOn (D (36 + (ix p0))) (D 40 0)) p0 i).1 (28 + (ix (D (32 + (ix p0)) 0)))) (irem (((D (32 + (ix p0)) 3) + 1) + (nI i)) 10)))) (32 + (ix p0))) 3 (irem (((D (32 + (ix p0)) 3) + 1) + (nI i)) 10))))) hC (nl_mk hd (inM_lt h2)) (ent_mk hd (inM_lt h2)) rfl in2 tyX2_ok nmX2 3 (by decide) rfl qw_139 rfl (by decide) (Nat.le_of_ble_eq_true rfl) (pu_mkF hd (inM_lt h2) (by decide)) dX1_letMonkWork_119 ?_
                refine J_iinc (j := 8) (v := ((mwLoop D (ix p0) (ix (D (32 + (ix p0)) 0)) ((D (32 + (ix p0)) 3) + 1) (wOn (D (36 + (ix p0))) (D 40 0)) p0 i).2 + 1)) (lv' := [(6, .int ((mwLoop D (ix p0) (ix (D (32 + (ix p0)) 0)) ((D (32 + (ix p0)) 3) + 1) (wOn (D (36 + (ix p0))) (D 40 0)) p0 i).2 + 1)), (9, .ref (aX G d (ix (wAt ((mwLoop D (ix p0) (ix (D (32 + (ix p0)) 0)) ((D (32 + (ix p0)) 3) + 1) (wOn (D (36 + (ix p0))) (D 40 0)) p0 i).1 (28 + (ix (D (32 + (ix p0)) 0)))) (irem (((D (32 + (ix p0)) 3) + 1) + (nI i)) 10))))), (8, .int (irem (((D (32 + (ix p0)) 3) + 1) + (nI i)) 10)), (0, .ref (aX G d 40)), (1, .int p0), (2, .ref (aX G d (32 + (ix p0)))), (3, .int (wOn (D (36 + (ix p0))) (D 40 0))), (4, .ref (aX G d (24 + (ix (D (32 + (ix p0)) 0))))), (5, .int ((D (32 + (ix p0)) 3) + 1)), (7, .int (nI i))]) hC dX1_letMonkWork_122 rfl rfl (by decide) rfl ?_
                refine J_iinc (j := 9) (v := ((nI i) + 1)) (lv' := [(7, .int ((nI i) + 1)), (6, .int ((mwLoop D (ix p0) (ix (D (32 + (ix p0)) 0)) ((D (32 + (ix p0)) 3) + 1) (wOn (D (36 + (ix p0))) (D 40 0)) p0 i).2 + 1)), (9, .ref (aX G d (ix (wAt ((mwLoop D (ix p0) (ix (D (32 + (ix p0)) 0)) ((D (32 + (ix p0)) 3) + 1) (wOn (D (36 + (ix p0))) (D 40 0)) p0 i).1 (28 + (ix (D (32 + (ix p0)) 0)))) (irem (((D (32 + (ix p0)) 3) + 1) + (nI i)) 10))))), (8, .int (irem (((D (32 + (ix p0)) 3) + 1) + (nI i)) 10)), (0, .ref (aX G d 40)), (1, .int p0), (2, .ref (aX G d (32 + (ix p0)))), (3, .int (wOn (D (36 + (ix p0))) (D 40 0))), (4, .ref (aX G d (24 + (ix (D (32 + (ix p0)) 0))))), (5, .int ((D (32 + (ix p0)) 3) + 1))]) hC dX1_letMonkWork_125 rfl rfl (by decide) rfl ?_
                refine J_goto (tgt := 54) hC dX1_letMonkWork_128 (by decide) ?_
                refine J_lv [4, 5, 6, 7, 8, 9, 1, 0] (lv' := [(0, .ref (aX G d 40)), (1, .int p0), (2, .ref (aX G d (32 + (ix p0)))), (3, .int (wOn (D (36 + (ix p0))) (D 40 0))), (4, .ref (aX G d (24 + (ix (D (32 + (ix p0)) 0))))), (5, .int ((D (32 + (ix p0)) 3) + 1)), (6, .int ((mwLoop D (ix p0) (ix (D (32 + (ix p0)) 0)) ((D (32 + (ix p0)) 3) + 1) (wOn (D (36 + (ix p0))) (D 40 0)) p0 i).2 + 1)), (7, .int ((nI i) + 1))]) rfl ?_
                exact J_cast (congrArg (va_up X d) (by rw [mw_step1 c67 h93]; rfl)) (by rw [mw_step1 c67 h93, nI_succ]) rfl (ih (i + 1) (by omega) )
              · refine J_tv (lyV_n h93) ?_
                refine J_astoreN (lv' := [(9, .null), (8, .int (irem (((D (32 + (ix p0)) 3) + 1) + (nI i)) 10)), (0, .ref (aX G d 40)), (1, .int p0), (2, .ref (aX G d (32 + (ix p0)))), (3, .int (wOn (D (36 + (ix p0))) (D 40 0))), (4, .ref (aX G d (24 + (ix (D (32 + (ix p0)) 0))))), (5, .int ((D (32 + (ix p0)) 3) + 1)), (6, .int (mwLoop D (ix p0) (ix (D (32 + (ix p0)) 0)) ((D (32 + (ix p0)) 3) + 1) (wOn (D (36 + (ix p0))) (D 40 0)) p0 i).2), (7, .int (nI i))]) hC dX1_letMonkWork_96 (by decide) rfl ?_
                refine J_aloadN hC (j := 0) dX1_letMonkWork_98 rfl ?_
                refine J_ifnullN (tgt := 125) hC dX1_letMonkWork_100 (by decide) ?_
                refine J_iinc (j := 9) (v := ((nI i) + 1)) (lv' := [(7, .int ((nI i) + 1)), (9, .null), (8, .int (irem (((D (32 + (ix p0)) 3) + 1) + (nI i)) 10)), (0, .ref (aX G d 40)), (1, .int p0), (2, .ref (aX G d (32 + (ix p0)))), (3, .int (wOn (D (36 + (ix p0))) (D 40 0))), (4, .ref (aX G d (24 + (ix (D (32 + (ix p0)) 0))))), (5, .int ((D (32 + (ix p0)) 3) + 1)), (6, .int (mwLoop D (ix p0) (ix (D (32 + (ix p0)) 0)) ((D (32 + (ix p0)) 3) + 1) (wOn (D (36 + (ix p0))) (D 40 0)) p0 i).2)]) hC dX1_letMonkWork_125 rfl rfl (by decide) rfl ?_
                refine J_goto (tgt := 54) hC dX1_letMonkWork_128 (by decide) ?_
                refine J_lv [3, 4, 5, 6, 7, 8, 9, 0] (lv' := [(0, .ref (aX G d 40)), (1, .int p0), (2, .ref (aX G d (32 + (ix p0)))), (3, .int (wOn (D (36 + (ix p0))) (D 40 0))), (4, .ref (aX G d (24 + (ix (D (32 + (ix p0)) 0))))), (5, .int ((D (32 + (ix p0)) 3) + 1)), (6, .int (mwLoop D (ix p0) (ix (D (32 + (ix p0)) 0)) ((D (32 + (ix p0)) 3) + 1) (wOn (D (36 + (ix p0))) (D 40 0)) p0 i).2), (7, .int ((nI i) + 1))]) rfl ?_
                exact J_cast (congrArg (va_up X d) (by rw [mw_step0 c67 h93])) (by rw [mw_step0 c67 h93, nI_succ]) rfl (ih (i + 1) (by omega) )
        refine J_lv [6, 7, 5, 4, 3, 2, 1, 0] (lv' := [(0, .ref (aX G d 40)), (1, .int p0), (2, .ref (aX G d (32 + (ix p0)))), (3, .int (wOn (D (36 + (ix p0))) (D 40 0))), (4, .ref (aX G d (24 + (ix (D (32 + (ix p0)) 0))))), (5, .int ((D (32 + (ix p0)) 3) + 1)), (6, .int 0), (7, .int 0)]) rfl ?_
        exact J_cast (by simp [mwLoop, rep]) (by first | rfl | simp [nI_0, mwLoop, rep]) rfl (L54 10 0 (by omega) )
      · refine J_tv (ceV_n h35) ?_
        refine J_astoreN (lv' := [(4, .null), (3, .int (wOn (D (36 + (ix p0))) (D 40 0))), (2, .ref (aX G d (32 + (ix p0)))), (0, .ref (aX G d 40)), (1, .int p0)]) hC dX1_letMonkWork_38 (by decide) rfl ?_
        refine J_aload_n hC (j := 2) dX1_letMonkWork_40 rfl rfl ?_
        refine J_get hC (nl_mk hd (inM_lt h2)) (ent_mk hd (inM_lt h2)) rfl in2 3 (by decide) rfl qw_139 rfl rF dX1_letMonkWork_41 ?_
        refine J_iconst (v := 1) hC dX1_letMonkWork_44 (by decide) ?_
        refine J_iadd hC dX1_letMonkWork_45 ?_
        refine J_istore (lv' := [(5, .int ((D (32 + (ix p0)) 3) + 1)), (4, .null), (3, .int (wOn (D (36 + (ix p0))) (D 40 0))), (2, .ref (aX G d (32 + (ix p0)))), (0, .ref (aX G d 40)), (1, .int p0)]) hC dX1_letMonkWork_46 (by decide) rfl ?_
        refine J_iconst (v := 0) hC dX1_letMonkWork_48 (by decide) ?_
        refine J_istore (lv' := [(6, .int 0), (5, .int ((D (32 + (ix p0)) 3) + 1)), (4, .null), (3, .int (wOn (D (36 + (ix p0))) (D 40 0))), (2, .ref (aX G d (32 + (ix p0)))), (0, .ref (aX G d 40)), (1, .int p0)]) hC dX1_letMonkWork_49 (by decide) rfl ?_
        refine J_iconst (v := 0) hC dX1_letMonkWork_51 (by decide) ?_
        refine J_istore (lv' := [(7, .int 0), (6, .int 0), (5, .int ((D (32 + (ix p0)) 3) + 1)), (4, .null), (3, .int (wOn (D (36 + (ix p0))) (D 40 0))), (2, .ref (aX G d (32 + (ix p0)))), (0, .ref (aX G d 40)), (1, .int p0)]) hC dX1_letMonkWork_52 (by decide) rfl ?_
        refine J_iload hC (j := 0) dX1_letMonkWork_54 rfl ?_
        refine J_bipush (v := 10) hC dX1_letMonkWork_56 (by decide) ?_
        refine J_icmp_ge (tgt := 131) hC dX1_letMonkWork_58 (by decide) (fun h => absurd h (by decide)) (fun _ => ?_)
        refine J_iload hC (j := 1) dX1_letMonkWork_61 rfl ?_
        refine J_aload_n hC (j := 5) dX1_letMonkWork_63 rfl rfl ?_
        refine J_get hC (nl_mk hd (inM_lt h2)) (ent_mk hd (inM_lt h2)) rfl in2 1 (by decide) rfl qw_135 rfl rF dX1_letMonkWork_64 ?_
        refine J_icmp_ge (tgt := 131) hC dX1_letMonkWork_67 (by decide) (fun c67 => ?_) (fun c67 => ?_)
        · exact J_vret hC hr (congrArg (va_up X d) (by simp [monkW, h2, c21, h35, c67])) rfl dX1_letMonkWork_131
        · refine J_aloadN hC (j := 3) dX1_letMonkWork_70 rfl ?_
          refine J_ifnullN (tgt := 131) hC dX1_letMonkWork_72 (by decide) ?_
          exact J_vret hC hr (congrArg (va_up X d) (by simp [monkW, h2, c21, h35, c67])) rfl dX1_letMonkWork_131
    · refine J_aload_n hC (j := 1) dX1_letMonkWork_24 rfl rfl ?_
      refine J_iconst (v := 0) hC dX1_letMonkWork_25 (by decide) ?_
      refine J_put (X' := (va_up X d (va_up D (32 + (ix p0)) (va_up (D (32 + (ix p0))) 2 0)))) hC (nl_mk hd (inM_lt h2)) (ent_mk hd (inM_lt h2)) rfl in2 tyX2_ok nmX2 2 (by decide) rfl qw_137 rfl (by decide) (Nat.le_of_ble_eq_true rfl) (pu_mkF hd (inM_lt h2) (by decide)) dX1_letMonkWork_26 ?_
      exact J_vret hC hr (congrArg (va_up X d) (by simp [monkW, h2, c21])) rfl dX1_letMonkWork_29
  · refine J_tv (mkV_n h2) ?_
    refine J_astore_nN (lv' := [(2, .null), (0, .ref (aX G d 40)), (1, .int p0)]) hC dX1_letMonkWork_5 rfl (by decide) rfl ?_
    refine J_aload_nN hC (j := 0) dX1_letMonkWork_6 rfl rfl ?_
    refine J_ifnonnullN hC dX1_letMonkWork_7 ?_
    exact J_vret hC hr (congrArg (va_up X d) (by simp [monkW, h2])) rfl dX1_letMonkWork_10
set_option maxHeartbeats 4000000 in
set_option maxRecDepth 100000 in
theorem ct_X1_letDaysGoBy (l : Launch) (G : GG) (X : XX) (o : OO) (d : Nat) (hd : d < 2) (D : DD) (p0 : Int32) : CT l yX1_letDaysGoBy cX1_letDaysGoBy 4 none 4 93 0 0 G [.ref (aX G d 40), .int p0] (va_up X d D) o none (va_up X d (days D (ix p0))) o := by
  refine CT_of (own := RX1) (lv := [(0, .ref (aX G d 40)), (1, .int p0)]) (by decide) rfl (Nat.le_of_ble_eq_true rfl) rfl ?_
  intro p e s m args below meth c hr hC
  refine J_iconst (v := 0) hC dX1_letDaysGoBy_0 (by decide) ?_
  refine J_istore_n (lv' := [(2, .int 0), (0, .ref (aX G d 40)), (1, .int p0)]) hC dX1_letDaysGoBy_1 rfl (by decide) rfl ?_
  have L2 : ∀ n i : Nat, i + n = (ix p0) → Jd p l e ({ frames := 4, cells := 0, slots := 0, locals := 93 }) s m args below meth c (MQ below (CQ G none (va_up X d (days D (ix p0))) o) args s 0 0 (gB G)) G 4 0 0 (va_up X d (days D i)) o 2 [(0, .ref (aX G d 40)), (1, .int p0), (2, .int (nI i))] [] := by
    intro n
    induction n with
    | zero =>
      intro i hn 
      have hz : i = (ix p0) := by omega
      subst hz
      refine J_iload_n hC (j := 2) dX1_letDaysGoBy_2 rfl rfl ?_
      refine J_iload_n hC (j := 1) dX1_letDaysGoBy_3 rfl rfl ?_
      refine J_icmp_ge (tgt := 49) hC dX1_letDaysGoBy_4 (by decide) (fun c4 => ?_) (fun c4 => absurd c4 (not_not_intro (le_ix p0)))
      exact J_vret hC hr rfl rfl dX1_letDaysGoBy_49
    | succ n ih =>
      intro i hn 
      refine J_iload_n hC (j := 2) dX1_letDaysGoBy_2 rfl rfl ?_
      refine J_iload_n hC (j := 1) dX1_letDaysGoBy_3 rfl rfl ?_
      refine J_icmp_ge (tgt := 49) hC dX1_letDaysGoBy_4 (by decide) (fun c4 => absurd c4 (nle_ix (by omega))) (fun c4 => ?_)
      refine J_iconst (v := 0) hC dX1_letDaysGoBy_7 (by decide) ?_
      refine J_istore_n (lv' := [(3, .int 0), (0, .ref (aX G d 40)), (1, .int p0), (2, .int (nI i))]) hC dX1_letDaysGoBy_8 rfl (by decide) rfl ?_
      have L9 : ∀ k j : Nat, j + k = 4 → Jd p l e ({ frames := 4, cells := 0, slots := 0, locals := 93 }) s m args below meth c (MQ below (CQ G none (va_up X d (days D (ix p0))) o) args s 0 0 (gB G)) G 4 0 0 (va_up X d (monksW (days D i) j)) o 9 [(0, .ref (aX G d 40)), (1, .int p0), (2, .int (nI i)), (3, .int (nI j))] [] := by
        intro k
        induction k with
        | zero =>
          intro j hn 
          obtain rfl : j = 4 := by omega
          refine J_iload_n hC (j := 3) dX1_letDaysGoBy_9 rfl rfl ?_
          refine J_iconst (v := 4) hC dX1_letDaysGoBy_10 (by decide) ?_
          refine J_icmp_ge (tgt := 25) hC dX1_letDaysGoBy_11 (by decide) (fun c11 => ?_) (fun c11 => absurd c11 (not_not_intro (le_nI (K := 4) rfl (by omega) (by omega))))
          refine J_aload_n hC (j := 0) dX1_letDaysGoBy_25 rfl rfl ?_
          refine J_callVv hC (ct_X1_letMouldsLeap l G X o d hd (monksW (days D i) 4)) mw_X1_letMouldsLeap qw_584 (nl_da hd) (ent_da hd) rfl rfl rfl (Nat.le_of_ble_eq_true rfl) ⟨Nat.le_of_ble_eq_true rfl, Nat.le_of_ble_eq_true rfl⟩ ⟨Nat.le_of_ble_eq_true rfl, Nat.le_of_ble_eq_true rfl⟩ dX1_letDaysGoBy_26 ?_
          refine J_aload_n hC (j := 0) dX1_letDaysGoBy_29 rfl rfl ?_
          refine J_callVv hC (ct_X1_letWheelsAge l G X o d hd (leapAll (monksW (days D i) 4) 24)) mw_X1_letWheelsAge qw_596 (nl_da hd) (ent_da hd) rfl rfl rfl (Nat.le_of_ble_eq_true rfl) ⟨Nat.le_of_ble_eq_true rfl, Nat.le_of_ble_eq_true rfl⟩ ⟨Nat.le_of_ble_eq_true rfl, Nat.le_of_ble_eq_true rfl⟩ dX1_letDaysGoBy_30 ?_
          refine J_aload_n hC (j := 0) dX1_letDaysGoBy_33 rfl rfl ?_
          refine J_dup hC dX1_letDaysGoBy_34 rfl ?_
          refine J_get hC (nl_da hd) (ent_da hd) rfl in1 0 (by decide) rfl qw_152 rfl rF dX1_letDaysGoBy_35 ?_
          refine J_iconst (v := 1) hC dX1_letDaysGoBy_38 (by decide) ?_
          refine J_iadd hC dX1_letDaysGoBy_39 ?_
          refine J_put (X' := (va_up X d (va_up (ageAll (leapAll (monksW (days D i) 4) 24) 24) 40 (va_up ((ageAll (leapAll (monksW (days D i) 4) 24) 24) 40) 0 (((ageAll (leapAll (monksW (days D i) 4) 24) 24) 40 0) + 1))))) hC (nl_da hd) (ent_da hd) rfl in1 tyX1_ok nmX1 0 (by decide) rfl qw_152 rfl (by decide) (Nat.le_of_ble_eq_true rfl) (pu_daF hd (by decide)) dX1_letDaysGoBy_40 ?_
          refine J_iinc (j := 2) (v := ((nI i) + 1)) (lv' := [(2, .int ((nI i) + 1)), (0, .ref (aX G d 40)), (1, .int p0), (3, .int (nI 4))]) hC dX1_letDaysGoBy_43 rfl rfl (by decide) rfl ?_
          refine J_goto (tgt := 2) hC dX1_letDaysGoBy_46 (by decide) ?_
          refine J_lv [1, 2, 0] (lv' := [(0, .ref (aX G d 40)), (1, .int p0), (2, .int ((nI i) + 1))]) rfl ?_
          exact J_cast rfl (by simp [nI_succ]) rfl (ih (i + 1) (by omega) )
        | succ k ih9 =>
          intro j hn 
          refine J_iload_n hC (j := 3) dX1_letDaysGoBy_9 rfl rfl ?_
          refine J_iconst (v := 4) hC dX1_letDaysGoBy_10 (by decide) ?_
          refine J_icmp_ge (tgt := 25) hC dX1_letDaysGoBy_11 (by decide) (fun c11 => absurd c11 (nle_nI (K := 4) rfl (by omega) (by omega))) (fun c11 => ?_)
          refine J_aload_n hC (j := 0) dX1_letDaysGoBy_14 rfl rfl ?_
          refine J_iload_n hC (j := 3) dX1_letDaysGoBy_15 rfl rfl ?_
          refine J_callVv hC (ct_X1_letMonkWork l G X o d hd (monksW (days D i) j) (nI j)) mw_X1_letMonkWork qw_558 (nl_da hd) (ent_da hd) rfl rfl rfl (Nat.le_of_ble_eq_true rfl) ⟨Nat.le_of_ble_eq_true rfl, Nat.le_of_ble_eq_true rfl⟩ ⟨Nat.le_of_ble_eq_true rfl, Nat.le_of_ble_eq_true rfl⟩ dX1_letDaysGoBy_16 ?_
          refine J_iinc (j := 3) (v := ((nI j) + 1)) (lv' := [(3, .int ((nI j) + 1)), (0, .ref (aX G d 40)), (1, .int p0), (2, .int (nI i))]) hC dX1_letDaysGoBy_19 rfl rfl (by decide) rfl ?_
          refine J_goto (tgt := 9) hC dX1_letDaysGoBy_22 (by decide) ?_
          refine J_lv [1, 2, 3, 0] (lv' := [(0, .ref (aX G d 40)), (1, .int p0), (2, .int (nI i)), (3, .int ((nI j) + 1))]) rfl ?_
          exact J_cast rfl (by simp [nI_succ]) rfl (ih9 (j + 1) (by omega) )
      refine J_lv [1, 2, 3, 0] (lv' := [(0, .ref (aX G d 40)), (1, .int p0), (2, .int (nI i)), (3, .int 0)]) rfl ?_
      exact J_cast rfl (by first | rfl | simp [nI_0]) rfl (L9 4 0 (by omega) )
  refine J_lv [1, 2, 0] (lv' := [(0, .ref (aX G d 40)), (1, .int p0), (2, .int 0)]) rfl ?_
  exact J_cast (by first | rfl | simp) (by first | rfl | simp [nI_0]) rfl (L2 (ix p0) 0 (by omega) )
