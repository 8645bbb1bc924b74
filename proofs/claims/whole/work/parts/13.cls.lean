set_option maxHeartbeats 4000000 in
set_option maxRecDepth 100000 in
theorem ct_X4_isWithin (l : Launch) (G : GG) (X : XX) (o : OO) (p0 : Int32) (p1 : Int32) (p2 : Int32) : CT l yX4_isWithin cX4_isWithin 3 (some .boolean) 0 0 0 0 G [.int p0, .int p1, .int p2] X o (some (.int (bI (wthn p0 p1 p2 = true)))) X o := by
  refine CT_of (own := RX4) (lv := [(0, .int p0), (1, .int p1), (2, .int p2)]) (by decide) rfl (Nat.le_of_ble_eq_true rfl) rfl ?_
  intro p e s m args below meth c hr hC
  refine J_iload_n hC (j := 0) dX4_isWithin_0 rfl rfl ?_
  refine J_iload_n hC (j := 1) dX4_isWithin_1 rfl rfl ?_
  refine J_icmp_lt (tgt := 14) hC dX4_isWithin_2 (by decide) (fun c2 => ?_) (fun c2 => ?_)
  · refine J_iconst (v := 0) hC dX4_isWithin_14 (by decide) ?_
    exact J_zret hC hr (by decide) (by simp [wthn, c2]) rfl rfl dX4_isWithin_15
  · refine J_iload_n hC (j := 0) dX4_isWithin_5 rfl rfl ?_
    refine J_iload_n hC (j := 2) dX4_isWithin_6 rfl rfl ?_
    refine J_icmp_gt (tgt := 14) hC dX4_isWithin_7 (by decide) (fun c7 => ?_) (fun c7 => ?_)
    · refine J_iconst (v := 0) hC dX4_isWithin_14 (by decide) ?_
      exact J_zret hC hr (by decide) (by simp [wthn, c2, c7]) rfl rfl dX4_isWithin_15
    · refine J_iconst (v := 1) hC dX4_isWithin_10 (by decide) ?_
      refine J_goto (tgt := 15) hC dX4_isWithin_11 (by decide) ?_
      exact J_zret hC hr (by decide) (by simp [wthn, c2, c7]) rfl rfl dX4_isWithin_15
set_option maxHeartbeats 4000000 in
set_option maxRecDepth 100000 in
theorem ct_X4_isPlace (l : Launch) (G : GG) (X : XX) (o : OO) (p0 : Int32) : CT l yX4_isPlace cX4_isPlace 1 (some .boolean) 1 22 0 0 G [.int p0] X o (some (.int (bI (isPl p0 = true)))) X o := by
  refine CT_of (own := RX4) (lv := [(0, .int p0)]) (by decide) rfl (Nat.le_of_ble_eq_true rfl) rfl ?_
  intro p e s m args below meth c hr hC
  refine J_iload_n hC (j := 0) dX4_isPlace_0 rfl rfl ?_
  refine J_iconst (v := 0) hC dX4_isPlace_1 (by decide) ?_
  refine J_bipush (v := 9) hC dX4_isPlace_2 (by decide) ?_
  refine J_callS hC (ct_X4_isWithin l G X o p0 0 9) ms_X4_isWithin qw_292 rfl rfl (Nat.le_of_ble_eq_true rfl) ⟨Nat.le_of_ble_eq_true rfl, Nat.le_of_ble_eq_true rfl⟩ ⟨Nat.le_of_ble_eq_true rfl, Nat.le_of_ble_eq_true rfl⟩ dX4_isPlace_4 ?_
  by_cases h4 : wthn p0 0 9 = true
  · refine J_tv (congrArg Value.int (bI_pos h4)) ?_
    exact J_zret hC hr (by decide) (by simp [isPl, h4]) rfl rfl dX4_isPlace_7
  · refine J_tv (congrArg Value.int (bI_neg h4)) ?_
    exact J_zret hC hr (by decide) (by simp [isPl, h4]) rfl rfl dX4_isPlace_7
set_option maxHeartbeats 4000000 in
set_option maxRecDepth 100000 in
theorem ctn_X4_digestOfWheel (l : Launch) (G : GG) (D E g S A : DD) (o : OO) (d0 : Int64) : CT l yX4_digestOfWheel cX4_digestOfWheel 6 (some .long) 0 0 0 0 G [.long d0, .null] (mk5 D E g S A) o (some (.long d0)) (mk5 D E g S A) o := by
  refine CT_of (own := RX4) (lv := [(0, .long d0), (2, .null)]) (by decide) rfl (Nat.le_of_ble_eq_true rfl) rfl ?_
  intro p e s m args below meth c hr hC
  refine J_lload_n hC (j := 0) dX4_digestOfWheel_0 rfl rfl ?_
  refine J_lstore_n (lv' := [(3, .long d0), (0, .long d0), (2, .null)]) hC dX4_digestOfWheel_1 rfl (by decide) rfl ?_
  refine J_iconst (v := 0) hC dX4_digestOfWheel_2 (by decide) ?_
  refine J_istore (lv' := [(5, .int 0), (3, .long d0), (0, .long d0), (2, .null)]) hC dX4_digestOfWheel_3 (by decide) rfl ?_
  refine J_iload hC (j := 0) dX4_digestOfWheel_5 rfl ?_
  refine J_bipush (v := 11) hC dX4_digestOfWheel_7 (by decide) ?_
  refine J_icmp_ge (tgt := 36) hC dX4_digestOfWheel_9 (by decide) (fun h => absurd h (by decide)) (fun _ => ?_)
  refine J_aload_nN hC (j := 3) dX4_digestOfWheel_12 rfl rfl ?_
  refine J_ifnullN (tgt := 36) hC dX4_digestOfWheel_13 (by decide) ?_
  refine J_lload_n hC (j := 1) dX4_digestOfWheel_36 rfl rfl ?_
  exact J_lret hC hr rfl rfl rfl dX4_digestOfWheel_37
set_option maxHeartbeats 4000000 in
set_option maxRecDepth 100000 in
theorem ct_X4_digestOfWheel (l : Launch) (G : GG) (D E g S A : DD) (o : OO) (d0 : Int64) (q : Nat) (hq : q < 24) : CT l yX4_digestOfWheel cX4_digestOfWheel 6 (some .long) 3 63 0 0 G [.long d0, .ref (aX G 0 q)] (mk5 D E g S A) o (some (.long (digWheel (D q) d0 11))) (mk5 D E g S A) o := by
  refine CT_of (own := RX4) (lv := [(0, .long d0), (2, .ref (aX G 0 q))]) (by decide) rfl (Nat.le_of_ble_eq_true rfl) rfl ?_
  intro p e s m args below meth c hr hC
  refine J_lload_n hC (j := 0) dX4_digestOfWheel_0 rfl rfl ?_
  refine J_lstore_n (lv' := [(3, .long d0), (0, .long d0), (2, .ref (aX G 0 q))]) hC dX4_digestOfWheel_1 rfl (by decide) rfl ?_
  refine J_iconst (v := 0) hC dX4_digestOfWheel_2 (by decide) ?_
  refine J_istore (lv' := [(5, .int 0), (3, .long d0), (0, .long d0), (2, .ref (aX G 0 q))]) hC dX4_digestOfWheel_3 (by decide) rfl ?_
  have L5 : ∀ n i : Nat, i + n = 11 → Jd p l e ({ frames := 3, cells := 0, slots := 0, locals := 63 }) s m args below meth c (MQ below (CQ G (some (.long (digWheel (D q) d0 11))) (mk5 D E g S A) o) args s 0 0 (gB G)) G 6 0 0 (mk5 D E g S A) o 5 [(0, .long d0), (2, .ref (aX G 0 q)), (3, .long (digWheel (D q) d0 i)), (5, .int (nI i))] [] := by
    intro n
    induction n with
    | zero =>
      intro i hn 
      obtain rfl : i = 11 := by omega
      refine J_iload hC (j := 3) dX4_digestOfWheel_5 rfl ?_
      refine J_bipush (v := 11) hC dX4_digestOfWheel_7 (by decide) ?_
      refine J_icmp_ge (tgt := 36) hC dX4_digestOfWheel_9 (by decide) (fun c9 => ?_) (fun c9 => absurd c9 (not_not_intro (le_nI (K := 11) rfl (by omega) (by omega))))
      refine J_lload_n hC (j := 2) dX4_digestOfWheel_36 rfl rfl ?_
      exact J_lret hC hr rfl rfl rfl dX4_digestOfWheel_37
    | succ n ih =>
      intro i hn 
      refine J_iload hC (j := 3) dX4_digestOfWheel_5 rfl ?_
      refine J_bipush (v := 11) hC dX4_digestOfWheel_7 (by decide) ?_
      refine J_icmp_ge (tgt := 36) hC dX4_digestOfWheel_9 (by decide) (fun c9 => absurd c9 (nle_nI (K := 11) rfl (by omega) (by omega))) (fun c9 => ?_)
      refine J_aload_n hC (j := 1) dX4_digestOfWheel_12 rfl rfl ?_
      refine J_ifnull hC dX4_digestOfWheel_13 ?_
      refine J_lload_n hC (j := 2) dX4_digestOfWheel_16 rfl rfl ?_
      refine J_ldc2 (v := 31) hC qw_228 dX4_digestOfWheel_17 ?_
      refine J_lmul hC dX4_digestOfWheel_20 ?_
      refine J_aload_n hC (j := 1) dX4_digestOfWheel_21 rfl rfl ?_
      refine J_iload hC (j := 3) dX4_digestOfWheel_22 rfl ?_
      refine J_callV hC (ct_rw m5u0 m5u0 (ct_X3_fact l G (mk5 D E g S A) o 0 (by decide) D q hq (nI i))) mw_X3_fact qw_258 (nl_wh (by decide) hq) (ent_wh (by decide) hq) rfl rfl rfl (Nat.le_of_ble_eq_true rfl) ⟨Nat.le_of_ble_eq_true rfl, Nat.le_of_ble_eq_true rfl⟩ ⟨Nat.le_of_ble_eq_true rfl, Nat.le_of_ble_eq_true rfl⟩ dX4_digestOfWheel_24 ?_
      refine J_i2l hC dX4_digestOfWheel_27 ?_
      refine J_ladd hC dX4_digestOfWheel_28 ?_
      refine J_lstore_n (lv' := [(3, .long (((digWheel (D q) d0 i) * 31) + ((wFact (D q) (nI i))).toInt64)), (0, .long d0), (2, .ref (aX G 0 q)), (5, .int (nI i))]) hC dX4_digestOfWheel_29 rfl (by decide) rfl ?_
      refine J_iinc (j := 3) (v := ((nI i) + 1)) (lv' := [(5, .int ((nI i) + 1)), (3, .long (((digWheel (D q) d0 i) * 31) + ((wFact (D q) (nI i))).toInt64)), (0, .long d0), (2, .ref (aX G 0 q))]) hC dX4_digestOfWheel_30 rfl rfl (by decide) rfl ?_
      refine J_goto (tgt := 5) hC dX4_digestOfWheel_33 (by decide) ?_
      refine J_lv [2, 3, 1, 0] (lv' := [(0, .long d0), (2, .ref (aX G 0 q)), (3, .long (((digWheel (D q) d0 i) * 31) + ((wFact (D q) (nI i))).toInt64)), (5, .int ((nI i) + 1))]) rfl ?_
      exact J_cast rfl (by simp [nI_succ, digWheel, rep]) rfl (ih (i + 1) (by omega) )
  refine J_lv [2, 3, 1, 0] (lv' := [(0, .long d0), (2, .ref (aX G 0 q)), (3, .long d0), (5, .int 0)]) rfl ?_
  exact J_cast rfl (by first | rfl | simp [nI_0, digWheel, rep]) rfl (L5 11 0 (by omega) )
set_option maxHeartbeats 4000000 in
set_option maxRecDepth 100000 in
theorem ctn_X4_digestOfMonk (l : Launch) (G : GG) (D E g S A : DD) (o : OO) (d0 : Int64) : CT l yX4_digestOfMonk cX4_digestOfMonk 7 (some .long) 0 0 0 0 G [.ref (gA G 88), .long d0, .null] (mk5 D E g S A) o (some (.long d0)) (mk5 D E g S A) o := by
  refine CT_of (own := RX4) (lv := [(0, .ref (gA G 88)), (1, .long d0), (3, .null)]) (by decide) rfl (Nat.le_of_ble_eq_true rfl) rfl ?_
  intro p e s m args below meth c hr hC
  refine J_lload_n hC (j := 1) dX4_digestOfMonk_0 rfl rfl ?_
  refine J_lstore (lv' := [(4, .long d0), (0, .ref (gA G 88)), (1, .long d0), (3, .null)]) hC dX4_digestOfMonk_1 (by decide) rfl ?_
  refine J_iconst (v := 0) hC dX4_digestOfMonk_3 (by decide) ?_
  refine J_istore (lv' := [(6, .int 0), (4, .long d0), (0, .ref (gA G 88)), (1, .long d0), (3, .null)]) hC dX4_digestOfMonk_4 (by decide) rfl ?_
  refine J_iload hC (j := 0) dX4_digestOfMonk_6 rfl ?_
  refine J_iconst (v := 5) hC dX4_digestOfMonk_8 (by decide) ?_
  refine J_icmp_ge (tgt := 45) hC dX4_digestOfMonk_9 (by decide) (fun h => absurd h (by decide)) (fun _ => ?_)
  refine J_aload_nN hC (j := 4) dX4_digestOfMonk_12 rfl rfl ?_
  refine J_ifnullN (tgt := 45) hC dX4_digestOfMonk_13 (by decide) ?_
  refine J_iconst (v := 0) hC dX4_digestOfMonk_45 (by decide) ?_
  refine J_istore (lv' := [(6, .int 0), (4, .long d0), (0, .ref (gA G 88)), (1, .long d0), (3, .null)]) hC dX4_digestOfMonk_46 (by decide) rfl ?_
  refine J_iload hC (j := 0) dX4_digestOfMonk_48 rfl ?_
  refine J_bipush (v := 7) hC dX4_digestOfMonk_50 (by decide) ?_
  refine J_icmp_ge (tgt := 81) hC dX4_digestOfMonk_52 (by decide) (fun h => absurd h (by decide)) (fun _ => ?_)
  refine J_aload_nN hC (j := 4) dX4_digestOfMonk_55 rfl rfl ?_
  refine J_ifnullN (tgt := 81) hC dX4_digestOfMonk_56 (by decide) ?_
  refine J_lload hC (j := 1) dX4_digestOfMonk_81 rfl ?_
  exact J_lret hC hr rfl rfl rfl dX4_digestOfMonk_83
set_option maxHeartbeats 4000000 in
set_option maxRecDepth 100000 in
theorem ct_X4_digestOfMonk (l : Launch) (G : GG) (D E g S A : DD) (o : OO) (d0 : Int64) (q : Nat) (hq : q < 4) : CT l yX4_digestOfMonk cX4_digestOfMonk 7 (some .long) 3 66 0 0 G [.ref (gA G 88), .long d0, .ref (aX G 0 (32 + q))] (mk5 D E g S A) o (some (.long (digMonk D q d0))) (mk5 D E g S A) o := by
  refine CT_of (own := RX4) (lv := [(0, .ref (gA G 88)), (1, .long d0), (3, .ref (aX G 0 (32 + q)))]) (by decide) rfl (Nat.le_of_ble_eq_true rfl) rfl ?_
  intro p e s m args below meth c hr hC
  refine J_lload_n hC (j := 1) dX4_digestOfMonk_0 rfl rfl ?_
  refine J_lstore (lv' := [(4, .long d0), (0, .ref (gA G 88)), (1, .long d0), (3, .ref (aX G 0 (32 + q)))]) hC dX4_digestOfMonk_1 (by decide) rfl ?_
  refine J_iconst (v := 0) hC dX4_digestOfMonk_3 (by decide) ?_
  refine J_istore (lv' := [(6, .int 0), (4, .long d0), (0, .ref (gA G 88)), (1, .long d0), (3, .ref (aX G 0 (32 + q)))]) hC dX4_digestOfMonk_4 (by decide) rfl ?_
  have L6 : ∀ n i : Nat, i + n = 5 → Jd p l e ({ frames := 3, cells := 0, slots := 0, locals := 66 }) s m args below meth c (MQ below (CQ G (some (.long (digMonk D q d0))) (mk5 D E g S A) o) args s 0 0 (gB G)) G 7 0 0 (mk5 D E g S A) o 6 [(0, .ref (gA G 88)), (1, .long d0), (3, .ref (aX G 0 (32 + q))), (4, .long (digMonk1 (D (32 + q)) (D (36 + q)) (D 40 0) d0 i)), (6, .int (nI i))] [] := by
    intro n
    induction n with
    | zero =>
      intro i hn 
      obtain rfl : i = 5 := by omega
      refine J_iload hC (j := 4) dX4_digestOfMonk_6 rfl ?_
      refine J_iconst (v := 5) hC dX4_digestOfMonk_8 (by decide) ?_
      refine J_icmp_ge (tgt := 45) hC dX4_digestOfMonk_9 (by decide) (fun c9 => ?_) (fun c9 => absurd c9 (not_not_intro (le_nI (K := 5) rfl (by omega) (by omega))))
      refine J_iconst (v := 0) hC dX4_digestOfMonk_45 (by decide) ?_
      refine J_istore (lv' := [(6, .int 0), (0, .ref (gA G 88)), (1, .long d0), (3, .ref (aX G 0 (32 + q))), (4, .long (digMonk1 (D (32 + q)) (D (36 + q)) (D 40 0) d0 5))]) hC dX4_digestOfMonk_46 (by decide) rfl ?_
      have L48 : ∀ n i : Nat, i + n = 7 → Jd p l e ({ frames := 3, cells := 0, slots := 0, locals := 66 }) s m args below meth c (MQ below (CQ G (some (.long (digMonk D q d0))) (mk5 D E g S A) o) args s 0 0 (gB G)) G 7 0 0 (mk5 D E g S A) o 48 [(0, .ref (gA G 88)), (1, .long d0), (3, .ref (aX G 0 (32 + q))), (4, .long (digMonk2 (D (36 + q)) (digMonk1 (D (32 + q)) (D (36 + q)) (D 40 0) d0 5) i)), (6, .int (nI i))] [] := by
        intro n
        induction n with
        | zero =>
          intro i hn 
          obtain rfl : i = 7 := by omega
          refine J_iload hC (j := 4) dX4_digestOfMonk_48 rfl ?_
          refine J_bipush (v := 7) hC dX4_digestOfMonk_50 (by decide) ?_
          refine J_icmp_ge (tgt := 81) hC dX4_digestOfMonk_52 (by decide) (fun c52 => ?_) (fun c52 => absurd c52 (not_not_intro (le_nI (K := 7) rfl (by omega) (by omega))))
          refine J_lload hC (j := 3) dX4_digestOfMonk_81 rfl ?_
          exact J_lret hC hr (by simp [digMonk]) rfl rfl dX4_digestOfMonk_83
        | succ n ih =>
          intro i hn 
          refine J_iload hC (j := 4) dX4_digestOfMonk_48 rfl ?_
          refine J_bipush (v := 7) hC dX4_digestOfMonk_50 (by decide) ?_
          refine J_icmp_ge (tgt := 81) hC dX4_digestOfMonk_52 (by decide) (fun c52 => absurd c52 (nle_nI (K := 7) rfl (by omega) (by omega))) (fun c52 => ?_)
          refine J_aload_n hC (j := 2) dX4_digestOfMonk_55 rfl rfl ?_
          refine J_ifnull hC dX4_digestOfMonk_56 ?_
          refine J_lload hC (j := 3) dX4_digestOfMonk_59 rfl ?_
          refine J_ldc2 (v := 31) hC qw_228 dX4_digestOfMonk_61 ?_
          refine J_lmul hC dX4_digestOfMonk_64 ?_
          refine J_aload_n hC (j := 2) dX4_digestOfMonk_65 rfl rfl ?_
          refine J_iload hC (j := 4) dX4_digestOfMonk_66 rfl ?_
          refine J_callV hC (ct_rw m5u0 m5u0 (ct_X2_workOn l G (mk5 D E g S A) o 0 (by decide) D q hq (nI i))) mw_X2_workOn qw_282 (nl_mk (by decide) hq) (ent_mk (by decide) hq) rfl rfl rfl (Nat.le_of_ble_eq_true rfl) ⟨Nat.le_of_ble_eq_true rfl, Nat.le_of_ble_eq_true rfl⟩ ⟨Nat.le_of_ble_eq_true rfl, Nat.le_of_ble_eq_true rfl⟩ dX4_digestOfMonk_68 ?_
          refine J_i2l hC dX4_digestOfMonk_71 ?_
          refine J_ladd hC dX4_digestOfMonk_72 ?_
          refine J_lstore (lv' := [(4, .long (((digMonk2 (D (36 + q)) (digMonk1 (D (32 + q)) (D (36 + q)) (D 40 0) d0 5) i) * 31) + ((wOn (D (36 + q)) (nI i))).toInt64)), (0, .ref (gA G 88)), (1, .long d0), (3, .ref (aX G 0 (32 + q))), (6, .int (nI i))]) hC dX4_digestOfMonk_73 (by decide) rfl ?_
          refine J_iinc (j := 4) (v := ((nI i) + 1)) (lv' := [(6, .int ((nI i) + 1)), (4, .long (((digMonk2 (D (36 + q)) (digMonk1 (D (32 + q)) (D (36 + q)) (D 40 0) d0 5) i) * 31) + ((wOn (D (36 + q)) (nI i))).toInt64)), (0, .ref (gA G 88)), (1, .long d0), (3, .ref (aX G 0 (32 + q)))]) hC dX4_digestOfMonk_75 rfl rfl (by decide) rfl ?_
          refine J_goto (tgt := 48) hC dX4_digestOfMonk_78 (by decide) ?_
          refine J_lv [2, 3, 4, 1, 0] (lv' := [(0, .ref (gA G 88)), (1, .long d0), (3, .ref (aX G 0 (32 + q))), (4, .long (((digMonk2 (D (36 + q)) (digMonk1 (D (32 + q)) (D (36 + q)) (D 40 0) d0 5) i) * 31) + ((wOn (D (36 + q)) (nI i))).toInt64)), (6, .int ((nI i) + 1))]) rfl ?_
          exact J_cast rfl (by simp [nI_succ, digMonk2, rep]) rfl (ih (i + 1) (by omega) )
      refine J_lv [1, 2, 3, 4, 0] (lv' := [(0, .ref (gA G 88)), (1, .long d0), (3, .ref (aX G 0 (32 + q))), (4, .long (digMonk1 (D (32 + q)) (D (36 + q)) (D 40 0) d0 5)), (6, .int 0)]) rfl ?_
      exact J_cast rfl (by first | rfl | simp [nI_0, digMonk2, rep]) rfl (L48 7 0 (by omega) )
    | succ n ih =>
      intro i hn 
      refine J_iload hC (j := 4) dX4_digestOfMonk_6 rfl ?_
      refine J_iconst (v := 5) hC dX4_digestOfMonk_8 (by decide) ?_
      refine J_icmp_ge (tgt := 45) hC dX4_digestOfMonk_9 (by decide) (fun c9 => absurd c9 (nle_nI (K := 5) rfl (by omega) (by omega))) (fun c9 => ?_)
      refine J_aload_n hC (j := 2) dX4_digestOfMonk_12 rfl rfl ?_
      refine J_ifnull hC dX4_digestOfMonk_13 ?_
      refine J_lload hC (j := 3) dX4_digestOfMonk_16 rfl ?_
      refine J_ldc2 (v := 31) hC qw_228 dX4_digestOfMonk_18 ?_
      refine J_lmul hC dX4_digestOfMonk_21 ?_
      refine J_aload_n hC (j := 2) dX4_digestOfMonk_22 rfl rfl ?_
      refine J_iload hC (j := 4) dX4_digestOfMonk_23 rfl ?_
      refine J_aload_n hC (j := 0) dX4_digestOfMonk_25 rfl rfl ?_
      refine J_get hC (by decide) ent_rt rfl in4 0 (by decide) rfl qw_182 rfl rfl dX4_digestOfMonk_26 ?_
      refine J_get hC (nl_da (by decide)) (ent_da (by decide)) rfl in1 0 (by decide) rfl qw_153 rfl (r5 (x := (D 40 0)) rfl) dX4_digestOfMonk_29 ?_
      refine J_callV hC (ct_rw m5u0 m5u0 (ct_X2_fact l G (mk5 D E g S A) o 0 (by decide) D q hq (nI i) (D 40 0))) mw_X2_fact qw_271 (nl_mk (by decide) hq) (ent_mk (by decide) hq) rfl rfl rfl (Nat.le_of_ble_eq_true rfl) ⟨Nat.le_of_ble_eq_true rfl, Nat.le_of_ble_eq_true rfl⟩ ⟨Nat.le_of_ble_eq_true rfl, Nat.le_of_ble_eq_true rfl⟩ dX4_digestOfMonk_32 ?_
      refine J_i2l hC dX4_digestOfMonk_35 ?_
      refine J_ladd hC dX4_digestOfMonk_36 ?_
      refine J_lstore (lv' := [(4, .long (((digMonk1 (D (32 + q)) (D (36 + q)) (D 40 0) d0 i) * 31) + ((mFact (D (32 + q)) (D (36 + q)) (nI i) (D 40 0))).toInt64)), (0, .ref (gA G 88)), (1, .long d0), (3, .ref (aX G 0 (32 + q))), (6, .int (nI i))]) hC dX4_digestOfMonk_37 (by decide) rfl ?_
      refine J_iinc (j := 4) (v := ((nI i) + 1)) (lv' := [(6, .int ((nI i) + 1)), (4, .long (((digMonk1 (D (32 + q)) (D (36 + q)) (D 40 0) d0 i) * 31) + ((mFact (D (32 + q)) (D (36 + q)) (nI i) (D 40 0))).toInt64)), (0, .ref (gA G 88)), (1, .long d0), (3, .ref (aX G 0 (32 + q)))]) hC dX4_digestOfMonk_39 rfl rfl (by decide) rfl ?_
      refine J_goto (tgt := 6) hC dX4_digestOfMonk_42 (by decide) ?_
      refine J_lv [2, 3, 4, 1, 0] (lv' := [(0, .ref (gA G 88)), (1, .long d0), (3, .ref (aX G 0 (32 + q))), (4, .long (((digMonk1 (D (32 + q)) (D (36 + q)) (D 40 0) d0 i) * 31) + ((mFact (D (32 + q)) (D (36 + q)) (nI i) (D 40 0))).toInt64)), (6, .int ((nI i) + 1))]) rfl ?_
      exact J_cast rfl (by simp [nI_succ, digMonk1, rep]) rfl (ih (i + 1) (by omega) )
  refine J_lv [2, 3, 4, 1, 0] (lv' := [(0, .ref (gA G 88)), (1, .long d0), (3, .ref (aX G 0 (32 + q))), (4, .long d0), (6, .int 0)]) rfl ?_
  exact J_cast rfl (by first | rfl | simp [nI_0, digMonk1, rep]) rfl (L6 5 0 (by omega) )
set_option maxHeartbeats 4000000 in
set_option maxRecDepth 100000 in
theorem ct_X4_digest (l : Launch) (G : GG) (D E g S A : DD) (o : OO) : CT l yX4_digest cX4_digest 5 (some .long) 5 111 0 0 G [.ref (gA G 88)] (mk5 D E g S A) o (some (.long (digC D))) (mk5 D E g S A) o := by
  refine CT_of (own := RX4) (lv := [(0, .ref (gA G 88))]) (by decide) rfl (Nat.le_of_ble_eq_true rfl) rfl ?_
  intro p e s m args below meth c hr hC
  refine J_ldc2 (v := 937) hC qw_227 dX4_digest_0 ?_
  refine J_lstore_n (lv' := [(1, .long 937), (0, .ref (gA G 88))]) hC dX4_digest_3 rfl (by decide) rfl ?_
  refine J_iconst (v := 0) hC dX4_digest_4 (by decide) ?_
  refine J_istore_n (lv' := [(3, .int 0), (1, .long 937), (0, .ref (gA G 88))]) hC dX4_digest_5 rfl (by decide) rfl ?_
  have L6 : ∀ n i : Nat, i + n = 9 → Jd p l e ({ frames := 5, cells := 0, slots := 0, locals := 111 }) s m args below meth c (MQ below (CQ G (some (.long (digC D))) (mk5 D E g S A) o) args s 0 0 (gB G)) G 5 0 0 (mk5 D E g S A) o 6 [(0, .ref (gA G 88)), (1, .long (digCounts D i)), (3, .int (nI i))] [] := by
    intro n
    induction n with
    | zero =>
      intro i hn 
      obtain rfl : i = 9 := by omega
      refine J_iload_n hC (j := 2) dX4_digest_6 rfl rfl ?_
      refine J_bipush (v := 9) hC dX4_digest_7 (by decide) ?_
      refine J_icmp_ge (tgt := 34) hC dX4_digest_9 (by decide) (fun c9 => ?_) (fun c9 => absurd c9 (not_not_intro (le_nI (K := 9) rfl (by omega) (by omega))))
      refine J_iconst (v := 0) hC dX4_digest_34 (by decide) ?_
      refine J_istore_n (lv' := [(3, .int 0), (0, .ref (gA G 88)), (1, .long (digCounts D 9))]) hC dX4_digest_35 rfl (by decide) rfl ?_
      have L36 : ∀ n i : Nat, i + n = (ix (D 40 2)) → Jd p l e ({ frames := 5, cells := 0, slots := 0, locals := 111 }) s m args below meth c (MQ below (CQ G (some (.long (digC D))) (mk5 D E g S A) o) args s 0 0 (gB G)) G 5 0 0 (mk5 D E g S A) o 36 [(0, .ref (gA G 88)), (1, .long (digCells D i)), (3, .int (nI i))] [] := by
        intro n
        induction n with
        | zero =>
          intro i hn 
          have hz : i = (ix (D 40 2)) := by omega
          subst hz
          refine J_iload_n hC (j := 2) dX4_digest_36 rfl rfl ?_
          refine J_aload_n hC (j := 0) dX4_digest_37 rfl rfl ?_
          refine J_get hC (by decide) ent_rt rfl in4 0 (by decide) rfl qw_182 rfl rfl dX4_digest_38 ?_
          refine J_get hC (nl_da (by decide)) (ent_da (by decide)) rfl in1 2 (by decide) rfl qw_157 rfl (r5 (x := (D 40 2)) rfl) dX4_digest_41 ?_
          refine J_icmp_ge (tgt := 86) hC dX4_digest_44 (by decide) (fun c44 => ?_) (fun c44 => absurd c44 (not_not_intro (le_ix (D 40 2))))
          refine J_iconst (v := 0) hC dX4_digest_86 (by decide) ?_
          refine J_istore_n (lv' := [(3, .int 0), (0, .ref (gA G 88)), (1, .long (digCells D (ix (D 40 2))))]) hC dX4_digest_87 rfl (by decide) rfl ?_
          have L88 : ∀ n i : Nat, i + n = (ix (D 40 3)) → Jd p l e ({ frames := 5, cells := 0, slots := 0, locals := 111 }) s m args below meth c (MQ below (CQ G (some (.long (digC D))) (mk5 D E g S A) o) args s 0 0 (gB G)) G 5 0 0 (mk5 D E g S A) o 88 [(0, .ref (gA G 88)), (1, .long (digWheels D (digCells D (ix (D 40 2))) i)), (3, .int (nI i))] [] := by
            intro n
            induction n with
            | zero =>
              intro i hn 
              have hz : i = (ix (D 40 3)) := by omega
              subst hz
              refine J_iload_n hC (j := 2) dX4_digest_88 rfl rfl ?_
              refine J_aload_n hC (j := 0) dX4_digest_89 rfl rfl ?_
              refine J_get hC (by decide) ent_rt rfl in4 0 (by decide) rfl qw_182 rfl rfl dX4_digest_90 ?_
              refine J_get hC (nl_da (by decide)) (ent_da (by decide)) rfl in1 3 (by decide) rfl qw_159 rfl (r5 (x := (D 40 3)) rfl) dX4_digest_93 ?_
              refine J_icmp_ge (tgt := 118) hC dX4_digest_96 (by decide) (fun c96 => ?_) (fun c96 => absurd c96 (not_not_intro (le_ix (D 40 3))))
              refine J_iconst (v := 0) hC dX4_digest_118 (by decide) ?_
              refine J_istore_n (lv' := [(3, .int 0), (0, .ref (gA G 88)), (1, .long (digWheels D (digCells D (ix (D 40 2))) (ix (D 40 3))))]) hC dX4_digest_119 rfl (by decide) rfl ?_
              have L120 : ∀ n i : Nat, i + n = (ix (D 40 4)) → Jd p l e ({ frames := 5, cells := 0, slots := 0, locals := 111 }) s m args below meth c (MQ below (CQ G (some (.long (digC D))) (mk5 D E g S A) o) args s 0 0 (gB G)) G 5 0 0 (mk5 D E g S A) o 120 [(0, .ref (gA G 88)), (1, .long (digMonks D (digWheels D (digCells D (ix (D 40 2))) (ix (D 40 3))) i)), (3, .int (nI i))] [] := by
                intro n
                induction n with
                | zero =>
                  intro i hn 
                  have hz : i = (ix (D 40 4)) := by omega
                  subst hz
                  refine J_iload_n hC (j := 2) dX4_digest_120 rfl rfl ?_
                  refine J_aload_n hC (j := 0) dX4_digest_121 rfl rfl ?_
                  refine J_get hC (by decide) ent_rt rfl in4 0 (by decide) rfl qw_182 rfl rfl dX4_digest_122 ?_
                  refine J_get hC (nl_da (by decide)) (ent_da (by decide)) rfl in1 4 (by decide) rfl qw_161 rfl (r5 (x := (D 40 4)) rfl) dX4_digest_125 ?_
                  refine J_icmp_ge (tgt := 151) hC dX4_digest_128 (by decide) (fun c128 => ?_) (fun c128 => absurd c128 (not_not_intro (le_ix (D 40 4))))
                  refine J_lload_n hC (j := 1) dX4_digest_151 rfl rfl ?_
                  exact J_lret hC hr (by simp [digC]) rfl rfl dX4_digest_152
                | succ n ih =>
                  intro i hn 
                  refine J_iload_n hC (j := 2) dX4_digest_120 rfl rfl ?_
                  refine J_aload_n hC (j := 0) dX4_digest_121 rfl rfl ?_
                  refine J_get hC (by decide) ent_rt rfl in4 0 (by decide) rfl qw_182 rfl rfl dX4_digest_122 ?_
                  refine J_get hC (nl_da (by decide)) (ent_da (by decide)) rfl in1 4 (by decide) rfl qw_161 rfl (r5 (x := (D 40 4)) rfl) dX4_digest_125 ?_
                  refine J_icmp_ge (tgt := 151) hC dX4_digest_128 (by decide) (fun c128 => absurd c128 (nle_ix (by omega))) (fun c128 => ?_)
                  refine J_aload_n hC (j := 0) dX4_digest_131 rfl rfl ?_
                  refine J_lload_n hC (j := 1) dX4_digest_132 rfl rfl ?_
                  refine J_aload_n hC (j := 0) dX4_digest_133 rfl rfl ?_
                  refine J_get hC (by decide) ent_rt rfl in4 0 (by decide) rfl qw_182 rfl rfl dX4_digest_134 ?_
                  refine J_iload_n hC (j := 2) dX4_digest_137 rfl rfl ?_
                  refine J_callV hC (ct_rw m5u0 m5u0 (ct_X1_monkOf l G (mk5 D E g S A) o 0 (by decide) D (nI i))) mw_X1_monkOf qw_263 (nl_da (by decide)) (ent_da (by decide)) rfl rfl rfl (Nat.le_of_ble_eq_true rfl) ⟨Nat.le_of_ble_eq_true rfl, Nat.le_of_ble_eq_true rfl⟩ ⟨Nat.le_of_ble_eq_true rfl, Nat.le_of_ble_eq_true rfl⟩ dX4_digest_138 ?_
                  by_cases h138 : inM D (nI i) = true
                  · refine J_tv (mkV_p h138) ?_
                    refine J_callV hC (ct_X4_digestOfMonk l G D E g S A o (digMonks D (digWheels D (digCells D (ix (D 40 2))) (ix (D 40 3))) i) (ix (nI i)) (inM_lt h138)) mw_X4_digestOfMonk qw_267 (by decide) ent_rt rfl rfl rfl (Nat.le_of_ble_eq_true rfl) ⟨Nat.le_of_ble_eq_true rfl, Nat.le_of_ble_eq_true rfl⟩ ⟨Nat.le_of_ble_eq_true rfl, Nat.le_of_ble_eq_true rfl⟩ dX4_digest_141 ?_
                    refine J_lstore_n (lv' := [(1, .long (digMonk D (ix (nI i)) (digMonks D (digWheels D (digCells D (ix (D 40 2))) (ix (D 40 3))) i))), (0, .ref (gA G 88)), (3, .int (nI i))]) hC dX4_digest_144 rfl (by decide) rfl ?_
                    refine J_iinc (j := 2) (v := ((nI i) + 1)) (lv' := [(3, .int ((nI i) + 1)), (1, .long (digMonk D (ix (nI i)) (digMonks D (digWheels D (digCells D (ix (D 40 2))) (ix (D 40 3))) i))), (0, .ref (gA G 88))]) hC dX4_digest_145 rfl rfl (by decide) rfl ?_
                    refine J_goto (tgt := 120) hC dX4_digest_148 (by decide) ?_
                    refine J_lv [2, 1, 0] (lv' := [(0, .ref (gA G 88)), (1, .long (digMonk D (ix (nI i)) (digMonks D (digWheels D (digCells D (ix (D 40 2))) (ix (D 40 3))) i))), (3, .int ((nI i) + 1))]) rfl ?_
                    exact J_cast rfl (by simp [nI_succ, digMonks, rep, h138]) rfl (ih (i + 1) (by omega) )
                  · refine J_tv (mkV_n h138) ?_
                    refine J_callV hC (ctn_X4_digestOfMonk l G D E g S A o (digMonks D (digWheels D (digCells D (ix (D 40 2))) (ix (D 40 3))) i)) mw_X4_digestOfMonk qw_267 (by decide) ent_rt rfl rfl rfl (Nat.le_of_ble_eq_true rfl) ⟨Nat.le_of_ble_eq_true rfl, Nat.le_of_ble_eq_true rfl⟩ ⟨Nat.le_of_ble_eq_true rfl, Nat.le_of_ble_eq_true rfl⟩ dX4_digest_141 ?_
                    refine J_lstore_n (lv' := [(1, .long (digMonks D (digWheels D (digCells D (ix (D 40 2))) (ix (D 40 3))) i)), (0, .ref (gA G 88)), (3, .int (nI i))]) hC dX4_digest_144 rfl (by decide) rfl ?_
                    refine J_iinc (j := 2) (v := ((nI i) + 1)) (lv' := [(3, .int ((nI i) + 1)), (1, .long (digMonks D (digWheels D (digCells D (ix (D 40 2))) (ix (D 40 3))) i)), (0, .ref (gA G 88))]) hC dX4_digest_145 rfl rfl (by decide) rfl ?_
                    refine J_goto (tgt := 120) hC dX4_digest_148 (by decide) ?_
                    refine J_lv [2, 1, 0] (lv' := [(0, .ref (gA G 88)), (1, .long (digMonks D (digWheels D (digCells D (ix (D 40 2))) (ix (D 40 3))) i)), (3, .int ((nI i) + 1))]) rfl ?_
                    exact J_cast rfl (by simp [nI_succ, digMonks, rep, h138]) rfl (ih (i + 1) (by omega) )
              refine J_lv [1, 2, 0] (lv' := [(0, .ref (gA G 88)), (1, .long (digWheels D (digCells D (ix (D 40 2))) (ix (D 40 3)))), (3, .int 0)]) rfl ?_
              exact J_cast rfl (by first | rfl | simp [nI_0, digMonks, rep]) rfl (L120 (ix (D 40 4)) 0 (by omega) )
            | succ n ih =>
              intro i hn 
              refine J_iload_n hC (j := 2) dX4_digest_88 rfl rfl ?_
              refine J_aload_n hC (j := 0) dX4_digest_89 rfl rfl ?_
              refine J_get hC (by decide) ent_rt rfl in4 0 (by decide) rfl qw_182 rfl rfl dX4_digest_90 ?_
              refine J_get hC (nl_da (by decide)) (ent_da (by decide)) rfl in1 3 (by decide) rfl qw_159 rfl (r5 (x := (D 40 3)) rfl) dX4_digest_93 ?_
              refine J_icmp_ge (tgt := 118) hC dX4_digest_96 (by decide) (fun c96 => absurd c96 (nle_ix (by omega))) (fun c96 => ?_)
              refine J_lload_n hC (j := 1) dX4_digest_99 rfl rfl ?_
              refine J_aload_n hC (j := 0) dX4_digest_100 rfl rfl ?_
              refine J_get hC (by decide) ent_rt rfl in4 0 (by decide) rfl qw_182 rfl rfl dX4_digest_101 ?_
              refine J_iload_n hC (j := 2) dX4_digest_104 rfl rfl ?_
              refine J_callV hC (ct_rw m5u0 m5u0 (ct_X1_wheelOf l G (mk5 D E g S A) o 0 (by decide) D (nI i))) mw_X1_wheelOf qw_254 (nl_da (by decide)) (ent_da (by decide)) rfl rfl rfl (Nat.le_of_ble_eq_true rfl) ⟨Nat.le_of_ble_eq_true rfl, Nat.le_of_ble_eq_true rfl⟩ ⟨Nat.le_of_ble_eq_true rfl, Nat.le_of_ble_eq_true rfl⟩ dX4_digest_105 ?_
              by_cases h105 : inW D (nI i) = true
              · refine J_tv (whV_p h105) ?_
                refine J_callS hC (ct_X4_digestOfWheel l G D E g S A o (digWheels D (digCells D (ix (D 40 2))) i) (ix (nI i)) (inW_lt h105)) ms_X4_digestOfWheel qw_255 rfl rfl (Nat.le_of_ble_eq_true rfl) ⟨Nat.le_of_ble_eq_true rfl, Nat.le_of_ble_eq_true rfl⟩ ⟨Nat.le_of_ble_eq_true rfl, Nat.le_of_ble_eq_true rfl⟩ dX4_digest_108 ?_
                refine J_lstore_n (lv' := [(1, .long (digWheel (D (ix (nI i))) (digWheels D (digCells D (ix (D 40 2))) i) 11)), (0, .ref (gA G 88)), (3, .int (nI i))]) hC dX4_digest_111 rfl (by decide) rfl ?_
                refine J_iinc (j := 2) (v := ((nI i) + 1)) (lv' := [(3, .int ((nI i) + 1)), (1, .long (digWheel (D (ix (nI i))) (digWheels D (digCells D (ix (D 40 2))) i) 11)), (0, .ref (gA G 88))]) hC dX4_digest_112 rfl rfl (by decide) rfl ?_
                refine J_goto (tgt := 88) hC dX4_digest_115 (by decide) ?_
                refine J_lv [2, 1, 0] (lv' := [(0, .ref (gA G 88)), (1, .long (digWheel (D (ix (nI i))) (digWheels D (digCells D (ix (D 40 2))) i) 11)), (3, .int ((nI i) + 1))]) rfl ?_
                exact J_cast rfl (by simp [nI_succ, digWheels, rep, h105]) rfl (ih (i + 1) (by omega) )
              · refine J_tv (whV_n h105) ?_
                refine J_callS hC (ctn_X4_digestOfWheel l G D E g S A o (digWheels D (digCells D (ix (D 40 2))) i)) ms_X4_digestOfWheel qw_255 rfl rfl (Nat.le_of_ble_eq_true rfl) ⟨Nat.le_of_ble_eq_true rfl, Nat.le_of_ble_eq_true rfl⟩ ⟨Nat.le_of_ble_eq_true rfl, Nat.le_of_ble_eq_true rfl⟩ dX4_digest_108 ?_
                refine J_lstore_n (lv' := [(1, .long (digWheels D (digCells D (ix (D 40 2))) i)), (0, .ref (gA G 88)), (3, .int (nI i))]) hC dX4_digest_111 rfl (by decide) rfl ?_
                refine J_iinc (j := 2) (v := ((nI i) + 1)) (lv' := [(3, .int ((nI i) + 1)), (1, .long (digWheels D (digCells D (ix (D 40 2))) i)), (0, .ref (gA G 88))]) hC dX4_digest_112 rfl rfl (by decide) rfl ?_
                refine J_goto (tgt := 88) hC dX4_digest_115 (by decide) ?_
                refine J_lv [2, 1, 0] (lv' := [(0, .ref (gA G 88)), (1, .long (digWheels D (digCells D (ix (D 40 2))) i)), (3, .int ((nI i) + 1))]) rfl ?_
                exact J_cast rfl (by simp [nI_succ, digWheels, rep, h105]) rfl (ih (i + 1) (by omega) )
          refine J_lv [1, 2, 0] (lv' := [(0, .ref (gA G 88)), (1, .long (digCells D (ix (D 40 2)))), (3, .int 0)]) rfl ?_
          exact J_cast rfl (by first | rfl | simp [nI_0, digWheels, rep]) rfl (L88 (ix (D 40 3)) 0 (by omega) )
        | succ n ih =>
          intro i hn 
          refine J_iload_n hC (j := 2) dX4_digest_36 rfl rfl ?_
          refine J_aload_n hC (j := 0) dX4_digest_37 rfl rfl ?_
          refine J_get hC (by decide) ent_rt rfl in4 0 (by decide) rfl qw_182 rfl rfl dX4_digest_38 ?_
          refine J_get hC (nl_da (by decide)) (ent_da (by decide)) rfl in1 2 (by decide) rfl qw_157 rfl (r5 (x := (D 40 2)) rfl) dX4_digest_41 ?_
          refine J_icmp_ge (tgt := 86) hC dX4_digest_44 (by decide) (fun c44 => absurd c44 (nle_ix (by omega))) (fun c44 => ?_)
          refine J_iconst (v := 0) hC dX4_digest_47 (by decide) ?_
          refine J_istore (lv' := [(4, .int 0), (0, .ref (gA G 88)), (1, .long (digCells D i)), (3, .int (nI i))]) hC dX4_digest_48 (by decide) rfl ?_
          have L50 : ∀ k j : Nat, j + k = 4 → Jd p l e ({ frames := 5, cells := 0, slots := 0, locals := 111 }) s m args below meth c (MQ below (CQ G (some (.long (digC D))) (mk5 D E g S A) o) args s 0 0 (gB G)) G 5 0 0 (mk5 D E g S A) o 50 [(0, .ref (gA G 88)), (1, .long (digCell D i (digCells D i) j)), (3, .int (nI i)), (4, .int (nI j))] [] := by
            intro k
            induction k with
            | zero =>
              intro j hn 
              obtain rfl : j = 4 := by omega
              refine J_iload hC (j := 3) dX4_digest_50 rfl ?_
              refine J_iconst (v := 4) hC dX4_digest_52 (by decide) ?_
              refine J_icmp_ge (tgt := 80) hC dX4_digest_53 (by decide) (fun c53 => ?_) (fun c53 => absurd c53 (not_not_intro (le_nI (K := 4) rfl (by omega) (by omega))))
              refine J_iinc (j := 2) (v := ((nI i) + 1)) (lv' := [(3, .int ((nI i) + 1)), (0, .ref (gA G 88)), (1, .long (digCell D i (digCells D i) 4)), (4, .int (nI 4))]) hC dX4_digest_80 rfl rfl (by decide) rfl ?_
              refine J_goto (tgt := 36) hC dX4_digest_83 (by decide) ?_
              refine J_lv [1, 2, 0] (lv' := [(0, .ref (gA G 88)), (1, .long (digCell D i (digCells D i) 4)), (3, .int ((nI i) + 1))]) rfl ?_
              exact J_cast rfl (by rw [nI_succ]; rfl) rfl (ih (i + 1) (by omega) )
            | succ k ih50 =>
              intro j hn 
              refine J_iload hC (j := 3) dX4_digest_50 rfl ?_
              refine J_iconst (v := 4) hC dX4_digest_52 (by decide) ?_
              refine J_icmp_ge (tgt := 80) hC dX4_digest_53 (by decide) (fun c53 => absurd c53 (nle_nI (K := 4) rfl (by omega) (by omega))) (fun c53 => ?_)
              refine J_lload_n hC (j := 1) dX4_digest_56 rfl rfl ?_
              refine J_ldc2 (v := 31) hC qw_228 dX4_digest_57 ?_
              refine J_lmul hC dX4_digest_60 ?_
              refine J_aload_n hC (j := 0) dX4_digest_61 rfl rfl ?_
              refine J_get hC (by decide) ent_rt rfl in4 0 (by decide) rfl qw_182 rfl rfl dX4_digest_62 ?_
              refine J_iload_n hC (j := 2) dX4_digest_65 rfl rfl ?_
              refine J_iload hC (j := 3) dX4_digest_66 rfl ?_
              refine J_callV hC (ct_rw m5u0 m5u0 (ct_X1_cellarFact l G (mk5 D E g S A) o 0 (by decide) D (nI i) (nI j))) mw_X1_cellarFact qw_242 (nl_da (by decide)) (ent_da (by decide)) rfl rfl rfl (Nat.le_of_ble_eq_true rfl) ⟨Nat.le_of_ble_eq_true rfl, Nat.le_of_ble_eq_true rfl⟩ ⟨Nat.le_of_ble_eq_true rfl, Nat.le_of_ble_eq_true rfl⟩ dX4_digest_68 ?_
              refine J_i2l hC dX4_digest_71 ?_
              refine J_ladd hC dX4_digest_72 ?_
              refine J_lstore_n (lv' := [(1, .long (((digCell D i (digCells D i) j) * 31) + ((ceFact D (nI i) (nI j))).toInt64)), (0, .ref (gA G 88)), (3, .int (nI i)), (4, .int (nI j))]) hC dX4_digest_73 rfl (by decide) rfl ?_
              refine J_iinc (j := 3) (v := ((nI j) + 1)) (lv' := [(4, .int ((nI j) + 1)), (1, .long (((digCell D i (digCells D i) j) * 31) + ((ceFact D (nI i) (nI j))).toInt64)), (0, .ref (gA G 88)), (3, .int (nI i))]) hC dX4_digest_74 rfl rfl (by decide) rfl ?_
              refine J_goto (tgt := 50) hC dX4_digest_77 (by decide) ?_
              refine J_lv [2, 1, 3, 0] (lv' := [(0, .ref (gA G 88)), (1, .long (((digCell D i (digCells D i) j) * 31) + ((ceFact D (nI i) (nI j))).toInt64)), (3, .int (nI i)), (4, .int ((nI j) + 1))]) rfl ?_
              exact J_cast rfl (by simp [nI_succ, digCell, rep]) rfl (ih50 (j + 1) (by omega) )
          refine J_lv [1, 2, 3, 0] (lv' := [(0, .ref (gA G 88)), (1, .long (digCells D i)), (3, .int (nI i)), (4, .int 0)]) rfl ?_
          exact J_cast rfl (by first | rfl | simp [nI_0, digCell, rep]) rfl (L50 4 0 (by omega) )
      refine J_lv [1, 2, 0] (lv' := [(0, .ref (gA G 88)), (1, .long (digCounts D 9)), (3, .int 0)]) rfl ?_
      exact J_cast rfl (by first | rfl | simp [nI_0, digCells, rep]) rfl (L36 (ix (D 40 2)) 0 (by omega) )
    | succ n ih =>
      intro i hn 
      refine J_iload_n hC (j := 2) dX4_digest_6 rfl rfl ?_
      refine J_bipush (v := 9) hC dX4_digest_7 (by decide) ?_
      refine J_icmp_ge (tgt := 34) hC dX4_digest_9 (by decide) (fun c9 => absurd c9 (nle_nI (K := 9) rfl (by omega) (by omega))) (fun c9 => ?_)
      refine J_lload_n hC (j := 1) dX4_digest_12 rfl rfl ?_
      refine J_ldc2 (v := 31) hC qw_228 dX4_digest_13 ?_
      refine J_lmul hC dX4_digest_16 ?_
      refine J_aload_n hC (j := 0) dX4_digest_17 rfl rfl ?_
      refine J_get hC (by decide) ent_rt rfl in4 0 (by decide) rfl qw_182 rfl rfl dX4_digest_18 ?_
      refine J_iload_n hC (j := 2) dX4_digest_21 rfl rfl ?_
      refine J_callV hC (ct_rw m5u0 m5u0 (ct_X1_fact l G (mk5 D E g S A) o 0 (by decide) D (nI i))) mw_X1_fact qw_229 (nl_da (by decide)) (ent_da (by decide)) rfl rfl rfl (Nat.le_of_ble_eq_true rfl) ⟨Nat.le_of_ble_eq_true rfl, Nat.le_of_ble_eq_true rfl⟩ ⟨Nat.le_of_ble_eq_true rfl, Nat.le_of_ble_eq_true rfl⟩ dX4_digest_22 ?_
      refine J_i2l hC dX4_digest_25 ?_
      refine J_ladd hC dX4_digest_26 ?_
      refine J_lstore_n (lv' := [(1, .long (((digCounts D i) * 31) + ((dFact D (nI i))).toInt64)), (0, .ref (gA G 88)), (3, .int (nI i))]) hC dX4_digest_27 rfl (by decide) rfl ?_
      refine J_iinc (j := 2) (v := ((nI i) + 1)) (lv' := [(3, .int ((nI i) + 1)), (1, .long (((digCounts D i) * 31) + ((dFact D (nI i))).toInt64)), (0, .ref (gA G 88))]) hC dX4_digest_28 rfl rfl (by decide) rfl ?_
      refine J_goto (tgt := 6) hC dX4_digest_31 (by decide) ?_
      refine J_lv [2, 1, 0] (lv' := [(0, .ref (gA G 88)), (1, .long (((digCounts D i) * 31) + ((dFact D (nI i))).toInt64)), (3, .int ((nI i) + 1))]) rfl ?_
      exact J_cast rfl (by simp [nI_succ, digCounts, rep]) rfl (ih (i + 1) (by omega) )
  refine J_lv [2, 1, 0] (lv' := [(0, .ref (gA G 88)), (1, .long 937), (3, .int 0)]) rfl ?_
  exact J_cast rfl (by first | rfl | simp [nI_0, digCounts, rep]) rfl (L6 9 0 (by omega) )
set_option maxHeartbeats 4000000 in
set_option maxRecDepth 100000 in
theorem ct_X4_worthFromCellar (l : Launch) (G : GG) (D E g S A : DD) (o : OO) (p0 p1 p2 : Int32) : CT l yX4_worthFromCellar cX4_worthFromCellar 7 (some .int) 5 116 0 0 G [.ref (gA G 88), .int p0, .int p1, .int p2] (mk5 D E g S A) o (some (.int (wfcV D E p0 p1 p2))) (mk5 D (wfcE D E p0 p1 p2) g S A) o := by
  refine CT_of (own := RX4) (lv := [(0, .ref (gA G 88)), (1, .int p0), (2, .int p1), (3, .int p2)]) (by decide) rfl (Nat.le_of_ble_eq_true rfl) rfl ?_
  intro p e s m args below meth c hr hC
  refine J_aload_n hC (j := 0) dX4_worthFromCellar_0 rfl rfl ?_
  refine J_get hC (by decide) ent_rt rfl in4 0 (by decide) rfl qw_182 rfl rfl dX4_worthFromCellar_1 ?_
  refine J_iload_n hC (j := 1) dX4_worthFromCellar_4 rfl rfl ?_
  refine J_callV hC (ct_rw m5u0 m5u0 (ct_X1_lyingWheel l G (mk5 D E g S A) o 0 (by decide) D p0)) mw_X1_lyingWheel qw_444 (nl_da (by decide)) (ent_da (by decide)) rfl rfl rfl (Nat.le_of_ble_eq_true rfl) ⟨Nat.le_of_ble_eq_true rfl, Nat.le_of_ble_eq_true rfl⟩ ⟨Nat.le_of_ble_eq_true rfl, Nat.le_of_ble_eq_true rfl⟩ dX4_worthFromCellar_5 ?_
  by_cases h5 : lies D p0 = true
  · refine J_tv (lyV_p h5) ?_
    refine J_astore (lv' := [(4, .ref (aX G 0 (ix p0))), (0, .ref (gA G 88)), (1, .int p0), (2, .int p1), (3, .int p2)]) hC dX4_worthFromCellar_8 (by decide) rfl ?_
    refine J_aload_n hC (j := 1) dX4_worthFromCellar_10 rfl rfl ?_
    refine J_get hC (by decide) ent_rt rfl in4 0 (by decide) rfl qw_182 rfl rfl dX4_worthFromCellar_11 ?_
    refine J_iload_n hC (j := 3) dX4_worthFromCellar_14 rfl rfl ?_
    refine J_callV hC (ct_rw m5u0 m5u0 (ct_X1_cellarOf l G (mk5 D E g S A) o 0 (by decide) D p1)) mw_X1_cellarOf qw_391 (nl_da (by decide)) (ent_da (by decide)) rfl rfl rfl (Nat.le_of_ble_eq_true rfl) ⟨Nat.le_of_ble_eq_true rfl, Nat.le_of_ble_eq_true rfl⟩ ⟨Nat.le_of_ble_eq_true rfl, Nat.le_of_ble_eq_true rfl⟩ dX4_worthFromCellar_15 ?_
    by_cases h15 : inC D p1 = true
    · refine J_tv (ceV_p h15) ?_
      refine J_astore (lv' := [(5, .ref (aX G 0 (24 + (ix p1)))), (4, .ref (aX G 0 (ix p0))), (0, .ref (gA G 88)), (1, .int p0), (2, .int p1), (3, .int p2)]) hC dX4_worthFromCellar_18 (by decide) rfl ?_
      refine J_aload hC (j := 1) dX4_worthFromCellar_20 rfl ?_
      refine J_ifnull hC dX4_worthFromCellar_22 ?_
      refine J_aload hC (j := 0) dX4_worthFromCellar_25 rfl ?_
      refine J_ifnonnull (tgt := 32) hC dX4_worthFromCellar_27 (by decide) ?_
      refine J_aload_n hC (j := 2) dX4_worthFromCellar_32 rfl rfl ?_
      refine J_get hC (by decide) ent_rt rfl in4 1 (by decide) rfl qw_183 rfl rfl dX4_worthFromCellar_33 ?_
      refine J_aload_n hC (j := 2) dX4_worthFromCellar_36 rfl rfl ?_
      refine J_get hC (by decide) ent_rt rfl in4 0 (by decide) rfl qw_182 rfl rfl dX4_worthFromCellar_37 ?_
      refine J_callVv hC (ct_rw (X4 := (mk5 D (cpD E D) g S A)) m5u1 m5u1 (ct_X1_copyFrom l G (mk5 D E g S A) o E)) mw_X1_copyFrom qw_616 (nl_da (by decide)) (ent_da (by decide)) rfl rfl rfl (Nat.le_of_ble_eq_true rfl) ⟨Nat.le_of_ble_eq_true rfl, Nat.le_of_ble_eq_true rfl⟩ ⟨Nat.le_of_ble_eq_true rfl, Nat.le_of_ble_eq_true rfl⟩ dX4_worthFromCellar_40 ?_
      refine J_iload_n hC (j := 4) dX4_worthFromCellar_43 rfl rfl ?_
      refine J_aload hC (j := 1) dX4_worthFromCellar_44 rfl ?_
      refine J_get hC (nl_wh (by decide) (inW_lt (lies_w h5))) (ent_wh (by decide) (inW_lt (lies_w h5))) rfl in3 1 (by decide) rfl qw_91 rfl (r5 (x := (D (ix p0) 1)) rfl) dX4_worthFromCellar_46 ?_
      refine J_icmp_eq (tgt := 78) hC dX4_worthFromCellar_49 (by decide) (fun c49 => ?_) (fun c49 => ?_)
      · refine J_aload_n hC (j := 2) dX4_worthFromCellar_78 rfl rfl ?_
        refine J_get hC (by decide) ent_rt rfl in4 1 (by decide) rfl qw_183 rfl rfl dX4_worthFromCellar_79 ?_
        refine J_iload_n hC (j := 5) dX4_worthFromCellar_82 rfl rfl ?_
        refine J_callVv hC (ct_rw m5u1 m5u1 (ct_X1_letDaysGoBy l G (mk5 D (cpD E D) g S A) o 1 (by decide) (cpD E D) p2)) mw_X1_letDaysGoBy qw_554 (nl_da (by decide)) (ent_da (by decide)) rfl rfl rfl (Nat.le_of_ble_eq_true rfl) ⟨Nat.le_of_ble_eq_true rfl, Nat.le_of_ble_eq_true rfl⟩ ⟨Nat.le_of_ble_eq_true rfl, Nat.le_of_ble_eq_true rfl⟩ dX4_worthFromCellar_83 ?_
        refine J_aload_n hC (j := 2) dX4_worthFromCellar_86 rfl rfl ?_
        refine J_get hC (by decide) ent_rt rfl in4 1 (by decide) rfl qw_183 rfl rfl dX4_worthFromCellar_87 ?_
        refine J_iload_n hC (j := 3) dX4_worthFromCellar_90 rfl rfl ?_
        refine J_callV hC (ct_rw m5u1 m5u1 (ct_X1_worthOfLying l G (mk5 D (days (cpD E D) (ix p2)) g S A) o 1 (by decide) (days (cpD E D) (ix p2)) p0)) mw_X1_worthOfLying qw_633 (nl_da (by decide)) (ent_da (by decide)) rfl rfl rfl (Nat.le_of_ble_eq_true rfl) ⟨Nat.le_of_ble_eq_true rfl, Nat.le_of_ble_eq_true rfl⟩ ⟨Nat.le_of_ble_eq_true rfl, Nat.le_of_ble_eq_true rfl⟩ dX4_worthFromCellar_91 ?_
        exact J_iret hC hr (by simp [wfcV, wfcE, h5, h15, if_pos c49]) (by simp [wfcV, wfcE, h5, h15, if_pos c49]) rfl dX4_worthFromCellar_94
      · refine J_aload hC (j := 0) dX4_worthFromCellar_52 rfl ?_
        refine J_callV hC (ct_rw m5u0 m5u0 (ct_X0_firstFreePlace l G (mk5 D (cpD E D) g S A) o 0 (by decide) D (ix p1) (inC_lt h15))) mw_X0_firstFreePlace qw_655 (nl_ce (by decide) (inC_lt h15)) (ent_ce (by decide) (inC_lt h15)) rfl rfl rfl (Nat.le_of_ble_eq_true rfl) ⟨Nat.le_of_ble_eq_true rfl, Nat.le_of_ble_eq_true rfl⟩ ⟨Nat.le_of_ble_eq_true rfl, Nat.le_of_ble_eq_true rfl⟩ dX4_worthFromCellar_54 ?_
        refine J_istore (lv' := [(6, .int (ffp (D (28 + (ix p1))) 10 0)), (5, .ref (aX G 0 (24 + (ix p1)))), (4, .ref (aX G 0 (ix p0))), (0, .ref (gA G 88)), (1, .int p0), (2, .int p1), (3, .int p2)]) hC dX4_worthFromCellar_57 (by decide) rfl ?_
        refine J_iload hC (j := 0) dX4_worthFromCellar_59 rfl ?_
        refine J_iconst (v := (-1)) hC dX4_worthFromCellar_61 (by decide) ?_
        refine J_icmp_ne (tgt := 67) hC dX4_worthFromCellar_62 (by decide) (fun c62 => ?_) (fun c62 => ?_)
        · refine J_aload_n hC (j := 3) dX4_worthFromCellar_67 rfl rfl ?_
          refine J_get hC (by decide) ent_rt rfl in4 1 (by decide) rfl qw_183 rfl rfl dX4_worthFromCellar_68 ?_
          refine J_iload_n hC (j := 4) dX4_worthFromCellar_71 rfl rfl ?_
          refine J_iload_n hC (j := 5) dX4_worthFromCellar_72 rfl rfl ?_
          refine J_iload hC (j := 0) dX4_worthFromCellar_73 rfl ?_
          refine J_callVv hC (ct_rw m5u1 m5u1 (ct_X1_moveWheel l G (mk5 D (cpD E D) g S A) o 1 (by decide) (cpD E D) p0 p1 (ffp (D (28 + (ix p1))) 10 0))) mw_X1_moveWheel qw_446 (nl_da (by decide)) (ent_da (by decide)) rfl rfl rfl (Nat.le_of_ble_eq_true rfl) ⟨Nat.le_of_ble_eq_true rfl, Nat.le_of_ble_eq_true rfl⟩ ⟨Nat.le_of_ble_eq_true rfl, Nat.le_of_ble_eq_true rfl⟩ dX4_worthFromCellar_75 ?_
          refine J_aload_n hC (j := 3) dX4_worthFromCellar_78 rfl rfl ?_
          refine J_get hC (by decide) ent_rt rfl in4 1 (by decide) rfl qw_183 rfl rfl dX4_worthFromCellar_79 ?_
          refine J_iload_n hC (j := 6) dX4_worthFromCellar_82 rfl rfl ?_
          refine J_callVv hC (ct_rw m5u1 m5u1 (ct_X1_letDaysGoBy l G (mk5 D (moveW (cpD E D) p0 p1 (ffp (D (28 + (ix p1))) 10 0)) g S A) o 1 (by decide) (moveW (cpD E D) p0 p1 (ffp (D (28 + (ix p1))) 10 0)) p2)) mw_X1_letDaysGoBy qw_554 (nl_da (by decide)) (ent_da (by decide)) rfl rfl rfl (Nat.le_of_ble_eq_true rfl) ⟨Nat.le_of_ble_eq_true rfl, Nat.le_of_ble_eq_true rfl⟩ ⟨Nat.le_of_ble_eq_true rfl, Nat.le_of_ble_eq_true rfl⟩ dX4_worthFromCellar_83 ?_
          refine J_aload_n hC (j := 3) dX4_worthFromCellar_86 rfl rfl ?_
          refine J_get hC (by decide) ent_rt rfl in4 1 (by decide) rfl qw_183 rfl rfl dX4_worthFromCellar_87 ?_
          refine J_iload_n hC (j := 4) dX4_worthFromCellar_90 rfl rfl ?_
          refine J_callV hC (ct_rw m5u1 m5u1 (ct_X1_worthOfLying l G (mk5 D (days (moveW (cpD E D) p0 p1 (ffp (D (28 + (ix p1))) 10 0)) (ix p2)) g S A) o 1 (by decide) (days (moveW (cpD E D) p0 p1 (ffp (D (28 + (ix p1))) 10 0)) (ix p2)) p0)) mw_X1_worthOfLying qw_633 (nl_da (by decide)) (ent_da (by decide)) rfl rfl rfl (Nat.le_of_ble_eq_true rfl) ⟨Nat.le_of_ble_eq_true rfl, Nat.le_of_ble_eq_true rfl⟩ ⟨Nat.le_of_ble_eq_true rfl, Nat.le_of_ble_eq_true rfl⟩ dX4_worthFromCellar_91 ?_
          exact J_iret hC hr (by simp [wfcV, wfcE, h5, h15, c49, c62]) (by simp [wfcV, wfcE, h5, h15, c49, c62]) rfl dX4_worthFromCellar_94
        · refine J_iconst (v := (-1)) hC dX4_worthFromCellar_65 (by decide) ?_
          exact J_iret hC hr (by simp [wfcV, wfcE, h5, h15, c49, c62]) (by simp [wfcV, wfcE, h5, h15, c49, c62]) rfl dX4_worthFromCellar_66
    · refine J_tv (ceV_n h15) ?_
      refine J_astoreN (lv' := [(5, .null), (4, .ref (aX G 0 (ix p0))), (0, .ref (gA G 88)), (1, .int p0), (2, .int p1), (3, .int p2)]) hC dX4_worthFromCellar_18 (by decide) rfl ?_
      refine J_aload hC (j := 1) dX4_worthFromCellar_20 rfl ?_
      refine J_ifnull hC dX4_worthFromCellar_22 ?_
      refine J_aloadN hC (j := 0) dX4_worthFromCellar_25 rfl ?_
      refine J_ifnonnullN hC dX4_worthFromCellar_27 ?_
      refine J_iconst (v := (-1)) hC dX4_worthFromCellar_30 (by decide) ?_
      exact J_iret hC hr (by simp [wfcV, wfcE, h5, h15]) (by simp [wfcV, wfcE, h5, h15]) rfl dX4_worthFromCellar_31
  · refine J_tv (lyV_n h5) ?_
    refine J_astoreN (lv' := [(4, .null), (0, .ref (gA G 88)), (1, .int p0), (2, .int p1), (3, .int p2)]) hC dX4_worthFromCellar_8 (by decide) rfl ?_
    refine J_aload_n hC (j := 1) dX4_worthFromCellar_10 rfl rfl ?_
    refine J_get hC (by decide) ent_rt rfl in4 0 (by decide) rfl qw_182 rfl rfl dX4_worthFromCellar_11 ?_
    refine J_iload_n hC (j := 3) dX4_worthFromCellar_14 rfl rfl ?_
    refine J_callV hC (ct_rw m5u0 m5u0 (ct_X1_cellarOf l G (mk5 D E g S A) o 0 (by decide) D p1)) mw_X1_cellarOf qw_391 (nl_da (by decide)) (ent_da (by decide)) rfl rfl rfl (Nat.le_of_ble_eq_true rfl) ⟨Nat.le_of_ble_eq_true rfl, Nat.le_of_ble_eq_true rfl⟩ ⟨Nat.le_of_ble_eq_true rfl, Nat.le_of_ble_eq_true rfl⟩ dX4_worthFromCellar_15 ?_
    by_cases h15 : inC D p1 = true
    · refine J_tv (ceV_p h15) ?_
      refine J_astore (lv' := [(5, .ref (aX G 0 (24 + (ix p1)))), (4, .null), (0, .ref (gA G 88)), (1, .int p0), (2, .int p1), (3, .int p2)]) hC dX4_worthFromCellar_18 (by decide) rfl ?_
      refine J_aloadN hC (j := 1) dX4_worthFromCellar_20 rfl ?_
      refine J_ifnullN (tgt := 30) hC dX4_worthFromCellar_22 (by decide) ?_
      refine J_iconst (v := (-1)) hC dX4_worthFromCellar_30 (by decide) ?_
      exact J_iret hC hr (by simp [wfcV, wfcE, h5, h15]) (by simp [wfcV, wfcE, h5, h15]) rfl dX4_worthFromCellar_31
    · refine J_tv (ceV_n h15) ?_
      refine J_astoreN (lv' := [(5, .null), (4, .null), (0, .ref (gA G 88)), (1, .int p0), (2, .int p1), (3, .int p2)]) hC dX4_worthFromCellar_18 (by decide) rfl ?_
      refine J_aloadN hC (j := 1) dX4_worthFromCellar_20 rfl ?_
      refine J_ifnullN (tgt := 30) hC dX4_worthFromCellar_22 (by decide) ?_
      refine J_iconst (v := (-1)) hC dX4_worthFromCellar_30 (by decide) ?_
      exact J_iret hC hr (by simp [wfcV, wfcE, h5, h15]) (by simp [wfcV, wfcE, h5, h15]) rfl dX4_worthFromCellar_31
