/-! THE CONSTRUCTORS, by program (ctor.py) -/
set_option maxHeartbeats 4000000 in
set_option maxRecDepth 100000 in
/-- Wheel() -/
theorem kt_wheel (l : Launch) (Dg : va_G) (tc : Nat → ClassId) (h : Nat) : KT l yX3_init cX3_init 1 1 12 0 0 Dg tc [.ref h] [(h, .inr (3, [.int 0, .int 0, .int 0, .int 0, .int 0, .int 0, .int 0, .int 0, .int 0, .int 0]))] (fun w => w = [(h, .inr (3, fW wh0))]) := by
  refine KT_of (own := RX3) (lv := [(0, .ref h)]) (by decide) rfl rfl (Nat.le_of_ble_eq_true rfl) rfl ?_
  intro p e s m args below meth c hr hnm hC
  refine K_aload_n (j := 0) hC dX3_init_0 rfl rfl ?_
  refine K_objInit hC qw_87 qw_49 qw_50 ⟨Nat.le_of_ble_eq_true rfl, Nat.le_of_ble_eq_true rfl⟩ dX3_init_1 ?_
  refine K_aload_n (j := 0) hC dX3_init_4 rfl rfl ?_
  refine K_iconst (v := 0) hC dX3_init_5 (by decide) ?_
  refine K_put (q0 := 0) (ws' := [(h, .inr (3, [.int 0, .int 0, .int 0, .int 0, .int 0, .int 0, .int 0, .int 0, .int 0, .int 0]))]) hC rfl rfl in3 tyX3_ok nmX3 0 (by decide) rfl qw_88 rfl (by decide) (Nat.le_of_ble_eq_true rfl) rfl dX3_init_6 ?_
  refine K_aload_n (j := 0) hC dX3_init_9 rfl rfl ?_
  refine K_iconst (v := (-1)) hC dX3_init_10 (by decide) ?_
  refine K_put (q0 := 0) (ws' := [(h, .inr (3, [.int 0, .int (-1), .int 0, .int 0, .int 0, .int 0, .int 0, .int 0, .int 0, .int 0]))]) hC rfl rfl in3 tyX3_ok nmX3 1 (by decide) rfl qw_90 rfl (by decide) (Nat.le_of_ble_eq_true rfl) rfl dX3_init_11 ?_
  refine K_aload_n (j := 0) hC dX3_init_14 rfl rfl ?_
  refine K_iconst (v := (-1)) hC dX3_init_15 (by decide) ?_
  refine K_put (q0 := 0) (ws' := [(h, .inr (3, [.int 0, .int (-1), .int (-1), .int 0, .int 0, .int 0, .int 0, .int 0, .int 0, .int 0]))]) hC rfl rfl in3 tyX3_ok nmX3 2 (by decide) rfl qw_93 rfl (by decide) (Nat.le_of_ble_eq_true rfl) rfl dX3_init_16 ?_
  refine K_aload_n (j := 0) hC dX3_init_19 rfl rfl ?_
  refine K_iconst (v := 0) hC dX3_init_20 (by decide) ?_
  refine K_put (q0 := 0) (ws' := [(h, .inr (3, [.int 0, .int (-1), .int (-1), .int 0, .int 0, .int 0, .int 0, .int 0, .int 0, .int 0]))]) hC rfl rfl in3 tyX3_ok nmX3 3 (by decide) rfl qw_96 rfl (by decide) (Nat.le_of_ble_eq_true rfl) rfl dX3_init_21 ?_
  refine K_aload_n (j := 0) hC dX3_init_24 rfl rfl ?_
  refine K_iconst (v := 0) hC dX3_init_25 (by decide) ?_
  refine K_put (q0 := 0) (ws' := [(h, .inr (3, [.int 0, .int (-1), .int (-1), .int 0, .int 0, .int 0, .int 0, .int 0, .int 0, .int 0]))]) hC rfl rfl in3 tyX3_ok nmX3 4 (by decide) rfl qw_97 rfl (by decide) (Nat.le_of_ble_eq_true rfl) rfl dX3_init_26 ?_
  refine K_aload_n (j := 0) hC dX3_init_29 rfl rfl ?_
  refine K_bipush (v := 80) hC dX3_init_30 (by decide) ?_
  refine K_put (q0 := 0) (ws' := [(h, .inr (3, [.int 0, .int (-1), .int (-1), .int 0, .int 0, .int 80, .int 0, .int 0, .int 0, .int 0]))]) hC rfl rfl in3 tyX3_ok nmX3 5 (by decide) rfl qw_98 rfl (by decide) (Nat.le_of_ble_eq_true rfl) rfl dX3_init_32 ?_
  refine K_aload_n (j := 0) hC dX3_init_35 rfl rfl ?_
  refine K_iconst (v := 0) hC dX3_init_36 (by decide) ?_
  refine K_put (q0 := 0) (ws' := [(h, .inr (3, [.int 0, .int (-1), .int (-1), .int 0, .int 0, .int 80, .int 0, .int 0, .int 0, .int 0]))]) hC rfl rfl in3 tyX3_ok nmX3 6 (by decide) rfl qw_99 rfl (by decide) (Nat.le_of_ble_eq_true rfl) rfl dX3_init_37 ?_
  refine K_aload_n (j := 0) hC dX3_init_40 rfl rfl ?_
  refine K_iconst (v := 0) hC dX3_init_41 (by decide) ?_
  refine K_put (q0 := 0) (ws' := [(h, .inr (3, [.int 0, .int (-1), .int (-1), .int 0, .int 0, .int 80, .int 0, .int 0, .int 0, .int 0]))]) hC rfl rfl in3 tyX3_ok nmX3 7 (by decide) rfl qw_100 rfl (by decide) (Nat.le_of_ble_eq_true rfl) rfl dX3_init_42 ?_
  refine K_aload_n (j := 0) hC dX3_init_45 rfl rfl ?_
  refine K_iconst (v := 0) hC dX3_init_46 (by decide) ?_
  refine K_put (q0 := 0) (ws' := [(h, .inr (3, [.int 0, .int (-1), .int (-1), .int 0, .int 0, .int 80, .int 0, .int 0, .int 0, .int 0]))]) hC rfl rfl in3 tyX3_ok nmX3 8 (by decide) rfl qw_103 rfl (by decide) (Nat.le_of_ble_eq_true rfl) rfl dX3_init_47 ?_
  refine K_aload_n (j := 0) hC dX3_init_50 rfl rfl ?_
  refine K_iconst (v := (-1)) hC dX3_init_51 (by decide) ?_
  refine K_put (q0 := 0) (ws' := [(h, .inr (3, [.int 0, .int (-1), .int (-1), .int 0, .int 0, .int 80, .int 0, .int 0, .int 0, .int (-1)]))]) hC rfl rfl in3 tyX3_ok nmX3 9 (by decide) rfl qw_105 rfl (by decide) (Nat.le_of_ble_eq_true rfl) rfl dX3_init_52 ?_
  exact K_vret (ws' := [(h, .inr (3, fW wh0))]) hC rfl hr rfl (fun H hP => hP) (fun hD => hD) dX3_init_55
set_option maxHeartbeats 4000000 in
set_option maxRecDepth 100000 in
/-- Monk() -/
theorem kt_monk (l : Launch) (Dg : va_G) (tc : Nat → ClassId) (h : Nat) : KT l yX2_init cX2_init 1 1 12 1 7 Dg tc [.ref h] [(h, .inr (2, [.int 0, .int 0, .int 0, .int 0, .null]))] (fun w => ∃ b, w = [(h, .inr (2, fM mk0 b)), (b, eK tc 7 (fun _ => 0))]) := by
  refine KT_of (own := RX2) (lv := [(0, .ref h)]) (by decide) rfl rfl (Nat.le_of_ble_eq_true rfl) rfl ?_
  intro p e s m args below meth c hr hnm hC
  refine K_aload_n (j := 0) hC dX2_init_0 rfl rfl ?_
  refine K_objInit hC qw_131 qw_49 qw_50 ⟨Nat.le_of_ble_eq_true rfl, Nat.le_of_ble_eq_true rfl⟩ dX2_init_1 ?_
  refine K_aload_n (j := 0) hC dX2_init_4 rfl rfl ?_
  refine K_iconst (v := (-1)) hC dX2_init_5 (by decide) ?_
  refine K_put (q0 := 0) (ws' := [(h, .inr (2, [.int (-1), .int 0, .int 0, .int 0, .null]))]) hC rfl rfl in2 tyX2_ok nmX2 0 (by decide) rfl qw_132 rfl (by decide) (Nat.le_of_ble_eq_true rfl) rfl dX2_init_6 ?_
  refine K_aload_n (j := 0) hC dX2_init_9 rfl rfl ?_
  refine K_iconst (v := 0) hC dX2_init_10 (by decide) ?_
  refine K_put (q0 := 0) (ws' := [(h, .inr (2, [.int (-1), .int 0, .int 0, .int 0, .null]))]) hC rfl rfl in2 tyX2_ok nmX2 1 (by decide) rfl qw_134 rfl (by decide) (Nat.le_of_ble_eq_true rfl) rfl dX2_init_11 ?_
  refine K_aload_n (j := 0) hC dX2_init_14 rfl rfl ?_
  refine K_iconst (v := 0) hC dX2_init_15 (by decide) ?_
  refine K_put (q0 := 0) (ws' := [(h, .inr (2, [.int (-1), .int 0, .int 0, .int 0, .null]))]) hC rfl rfl in2 tyX2_ok nmX2 2 (by decide) rfl qw_136 rfl (by decide) (Nat.le_of_ble_eq_true rfl) rfl dX2_init_16 ?_
  refine K_aload_n (j := 0) hC dX2_init_19 rfl rfl ?_
  refine K_iconst (v := (-1)) hC dX2_init_20 (by decide) ?_
  refine K_put (q0 := 0) (ws' := [(h, .inr (2, [.int (-1), .int 0, .int 0, .int (-1), .null]))]) hC rfl rfl in2 tyX2_ok nmX2 3 (by decide) rfl qw_138 rfl (by decide) (Nat.le_of_ble_eq_true rfl) rfl dX2_init_21 ?_
  refine K_aload_n (j := 0) hC dX2_init_24 rfl rfl ?_
  refine K_bipush (v := 7) hC dX2_init_25 (by decide) ?_
  refine K_newa hC qw_82 (by decide) (N := 7) rfl (by decide) ⟨by show _ ≤ 1; omega, by show _ ≤ 7; omega⟩ dX2_init_27 (fun q27 => ?_)
  refine K_ws (ws' := [(h, .inr (2, [.int (-1), .int 0, .int 0, .int (-1), .null])), (q27, eK tc 7 (fun _ => 0))]) rfl ?_
  refine K_putF (q0 := 0) (ws' := [(h, .inr (2, [.int (-1), .int 0, .int 0, .int (-1), .ref q27])), (q27, eK tc 7 (fun _ => 0))]) hC hnm rfl rfl in2 tyX2_ok nmX2 4 (by decide) rfl rfl qw_140 rfl (tyX2_ok 4 (by decide)) rfl rfl (Nat.le_of_ble_eq_true rfl) rfl dX2_init_29 ?_
  exact K_vret (ws' := [(h, .inr (2, fM mk0 q27)), (q27, eK tc 7 (fun _ => 0))]) hC rfl hr ⟨q27, rfl⟩ (fun H hP => hP) (fun hD => hD) dX2_init_32
set_option maxHeartbeats 4000000 in
set_option maxRecDepth 100000 in
/-- Cellar(): a board of -1 -/
theorem kt_cellar (l : Launch) (Dg : va_G) (tc : Nat → ClassId) (h : Nat) : KT l yX0_init cX0_init 2 1 12 1 10 Dg tc [.ref h] [(h, .inr (0, [.int 0, .int 0, .null]))] (fun w => ∃ b, w = [(h, .inr (0, fC (fun _ => 0) b)), (b, eK tc 10 bd0)]) := by
  refine KT_of (own := RX0) (lv := [(0, .ref h)]) (by decide) rfl rfl (Nat.le_of_ble_eq_true rfl) rfl ?_
  intro p e s m args below meth c hr hnm hC
  refine K_aload_n (j := 0) hC dX0_init_0 rfl rfl ?_
  refine K_objInit hC qw_67 qw_49 qw_50 ⟨Nat.le_of_ble_eq_true rfl, Nat.le_of_ble_eq_true rfl⟩ dX0_init_1 ?_
  refine K_aload_n (j := 0) hC dX0_init_4 rfl rfl ?_
  refine K_iconst (v := 0) hC dX0_init_5 (by decide) ?_
  refine K_put (q0 := 0) (ws' := [(h, .inr (0, [.int 0, .int 0, .null]))]) hC rfl rfl in0 tyX0_ok nmX0 0 (by decide) rfl qw_68 rfl (by decide) (Nat.le_of_ble_eq_true rfl) rfl dX0_init_6 ?_
  refine K_aload_n (j := 0) hC dX0_init_9 rfl rfl ?_
  refine K_iconst (v := 0) hC dX0_init_10 (by decide) ?_
  refine K_put (q0 := 0) (ws' := [(h, .inr (0, [.int 0, .int 0, .null]))]) hC rfl rfl in0 tyX0_ok nmX0 1 (by decide) rfl qw_71 rfl (by decide) (Nat.le_of_ble_eq_true rfl) rfl dX0_init_11 ?_
  refine K_aload_n (j := 0) hC dX0_init_14 rfl rfl ?_
  refine K_bipush (v := 10) hC dX0_init_15 (by decide) ?_
  refine K_newa hC qw_82 (by decide) (N := 10) rfl (by decide) ⟨by show _ ≤ 1; omega, by show _ ≤ 10; omega⟩ dX0_init_17 (fun q17 => ?_)
  refine K_ws (ws' := [(h, .inr (0, [.int 0, .int 0, .null])), (q17, eK tc 10 (fun _ => 0))]) rfl ?_
  refine K_putF (q0 := 0) (ws' := [(h, .inr (0, [.int 0, .int 0, .ref q17])), (q17, eK tc 10 (fun _ => 0))]) hC hnm rfl rfl in0 tyX0_ok nmX0 2 (by decide) rfl rfl qw_74 rfl (tyX0_ok 2 (by decide)) rfl rfl (Nat.le_of_ble_eq_true rfl) rfl dX0_init_19 ?_
  refine K_iconst (v := 0) hC dX0_init_22 (by decide) ?_
  refine K_istore_n (lv' := [(1, .int 0), (0, .ref h)]) hC dX0_init_23 rfl (by decide) rfl ?_
  have hl : ∀ n i : Nat, i + n = 10 → Kd p l e ({ frames := 1, cells := 1, slots := 10, locals := 12 } : Room) s m args below meth c (MQ below (KQ Dg [(h, .inr (0, [.int 0, .int 0, .null]))] s.heap.size (fun w => ∃ b, w = [(h, .inr (0, fC (fun _ => 0) b)), (b, eK tc 10 bd0)])) args s 1 10 (va_A [(h, .inr (0, [.int 0, .int 0, .null]))] s.heap.size)) Dg (va_A [(h, .inr (0, [.int 0, .int 0, .null]))] s.heap.size) 2 1 10 [(h, .inr (0, [.int 0, .int 0, .ref q17])), (q17, eK tc 10 (brd i))] 24 [(1, .int (nI i)), (0, .ref h)] [] := by
    intro n
    induction n with
    | zero =>
      intro i hi
      obtain rfl : i = 10 := by omega
      refine K_iload_n (j := 0) hC dX0_init_24 rfl rfl ?_
      refine K_aload_n (j := 1) hC dX0_init_25 rfl rfl ?_
      refine K_get (q0 := 0) (v := .ref q17) hC rfl rfl in0 2 (by decide) rfl qw_74 rfl dX0_init_26 ?_
      refine K_alen (q0 := 1) (t := 0) (v := 10) hC rfl rfl rfl dX0_init_29 ?_
      refine K_icmp_ge (tgt := 46) hC dX0_init_30 (by decide) (fun _ => ?_) (fun c => absurd (by decide) c)
      exact K_vret (ws' := [(h, .inr (0, fC (fun _ => 0) q17)), (q17, eK tc 10 bd0)]) hC rfl hr ⟨q17, rfl⟩ (fun H hP => hP) (fun hD => hD) dX0_init_46
    | succ n ih =>
      intro i hi
      refine K_iload_n (j := 0) hC dX0_init_24 rfl rfl ?_
      refine K_aload_n (j := 1) hC dX0_init_25 rfl rfl ?_
      refine K_get (q0 := 0) (v := .ref q17) hC rfl rfl in0 2 (by decide) rfl qw_74 rfl dX0_init_26 ?_
      refine K_alen (q0 := 1) (t := 0) (v := 10) hC rfl rfl rfl dX0_init_29 ?_
      refine K_icmp_ge (tgt := 46) hC dX0_init_30 (by decide) (fun c => absurd c (nle_nI rfl (show i < 10 by omega) (by decide))) (fun _ => ?_)
      refine K_aload_n (j := 1) hC dX0_init_33 rfl rfl ?_
      refine K_get (q0 := 0) (v := .ref q17) hC rfl rfl in0 2 (by decide) rfl qw_74 rfl dX0_init_34 ?_
      refine K_iload_n (j := 0) hC dX0_init_37 rfl rfl ?_
      refine K_iconst (v := (-1)) hC dX0_init_38 (by decide) ?_
      refine K_iast (q0 := 1) (ws' := [(h, .inr (0, [.int 0, .int 0, .ref q17])), (q17, eK tc 10 (brd (i + 1)))]) hC rfl (vp_nI (by omega)) (by rw [brd_s (by omega)]; rfl) dX0_init_39 ?_
      refine K_iinc (j := 0) (v := nI (i + 1)) (lv' := [(1, .int (nI (i + 1))), (0, .ref h)]) hC dX0_init_40 rfl (nI_1s i) (by decide) rfl ?_
      refine K_goto (tgt := 24) hC dX0_init_43 (by decide) ?_
      exact ih (i + 1) (by omega)
  exact hl 10 0 rfl
set_option maxHeartbeats 4000000 in
set_option maxRecDepth 100000 in
/-- State(): thirteen rows of zeros -/
theorem kt_state (l : Launch) (Dg : va_G) (tc : Nat → ClassId) (h mm : Nat) : KT l yX5_init cX5_init 2 1 12 13 288 Dg tc [.ref h, .ref mm] [(h, .inr (5, [.int 0, .null, .null, .null, .null, .null, .null, .null, .null, .null, .null, .null, .null, .null, .null]))] (fun w => ∃ a : Nat → Nat, a 0 = h ∧ w = stW tc a mm (fun _ => 0)) := by
  refine KT_of (own := RX5) (lv := [(0, .ref h), (1, .ref mm)]) (by decide) rfl rfl (Nat.le_of_ble_eq_true rfl) rfl ?_
  intro p e s m args below meth c hr hnm hC
  refine K_aload_n (j := 0) hC dX5_init_0 rfl rfl ?_
  refine K_aload_n (j := 1) hC dX5_init_1 rfl rfl ?_
  refine K_putF (q0 := 0) (ws' := [(h, .inr (5, [.int 0, .null, .null, .null, .null, .null, .null, .null, .null, .null, .null, .null, .null, .null, .ref mm]))]) hC hnm rfl rfl in5 tyX5_ok nmX5 14 (by decide) rfl rfl qw_698 rfl (tyX5_ok 14 (by decide)) rfl rfl (Nat.le_of_ble_eq_true rfl) rfl dX5_init_2 ?_
  refine K_aload_n (j := 0) hC dX5_init_5 rfl rfl ?_
  refine K_objInit hC qw_670 qw_49 qw_50 ⟨Nat.le_of_ble_eq_true rfl, Nat.le_of_ble_eq_true rfl⟩ dX5_init_6 ?_
  refine K_aload_n (j := 0) hC dX5_init_9 rfl rfl ?_
  refine K_bipush (v := 40) hC dX5_init_10 (by decide) ?_
  refine K_newa hC qw_82 (by decide) (N := 40) rfl (by decide) ⟨by show _ ≤ 13; omega, by show _ ≤ 288; omega⟩ dX5_init_12 (fun q12 => ?_)
  refine K_ws (ws' := [(h, .inr (5, [.int 0, .null, .null, .null, .null, .null, .null, .null, .null, .null, .null, .null, .null, .null, .ref mm])), (q12, eK tc 40 (fun _ => 0))]) rfl ?_
  refine K_putF (q0 := 0) (ws' := [(h, .inr (5, [.int 0, .ref q12, .null, .null, .null, .null, .null, .null, .null, .null, .null, .null, .null, .null, .ref mm])), (q12, eK tc 40 (fun _ => 0))]) hC hnm rfl rfl in5 tyX5_ok nmX5 1 (by decide) rfl rfl qw_673 rfl (tyX5_ok 1 (by decide)) rfl rfl (Nat.le_of_ble_eq_true rfl) rfl dX5_init_14 ?_
  refine K_aload_n (j := 0) hC dX5_init_17 rfl rfl ?_
  refine K_bipush (v := 24) hC dX5_init_18 (by decide) ?_
  refine K_newa hC qw_82 (by decide) (N := 24) rfl (by decide) ⟨by show _ ≤ 13; omega, by show _ ≤ 288; omega⟩ dX5_init_20 (fun q20 => ?_)
  refine K_ws (ws' := [(h, .inr (5, [.int 0, .ref q12, .null, .null, .null, .null, .null, .null, .null, .null, .null, .null, .null, .null, .ref mm])), (q12, eK tc 40 (fun _ => 0)), (q20, eK tc 24 (fun _ => 0))]) rfl ?_
  refine K_putF (q0 := 0) (ws' := [(h, .inr (5, [.int 0, .ref q12, .ref q20, .null, .null, .null, .null, .null, .null, .null, .null, .null, .null, .null, .ref mm])), (q12, eK tc 40 (fun _ => 0)), (q20, eK tc 24 (fun _ => 0))]) hC hnm rfl rfl in5 tyX5_ok nmX5 2 (by decide) rfl rfl qw_675 rfl (tyX5_ok 2 (by decide)) rfl rfl (Nat.le_of_ble_eq_true rfl) rfl dX5_init_22 ?_
  refine K_aload_n (j := 0) hC dX5_init_25 rfl rfl ?_
  refine K_bipush (v := 24) hC dX5_init_26 (by decide) ?_
  refine K_newa hC qw_82 (by decide) (N := 24) rfl (by decide) ⟨by show _ ≤ 13; omega, by show _ ≤ 288; omega⟩ dX5_init_28 (fun q28 => ?_)
  refine K_ws (ws' := [(h, .inr (5, [.int 0, .ref q12, .ref q20, .null, .null, .null, .null, .null, .null, .null, .null, .null, .null, .null, .ref mm])), (q12, eK tc 40 (fun _ => 0)), (q20, eK tc 24 (fun _ => 0)), (q28, eK tc 24 (fun _ => 0))]) rfl ?_
  refine K_putF (q0 := 0) (ws' := [(h, .inr (5, [.int 0, .ref q12, .ref q20, .ref q28, .null, .null, .null, .null, .null, .null, .null, .null, .null, .null, .ref mm])), (q12, eK tc 40 (fun _ => 0)), (q20, eK tc 24 (fun _ => 0)), (q28, eK tc 24 (fun _ => 0))]) hC hnm rfl rfl in5 tyX5_ok nmX5 3 (by decide) rfl rfl qw_677 rfl (tyX5_ok 3 (by decide)) rfl rfl (Nat.le_of_ble_eq_true rfl) rfl dX5_init_30 ?_
  refine K_aload_n (j := 0) hC dX5_init_33 rfl rfl ?_
  refine K_bipush (v := 24) hC dX5_init_34 (by decide) ?_
  refine K_newa hC qw_82 (by decide) (N := 24) rfl (by decide) ⟨by show _ ≤ 13; omega, by show _ ≤ 288; omega⟩ dX5_init_36 (fun q36 => ?_)
  refine K_ws (ws' := [(h, .inr (5, [.int 0, .ref q12, .ref q20, .ref q28, .null, .null, .null, .null, .null, .null, .null, .null, .null, .null, .ref mm])), (q12, eK tc 40 (fun _ => 0)), (q20, eK tc 24 (fun _ => 0)), (q28, eK tc 24 (fun _ => 0)), (q36, eK tc 24 (fun _ => 0))]) rfl ?_
  refine K_putF (q0 := 0) (ws' := [(h, .inr (5, [.int 0, .ref q12, .ref q20, .ref q28, .ref q36, .null, .null, .null, .null, .null, .null, .null, .null, .null, .ref mm])), (q12, eK tc 40 (fun _ => 0)), (q20, eK tc 24 (fun _ => 0)), (q28, eK tc 24 (fun _ => 0)), (q36, eK tc 24 (fun _ => 0))]) hC hnm rfl rfl in5 tyX5_ok nmX5 4 (by decide) rfl rfl qw_679 rfl (tyX5_ok 4 (by decide)) rfl rfl (Nat.le_of_ble_eq_true rfl) rfl dX5_init_38 ?_
  refine K_aload_n (j := 0) hC dX5_init_41 rfl rfl ?_
  refine K_bipush (v := 24) hC dX5_init_42 (by decide) ?_
  refine K_newa hC qw_82 (by decide) (N := 24) rfl (by decide) ⟨by show _ ≤ 13; omega, by show _ ≤ 288; omega⟩ dX5_init_44 (fun q44 => ?_)
  refine K_ws (ws' := [(h, .inr (5, [.int 0, .ref q12, .ref q20, .ref q28, .ref q36, .null, .null, .null, .null, .null, .null, .null, .null, .null, .ref mm])), (q12, eK tc 40 (fun _ => 0)), (q20, eK tc 24 (fun _ => 0)), (q28, eK tc 24 (fun _ => 0)), (q36, eK tc 24 (fun _ => 0)), (q44, eK tc 24 (fun _ => 0))]) rfl ?_
  refine K_putF (q0 := 0) (ws' := [(h, .inr (5, [.int 0, .ref q12, .ref q20, .ref q28, .ref q36, .ref q44, .null, .null, .null, .null, .null, .null, .null, .null, .ref mm])), (q12, eK tc 40 (fun _ => 0)), (q20, eK tc 24 (fun _ => 0)), (q28, eK tc 24 (fun _ => 0)), (q36, eK tc 24 (fun _ => 0)), (q44, eK tc 24 (fun _ => 0))]) hC hnm rfl rfl in5 tyX5_ok nmX5 5 (by decide) rfl rfl qw_681 rfl (tyX5_ok 5 (by decide)) rfl rfl (Nat.le_of_ble_eq_true rfl) rfl dX5_init_46 ?_
  refine K_aload_n (j := 0) hC dX5_init_49 rfl rfl ?_
  refine K_bipush (v := 24) hC dX5_init_50 (by decide) ?_
  refine K_newa hC qw_82 (by decide) (N := 24) rfl (by decide) ⟨by show _ ≤ 13; omega, by show _ ≤ 288; omega⟩ dX5_init_52 (fun q52 => ?_)
  refine K_ws (ws' := [(h, .inr (5, [.int 0, .ref q12, .ref q20, .ref q28, .ref q36, .ref q44, .null, .null, .null, .null, .null, .null, .null, .null, .ref mm])), (q12, eK tc 40 (fun _ => 0)), (q20, eK tc 24 (fun _ => 0)), (q28, eK tc 24 (fun _ => 0)), (q36, eK tc 24 (fun _ => 0)), (q44, eK tc 24 (fun _ => 0)), (q52, eK tc 24 (fun _ => 0))]) rfl ?_
  refine K_putF (q0 := 0) (ws' := [(h, .inr (5, [.int 0, .ref q12, .ref q20, .ref q28, .ref q36, .ref q44, .ref q52, .null, .null, .null, .null, .null, .null, .null, .ref mm])), (q12, eK tc 40 (fun _ => 0)), (q20, eK tc 24 (fun _ => 0)), (q28, eK tc 24 (fun _ => 0)), (q36, eK tc 24 (fun _ => 0)), (q44, eK tc 24 (fun _ => 0)), (q52, eK tc 24 (fun _ => 0))]) hC hnm rfl rfl in5 tyX5_ok nmX5 6 (by decide) rfl rfl qw_683 rfl (tyX5_ok 6 (by decide)) rfl rfl (Nat.le_of_ble_eq_true rfl) rfl dX5_init_54 ?_
  refine K_aload_n (j := 0) hC dX5_init_57 rfl rfl ?_
  refine K_bipush (v := 24) hC dX5_init_58 (by decide) ?_
  refine K_newa hC qw_82 (by decide) (N := 24) rfl (by decide) ⟨by show _ ≤ 13; omega, by show _ ≤ 288; omega⟩ dX5_init_60 (fun q60 => ?_)
  refine K_ws (ws' := [(h, .inr (5, [.int 0, .ref q12, .ref q20, .ref q28, .ref q36, .ref q44, .ref q52, .null, .null, .null, .null, .null, .null, .null, .ref mm])), (q12, eK tc 40 (fun _ => 0)), (q20, eK tc 24 (fun _ => 0)), (q28, eK tc 24 (fun _ => 0)), (q36, eK tc 24 (fun _ => 0)), (q44, eK tc 24 (fun _ => 0)), (q52, eK tc 24 (fun _ => 0)), (q60, eK tc 24 (fun _ => 0))]) rfl ?_
  refine K_putF (q0 := 0) (ws' := [(h, .inr (5, [.int 0, .ref q12, .ref q20, .ref q28, .ref q36, .ref q44, .ref q52, .ref q60, .null, .null, .null, .null, .null, .null, .ref mm])), (q12, eK tc 40 (fun _ => 0)), (q20, eK tc 24 (fun _ => 0)), (q28, eK tc 24 (fun _ => 0)), (q36, eK tc 24 (fun _ => 0)), (q44, eK tc 24 (fun _ => 0)), (q52, eK tc 24 (fun _ => 0)), (q60, eK tc 24 (fun _ => 0))]) hC hnm rfl rfl in5 tyX5_ok nmX5 7 (by decide) rfl rfl qw_685 rfl (tyX5_ok 7 (by decide)) rfl rfl (Nat.le_of_ble_eq_true rfl) rfl dX5_init_62 ?_
  refine K_aload_n (j := 0) hC dX5_init_65 rfl rfl ?_
  refine K_bipush (v := 24) hC dX5_init_66 (by decide) ?_
  refine K_newa hC qw_82 (by decide) (N := 24) rfl (by decide) ⟨by show _ ≤ 13; omega, by show _ ≤ 288; omega⟩ dX5_init_68 (fun q68 => ?_)
  refine K_ws (ws' := [(h, .inr (5, [.int 0, .ref q12, .ref q20, .ref q28, .ref q36, .ref q44, .ref q52, .ref q60, .null, .null, .null, .null, .null, .null, .ref mm])), (q12, eK tc 40 (fun _ => 0)), (q20, eK tc 24 (fun _ => 0)), (q28, eK tc 24 (fun _ => 0)), (q36, eK tc 24 (fun _ => 0)), (q44, eK tc 24 (fun _ => 0)), (q52, eK tc 24 (fun _ => 0)), (q60, eK tc 24 (fun _ => 0)), (q68, eK tc 24 (fun _ => 0))]) rfl ?_
  refine K_putF (q0 := 0) (ws' := [(h, .inr (5, [.int 0, .ref q12, .ref q20, .ref q28, .ref q36, .ref q44, .ref q52, .ref q60, .ref q68, .null, .null, .null, .null, .null, .ref mm])), (q12, eK tc 40 (fun _ => 0)), (q20, eK tc 24 (fun _ => 0)), (q28, eK tc 24 (fun _ => 0)), (q36, eK tc 24 (fun _ => 0)), (q44, eK tc 24 (fun _ => 0)), (q52, eK tc 24 (fun _ => 0)), (q60, eK tc 24 (fun _ => 0)), (q68, eK tc 24 (fun _ => 0))]) hC hnm rfl rfl in5 tyX5_ok nmX5 8 (by decide) rfl rfl qw_687 rfl (tyX5_ok 8 (by decide)) rfl rfl (Nat.le_of_ble_eq_true rfl) rfl dX5_init_70 ?_
  refine K_aload_n (j := 0) hC dX5_init_73 rfl rfl ?_
  refine K_bipush (v := 24) hC dX5_init_74 (by decide) ?_
  refine K_newa hC qw_82 (by decide) (N := 24) rfl (by decide) ⟨by show _ ≤ 13; omega, by show _ ≤ 288; omega⟩ dX5_init_76 (fun q76 => ?_)
  refine K_ws (ws' := [(h, .inr (5, [.int 0, .ref q12, .ref q20, .ref q28, .ref q36, .ref q44, .ref q52, .ref q60, .ref q68, .null, .null, .null, .null, .null, .ref mm])), (q12, eK tc 40 (fun _ => 0)), (q20, eK tc 24 (fun _ => 0)), (q28, eK tc 24 (fun _ => 0)), (q36, eK tc 24 (fun _ => 0)), (q44, eK tc 24 (fun _ => 0)), (q52, eK tc 24 (fun _ => 0)), (q60, eK tc 24 (fun _ => 0)), (q68, eK tc 24 (fun _ => 0)), (q76, eK tc 24 (fun _ => 0))]) rfl ?_
  refine K_putF (q0 := 0) (ws' := [(h, .inr (5, [.int 0, .ref q12, .ref q20, .ref q28, .ref q36, .ref q44, .ref q52, .ref q60, .ref q68, .ref q76, .null, .null, .null, .null, .ref mm])), (q12, eK tc 40 (fun _ => 0)), (q20, eK tc 24 (fun _ => 0)), (q28, eK tc 24 (fun _ => 0)), (q36, eK tc 24 (fun _ => 0)), (q44, eK tc 24 (fun _ => 0)), (q52, eK tc 24 (fun _ => 0)), (q60, eK tc 24 (fun _ => 0)), (q68, eK tc 24 (fun _ => 0)), (q76, eK tc 24 (fun _ => 0))]) hC hnm rfl rfl in5 tyX5_ok nmX5 9 (by decide) rfl rfl qw_689 rfl (tyX5_ok 9 (by decide)) rfl rfl (Nat.le_of_ble_eq_true rfl) rfl dX5_init_78 ?_
  refine K_aload_n (j := 0) hC dX5_init_81 rfl rfl ?_
  refine K_bipush (v := 24) hC dX5_init_82 (by decide) ?_
  refine K_newa hC qw_82 (by decide) (N := 24) rfl (by decide) ⟨by show _ ≤ 13; omega, by show _ ≤ 288; omega⟩ dX5_init_84 (fun q84 => ?_)
  refine K_ws (ws' := [(h, .inr (5, [.int 0, .ref q12, .ref q20, .ref q28, .ref q36, .ref q44, .ref q52, .ref q60, .ref q68, .ref q76, .null, .null, .null, .null, .ref mm])), (q12, eK tc 40 (fun _ => 0)), (q20, eK tc 24 (fun _ => 0)), (q28, eK tc 24 (fun _ => 0)), (q36, eK tc 24 (fun _ => 0)), (q44, eK tc 24 (fun _ => 0)), (q52, eK tc 24 (fun _ => 0)), (q60, eK tc 24 (fun _ => 0)), (q68, eK tc 24 (fun _ => 0)), (q76, eK tc 24 (fun _ => 0)), (q84, eK tc 24 (fun _ => 0))]) rfl ?_
  refine K_putF (q0 := 0) (ws' := [(h, .inr (5, [.int 0, .ref q12, .ref q20, .ref q28, .ref q36, .ref q44, .ref q52, .ref q60, .ref q68, .ref q76, .ref q84, .null, .null, .null, .ref mm])), (q12, eK tc 40 (fun _ => 0)), (q20, eK tc 24 (fun _ => 0)), (q28, eK tc 24 (fun _ => 0)), (q36, eK tc 24 (fun _ => 0)), (q44, eK tc 24 (fun _ => 0)), (q52, eK tc 24 (fun _ => 0)), (q60, eK tc 24 (fun _ => 0)), (q68, eK tc 24 (fun _ => 0)), (q76, eK tc 24 (fun _ => 0)), (q84, eK tc 24 (fun _ => 0))]) hC hnm rfl rfl in5 tyX5_ok nmX5 10 (by decide) rfl rfl qw_691 rfl (tyX5_ok 10 (by decide)) rfl rfl (Nat.le_of_ble_eq_true rfl) rfl dX5_init_86 ?_
  refine K_aload_n (j := 0) hC dX5_init_89 rfl rfl ?_
  refine K_iconst (v := 4) hC dX5_init_90 (by decide) ?_
  refine K_newa hC qw_82 (by decide) (N := 4) rfl (by decide) ⟨by show _ ≤ 13; omega, by show _ ≤ 288; omega⟩ dX5_init_91 (fun q91 => ?_)
  refine K_ws (ws' := [(h, .inr (5, [.int 0, .ref q12, .ref q20, .ref q28, .ref q36, .ref q44, .ref q52, .ref q60, .ref q68, .ref q76, .ref q84, .null, .null, .null, .ref mm])), (q12, eK tc 40 (fun _ => 0)), (q20, eK tc 24 (fun _ => 0)), (q28, eK tc 24 (fun _ => 0)), (q36, eK tc 24 (fun _ => 0)), (q44, eK tc 24 (fun _ => 0)), (q52, eK tc 24 (fun _ => 0)), (q60, eK tc 24 (fun _ => 0)), (q68, eK tc 24 (fun _ => 0)), (q76, eK tc 24 (fun _ => 0)), (q84, eK tc 24 (fun _ => 0)), (q91, eK tc 4 (fun _ => 0))]) rfl ?_
  refine K_putF (q0 := 0) (ws' := [(h, .inr (5, [.int 0, .ref q12, .ref q20, .ref q28, .ref q36, .ref q44, .ref q52, .ref q60, .ref q68, .ref q76, .ref q84, .ref q91, .null, .null, .ref mm])), (q12, eK tc 40 (fun _ => 0)), (q20, eK tc 24 (fun _ => 0)), (q28, eK tc 24 (fun _ => 0)), (q36, eK tc 24 (fun _ => 0)), (q44, eK tc 24 (fun _ => 0)), (q52, eK tc 24 (fun _ => 0)), (q60, eK tc 24 (fun _ => 0)), (q68, eK tc 24 (fun _ => 0)), (q76, eK tc 24 (fun _ => 0)), (q84, eK tc 24 (fun _ => 0)), (q91, eK tc 4 (fun _ => 0))]) hC hnm rfl rfl in5 tyX5_ok nmX5 11 (by decide) rfl rfl qw_693 rfl (tyX5_ok 11 (by decide)) rfl rfl (Nat.le_of_ble_eq_true rfl) rfl dX5_init_93 ?_
  refine K_aload_n (j := 0) hC dX5_init_96 rfl rfl ?_
  refine K_iconst (v := 4) hC dX5_init_97 (by decide) ?_
  refine K_newa hC qw_82 (by decide) (N := 4) rfl (by decide) ⟨by show _ ≤ 13; omega, by show _ ≤ 288; omega⟩ dX5_init_98 (fun q98 => ?_)
  refine K_ws (ws' := [(h, .inr (5, [.int 0, .ref q12, .ref q20, .ref q28, .ref q36, .ref q44, .ref q52, .ref q60, .ref q68, .ref q76, .ref q84, .ref q91, .null, .null, .ref mm])), (q12, eK tc 40 (fun _ => 0)), (q20, eK tc 24 (fun _ => 0)), (q28, eK tc 24 (fun _ => 0)), (q36, eK tc 24 (fun _ => 0)), (q44, eK tc 24 (fun _ => 0)), (q52, eK tc 24 (fun _ => 0)), (q60, eK tc 24 (fun _ => 0)), (q68, eK tc 24 (fun _ => 0)), (q76, eK tc 24 (fun _ => 0)), (q84, eK tc 24 (fun _ => 0)), (q91, eK tc 4 (fun _ => 0)), (q98, eK tc 4 (fun _ => 0))]) rfl ?_
  refine K_putF (q0 := 0) (ws' := [(h, .inr (5, [.int 0, .ref q12, .ref q20, .ref q28, .ref q36, .ref q44, .ref q52, .ref q60, .ref q68, .ref q76, .ref q84, .ref q91, .ref q98, .null, .ref mm])), (q12, eK tc 40 (fun _ => 0)), (q20, eK tc 24 (fun _ => 0)), (q28, eK tc 24 (fun _ => 0)), (q36, eK tc 24 (fun _ => 0)), (q44, eK tc 24 (fun _ => 0)), (q52, eK tc 24 (fun _ => 0)), (q60, eK tc 24 (fun _ => 0)), (q68, eK tc 24 (fun _ => 0)), (q76, eK tc 24 (fun _ => 0)), (q84, eK tc 24 (fun _ => 0)), (q91, eK tc 4 (fun _ => 0)), (q98, eK tc 4 (fun _ => 0))]) hC hnm rfl rfl in5 tyX5_ok nmX5 12 (by decide) rfl rfl qw_695 rfl (tyX5_ok 12 (by decide)) rfl rfl (Nat.le_of_ble_eq_true rfl) rfl dX5_init_100 ?_
  refine K_aload_n (j := 0) hC dX5_init_103 rfl rfl ?_
  refine K_bipush (v := 24) hC dX5_init_104 (by decide) ?_
  refine K_newa hC qw_82 (by decide) (N := 24) rfl (by decide) ⟨by show _ ≤ 13; omega, by show _ ≤ 288; omega⟩ dX5_init_106 (fun q106 => ?_)
  refine K_ws (ws' := [(h, .inr (5, [.int 0, .ref q12, .ref q20, .ref q28, .ref q36, .ref q44, .ref q52, .ref q60, .ref q68, .ref q76, .ref q84, .ref q91, .ref q98, .null, .ref mm])), (q12, eK tc 40 (fun _ => 0)), (q20, eK tc 24 (fun _ => 0)), (q28, eK tc 24 (fun _ => 0)), (q36, eK tc 24 (fun _ => 0)), (q44, eK tc 24 (fun _ => 0)), (q52, eK tc 24 (fun _ => 0)), (q60, eK tc 24 (fun _ => 0)), (q68, eK tc 24 (fun _ => 0)), (q76, eK tc 24 (fun _ => 0)), (q84, eK tc 24 (fun _ => 0)), (q91, eK tc 4 (fun _ => 0)), (q98, eK tc 4 (fun _ => 0)), (q106, eK tc 24 (fun _ => 0))]) rfl ?_
  refine K_putF (q0 := 0) (ws' := [(h, .inr (5, [.int 0, .ref q12, .ref q20, .ref q28, .ref q36, .ref q44, .ref q52, .ref q60, .ref q68, .ref q76, .ref q84, .ref q91, .ref q98, .ref q106, .ref mm])), (q12, eK tc 40 (fun _ => 0)), (q20, eK tc 24 (fun _ => 0)), (q28, eK tc 24 (fun _ => 0)), (q36, eK tc 24 (fun _ => 0)), (q44, eK tc 24 (fun _ => 0)), (q52, eK tc 24 (fun _ => 0)), (q60, eK tc 24 (fun _ => 0)), (q68, eK tc 24 (fun _ => 0)), (q76, eK tc 24 (fun _ => 0)), (q84, eK tc 24 (fun _ => 0)), (q91, eK tc 4 (fun _ => 0)), (q98, eK tc 4 (fun _ => 0)), (q106, eK tc 24 (fun _ => 0))]) hC hnm rfl rfl in5 tyX5_ok nmX5 13 (by decide) rfl rfl qw_697 rfl (tyX5_ok 13 (by decide)) rfl rfl (Nat.le_of_ble_eq_true rfl) rfl dX5_init_108 ?_
  exact K_vret (ws' := stW tc (fun j => [h, q12, q20, q28, q36, q44, q52, q60, q68, q76, q84, q91, q98, q106].getD j 0) mm (fun _ => 0)) hC rfl hr ⟨(fun j => [h, q12, q20, q28, q36, q44, q52, q60, q68, q76, q84, q91, q98, q106].getD j 0), rfl, rfl⟩ (fun H hP => hP) (fun hD => hD) dX5_init_111
set_option maxHeartbeats 4000000 in
set_option maxRecDepth 100000 in
/-- Dairy(): four cellars, twenty-four wheels, four monks -/
theorem kt_dairy (l : Launch) (Dg : va_G) (tc : Nat → ClassId) (h : Nat) : KT l yX1_init cX1_init 2 2 33 43 372 Dg tc [.ref h] [(h, .inr (1, [.int 0, .int 0, .int 0, .int 0, .int 0, .null, .null, .null]))] (fun w => ∃ a : Nat → Nat, a 40 = h ∧ w = dyW tc a) := by
  refine KT_of (own := RX1) (lv := [(0, .ref h)]) (by decide) rfl rfl (Nat.le_of_ble_eq_true rfl) rfl ?_
  intro p e s m args below meth c hr hnm hC
  refine K_aload_n (j := 0) hC dX1_init_0 rfl rfl ?_
  refine K_objInit hC qw_56 qw_49 qw_50 ⟨Nat.le_of_ble_eq_true rfl, Nat.le_of_ble_eq_true rfl⟩ dX1_init_1 ?_
  refine K_aload_n (j := 0) hC dX1_init_4 rfl rfl ?_
  refine K_iconst (v := 0) hC dX1_init_5 (by decide) ?_
  refine K_put (q0 := 0) (ws' := [(h, .inr (1, [.int 0, .int 0, .int 0, .int 0, .int 0, .null, .null, .null]))]) hC rfl rfl in1 tyX1_ok nmX1 0 (by decide) rfl qw_152 rfl (by decide) (Nat.le_of_ble_eq_true rfl) rfl dX1_init_6 ?_
  refine K_aload_n (j := 0) hC dX1_init_9 rfl rfl ?_
  refine K_iconst (v := 0) hC dX1_init_10 (by decide) ?_
  refine K_put (q0 := 0) (ws' := [(h, .inr (1, [.int 0, .int 0, .int 0, .int 0, .int 0, .null, .null, .null]))]) hC rfl rfl in1 tyX1_ok nmX1 1 (by decide) rfl qw_154 rfl (by decide) (Nat.le_of_ble_eq_true rfl) rfl dX1_init_11 ?_
  refine K_aload_n (j := 0) hC dX1_init_14 rfl rfl ?_
  refine K_iconst (v := 0) hC dX1_init_15 (by decide) ?_
  refine K_put (q0 := 0) (ws' := [(h, .inr (1, [.int 0, .int 0, .int 0, .int 0, .int 0, .null, .null, .null]))]) hC rfl rfl in1 tyX1_ok nmX1 2 (by decide) rfl qw_156 rfl (by decide) (Nat.le_of_ble_eq_true rfl) rfl dX1_init_16 ?_
  refine K_aload_n (j := 0) hC dX1_init_19 rfl rfl ?_
  refine K_iconst (v := 0) hC dX1_init_20 (by decide) ?_
  refine K_put (q0 := 0) (ws' := [(h, .inr (1, [.int 0, .int 0, .int 0, .int 0, .int 0, .null, .null, .null]))]) hC rfl rfl in1 tyX1_ok nmX1 3 (by decide) rfl qw_158 rfl (by decide) (Nat.le_of_ble_eq_true rfl) rfl dX1_init_21 ?_
  refine K_aload_n (j := 0) hC dX1_init_24 rfl rfl ?_
  refine K_iconst (v := 0) hC dX1_init_25 (by decide) ?_
  refine K_put (q0 := 0) (ws' := [(h, .inr (1, [.int 0, .int 0, .int 0, .int 0, .int 0, .null, .null, .null]))]) hC rfl rfl in1 tyX1_ok nmX1 4 (by decide) rfl qw_160 rfl (by decide) (Nat.le_of_ble_eq_true rfl) rfl dX1_init_26 ?_
  refine K_aload_n (j := 0) hC dX1_init_29 rfl rfl ?_
  refine K_iconst (v := 4) hC dX1_init_30 (by decide) ?_
  refine K_newq (t := 1) hC (by decide) rfl qw_57 (by decide) (N := 4) rfl (by decide) ⟨by show _ ≤ 43; omega, by show _ ≤ 372; omega⟩ dX1_init_31 (fun q31 => ?_)
  refine K_ws (ws' := [(h, .inr (1, [.int 0, .int 0, .int 0, .int 0, .int 0, .null, .null, .null])), (q31, eQ (tc 1) 4 (fun _ => none))]) rfl ?_
  refine K_putF (q0 := 0) (ws' := [(h, .inr (1, [.int 0, .int 0, .int 0, .int 0, .int 0, .ref q31, .null, .null])), (q31, eQ (tc 1) 4 (fun _ => none))]) hC hnm rfl rfl in1 tyX1_ok nmX1 5 (by decide) rfl rfl qw_162 rfl (tyX1_ok 5 (by decide)) rfl rfl (Nat.le_of_ble_eq_true rfl) rfl dX1_init_34 ?_
  refine K_aload_n (j := 0) hC dX1_init_37 rfl rfl ?_
  refine K_bipush (v := 24) hC dX1_init_38 (by decide) ?_
  refine K_newq (t := 2) hC (by decide) rfl qw_59 (by decide) (N := 24) rfl (by decide) ⟨by show _ ≤ 43; omega, by show _ ≤ 372; omega⟩ dX1_init_40 (fun q40 => ?_)
  refine K_ws (ws' := [(h, .inr (1, [.int 0, .int 0, .int 0, .int 0, .int 0, .ref q31, .null, .null])), (q31, eQ (tc 1) 4 (fun _ => none)), (q40, eQ (tc 2) 24 (fun _ => none))]) rfl ?_
  refine K_putF (q0 := 0) (ws' := [(h, .inr (1, [.int 0, .int 0, .int 0, .int 0, .int 0, .ref q31, .ref q40, .null])), (q31, eQ (tc 1) 4 (fun _ => none)), (q40, eQ (tc 2) 24 (fun _ => none))]) hC hnm rfl rfl in1 tyX1_ok nmX1 6 (by decide) rfl rfl qw_163 rfl (tyX1_ok 6 (by decide)) rfl rfl (Nat.le_of_ble_eq_true rfl) rfl dX1_init_43 ?_
  refine K_aload_n (j := 0) hC dX1_init_46 rfl rfl ?_
  refine K_iconst (v := 4) hC dX1_init_47 (by decide) ?_
  refine K_newq (t := 3) hC (by decide) rfl qw_61 (by decide) (N := 4) rfl (by decide) ⟨by show _ ≤ 43; omega, by show _ ≤ 372; omega⟩ dX1_init_48 (fun q48 => ?_)
  refine K_ws (ws' := [(h, .inr (1, [.int 0, .int 0, .int 0, .int 0, .int 0, .ref q31, .ref q40, .null])), (q31, eQ (tc 1) 4 (fun _ => none)), (q40, eQ (tc 2) 24 (fun _ => none)), (q48, eQ (tc 3) 4 (fun _ => none))]) rfl ?_
  refine K_putF (q0 := 0) (ws' := [(h, .inr (1, [.int 0, .int 0, .int 0, .int 0, .int 0, .ref q31, .ref q40, .ref q48])), (q31, eQ (tc 1) 4 (fun _ => none)), (q40, eQ (tc 2) 24 (fun _ => none)), (q48, eQ (tc 3) 4 (fun _ => none))]) hC hnm rfl rfl in1 tyX1_ok nmX1 7 (by decide) rfl rfl qw_164 rfl (tyX1_ok 7 (by decide)) rfl rfl (Nat.le_of_ble_eq_true rfl) rfl dX1_init_51 ?_
  refine K_iconst (v := 0) hC dX1_init_54 (by decide) ?_
  refine K_istore_n (lv' := [(1, .int 0), (0, .ref h)]) hC dX1_init_55 rfl (by decide) rfl ?_
  have h3 : ∀ (a1 x1 a2 : Nat → Nat) (L1 L2 : va_W), CLd tc a1 x1 4 L1 → WLd tc a2 a2 24 L2 → ∀ n i : Nat, i + n = 4 → ∀ (a x : Nat → Nat) (L : va_W), MLd tc a x i L → Kd p l e ({ frames := 2, cells := 43, slots := 372, locals := 33 } : Room) s m args below meth c (MQ below (KQ Dg [(h, .inr (1, [.int 0, .int 0, .int 0, .int 0, .int 0, .null, .null, .null]))] s.heap.size (fun w => ∃ a : Nat → Nat, a 40 = h ∧ w = dyW tc a)) args s 43 372 (va_A [(h, .inr (1, [.int 0, .int 0, .int 0, .int 0, .int 0, .null, .null, .null]))] s.heap.size)) Dg (va_A [(h, .inr (1, [.int 0, .int 0, .int 0, .int 0, .int 0, .null, .null, .null]))] s.heap.size) 2 (35 + 2 * i) (324 + 12 * i) ([(h, .inr (1, [.int 0, .int 0, .int 0, .int 0, .int 0, .ref q31, .ref q40, .ref q48])), (q31, eQ (tc 1) 4 (cfr a1 4)), (q40, eQ (tc 2) 24 (cfr a2 24)), (q48, eQ (tc 3) 4 (cfr a i))] ++ ((L1 ++ L2) ++ L)) 116 [(1, .int (nI i)), (0, .ref h)] [] := by
    intro a1 x1 a2 L1 L2 hL1 hL2 n
    induction n with
    | zero =>
      intro i hi a x L hL
      obtain rfl : i = 4 := by omega
      refine K_iload_n (j := 0) hC dX1_init_116 rfl rfl ?_
      refine K_aload_n (j := 1) hC dX1_init_117 rfl rfl ?_
      refine K_get (q0 := 0) (v := .ref q48) hC rfl rfl in1 7 (by decide) rfl qw_164 rfl dX1_init_118 ?_
      refine K_alen (q0 := 3) (t := 3) (v := 4) hC rfl rfl rfl dX1_init_121 ?_
      refine K_icmp_ge (tgt := 144) hC dX1_init_122 (by decide) (fun _ => ?_) (fun c => absurd (by decide) c)
      refine K_widen (k := 43) (n := 372) (by decide) (by decide) ?_
      exact K_vret (ws' := dyW tc (adD h q31 q40 q48 a1 x1 a2 a x)) hC rfl hr ⟨_, rfl, rfl⟩ (dy_to hL1 hL2 hL).1 ((dy_to (Dg := Dg) hL1 hL2 hL).2 _) dX1_init_144
    | succ n ih =>
      intro i hi a x L hL
      refine K_iload_n (j := 0) hC dX1_init_116 rfl rfl ?_
      refine K_aload_n (j := 1) hC dX1_init_117 rfl rfl ?_
      refine K_get (q0 := 0) (v := .ref q48) hC rfl rfl in1 7 (by decide) rfl qw_164 rfl dX1_init_118 ?_
      refine K_alen (q0 := 3) (t := 3) (v := 4) hC rfl rfl rfl dX1_init_121 ?_
      refine K_icmp_ge (tgt := 144) hC dX1_init_122 (by decide) (fun c => absurd c (nle_nI rfl (show i < 4 by omega) (by decide))) (fun _ => ?_)
      refine K_aload_n (j := 1) hC dX1_init_125 rfl rfl ?_
      refine K_get (q0 := 0) (v := .ref q48) hC rfl rfl in1 7 (by decide) rfl qw_164 rfl dX1_init_126 ?_
      refine K_iload_n (j := 0) hC dX1_init_129 rfl rfl ?_
      refine K_new (ci := 2) (N := 5) (fs := [.int 0, .int 0, .int 0, .int 0, .null]) hC rfl in2 tyX2_ok qw_61 qw_127 qw_32 (fun j hj => by rcases (show j = 0 ∨ j = 1 ∨ j = 2 ∨ j = 3 ∨ j = 4 by omega) with rfl | rfl | rfl | rfl | rfl <;> rfl) ⟨by show _ ≤ 43; omega, by show _ ≤ 372; omega⟩ dX1_init_130 (fun q => ?_)
      refine K_dup hC dX1_init_133 rfl ?_
      refine K_callIN (As := []) (rw_ := ([(h, .inr (1, [.int 0, .int 0, .int 0, .int 0, .int 0, .ref q31, .ref q40, .ref q48])), (q31, eQ (tc 1) 4 (cfr a1 4)), (q40, eQ (tc 2) 24 (cfr a2 24)), (q48, eQ (tc 3) 4 (cfr a i))] ++ ((L1 ++ L2) ++ L))) hC (kt_monk l Dg tc q) rfl qw_130 qw_32 qw_129 nqw_128 rfl (n := 0) (by decide +kernel) rfl rfl (Nat.le_of_ble_eq_true rfl) ⟨Nat.le_of_ble_eq_true rfl, Nat.le_of_ble_eq_true rfl⟩ ⟨by show _ ≤ 43; omega, by show _ ≤ 372; omega⟩ dX1_init_134 (fun w hw => ?_)
      obtain ⟨b, rfl⟩ := hw
      refine K_astq (q0 := 3) (t := 3) (qk := ([(h, .inr (1, [.int 0, .int 0, .int 0, .int 0, .int 0, .ref q31, .ref q40, .ref q48])), (q31, eQ (tc 1) 4 (cfr a1 4)), (q40, eQ (tc 2) 24 (cfr a2 24)), (q48, eQ (tc 3) 4 (cfr a i))] ++ ((L1 ++ L2) ++ L)).length + 0) (ws' := ([(h, .inr (1, [.int 0, .int 0, .int 0, .int 0, .int 0, .ref q31, .ref q40, .ref q48])), (q31, eQ (tc 1) 4 (cfr a1 4)), (q40, eQ (tc 2) 24 (cfr a2 24)), (q48, eQ (tc 3) 4 (cfr (va_up a i q) (i + 1)))] ++ ((L1 ++ L2) ++ (L ++ [(q, .inr (2, fM mk0 b)), (b, eK tc 7 (fun _ => 0))])))) hC rfl rfl (app_r.trans rfl) rfl (vp_nI (by omega)) (by rw [cfr_s (by omega), ← List.append_assoc (L1 ++ L2) L _]; rfl) dX1_init_137 ?_
      refine K_iinc (j := 0) (v := nI (i + 1)) (lv' := [(1, .int (nI (i + 1))), (0, .ref h)]) hC dX1_init_138 rfl (nI_1s i) (by decide) rfl ?_
      refine K_goto (tgt := 116) hC dX1_init_141 (by decide) ?_
      refine K_widen (k := 35 + 2 * (i + 1)) (n := 324 + 12 * (i + 1)) (by omega) (by omega) ?_
      exact ih (i + 1) (by omega) (va_up a i q) (va_up x i b) _ (MLd_s hL)
  have h2 : ∀ (a1 x1 : Nat → Nat) (L1 : va_W), CLd tc a1 x1 4 L1 → ∀ n i : Nat, i + n = 24 → ∀ (a x : Nat → Nat) (L : va_W), WLd tc a x i L → Kd p l e ({ frames := 2, cells := 43, slots := 372, locals := 33 } : Room) s m args below meth c (MQ below (KQ Dg [(h, .inr (1, [.int 0, .int 0, .int 0, .int 0, .int 0, .null, .null, .null]))] s.heap.size (fun w => ∃ a : Nat → Nat, a 40 = h ∧ w = dyW tc a)) args s 43 372 (va_A [(h, .inr (1, [.int 0, .int 0, .int 0, .int 0, .int 0, .null, .null, .null]))] s.heap.size)) Dg (va_A [(h, .inr (1, [.int 0, .int 0, .int 0, .int 0, .int 0, .null, .null, .null]))] s.heap.size) 2 (11 + 1 * i) (84 + 10 * i) ([(h, .inr (1, [.int 0, .int 0, .int 0, .int 0, .int 0, .ref q31, .ref q40, .ref q48])), (q31, eQ (tc 1) 4 (cfr a1 4)), (q40, eQ (tc 2) 24 (cfr a i)), (q48, eQ (tc 3) 4 (fun _ => none))] ++ (L1 ++ L)) 86 [(1, .int (nI i)), (0, .ref h)] [] := by
    intro a1 x1 L1 hL1 n
    induction n with
    | zero =>
      intro i hi a x L hL
      obtain rfl : i = 24 := by omega
      refine K_iload_n (j := 0) hC dX1_init_86 rfl rfl ?_
      refine K_aload_n (j := 1) hC dX1_init_87 rfl rfl ?_
      refine K_get (q0 := 0) (v := .ref q40) hC rfl rfl in1 6 (by decide) rfl qw_163 rfl dX1_init_88 ?_
      refine K_alen (q0 := 2) (t := 2) (v := 24) hC rfl rfl rfl dX1_init_91 ?_
      refine K_icmp_ge (tgt := 114) hC dX1_init_92 (by decide) (fun _ => ?_) (fun c => absurd (by decide) c)
      refine K_iconst (v := 0) hC dX1_init_114 (by decide) ?_
      refine K_istore_n (lv' := [(1, .int 0), (0, .ref h)]) hC dX1_init_115 rfl (by decide) rfl ?_
      refine K_ws (ws' := ([(h, .inr (1, [.int 0, .int 0, .int 0, .int 0, .int 0, .ref q31, .ref q40, .ref q48])), (q31, eQ (tc 1) 4 (cfr a1 4)), (q40, eQ (tc 2) 24 (cfr a 24)), (q48, eQ (tc 3) 4 (cfr (fun _ => 0) 0))] ++ ((L1 ++ L) ++ []))) (by rw [List.append_nil, cfr_0]) ?_
      exact h3 a1 x1 a L1 L hL1 (WLd_x hL) 4 0 rfl (fun _ => 0) (fun _ => 0) [] MLd_0
    | succ n ih =>
      intro i hi a x L hL
      refine K_iload_n (j := 0) hC dX1_init_86 rfl rfl ?_
      refine K_aload_n (j := 1) hC dX1_init_87 rfl rfl ?_
      refine K_get (q0 := 0) (v := .ref q40) hC rfl rfl in1 6 (by decide) rfl qw_163 rfl dX1_init_88 ?_
      refine K_alen (q0 := 2) (t := 2) (v := 24) hC rfl rfl rfl dX1_init_91 ?_
      refine K_icmp_ge (tgt := 114) hC dX1_init_92 (by decide) (fun c => absurd c (nle_nI rfl (show i < 24 by omega) (by decide))) (fun _ => ?_)
      refine K_aload_n (j := 1) hC dX1_init_95 rfl rfl ?_
      refine K_get (q0 := 0) (v := .ref q40) hC rfl rfl in1 6 (by decide) rfl qw_163 rfl dX1_init_96 ?_
      refine K_iload_n (j := 0) hC dX1_init_99 rfl rfl ?_
      refine K_new (ci := 3) (N := 10) (fs := [.int 0, .int 0, .int 0, .int 0, .int 0, .int 0, .int 0, .int 0, .int 0, .int 0]) hC rfl in3 tyX3_ok qw_59 qw_83 qw_31 (fun j hj => by rcases (show j = 0 ∨ j = 1 ∨ j = 2 ∨ j = 3 ∨ j = 4 ∨ j = 5 ∨ j = 6 ∨ j = 7 ∨ j = 8 ∨ j = 9 by omega) with rfl | rfl | rfl | rfl | rfl | rfl | rfl | rfl | rfl | rfl <;> rfl) ⟨by show _ ≤ 43; omega, by show _ ≤ 372; omega⟩ dX1_init_100 (fun q => ?_)
      refine K_dup hC dX1_init_103 rfl ?_
      refine K_callIN (As := []) (rw_ := ([(h, .inr (1, [.int 0, .int 0, .int 0, .int 0, .int 0, .ref q31, .ref q40, .ref q48])), (q31, eQ (tc 1) 4 (cfr a1 4)), (q40, eQ (tc 2) 24 (cfr a i)), (q48, eQ (tc 3) 4 (fun _ => none))] ++ (L1 ++ L))) hC (kt_wheel l Dg tc q) rfl qw_86 qw_31 qw_85 nqw_84 rfl (n := 0) (by decide +kernel) rfl rfl (Nat.le_of_ble_eq_true rfl) ⟨Nat.le_of_ble_eq_true rfl, Nat.le_of_ble_eq_true rfl⟩ ⟨by show _ ≤ 43; omega, by show _ ≤ 372; omega⟩ dX1_init_104 (fun w hw => ?_)
      subst hw
      refine K_astq (q0 := 2) (t := 2) (qk := ([(h, .inr (1, [.int 0, .int 0, .int 0, .int 0, .int 0, .ref q31, .ref q40, .ref q48])), (q31, eQ (tc 1) 4 (cfr a1 4)), (q40, eQ (tc 2) 24 (cfr a i)), (q48, eQ (tc 3) 4 (fun _ => none))] ++ (L1 ++ L)).length + 0) (ws' := ([(h, .inr (1, [.int 0, .int 0, .int 0, .int 0, .int 0, .ref q31, .ref q40, .ref q48])), (q31, eQ (tc 1) 4 (cfr a1 4)), (q40, eQ (tc 2) 24 (cfr (va_up a i q) (i + 1))), (q48, eQ (tc 3) 4 (fun _ => none))] ++ (L1 ++ (L ++ [(q, .inr (3, fW wh0))])))) hC rfl rfl (app_r.trans rfl) rfl (vp_nI (by omega)) (by rw [cfr_s (by omega), ← List.append_assoc L1 L _]; rfl) dX1_init_107 ?_
      refine K_iinc (j := 0) (v := nI (i + 1)) (lv' := [(1, .int (nI (i + 1))), (0, .ref h)]) hC dX1_init_108 rfl (nI_1s i) (by decide) rfl ?_
      refine K_goto (tgt := 86) hC dX1_init_111 (by decide) ?_
      refine K_widen (k := 11 + 1 * (i + 1)) (n := 84 + 10 * (i + 1)) (by omega) (by omega) ?_
      exact ih (i + 1) (by omega) (va_up a i q) (va_up a i q) _ (WLd_s hL)
  have h1 : ∀ n i : Nat, i + n = 4 → ∀ (a x : Nat → Nat) (L : va_W), CLd tc a x i L → Kd p l e ({ frames := 2, cells := 43, slots := 372, locals := 33 } : Room) s m args below meth c (MQ below (KQ Dg [(h, .inr (1, [.int 0, .int 0, .int 0, .int 0, .int 0, .null, .null, .null]))] s.heap.size (fun w => ∃ a : Nat → Nat, a 40 = h ∧ w = dyW tc a)) args s 43 372 (va_A [(h, .inr (1, [.int 0, .int 0, .int 0, .int 0, .int 0, .null, .null, .null]))] s.heap.size)) Dg (va_A [(h, .inr (1, [.int 0, .int 0, .int 0, .int 0, .int 0, .null, .null, .null]))] s.heap.size) 2 (3 + 2 * i) (32 + 13 * i) ([(h, .inr (1, [.int 0, .int 0, .int 0, .int 0, .int 0, .ref q31, .ref q40, .ref q48])), (q31, eQ (tc 1) 4 (cfr a i)), (q40, eQ (tc 2) 24 (fun _ => none)), (q48, eQ (tc 3) 4 (fun _ => none))] ++ L) 56 [(1, .int (nI i)), (0, .ref h)] [] := by
    intro n
    induction n with
    | zero =>
      intro i hi a x L hL
      obtain rfl : i = 4 := by omega
      refine K_iload_n (j := 0) hC dX1_init_56 rfl rfl ?_
      refine K_aload_n (j := 1) hC dX1_init_57 rfl rfl ?_
      refine K_get (q0 := 0) (v := .ref q31) hC rfl rfl in1 5 (by decide) rfl qw_162 rfl dX1_init_58 ?_
      refine K_alen (q0 := 1) (t := 1) (v := 4) hC rfl rfl rfl dX1_init_61 ?_
      refine K_icmp_ge (tgt := 84) hC dX1_init_62 (by decide) (fun _ => ?_) (fun c => absurd (by decide) c)
      refine K_iconst (v := 0) hC dX1_init_84 (by decide) ?_
      refine K_istore_n (lv' := [(1, .int 0), (0, .ref h)]) hC dX1_init_85 rfl (by decide) rfl ?_
      refine K_ws (ws' := ([(h, .inr (1, [.int 0, .int 0, .int 0, .int 0, .int 0, .ref q31, .ref q40, .ref q48])), (q31, eQ (tc 1) 4 (cfr a 4)), (q40, eQ (tc 2) 24 (cfr (fun _ => 0) 0)), (q48, eQ (tc 3) 4 (fun _ => none))] ++ (L ++ []))) (by rw [List.append_nil, cfr_0]) ?_
      exact h2 a x L hL 24 0 rfl (fun _ => 0) (fun _ => 0) [] WLd_0
    | succ n ih =>
      intro i hi a x L hL
      refine K_iload_n (j := 0) hC dX1_init_56 rfl rfl ?_
      refine K_aload_n (j := 1) hC dX1_init_57 rfl rfl ?_
      refine K_get (q0 := 0) (v := .ref q31) hC rfl rfl in1 5 (by decide) rfl qw_162 rfl dX1_init_58 ?_
      refine K_alen (q0 := 1) (t := 1) (v := 4) hC rfl rfl rfl dX1_init_61 ?_
      refine K_icmp_ge (tgt := 84) hC dX1_init_62 (by decide) (fun c => absurd c (nle_nI rfl (show i < 4 by omega) (by decide))) (fun _ => ?_)
      refine K_aload_n (j := 1) hC dX1_init_65 rfl rfl ?_
      refine K_get (q0 := 0) (v := .ref q31) hC rfl rfl in1 5 (by decide) rfl qw_162 rfl dX1_init_66 ?_
      refine K_iload_n (j := 0) hC dX1_init_69 rfl rfl ?_
      refine K_new (ci := 0) (N := 3) (fs := [.int 0, .int 0, .null]) hC rfl in0 tyX0_ok qw_57 qw_63 qw_30 (fun j hj => by rcases (show j = 0 ∨ j = 1 ∨ j = 2 by omega) with rfl | rfl | rfl <;> rfl) ⟨by show _ ≤ 43; omega, by show _ ≤ 372; omega⟩ dX1_init_70 (fun q => ?_)
      refine K_dup hC dX1_init_73 rfl ?_
      refine K_callI (As := []) (rw_ := ([(h, .inr (1, [.int 0, .int 0, .int 0, .int 0, .int 0, .ref q31, .ref q40, .ref q48])), (q31, eQ (tc 1) 4 (cfr a i)), (q40, eQ (tc 2) 24 (fun _ => none)), (q48, eQ (tc 3) 4 (fun _ => none))] ++ L)) hC (kt_cellar l Dg tc q) rfl qw_66 qw_30 qw_65 qw_64 rfl (n := 0) (by decide +kernel) rfl rfl (Nat.le_of_ble_eq_true rfl) ⟨Nat.le_of_ble_eq_true rfl, Nat.le_of_ble_eq_true rfl⟩ ⟨by show _ ≤ 43; omega, by show _ ≤ 372; omega⟩ dX1_init_74 (fun w hw => ?_)
      obtain ⟨b, rfl⟩ := hw
      refine K_astq (q0 := 1) (t := 1) (qk := ([(h, .inr (1, [.int 0, .int 0, .int 0, .int 0, .int 0, .ref q31, .ref q40, .ref q48])), (q31, eQ (tc 1) 4 (cfr a i)), (q40, eQ (tc 2) 24 (fun _ => none)), (q48, eQ (tc 3) 4 (fun _ => none))] ++ L).length + 0) (ws' := ([(h, .inr (1, [.int 0, .int 0, .int 0, .int 0, .int 0, .ref q31, .ref q40, .ref q48])), (q31, eQ (tc 1) 4 (cfr (va_up a i q) (i + 1))), (q40, eQ (tc 2) 24 (fun _ => none)), (q48, eQ (tc 3) 4 (fun _ => none))] ++ (L ++ [(q, .inr (0, fC (fun _ => 0) b)), (b, eK tc 10 bd0)]))) hC rfl rfl (app_r.trans rfl) rfl (vp_nI (by omega)) (by rw [cfr_s (by omega)]; rfl) dX1_init_77 ?_
      refine K_iinc (j := 0) (v := nI (i + 1)) (lv' := [(1, .int (nI (i + 1))), (0, .ref h)]) hC dX1_init_78 rfl (nI_1s i) (by decide) rfl ?_
      refine K_goto (tgt := 56) hC dX1_init_81 (by decide) ?_
      refine K_widen (k := 3 + 2 * (i + 1)) (n := 32 + 13 * (i + 1)) (by omega) (by omega) ?_
      exact ih (i + 1) (by omega) (va_up a i q) (va_up x i b) _ (CLd_s hL)
  refine K_ws (ws' := ([(h, .inr (1, [.int 0, .int 0, .int 0, .int 0, .int 0, .ref q31, .ref q40, .ref q48])), (q31, eQ (tc 1) 4 (cfr (fun _ => 0) 0)), (q40, eQ (tc 2) 24 (fun _ => none)), (q48, eQ (tc 3) 4 (fun _ => none))] ++ ([] : va_W))) (by rw [List.append_nil, cfr_0]) ?_
  exact h1 4 0 rfl (fun _ => 0) (fun _ => 0) [] CLd_0
set_option maxHeartbeats 4000000 in
set_option maxRecDepth 100000 in
/-- CheeseRota(): two dairies -/
theorem kt_rota (l : Launch) (Dg : va_G) (tc : Nat → ClassId) (h : Nat) : KT l yX4_init cX4_init 1 3 54 88 760 Dg tc [.ref h] [(h, .inr (4, [.null, .null]))] (fun w => ∃ a1 a2 : Nat → Nat, w = ([(h, .inr (4, [.ref (a1 40), .ref (a2 40)]))] ++ dyW tc a1) ++ dyW tc a2) := by
  refine KT_of (own := RX4) (lv := [(0, .ref h)]) (by decide) rfl rfl (Nat.le_of_ble_eq_true rfl) rfl ?_
  intro p e s m args below meth c hr hnm hC
  refine K_aload_n (j := 0) hC dX4_init_0 rfl rfl ?_
  refine K_objInit hC qw_48 qw_49 qw_50 ⟨Nat.le_of_ble_eq_true rfl, Nat.le_of_ble_eq_true rfl⟩ dX4_init_1 ?_
  refine K_aload_n (j := 0) hC dX4_init_4 rfl rfl ?_
  refine K_new (ci := 1) (N := 8) (fs := [.int 0, .int 0, .int 0, .int 0, .int 0, .null, .null, .null]) hC rfl in1 tyX1_ok qw_51 qw_52 qw_29 (fun j hj => by rcases (show j = 0 ∨ j = 1 ∨ j = 2 ∨ j = 3 ∨ j = 4 ∨ j = 5 ∨ j = 6 ∨ j = 7 by omega) with rfl | rfl | rfl | rfl | rfl | rfl | rfl | rfl <;> rfl) ⟨by show _ ≤ 88; omega, by show _ ≤ 760; omega⟩ dX4_init_5 (fun q => ?_)
  refine K_dup hC dX4_init_8 rfl ?_
  refine K_callI (As := []) (rw_ := [(h, .inr (4, [.null, .null]))]) hC (kt_dairy l Dg tc q) rfl qw_55 qw_29 qw_54 qw_53 rfl (n := 0) (by decide +kernel) rfl rfl (Nat.le_of_ble_eq_true rfl) ⟨Nat.le_of_ble_eq_true rfl, Nat.le_of_ble_eq_true rfl⟩ ⟨by show _ ≤ 88; omega, by show _ ≤ 760; omega⟩ dX4_init_9 (fun w hw => ?_)
  obtain ⟨a1, rfl, rfl⟩ := hw
  refine K_putF (q0 := 0) (ws' := [(h, .inr (4, [.ref (a1 40), .null]))] ++ dyW tc a1) hC hnm rfl rfl in4 tyX4_ok nmX4 0 (by decide) rfl rfl qw_182 rfl (tyX4_ok 0 (by decide)) rfl rfl (Nat.le_of_ble_eq_true rfl) rfl dX4_init_12 ?_
  refine K_aload_n (j := 0) hC dX4_init_15 rfl rfl ?_
  refine K_new (ci := 1) (N := 8) (fs := [.int 0, .int 0, .int 0, .int 0, .int 0, .null, .null, .null]) hC rfl in1 tyX1_ok qw_51 qw_52 qw_29 (fun j hj => by rcases (show j = 0 ∨ j = 1 ∨ j = 2 ∨ j = 3 ∨ j = 4 ∨ j = 5 ∨ j = 6 ∨ j = 7 by omega) with rfl | rfl | rfl | rfl | rfl | rfl | rfl | rfl <;> rfl) ⟨by show _ ≤ 88; omega, by show _ ≤ 760; omega⟩ dX4_init_16 (fun q => ?_)
  refine K_dup hC dX4_init_19 rfl ?_
  refine K_callI (As := []) (rw_ := ([(h, .inr (4, [.ref (a1 40), .null]))] ++ dyW tc a1)) hC (kt_dairy l Dg tc q) rfl qw_55 qw_29 qw_54 qw_53 rfl (n := 0) (by decide +kernel) rfl rfl (Nat.le_of_ble_eq_true rfl) ⟨Nat.le_of_ble_eq_true rfl, Nat.le_of_ble_eq_true rfl⟩ ⟨by show _ ≤ 88; omega, by show _ ≤ 760; omega⟩ dX4_init_20 (fun w hw => ?_)
  obtain ⟨a2, rfl, rfl⟩ := hw
  refine K_putF (q0 := 0) (ws' := ([(h, .inr (4, [.ref (a1 40), .ref (a2 40)]))] ++ dyW tc a1) ++ dyW tc a2) hC hnm rfl rfl in4 tyX4_ok nmX4 1 (by decide) rfl rfl qw_183 rfl (tyX4_ok 1 (by decide)) rfl rfl (Nat.le_of_ble_eq_true rfl) rfl dX4_init_23 ?_
  exact K_vret hC rfl hr ⟨a1, a2, rfl⟩ (fun H hP => hP) (fun hD => hD) dX4_init_26
set_option maxHeartbeats 4000000 in
set_option maxRecDepth 100000 in
/-- the reference: its rows, its two states, a board of -1 -/
theorem kt_model (l : Launch) (Dg : va_G) (tc : Nat → ClassId) (h : Nat) : KT l yX6_init cX6_init 2 2 33 33 650 Dg tc [.ref h] [(h, .inr (6, [.int 0, .int 0, .null, .null, .int 0, .int 0, .null, .null, .null, .int 0, .null, .null]))] (fun w => ∃ (b : Nat → Nat) (a3 a4 : Nat → Nat), b 0 = h ∧ w = (moW tc b (a3 0) (a4 0) ++ stW tc a3 h bd40) ++ stW tc a4 h (fun _ => 0)) := by
  refine KT_of (own := RX6) (lv := [(0, .ref h)]) (by decide) rfl rfl (Nat.le_of_ble_eq_true rfl) rfl ?_
  intro p e s m args below meth c hr hnm hC
  refine K_aload_n (j := 0) hC dX6_init_0 rfl rfl ?_
  refine K_objInit hC qw_664 qw_49 qw_50 ⟨Nat.le_of_ble_eq_true rfl, Nat.le_of_ble_eq_true rfl⟩ dX6_init_1 ?_
  refine K_aload_n (j := 0) hC dX6_init_4 rfl rfl ?_
  refine K_iconst (v := 4) hC dX6_init_5 (by decide) ?_
  refine K_newa hC qw_82 (by decide) (N := 4) rfl (by decide) ⟨by show _ ≤ 33; omega, by show _ ≤ 650; omega⟩ dX6_init_6 (fun q6 => ?_)
  refine K_ws (ws' := [(h, .inr (6, [.int 0, .int 0, .null, .null, .int 0, .int 0, .null, .null, .null, .int 0, .null, .null])), (q6, eK tc 4 (fun _ => 0))]) rfl ?_
  refine K_putF (q0 := 0) (ws' := [(h, .inr (6, [.int 0, .int 0, .ref q6, .null, .int 0, .int 0, .null, .null, .null, .int 0, .null, .null])), (q6, eK tc 4 (fun _ => 0))]) hC hnm rfl rfl in6 tyX6_ok nmX6 2 (by decide) rfl rfl qw_732 rfl (tyX6_ok 2 (by decide)) rfl rfl (Nat.le_of_ble_eq_true rfl) rfl dX6_init_8 ?_
  refine K_aload_n (j := 0) hC dX6_init_11 rfl rfl ?_
  refine K_iconst (v := 4) hC dX6_init_12 (by decide) ?_
  refine K_newa hC qw_82 (by decide) (N := 4) rfl (by decide) ⟨by show _ ≤ 33; omega, by show _ ≤ 650; omega⟩ dX6_init_13 (fun q13 => ?_)
  refine K_ws (ws' := [(h, .inr (6, [.int 0, .int 0, .ref q6, .null, .int 0, .int 0, .null, .null, .null, .int 0, .null, .null])), (q6, eK tc 4 (fun _ => 0)), (q13, eK tc 4 (fun _ => 0))]) rfl ?_
  refine K_putF (q0 := 0) (ws' := [(h, .inr (6, [.int 0, .int 0, .ref q6, .ref q13, .int 0, .int 0, .null, .null, .null, .int 0, .null, .null])), (q6, eK tc 4 (fun _ => 0)), (q13, eK tc 4 (fun _ => 0))]) hC hnm rfl rfl in6 tyX6_ok nmX6 3 (by decide) rfl rfl qw_734 rfl (tyX6_ok 3 (by decide)) rfl rfl (Nat.le_of_ble_eq_true rfl) rfl dX6_init_15 ?_
  refine K_aload_n (j := 0) hC dX6_init_18 rfl rfl ?_
  refine K_iconst (v := 4) hC dX6_init_19 (by decide) ?_
  refine K_newa hC qw_82 (by decide) (N := 4) rfl (by decide) ⟨by show _ ≤ 33; omega, by show _ ≤ 650; omega⟩ dX6_init_20 (fun q20 => ?_)
  refine K_ws (ws' := [(h, .inr (6, [.int 0, .int 0, .ref q6, .ref q13, .int 0, .int 0, .null, .null, .null, .int 0, .null, .null])), (q6, eK tc 4 (fun _ => 0)), (q13, eK tc 4 (fun _ => 0)), (q20, eK tc 4 (fun _ => 0))]) rfl ?_
  refine K_putF (q0 := 0) (ws' := [(h, .inr (6, [.int 0, .int 0, .ref q6, .ref q13, .int 0, .int 0, .ref q20, .null, .null, .int 0, .null, .null])), (q6, eK tc 4 (fun _ => 0)), (q13, eK tc 4 (fun _ => 0)), (q20, eK tc 4 (fun _ => 0))]) hC hnm rfl rfl in6 tyX6_ok nmX6 6 (by decide) rfl rfl qw_740 rfl (tyX6_ok 6 (by decide)) rfl rfl (Nat.le_of_ble_eq_true rfl) rfl dX6_init_22 ?_
  refine K_aload_n (j := 0) hC dX6_init_25 rfl rfl ?_
  refine K_iconst (v := 4) hC dX6_init_26 (by decide) ?_
  refine K_newa hC qw_82 (by decide) (N := 4) rfl (by decide) ⟨by show _ ≤ 33; omega, by show _ ≤ 650; omega⟩ dX6_init_27 (fun q27 => ?_)
  refine K_ws (ws' := [(h, .inr (6, [.int 0, .int 0, .ref q6, .ref q13, .int 0, .int 0, .ref q20, .null, .null, .int 0, .null, .null])), (q6, eK tc 4 (fun _ => 0)), (q13, eK tc 4 (fun _ => 0)), (q20, eK tc 4 (fun _ => 0)), (q27, eK tc 4 (fun _ => 0))]) rfl ?_
  refine K_putF (q0 := 0) (ws' := [(h, .inr (6, [.int 0, .int 0, .ref q6, .ref q13, .int 0, .int 0, .ref q20, .ref q27, .null, .int 0, .null, .null])), (q6, eK tc 4 (fun _ => 0)), (q13, eK tc 4 (fun _ => 0)), (q20, eK tc 4 (fun _ => 0)), (q27, eK tc 4 (fun _ => 0))]) hC hnm rfl rfl in6 tyX6_ok nmX6 7 (by decide) rfl rfl qw_742 rfl (tyX6_ok 7 (by decide)) rfl rfl (Nat.le_of_ble_eq_true rfl) rfl dX6_init_29 ?_
  refine K_aload_n (j := 0) hC dX6_init_32 rfl rfl ?_
  refine K_bipush (v := 28) hC dX6_init_33 (by decide) ?_
  refine K_newa hC qw_82 (by decide) (N := 28) rfl (by decide) ⟨by show _ ≤ 33; omega, by show _ ≤ 650; omega⟩ dX6_init_35 (fun q35 => ?_)
  refine K_ws (ws' := [(h, .inr (6, [.int 0, .int 0, .ref q6, .ref q13, .int 0, .int 0, .ref q20, .ref q27, .null, .int 0, .null, .null])), (q6, eK tc 4 (fun _ => 0)), (q13, eK tc 4 (fun _ => 0)), (q20, eK tc 4 (fun _ => 0)), (q27, eK tc 4 (fun _ => 0)), (q35, eK tc 28 (fun _ => 0))]) rfl ?_
  refine K_putF (q0 := 0) (ws' := [(h, .inr (6, [.int 0, .int 0, .ref q6, .ref q13, .int 0, .int 0, .ref q20, .ref q27, .ref q35, .int 0, .null, .null])), (q6, eK tc 4 (fun _ => 0)), (q13, eK tc 4 (fun _ => 0)), (q20, eK tc 4 (fun _ => 0)), (q27, eK tc 4 (fun _ => 0)), (q35, eK tc 28 (fun _ => 0))]) hC hnm rfl rfl in6 tyX6_ok nmX6 8 (by decide) rfl rfl qw_744 rfl (tyX6_ok 8 (by decide)) rfl rfl (Nat.le_of_ble_eq_true rfl) rfl dX6_init_37 ?_
  refine K_aload_n (j := 0) hC dX6_init_40 rfl rfl ?_
  refine K_new (ci := 5) (N := 15) (fs := [.int 0, .null, .null, .null, .null, .null, .null, .null, .null, .null, .null, .null, .null, .null, .null]) hC rfl in5 tyX5_ok qw_665 qw_666 qw_34 (fun j hj => by rcases (show j = 0 ∨ j = 1 ∨ j = 2 ∨ j = 3 ∨ j = 4 ∨ j = 5 ∨ j = 6 ∨ j = 7 ∨ j = 8 ∨ j = 9 ∨ j = 10 ∨ j = 11 ∨ j = 12 ∨ j = 13 ∨ j = 14 by omega) with rfl | rfl | rfl | rfl | rfl | rfl | rfl | rfl | rfl | rfl | rfl | rfl | rfl | rfl | rfl <;> rfl) ⟨by show _ ≤ 33; omega, by show _ ≤ 650; omega⟩ dX6_init_41 (fun q => ?_)
  refine K_dup hC dX6_init_44 rfl ?_
  refine K_aload_n (j := 0) hC dX6_init_45 rfl rfl ?_
  refine K_callIN (As := [.ref h]) (rw_ := [(h, .inr (6, [.int 0, .int 0, .ref q6, .ref q13, .int 0, .int 0, .ref q20, .ref q27, .ref q35, .int 0, .null, .null])), (q6, eK tc 4 (fun _ => 0)), (q13, eK tc 4 (fun _ => 0)), (q20, eK tc 4 (fun _ => 0)), (q27, eK tc 4 (fun _ => 0)), (q35, eK tc 28 (fun _ => 0))]) hC (kt_state l Dg tc q h) rfl qw_669 qw_34 qw_668 nqw_667 rfl (n := 1) (by decide +kernel) rfl rfl (Nat.le_of_ble_eq_true rfl) ⟨Nat.le_of_ble_eq_true rfl, Nat.le_of_ble_eq_true rfl⟩ ⟨by show _ ≤ 33; omega, by show _ ≤ 650; omega⟩ dX6_init_46 (fun w hw => ?_)
  obtain ⟨a3, rfl, rfl⟩ := hw
  refine K_putF (q0 := 0) (ws' := [(h, .inr (6, [.int 0, .int 0, .ref q6, .ref q13, .int 0, .int 0, .ref q20, .ref q27, .ref q35, .int 0, .ref (a3 0), .null])), (q6, eK tc 4 (fun _ => 0)), (q13, eK tc 4 (fun _ => 0)), (q20, eK tc 4 (fun _ => 0)), (q27, eK tc 4 (fun _ => 0)), (q35, eK tc 28 (fun _ => 0))] ++ stW tc a3 h (fun _ => 0)) hC hnm rfl rfl in6 tyX6_ok nmX6 10 (by decide) rfl rfl qw_747 rfl (tyX6_ok 10 (by decide)) rfl rfl (Nat.le_of_ble_eq_true rfl) rfl dX6_init_49 ?_
  refine K_aload_n (j := 0) hC dX6_init_52 rfl rfl ?_
  refine K_new (ci := 5) (N := 15) (fs := [.int 0, .null, .null, .null, .null, .null, .null, .null, .null, .null, .null, .null, .null, .null, .null]) hC rfl in5 tyX5_ok qw_665 qw_666 qw_34 (fun j hj => by rcases (show j = 0 ∨ j = 1 ∨ j = 2 ∨ j = 3 ∨ j = 4 ∨ j = 5 ∨ j = 6 ∨ j = 7 ∨ j = 8 ∨ j = 9 ∨ j = 10 ∨ j = 11 ∨ j = 12 ∨ j = 13 ∨ j = 14 by omega) with rfl | rfl | rfl | rfl | rfl | rfl | rfl | rfl | rfl | rfl | rfl | rfl | rfl | rfl | rfl <;> rfl) ⟨by show _ ≤ 33; omega, by show _ ≤ 650; omega⟩ dX6_init_53 (fun q => ?_)
  refine K_dup hC dX6_init_56 rfl ?_
  refine K_aload_n (j := 0) hC dX6_init_57 rfl rfl ?_
  refine K_callIN (As := [.ref h]) (rw_ := ([(h, .inr (6, [.int 0, .int 0, .ref q6, .ref q13, .int 0, .int 0, .ref q20, .ref q27, .ref q35, .int 0, .ref (a3 0), .null])), (q6, eK tc 4 (fun _ => 0)), (q13, eK tc 4 (fun _ => 0)), (q20, eK tc 4 (fun _ => 0)), (q27, eK tc 4 (fun _ => 0)), (q35, eK tc 28 (fun _ => 0))] ++ stW tc a3 h (fun _ => 0))) hC (kt_state l Dg tc q h) rfl qw_669 qw_34 qw_668 nqw_667 rfl (n := 1) (by decide +kernel) rfl rfl (Nat.le_of_ble_eq_true rfl) ⟨Nat.le_of_ble_eq_true rfl, Nat.le_of_ble_eq_true rfl⟩ ⟨by show _ ≤ 33; omega, by show _ ≤ 650; omega⟩ dX6_init_58 (fun w hw => ?_)
  obtain ⟨a4, rfl, rfl⟩ := hw
  refine K_putF (q0 := 0) (ws' := ([(h, .inr (6, [.int 0, .int 0, .ref q6, .ref q13, .int 0, .int 0, .ref q20, .ref q27, .ref q35, .int 0, .ref (a3 0), .ref (a4 0)])), (q6, eK tc 4 (fun _ => 0)), (q13, eK tc 4 (fun _ => 0)), (q20, eK tc 4 (fun _ => 0)), (q27, eK tc 4 (fun _ => 0)), (q35, eK tc 28 (fun _ => 0))] ++ stW tc a3 h (fun _ => 0)) ++ stW tc a4 h (fun _ => 0)) hC hnm rfl rfl in6 tyX6_ok nmX6 11 (by decide) rfl rfl qw_748 rfl (tyX6_ok 11 (by decide)) rfl rfl (Nat.le_of_ble_eq_true rfl) rfl dX6_init_61 ?_
  refine K_iconst (v := 0) hC dX6_init_64 (by decide) ?_
  refine K_istore_n (lv' := [(1, .int 0), (0, .ref h)]) hC dX6_init_65 rfl (by decide) rfl ?_
  refine K_widen (k := 33) (n := 650) (by decide) (by decide) ?_
  have hl : ∀ n i : Nat, i + n = 40 → Kd p l e ({ frames := 2, cells := 33, slots := 650, locals := 33 } : Room) s m args below meth c (MQ below (KQ Dg [(h, .inr (6, [.int 0, .int 0, .null, .null, .int 0, .int 0, .null, .null, .null, .int 0, .null, .null]))] s.heap.size (fun w => ∃ (b : Nat → Nat) (a3 a4 : Nat → Nat), b 0 = h ∧ w = (moW tc b (a3 0) (a4 0) ++ stW tc a3 h bd40) ++ stW tc a4 h (fun _ => 0))) args s 33 650 (va_A [(h, .inr (6, [.int 0, .int 0, .null, .null, .int 0, .int 0, .null, .null, .null, .int 0, .null, .null]))] s.heap.size)) Dg (va_A [(h, .inr (6, [.int 0, .int 0, .null, .null, .int 0, .int 0, .null, .null, .null, .int 0, .null, .null]))] s.heap.size) 2 33 650 (([(h, .inr (6, [.int 0, .int 0, .ref q6, .ref q13, .int 0, .int 0, .ref q20, .ref q27, .ref q35, .int 0, .ref (a3 0), .ref (a4 0)])), (q6, eK tc 4 (fun _ => 0)), (q13, eK tc 4 (fun _ => 0)), (q20, eK tc 4 (fun _ => 0)), (q27, eK tc 4 (fun _ => 0)), (q35, eK tc 28 (fun _ => 0))] ++ stW tc a3 h (brD 40 i)) ++ stW tc a4 h (fun _ => 0)) 66 [(1, .int (nI i)), (0, .ref h)] [] := by
    intro n
    induction n with
    | zero =>
      intro i hi
      obtain rfl : i = 40 := by omega
      refine K_iload_n (j := 0) hC dX6_init_66 rfl rfl ?_
      refine K_bipush (v := 40) hC dX6_init_67 (by decide) ?_
      refine K_icmp_ge (tgt := 88) hC dX6_init_69 (by decide) (fun _ => ?_) (fun c => absurd (by decide) c)
      exact K_vret (ws' := (moW tc (fun j => [h, q6, q13, q20, q27, q35].getD j 0) (a3 0) (a4 0) ++ stW tc a3 h bd40) ++ stW tc a4 h (fun _ => 0)) hC rfl hr ⟨(fun j => [h, q6, q13, q20, q27, q35].getD j 0), a3, a4, rfl, rfl⟩ (fun H hP => hP) (fun hD => hD) dX6_init_88
    | succ n ih =>
      intro i hi
      refine K_iload_n (j := 0) hC dX6_init_66 rfl rfl ?_
      refine K_bipush (v := 40) hC dX6_init_67 (by decide) ?_
      refine K_icmp_ge (tgt := 88) hC dX6_init_69 (by decide) (fun c => absurd c (nle_nI rfl (show i < 40 by omega) (by decide))) (fun _ => ?_)
      refine K_aload_n (j := 1) hC dX6_init_72 rfl rfl ?_
      refine K_get (q0 := 0) (v := .ref (a3 0)) hC rfl rfl in6 10 (by decide) rfl qw_747 rfl dX6_init_73 ?_
      refine K_getN (q0 := 6) (v := .ref (a3 1)) (ci := 5) (N := 15) hC rfl rfl in5 1 (by decide) rfl nqw_674 rfl dX6_init_76 ?_
      refine K_iload_n (j := 0) hC dX6_init_79 rfl rfl ?_
      refine K_iconst (v := (-1)) hC dX6_init_80 (by decide) ?_
      refine K_iast (q0 := 7) (N := 40) (f := brD 40 i) (ws' := ([(h, .inr (6, [.int 0, .int 0, .ref q6, .ref q13, .int 0, .int 0, .ref q20, .ref q27, .ref q35, .int 0, .ref (a3 0), .ref (a4 0)])), (q6, eK tc 4 (fun _ => 0)), (q13, eK tc 4 (fun _ => 0)), (q20, eK tc 4 (fun _ => 0)), (q27, eK tc 4 (fun _ => 0)), (q35, eK tc 28 (fun _ => 0))] ++ stW tc a3 h (brD 40 (i + 1))) ++ stW tc a4 h (fun _ => 0)) hC rfl (vp_nI (by omega)) (by rw [brD_s (by omega)]; rfl) dX6_init_81 ?_
      refine K_iinc (j := 0) (v := nI (i + 1)) (lv' := [(1, .int (nI (i + 1))), (0, .ref h)]) hC dX6_init_82 rfl (nI_1s i) (by decide) rfl ?_
      refine K_goto (tgt := 66) hC dX6_init_85 (by decide) ?_
      exact ih (i + 1) (by omega)
  exact hl 40 0 rfl
