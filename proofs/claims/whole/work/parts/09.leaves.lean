theorem ct_rw {l : Launch} {y : MethodName} {cb : ByteArray} {nb ff lo mc ms : Nat} {r : Option FieldType} {G : GG} {av : List Value} {X1 X2 X3 X4 : XX} {o o' : OO} {v : Option Value} (h : X1 = X2) (h' : X3 = X4) (c : CT l y cb nb r ff lo mc ms G av X1 o v X3 o') : CT l y cb nb r ff lo mc ms G av X2 o v X4 o' := by subst h; subst h'; exact c
theorem ct_up {l : Launch} {y : MethodName} {cb : ByteArray} {nb ff lo mc ms : Nat} {r : Option FieldType} {G : GG} {av : List Value} {X X1 : XX} {o o' : OO} {v : Option Value} {d i : Nat} {D : DD} {w : WW} {f : WW → WW} (h : CT l y cb nb r ff lo mc ms G av X1 o v (va_up X d (va_up (va_up D i w) i (f ((va_up D i w) i)))) o') : CT l y cb nb r ff lo mc ms G av X1 o v (va_up X d (va_up D i (f w))) o' := by
  rw [va_up_up, va_up_self] at h
  exact h
set_option maxHeartbeats 4000000 in
set_option maxRecDepth 100000 in
theorem ct_X3_worth (l : Launch) (G : GG) (X : XX) (o : OO) (d : Nat) (hd : d < 2) (D : DD) (i : Nat) (hi : i < 24) : CT l yX3_worth cX3_worth 2 (some .int) 1 21 0 0 G [.ref (aX G d i)] (va_up X d D) o (some (.int (worth (D i)))) (va_up X d D) o := by
  refine CT_of (own := RX3) (lv := [(0, .ref (aX G d i))]) (by decide) rfl (Nat.le_of_ble_eq_true rfl) rfl ?_
  intro p e s m args below meth c hr hC
  refine J_aload_n hC (j := 0) dX3_worth_0 rfl rfl ?_
  refine J_get hC (nl_wh hd hi) (ent_wh hd hi) rfl in3 3 (by decide) rfl qw_96 rfl rF dX3_worth_1 ?_
  refine J_aload_n hC (j := 0) dX3_worth_4 rfl rfl ?_
  refine J_get hC (nl_wh hd hi) (ent_wh hd hi) rfl in3 5 (by decide) rfl qw_98 rfl rF dX3_worth_5 ?_
  refine J_bipush (v := 40) hC dX3_worth_8 (by decide) ?_
  refine J_isub hC dX3_worth_10 ?_
  refine J_abs hC qw_217 qw_218 qw_41 qw_219 ⟨Nat.le_of_ble_eq_true rfl, Nat.le_of_ble_eq_true rfl, Nat.le_of_ble_eq_true rfl, Nat.le_of_ble_eq_true rfl⟩ dX3_worth_11 ?_
  refine J_isub hC dX3_worth_14 ?_
  refine J_istore_n (lv' := [(1, .int ((D i 3) - (iabs ((D i 5) - 40)))), (0, .ref (aX G d i))]) hC dX3_worth_15 rfl (by decide) rfl ?_
  refine J_aload_n hC (j := 1) dX3_worth_16 rfl rfl ?_
  refine J_get hC (nl_wh hd hi) (ent_wh hd hi) rfl in3 7 (by decide) rfl qw_100 rfl rF dX3_worth_17 ?_
  refine J_iconst (v := 2) hC dX3_worth_20 (by decide) ?_
  refine J_icmp_ne (tgt := 47) hC dX3_worth_21 (by decide) (fun c21 => ?_) (fun c21 => ?_)
  · refine J_aload_n hC (j := 1) dX3_worth_47 rfl rfl ?_
    refine J_get hC (nl_wh hd hi) (ent_wh hd hi) rfl in3 7 (by decide) rfl qw_100 rfl rF dX3_worth_48 ?_
    refine J_iconst (v := 1) hC dX3_worth_51 (by decide) ?_
    refine J_icmp_ne (tgt := 61) hC dX3_worth_52 (by decide) (fun c52 => ?_) (fun c52 => ?_)
    · refine J_aload_n hC (j := 1) dX3_worth_61 rfl rfl ?_
      refine J_get hC (nl_wh hd hi) (ent_wh hd hi) rfl in3 7 (by decide) rfl qw_100 rfl rF dX3_worth_62 ?_
      refine J_iconst (v := 3) hC dX3_worth_65 (by decide) ?_
      refine J_icmp_ne (tgt := 72) hC dX3_worth_66 (by decide) (fun c66 => ?_) (fun c66 => ?_)
      · refine J_iload_n hC (j := 0) dX3_worth_72 rfl rfl ?_
        refine J_iconst (v := 0) hC dX3_worth_73 (by decide) ?_
        refine J_max hC qw_220 qw_221 qw_41 qw_222 ⟨Nat.le_of_ble_eq_true rfl, Nat.le_of_ble_eq_true rfl, Nat.le_of_ble_eq_true rfl, Nat.le_of_ble_eq_true rfl⟩ dX3_worth_74 ?_
        exact J_iret hC hr (by simp [worth, worth0, c21, c52, c66]) rfl rfl dX3_worth_77
      · refine J_iinc (j := 0) (v := (((D i 3) - (iabs ((D i 5) - 40))) + (-40))) (lv' := [(1, .int (((D i 3) - (iabs ((D i 5) - 40))) + (-40))), (0, .ref (aX G d i))]) hC dX3_worth_69 rfl rfl (by decide) rfl ?_
        refine J_iload_n hC (j := 0) dX3_worth_72 rfl rfl ?_
        refine J_iconst (v := 0) hC dX3_worth_73 (by decide) ?_
        refine J_max hC qw_220 qw_221 qw_41 qw_222 ⟨Nat.le_of_ble_eq_true rfl, Nat.le_of_ble_eq_true rfl, Nat.le_of_ble_eq_true rfl, Nat.le_of_ble_eq_true rfl⟩ dX3_worth_74 ?_
        exact J_iret hC hr (by simp [worth, worth0, c21, c52, c66]) rfl rfl dX3_worth_77
    · refine J_iinc (j := 0) (v := (((D i 3) - (iabs ((D i 5) - 40))) + 10)) (lv' := [(1, .int (((D i 3) - (iabs ((D i 5) - 40))) + 10)), (0, .ref (aX G d i))]) hC dX3_worth_55 rfl rfl (by decide) rfl ?_
      refine J_goto (tgt := 72) hC dX3_worth_58 (by decide) ?_
      refine J_iload_n hC (j := 0) dX3_worth_72 rfl rfl ?_
      refine J_iconst (v := 0) hC dX3_worth_73 (by decide) ?_
      refine J_max hC qw_220 qw_221 qw_41 qw_222 ⟨Nat.le_of_ble_eq_true rfl, Nat.le_of_ble_eq_true rfl, Nat.le_of_ble_eq_true rfl, Nat.le_of_ble_eq_true rfl⟩ dX3_worth_74 ?_
      exact J_iret hC hr (by simp [worth, worth0, c21, c52]) rfl rfl dX3_worth_77
  · refine J_aload_n hC (j := 1) dX3_worth_24 rfl rfl ?_
    refine J_get hC (nl_wh hd hi) (ent_wh hd hi) rfl in3 8 (by decide) rfl qw_103 rfl rF dX3_worth_25 ?_
    refine J_iconst (v := 3) hC dX3_worth_28 (by decide) ?_
    refine J_icmp_lt (tgt := 47) hC dX3_worth_29 (by decide) (fun c29 => ?_) (fun c29 => ?_)
    · refine J_aload_n hC (j := 1) dX3_worth_47 rfl rfl ?_
      refine J_get hC (nl_wh hd hi) (ent_wh hd hi) rfl in3 7 (by decide) rfl qw_100 rfl rF dX3_worth_48 ?_
      refine J_iconst (v := 1) hC dX3_worth_51 (by decide) ?_
      refine J_icmp_ne (tgt := 61) hC dX3_worth_52 (by decide) (fun c52 => ?_) (fun c52 => absurd c52 (by rw [c21]; decide))
      refine J_aload_n hC (j := 1) dX3_worth_61 rfl rfl ?_
      refine J_get hC (nl_wh hd hi) (ent_wh hd hi) rfl in3 7 (by decide) rfl qw_100 rfl rF dX3_worth_62 ?_
      refine J_iconst (v := 3) hC dX3_worth_65 (by decide) ?_
      refine J_icmp_ne (tgt := 72) hC dX3_worth_66 (by decide) (fun c66 => ?_) (fun c66 => absurd c66 (by rw [c21]; decide))
      refine J_iload_n hC (j := 0) dX3_worth_72 rfl rfl ?_
      refine J_iconst (v := 0) hC dX3_worth_73 (by decide) ?_
      refine J_max hC qw_220 qw_221 qw_41 qw_222 ⟨Nat.le_of_ble_eq_true rfl, Nat.le_of_ble_eq_true rfl, Nat.le_of_ble_eq_true rfl, Nat.le_of_ble_eq_true rfl⟩ dX3_worth_74 ?_
      exact J_iret hC hr (by simp [worth, worth0, c21, c29]) rfl rfl dX3_worth_77
    · refine J_aload_n hC (j := 1) dX3_worth_32 rfl rfl ?_
      refine J_get hC (nl_wh hd hi) (ent_wh hd hi) rfl in3 8 (by decide) rfl qw_103 rfl rF dX3_worth_33 ?_
      refine J_bipush (v := 6) hC dX3_worth_36 (by decide) ?_
      refine J_icmp_gt (tgt := 47) hC dX3_worth_38 (by decide) (fun c38 => ?_) (fun c38 => ?_)
      · refine J_aload_n hC (j := 1) dX3_worth_47 rfl rfl ?_
        refine J_get hC (nl_wh hd hi) (ent_wh hd hi) rfl in3 7 (by decide) rfl qw_100 rfl rF dX3_worth_48 ?_
        refine J_iconst (v := 1) hC dX3_worth_51 (by decide) ?_
        refine J_icmp_ne (tgt := 61) hC dX3_worth_52 (by decide) (fun c52 => ?_) (fun c52 => absurd c52 (by rw [c21]; decide))
        refine J_aload_n hC (j := 1) dX3_worth_61 rfl rfl ?_
        refine J_get hC (nl_wh hd hi) (ent_wh hd hi) rfl in3 7 (by decide) rfl qw_100 rfl rF dX3_worth_62 ?_
        refine J_iconst (v := 3) hC dX3_worth_65 (by decide) ?_
        refine J_icmp_ne (tgt := 72) hC dX3_worth_66 (by decide) (fun c66 => ?_) (fun c66 => absurd c66 (by rw [c21]; decide))
        refine J_iload_n hC (j := 0) dX3_worth_72 rfl rfl ?_
        refine J_iconst (v := 0) hC dX3_worth_73 (by decide) ?_
        refine J_max hC qw_220 qw_221 qw_41 qw_222 ⟨Nat.le_of_ble_eq_true rfl, Nat.le_of_ble_eq_true rfl, Nat.le_of_ble_eq_true rfl, Nat.le_of_ble_eq_true rfl⟩ dX3_worth_74 ?_
        exact J_iret hC hr (by simp [worth, worth0, c21, c29, c38]) rfl rfl dX3_worth_77
      · refine J_iinc (j := 0) (v := (((D i 3) - (iabs ((D i 5) - 40))) + 30)) (lv' := [(1, .int (((D i 3) - (iabs ((D i 5) - 40))) + 30)), (0, .ref (aX G d i))]) hC dX3_worth_41 rfl rfl (by decide) rfl ?_
        refine J_goto (tgt := 72) hC dX3_worth_44 (by decide) ?_
        refine J_iload_n hC (j := 0) dX3_worth_72 rfl rfl ?_
        refine J_iconst (v := 0) hC dX3_worth_73 (by decide) ?_
        refine J_max hC qw_220 qw_221 qw_41 qw_222 ⟨Nat.le_of_ble_eq_true rfl, Nat.le_of_ble_eq_true rfl, Nat.le_of_ble_eq_true rfl, Nat.le_of_ble_eq_true rfl⟩ dX3_worth_74 ?_
        exact J_iret hC hr (by simp [worth, worth0, c21, c29, c38]) rfl rfl dX3_worth_77
set_option maxHeartbeats 4000000 in
set_option maxRecDepth 100000 in
theorem ct_X3_canCatch (l : Launch) (G : GG) (X : XX) (o : OO) (d : Nat) (hd : d < 2) (D : DD) (i : Nat) (hi : i < 24) : CT l yX3_canCatch cX3_canCatch 1 (some .boolean) 0 0 0 0 G [.ref (aX G d i)] (va_up X d D) o (some (.int (bI (cCatch (D i) = true)))) (va_up X d D) o := by
  refine CT_of (own := RX3) (lv := [(0, .ref (aX G d i))]) (by decide) rfl (Nat.le_of_ble_eq_true rfl) rfl ?_
  intro p e s m args below meth c hr hC
  refine J_aload_n hC (j := 0) dX3_canCatch_0 rfl rfl ?_
  refine J_get hC (nl_wh hd hi) (ent_wh hd hi) rfl in3 7 (by decide) rfl qw_100 rfl rF dX3_canCatch_1 ?_
  refine J_if_ne (tgt := 20) hC dX3_canCatch_4 (by decide) (fun c4 => ?_) (fun c4 => ?_)
  · refine J_iconst (v := 0) hC dX3_canCatch_20 (by decide) ?_
    exact J_zret hC hr (by decide) (by simp [cCatch, c4]) rfl rfl dX3_canCatch_21
  · refine J_aload_n hC (j := 0) dX3_canCatch_7 rfl rfl ?_
    refine J_get hC (nl_wh hd hi) (ent_wh hd hi) rfl in3 4 (by decide) rfl qw_97 rfl rF dX3_canCatch_8 ?_
    refine J_bipush (v := 8) hC dX3_canCatch_11 (by decide) ?_
    refine J_icmp_ge (tgt := 20) hC dX3_canCatch_13 (by decide) (fun c13 => ?_) (fun c13 => ?_)
    · refine J_iconst (v := 0) hC dX3_canCatch_20 (by decide) ?_
      exact J_zret hC hr (by decide) (by simp [cCatch, c4, c13]) rfl rfl dX3_canCatch_21
    · refine J_iconst (v := 1) hC dX3_canCatch_16 (by decide) ?_
      refine J_goto (tgt := 21) hC dX3_canCatch_17 (by decide) ?_
      exact J_zret hC hr (by decide) (by simp [cCatch, c4, c13]) rfl rfl dX3_canCatch_21
set_option maxHeartbeats 4000000 in
set_option maxRecDepth 100000 in
theorem ct_X3_takeMould (l : Launch) (G : GG) (X : XX) (o : OO) (d : Nat) (hd : d < 2) (D : DD) (i : Nat) (hi : i < 24) (p0 : Int32) (p1 : Int32) : CT l yX3_takeMould cX3_takeMould 3 none 0 0 0 0 G [.ref (aX G d i), .int p0, .int p1] (va_up X d D) o none (va_up X d (va_up D i (takeM (D i) p0 p1))) o := by
  refine CT_of (own := RX3) (lv := [(0, .ref (aX G d i)), (1, .int p0), (2, .int p1)]) (by decide) rfl (Nat.le_of_ble_eq_true rfl) rfl ?_
  intro p e s m args below meth c hr hC
  refine J_aload_n hC (j := 0) dX3_takeMould_0 rfl rfl ?_
  refine J_iload_n hC (j := 1) dX3_takeMould_1 rfl rfl ?_
  refine J_put (X' := (va_up X d (va_up D i (va_up (D i) 7 p0)))) hC (nl_wh hd hi) (ent_wh hd hi) rfl in3 tyX3_ok nmX3 7 (by decide) rfl qw_100 rfl (by decide) (Nat.le_of_ble_eq_true rfl) (pu_whF hd hi (by decide)) dX3_takeMould_2 ?_
  refine J_aload_n hC (j := 0) dX3_takeMould_5 rfl rfl ?_
  refine J_iload_n hC (j := 1) dX3_takeMould_6 rfl rfl ?_
  refine J_if_ne (tgt := 14) hC dX3_takeMould_7 (by decide) (fun c7 => ?_) (fun c7 => ?_)
  · refine J_iconst (v := 1) hC dX3_takeMould_14 (by decide) ?_
    refine J_put (X' := (va_up X d (va_up D i (va_up (va_up (D i) 7 p0) 8 1)))) hC (nl_wh hd hi) (ent_wh hd hi) rfl in3 tyX3_ok nmX3 8 (by decide) rfl qw_103 rfl (by decide) (Nat.le_of_ble_eq_true rfl) (pu_whW hd hi (by decide)) dX3_takeMould_15 ?_
    refine J_aload_n hC (j := 0) dX3_takeMould_18 rfl rfl ?_
    refine J_iload_n hC (j := 2) dX3_takeMould_19 rfl rfl ?_
    refine J_put (X' := (va_up X d (va_up D i (va_up (va_up (va_up (D i) 7 p0) 8 1) 9 p1)))) hC (nl_wh hd hi) (ent_wh hd hi) rfl in3 tyX3_ok nmX3 9 (by decide) rfl qw_105 rfl (by decide) (Nat.le_of_ble_eq_true rfl) (pu_whW hd hi (by decide)) dX3_takeMould_20 ?_
    exact J_vret hC hr (congrArg (fun w => va_up X d (va_up D i w)) (by simp [takeM, c7])) rfl dX3_takeMould_23
  · refine J_iconst (v := 0) hC dX3_takeMould_10 (by decide) ?_
    refine J_goto (tgt := 15) hC dX3_takeMould_11 (by decide) ?_
    refine J_put (X' := (va_up X d (va_up D i (va_up (va_up (D i) 7 p0) 8 0)))) hC (nl_wh hd hi) (ent_wh hd hi) rfl in3 tyX3_ok nmX3 8 (by decide) rfl qw_103 rfl (by decide) (Nat.le_of_ble_eq_true rfl) (pu_whW hd hi (by decide)) dX3_takeMould_15 ?_
    refine J_aload_n hC (j := 0) dX3_takeMould_18 rfl rfl ?_
    refine J_iload_n hC (j := 2) dX3_takeMould_19 rfl rfl ?_
    refine J_put (X' := (va_up X d (va_up D i (va_up (va_up (va_up (D i) 7 p0) 8 0) 9 p1)))) hC (nl_wh hd hi) (ent_wh hd hi) rfl in3 tyX3_ok nmX3 9 (by decide) rfl qw_105 rfl (by decide) (Nat.le_of_ble_eq_true rfl) (pu_whW hd hi (by decide)) dX3_takeMould_20 ?_
    exact J_vret hC hr (congrArg (fun w => va_up X d (va_up D i w)) (by simp [takeM, c7])) rfl dX3_takeMould_23
set_option maxHeartbeats 4000000 in
set_option maxRecDepth 100000 in
theorem ct_X3_wash (l : Launch) (G : GG) (X : XX) (o : OO) (d : Nat) (hd : d < 2) (D : DD) (i : Nat) (hi : i < 24) : CT l yX3_wash cX3_wash 1 none 1 22 0 0 G [.ref (aX G d i)] (va_up X d D) o none (va_up X d (va_up D i (washW (D i)))) o := by
  refine CT_of (own := RX3) (lv := [(0, .ref (aX G d i))]) (by decide) rfl (Nat.le_of_ble_eq_true rfl) rfl ?_
  intro p e s m args below meth c hr hC
  refine J_aload_n hC (j := 0) dX3_wash_0 rfl rfl ?_
  refine J_dup hC dX3_wash_1 rfl ?_
  refine J_get hC (nl_wh hd hi) (ent_wh hd hi) rfl in3 8 (by decide) rfl qw_103 rfl rF dX3_wash_2 ?_
  refine J_iconst (v := 3) hC dX3_wash_5 (by decide) ?_
  refine J_isub hC dX3_wash_6 ?_
  refine J_put (X' := (va_up X d (va_up D i (va_up (D i) 8 ((D i 8) - 3))))) hC (nl_wh hd hi) (ent_wh hd hi) rfl in3 tyX3_ok nmX3 8 (by decide) rfl qw_103 rfl (by decide) (Nat.le_of_ble_eq_true rfl) (pu_whF hd hi (by decide)) dX3_wash_7 ?_
  refine J_aload_n hC (j := 0) dX3_wash_10 rfl rfl ?_
  refine J_get hC (nl_wh hd hi) (ent_wh hd hi) rfl in3 8 (by decide) rfl qw_103 rfl (rG (x := ((D i 8) - 3)) (by first | rfl | simp [va_up])) dX3_wash_11 ?_
  refine J_if_gt (tgt := 23) hC dX3_wash_14 (by decide) (fun c14 => ?_) (fun c14 => ?_)
  · exact J_vret hC hr (congrArg (fun w => va_up X d (va_up D i w)) (by simp [washW, c14])) rfl dX3_wash_23
  · refine J_aload_n hC (j := 0) dX3_wash_17 rfl rfl ?_
    refine J_iconst (v := 0) hC dX3_wash_18 (by decide) ?_
    refine J_iconst (v := (-1)) hC dX3_wash_19 (by decide) ?_
    refine J_callVv hC (ct_up (f := fun w => takeM w 0 (-1)) (ct_X3_takeMould l G X o d hd (va_up D i (va_up (D i) 8 ((D i 8) - 3))) i hi 0 (-1))) mw_X3_takeMould qw_575 (nl_wh hd hi) (ent_wh hd hi) rfl rfl rfl (Nat.le_of_ble_eq_true rfl) ⟨Nat.le_of_ble_eq_true rfl, Nat.le_of_ble_eq_true rfl⟩ ⟨Nat.le_of_ble_eq_true rfl, Nat.le_of_ble_eq_true rfl⟩ dX3_wash_20 ?_
    exact J_vret hC hr (congrArg (fun w => va_up X d (va_up D i w)) (by simp [washW, c14])) rfl dX3_wash_23
set_option maxHeartbeats 4000000 in
set_option maxRecDepth 100000 in
theorem ct_X3_undergo (l : Launch) (G : GG) (X : XX) (o : OO) (d : Nat) (hd : d < 2) (D : DD) (i : Nat) (hi : i < 24) (p0 : Int32) : CT l yX3_undergo cX3_undergo 2 none 2 42 0 0 G [.ref (aX G d i), .int p0] (va_up X d D) o none (va_up X d (va_up D i (undergo (D i) p0))) o := by
  refine CT_of (own := RX3) (lv := [(0, .ref (aX G d i)), (1, .int p0)]) (by decide) rfl (Nat.le_of_ble_eq_true rfl) rfl ?_
  intro p e s m args below meth c hr hC
  refine J_iload_n hC (j := 1) dX3_undergo_0 rfl rfl ?_
  refine J_iconst (v := 1) hC dX3_undergo_1 (by decide) ?_
  refine J_icmp_ne (tgt := 13) hC dX3_undergo_2 (by decide) (fun c2 => ?_) (fun c2 => ?_)
  · refine J_iload_n hC (j := 1) dX3_undergo_13 rfl rfl ?_
    refine J_iconst (v := 2) hC dX3_undergo_14 (by decide) ?_
    refine J_icmp_ne (tgt := 36) hC dX3_undergo_15 (by decide) (fun c15 => ?_) (fun c15 => ?_)
    · refine J_iload_n hC (j := 1) dX3_undergo_36 rfl rfl ?_
      refine J_iconst (v := 3) hC dX3_undergo_37 (by decide) ?_
      refine J_icmp_ne (tgt := 52) hC dX3_undergo_38 (by decide) (fun c38 => ?_) (fun c38 => ?_)
      · exact J_vret hC hr (congrArg (va_up X d) (by simp [undergo, va_up_eq, c2, c15, c38])) rfl dX3_undergo_52
      · refine J_aload_n hC (j := 0) dX3_undergo_41 rfl rfl ?_
        refine J_get hC (nl_wh hd hi) (ent_wh hd hi) rfl in3 7 (by decide) rfl qw_100 rfl rF dX3_undergo_42 ?_
        refine J_if_eq (tgt := 52) hC dX3_undergo_45 (by decide) (fun c45 => ?_) (fun c45 => ?_)
        · exact J_vret hC hr (congrArg (va_up X d) (by simp [undergo, va_up_eq, c2, c15, c38, c45])) rfl dX3_undergo_52
        · refine J_aload_n hC (j := 0) dX3_undergo_48 rfl rfl ?_
          refine J_callVv hC (ct_X3_wash l G X o d hd D i hi) mw_X3_wash qw_571 (nl_wh hd hi) (ent_wh hd hi) rfl rfl rfl (Nat.le_of_ble_eq_true rfl) ⟨Nat.le_of_ble_eq_true rfl, Nat.le_of_ble_eq_true rfl⟩ ⟨Nat.le_of_ble_eq_true rfl, Nat.le_of_ble_eq_true rfl⟩ dX3_undergo_49 ?_
          exact J_vret hC hr (congrArg (fun w => va_up X d (va_up D i w)) (by simp [undergo, va_up_eq, c2, c15, c38, c45])) rfl dX3_undergo_52
    · refine J_aload_n hC (j := 0) dX3_undergo_18 rfl rfl ?_
      refine J_aload_n hC (j := 0) dX3_undergo_19 rfl rfl ?_
      refine J_get hC (nl_wh hd hi) (ent_wh hd hi) rfl in3 4 (by decide) rfl qw_97 rfl rF dX3_undergo_20 ?_
      refine J_iconst (v := 2) hC dX3_undergo_23 (by decide) ?_
      refine J_iadd hC dX3_undergo_24 ?_
      refine J_bipush (v := 20) hC dX3_undergo_25 (by decide) ?_
      refine J_min hC qw_568 qw_569 qw_41 qw_570 ⟨Nat.le_of_ble_eq_true rfl, Nat.le_of_ble_eq_true rfl, Nat.le_of_ble_eq_true rfl, Nat.le_of_ble_eq_true rfl⟩ dX3_undergo_27 ?_
      refine J_put (X' := (va_up X d (va_up D i (va_up (D i) 4 (imin ((D i 4) + 2) 20))))) hC (nl_wh hd hi) (ent_wh hd hi) rfl in3 tyX3_ok nmX3 4 (by decide) rfl qw_97 rfl (by decide) (Nat.le_of_ble_eq_true rfl) (pu_whF hd hi (by decide)) dX3_undergo_30 ?_
      refine J_goto (tgt := 52) hC dX3_undergo_33 (by decide) ?_
      exact J_vret hC hr (congrArg (fun w => va_up X d (va_up D i w)) (by simp [undergo, va_up_eq, c2, c15])) rfl dX3_undergo_52
  · refine J_aload_n hC (j := 0) dX3_undergo_5 rfl rfl ?_
    refine J_iconst (v := 0) hC dX3_undergo_6 (by decide) ?_
    refine J_put (X' := (va_up X d (va_up D i (va_up (D i) 6 0)))) hC (nl_wh hd hi) (ent_wh hd hi) rfl in3 tyX3_ok nmX3 6 (by decide) rfl qw_99 rfl (by decide) (Nat.le_of_ble_eq_true rfl) (pu_whF hd hi (by decide)) dX3_undergo_7 ?_
    refine J_goto (tgt := 52) hC dX3_undergo_10 (by decide) ?_
    exact J_vret hC hr (congrArg (fun w => va_up X d (va_up D i w)) (by simp [undergo, va_up_eq, c2])) rfl dX3_undergo_52
set_option maxHeartbeats 4000000 in
set_option maxRecDepth 100000 in
theorem ct_X3_ageOneDay (l : Launch) (G : GG) (X : XX) (o : OO) (d : Nat) (hd : d < 2) (D : DD) (i : Nat) (hi : i < 24) (p0 : Int32) (p1 : Int32) : CT l yX3_ageOneDay cX3_ageOneDay 3 none 1 21 0 0 G [.ref (aX G d i), .int p0, .int p1] (va_up X d D) o none (va_up X d (va_up D i (age (D i) p0 p1))) o := by
  refine CT_of (own := RX3) (lv := [(0, .ref (aX G d i)), (1, .int p0), (2, .int p1)]) (by decide) rfl (Nat.le_of_ble_eq_true rfl) rfl ?_
  intro p e s m args below meth c hr hC
  refine J_aload_n hC (j := 0) dX3_ageOneDay_0 rfl rfl ?_
  refine J_get hC (nl_wh hd hi) (ent_wh hd hi) rfl in3 7 (by decide) rfl qw_100 rfl rF dX3_ageOneDay_1 ?_
  refine J_if_eq (tgt := 41) hC dX3_ageOneDay_4 (by decide) (fun c4 => ?_) (fun c4 => ?_)
  · refine J_aload_n hC (j := 0) dX3_ageOneDay_41 rfl rfl ?_
    refine J_aload_n hC (j := 0) dX3_ageOneDay_42 rfl rfl ?_
    refine J_get hC (nl_wh hd hi) (ent_wh hd hi) rfl in3 3 (by decide) rfl qw_96 rfl rF dX3_ageOneDay_43 ?_
    refine J_aload_n hC (j := 0) dX3_ageOneDay_46 rfl rfl ?_
    refine J_get hC (nl_wh hd hi) (ent_wh hd hi) rfl in3 6 (by decide) rfl qw_99 rfl rF dX3_ageOneDay_47 ?_
    refine J_bipush (v := 7) hC dX3_ageOneDay_50 (by decide) ?_
    refine J_icmp_lt (tgt := 61) hC dX3_ageOneDay_52 (by decide) (fun c52 => ?_) (fun c52 => ?_)
    · refine J_iload_n hC (j := 1) dX3_ageOneDay_61 rfl rfl ?_
      refine J_iadd hC dX3_ageOneDay_62 ?_
      refine J_bipush (v := 100) hC dX3_ageOneDay_63 (by decide) ?_
      refine J_min hC qw_568 qw_569 qw_41 qw_570 ⟨Nat.le_of_ble_eq_true rfl, Nat.le_of_ble_eq_true rfl, Nat.le_of_ble_eq_true rfl, Nat.le_of_ble_eq_true rfl⟩ dX3_ageOneDay_65 ?_
      refine J_put (X' := (va_up X d (va_up D i (va_up (D i) 3 (imin ((D i 3) + p0) 100))))) hC (nl_wh hd hi) (ent_wh hd hi) rfl in3 tyX3_ok nmX3 3 (by decide) rfl qw_96 rfl (by decide) (Nat.le_of_ble_eq_true rfl) (pu_whF hd hi (by decide)) dX3_ageOneDay_68 ?_
      refine J_aload_n hC (j := 0) dX3_ageOneDay_71 rfl rfl ?_
      refine J_aload_n hC (j := 0) dX3_ageOneDay_72 rfl rfl ?_
      refine J_get hC (nl_wh hd hi) (ent_wh hd hi) rfl in3 5 (by decide) rfl qw_98 rfl (rG (x := (D i 5)) (by first | rfl | simp [va_up])) dX3_ageOneDay_73 ?_
      refine J_bipush (v := 10) hC dX3_ageOneDay_76 (by decide) ?_
      refine J_iload_n hC (j := 2) dX3_ageOneDay_78 rfl rfl ?_
      refine J_isub hC dX3_ageOneDay_79 ?_
      refine J_iconst (v := 2) hC dX3_ageOneDay_80 (by decide) ?_
      refine J_idiv hC dX3_ageOneDay_81 (by decide) ?_
      refine J_isub hC dX3_ageOneDay_82 ?_
      refine J_iconst (v := 0) hC dX3_ageOneDay_83 (by decide) ?_
      refine J_max hC qw_220 qw_221 qw_41 qw_222 ⟨Nat.le_of_ble_eq_true rfl, Nat.le_of_ble_eq_true rfl, Nat.le_of_ble_eq_true rfl, Nat.le_of_ble_eq_true rfl⟩ dX3_ageOneDay_84 ?_
      refine J_put (X' := (va_up X d (va_up D i (va_up (va_up (D i) 3 (imin ((D i 3) + p0) 100)) 5 (imax ((D i 5) - ((10 - p1) / 2)) 0))))) hC (nl_wh hd hi) (ent_wh hd hi) rfl in3 tyX3_ok nmX3 5 (by decide) rfl qw_98 rfl (by decide) (Nat.le_of_ble_eq_true rfl) (pu_whW hd hi (by decide)) dX3_ageOneDay_87 ?_
      refine J_aload_n hC (j := 0) dX3_ageOneDay_90 rfl rfl ?_
      refine J_dup hC dX3_ageOneDay_91 rfl ?_
      refine J_get hC (nl_wh hd hi) (ent_wh hd hi) rfl in3 6 (by decide) rfl qw_99 rfl (rG (x := (D i 6)) (by first | rfl | simp [va_up])) dX3_ageOneDay_92 ?_
      refine J_iconst (v := 1) hC dX3_ageOneDay_95 (by decide) ?_
      refine J_iadd hC dX3_ageOneDay_96 ?_
      refine J_put (X' := (va_up X d (va_up D i (va_up (va_up (va_up (D i) 3 (imin ((D i 3) + p0) 100)) 5 (imax ((D i 5) - ((10 - p1) / 2)) 0)) 6 ((D i 6) + 1))))) hC (nl_wh hd hi) (ent_wh hd hi) rfl in3 tyX3_ok nmX3 6 (by decide) rfl qw_99 rfl (by decide) (Nat.le_of_ble_eq_true rfl) (pu_whW hd hi (by decide)) dX3_ageOneDay_97 ?_
      exact J_vret hC hr (congrArg (fun w => va_up X d (va_up D i w)) (by simp [age, age1, age2, age3, age4, va_up, c4, c52])) rfl dX3_ageOneDay_100
    · refine J_iload_n hC (j := 1) dX3_ageOneDay_55 rfl rfl ?_
      refine J_iconst (v := 2) hC dX3_ageOneDay_56 (by decide) ?_
      refine J_idiv hC dX3_ageOneDay_57 (by decide) ?_
      refine J_goto (tgt := 62) hC dX3_ageOneDay_58 (by decide) ?_
      refine J_iadd hC dX3_ageOneDay_62 ?_
      refine J_bipush (v := 100) hC dX3_ageOneDay_63 (by decide) ?_
      refine J_min hC qw_568 qw_569 qw_41 qw_570 ⟨Nat.le_of_ble_eq_true rfl, Nat.le_of_ble_eq_true rfl, Nat.le_of_ble_eq_true rfl, Nat.le_of_ble_eq_true rfl⟩ dX3_ageOneDay_65 ?_
      refine J_put (X' := (va_up X d (va_up D i (va_up (D i) 3 (imin ((D i 3) + (p0 / 2)) 100))))) hC (nl_wh hd hi) (ent_wh hd hi) rfl in3 tyX3_ok nmX3 3 (by decide) rfl qw_96 rfl (by decide) (Nat.le_of_ble_eq_true rfl) (pu_whF hd hi (by decide)) dX3_ageOneDay_68 ?_
      refine J_aload_n hC (j := 0) dX3_ageOneDay_71 rfl rfl ?_
      refine J_aload_n hC (j := 0) dX3_ageOneDay_72 rfl rfl ?_
      refine J_get hC (nl_wh hd hi) (ent_wh hd hi) rfl in3 5 (by decide) rfl qw_98 rfl (rG (x := (D i 5)) (by first | rfl | simp [va_up])) dX3_ageOneDay_73 ?_
      refine J_bipush (v := 10) hC dX3_ageOneDay_76 (by decide) ?_
      refine J_iload_n hC (j := 2) dX3_ageOneDay_78 rfl rfl ?_
      refine J_isub hC dX3_ageOneDay_79 ?_
      refine J_iconst (v := 2) hC dX3_ageOneDay_80 (by decide) ?_
      refine J_idiv hC dX3_ageOneDay_81 (by decide) ?_
      refine J_isub hC dX3_ageOneDay_82 ?_
      refine J_iconst (v := 0) hC dX3_ageOneDay_83 (by decide) ?_
      refine J_max hC qw_220 qw_221 qw_41 qw_222 ⟨Nat.le_of_ble_eq_true rfl, Nat.le_of_ble_eq_true rfl, Nat.le_of_ble_eq_true rfl, Nat.le_of_ble_eq_true rfl⟩ dX3_ageOneDay_84 ?_
      refine J_put (X' := (va_up X d (va_up D i (va_up (va_up (D i) 3 (imin ((D i 3) + (p0 / 2)) 100)) 5 (imax ((D i 5) - ((10 - p1) / 2)) 0))))) hC (nl_wh hd hi) (ent_wh hd hi) rfl in3 tyX3_ok nmX3 5 (by decide) rfl qw_98 rfl (by decide) (Nat.le_of_ble_eq_true rfl) (pu_whW hd hi (by decide)) dX3_ageOneDay_87 ?_
      refine J_aload_n hC (j := 0) dX3_ageOneDay_90 rfl rfl ?_
      refine J_dup hC dX3_ageOneDay_91 rfl ?_
      refine J_get hC (nl_wh hd hi) (ent_wh hd hi) rfl in3 6 (by decide) rfl qw_99 rfl (rG (x := (D i 6)) (by first | rfl | simp [va_up])) dX3_ageOneDay_92 ?_
      refine J_iconst (v := 1) hC dX3_ageOneDay_95 (by decide) ?_
      refine J_iadd hC dX3_ageOneDay_96 ?_
      refine J_put (X' := (va_up X d (va_up D i (va_up (va_up (va_up (D i) 3 (imin ((D i 3) + (p0 / 2)) 100)) 5 (imax ((D i 5) - ((10 - p1) / 2)) 0)) 6 ((D i 6) + 1))))) hC (nl_wh hd hi) (ent_wh hd hi) rfl in3 tyX3_ok nmX3 6 (by decide) rfl qw_99 rfl (by decide) (Nat.le_of_ble_eq_true rfl) (pu_whW hd hi (by decide)) dX3_ageOneDay_97 ?_
      exact J_vret hC hr (congrArg (fun w => va_up X d (va_up D i w)) (by simp [age, age1, age2, age3, age4, va_up, c4, c52])) rfl dX3_ageOneDay_100
  · refine J_aload_n hC (j := 0) dX3_ageOneDay_7 rfl rfl ?_
    refine J_get hC (nl_wh hd hi) (ent_wh hd hi) rfl in3 4 (by decide) rfl qw_97 rfl rF dX3_ageOneDay_8 ?_
    refine J_bipush (v := 12) hC dX3_ageOneDay_11 (by decide) ?_
    refine J_icmp_ge (tgt := 41) hC dX3_ageOneDay_13 (by decide) (fun c13 => ?_) (fun c13 => ?_)
    · refine J_aload_n hC (j := 0) dX3_ageOneDay_41 rfl rfl ?_
      refine J_aload_n hC (j := 0) dX3_ageOneDay_42 rfl rfl ?_
      refine J_get hC (nl_wh hd hi) (ent_wh hd hi) rfl in3 3 (by decide) rfl qw_96 rfl rF dX3_ageOneDay_43 ?_
      refine J_aload_n hC (j := 0) dX3_ageOneDay_46 rfl rfl ?_
      refine J_get hC (nl_wh hd hi) (ent_wh hd hi) rfl in3 6 (by decide) rfl qw_99 rfl rF dX3_ageOneDay_47 ?_
      refine J_bipush (v := 7) hC dX3_ageOneDay_50 (by decide) ?_
      refine J_icmp_lt (tgt := 61) hC dX3_ageOneDay_52 (by decide) (fun c52 => ?_) (fun c52 => ?_)
      · refine J_iload_n hC (j := 1) dX3_ageOneDay_61 rfl rfl ?_
        refine J_iadd hC dX3_ageOneDay_62 ?_
        refine J_bipush (v := 100) hC dX3_ageOneDay_63 (by decide) ?_
        refine J_min hC qw_568 qw_569 qw_41 qw_570 ⟨Nat.le_of_ble_eq_true rfl, Nat.le_of_ble_eq_true rfl, Nat.le_of_ble_eq_true rfl, Nat.le_of_ble_eq_true rfl⟩ dX3_ageOneDay_65 ?_
        refine J_put (X' := (va_up X d (va_up D i (va_up (D i) 3 (imin ((D i 3) + p0) 100))))) hC (nl_wh hd hi) (ent_wh hd hi) rfl in3 tyX3_ok nmX3 3 (by decide) rfl qw_96 rfl (by decide) (Nat.le_of_ble_eq_true rfl) (pu_whF hd hi (by decide)) dX3_ageOneDay_68 ?_
        refine J_aload_n hC (j := 0) dX3_ageOneDay_71 rfl rfl ?_
        refine J_aload_n hC (j := 0) dX3_ageOneDay_72 rfl rfl ?_
        refine J_get hC (nl_wh hd hi) (ent_wh hd hi) rfl in3 5 (by decide) rfl qw_98 rfl (rG (x := (D i 5)) (by first | rfl | simp [va_up])) dX3_ageOneDay_73 ?_
        refine J_bipush (v := 10) hC dX3_ageOneDay_76 (by decide) ?_
        refine J_iload_n hC (j := 2) dX3_ageOneDay_78 rfl rfl ?_
        refine J_isub hC dX3_ageOneDay_79 ?_
        refine J_iconst (v := 2) hC dX3_ageOneDay_80 (by decide) ?_
        refine J_idiv hC dX3_ageOneDay_81 (by decide) ?_
        refine J_isub hC dX3_ageOneDay_82 ?_
        refine J_iconst (v := 0) hC dX3_ageOneDay_83 (by decide) ?_
        refine J_max hC qw_220 qw_221 qw_41 qw_222 ⟨Nat.le_of_ble_eq_true rfl, Nat.le_of_ble_eq_true rfl, Nat.le_of_ble_eq_true rfl, Nat.le_of_ble_eq_true rfl⟩ dX3_ageOneDay_84 ?_
        refine J_put (X' := (va_up X d (va_up D i (va_up (va_up (D i) 3 (imin ((D i 3) + p0) 100)) 5 (imax ((D i 5) - ((10 - p1) / 2)) 0))))) hC (nl_wh hd hi) (ent_wh hd hi) rfl in3 tyX3_ok nmX3 5 (by decide) rfl qw_98 rfl (by decide) (Nat.le_of_ble_eq_true rfl) (pu_whW hd hi (by decide)) dX3_ageOneDay_87 ?_
        refine J_aload_n hC (j := 0) dX3_ageOneDay_90 rfl rfl ?_
        refine J_dup hC dX3_ageOneDay_91 rfl ?_
        refine J_get hC (nl_wh hd hi) (ent_wh hd hi) rfl in3 6 (by decide) rfl qw_99 rfl (rG (x := (D i 6)) (by first | rfl | simp [va_up])) dX3_ageOneDay_92 ?_
        refine J_iconst (v := 1) hC dX3_ageOneDay_95 (by decide) ?_
        refine J_iadd hC dX3_ageOneDay_96 ?_
        refine J_put (X' := (va_up X d (va_up D i (va_up (va_up (va_up (D i) 3 (imin ((D i 3) + p0) 100)) 5 (imax ((D i 5) - ((10 - p1) / 2)) 0)) 6 ((D i 6) + 1))))) hC (nl_wh hd hi) (ent_wh hd hi) rfl in3 tyX3_ok nmX3 6 (by decide) rfl qw_99 rfl (by decide) (Nat.le_of_ble_eq_true rfl) (pu_whW hd hi (by decide)) dX3_ageOneDay_97 ?_
        exact J_vret hC hr (congrArg (fun w => va_up X d (va_up D i w)) (by simp [age, age1, age2, age3, age4, va_up, c4, c13, c52])) rfl dX3_ageOneDay_100
      · refine J_iload_n hC (j := 1) dX3_ageOneDay_55 rfl rfl ?_
        refine J_iconst (v := 2) hC dX3_ageOneDay_56 (by decide) ?_
        refine J_idiv hC dX3_ageOneDay_57 (by decide) ?_
        refine J_goto (tgt := 62) hC dX3_ageOneDay_58 (by decide) ?_
        refine J_iadd hC dX3_ageOneDay_62 ?_
        refine J_bipush (v := 100) hC dX3_ageOneDay_63 (by decide) ?_
        refine J_min hC qw_568 qw_569 qw_41 qw_570 ⟨Nat.le_of_ble_eq_true rfl, Nat.le_of_ble_eq_true rfl, Nat.le_of_ble_eq_true rfl, Nat.le_of_ble_eq_true rfl⟩ dX3_ageOneDay_65 ?_
        refine J_put (X' := (va_up X d (va_up D i (va_up (D i) 3 (imin ((D i 3) + (p0 / 2)) 100))))) hC (nl_wh hd hi) (ent_wh hd hi) rfl in3 tyX3_ok nmX3 3 (by decide) rfl qw_96 rfl (by decide) (Nat.le_of_ble_eq_true rfl) (pu_whF hd hi (by decide)) dX3_ageOneDay_68 ?_
        refine J_aload_n hC (j := 0) dX3_ageOneDay_71 rfl rfl ?_
        refine J_aload_n hC (j := 0) dX3_ageOneDay_72 rfl rfl ?_
        refine J_get hC (nl_wh hd hi) (ent_wh hd hi) rfl in3 5 (by decide) rfl qw_98 rfl (rG (x := (D i 5)) (by first | rfl | simp [va_up])) dX3_ageOneDay_73 ?_
        refine J_bipush (v := 10) hC dX3_ageOneDay_76 (by decide) ?_
        refine J_iload_n hC (j := 2) dX3_ageOneDay_78 rfl rfl ?_
        refine J_isub hC dX3_ageOneDay_79 ?_
        refine J_iconst (v := 2) hC dX3_ageOneDay_80 (by decide) ?_
        refine J_idiv hC dX3_ageOneDay_81 (by decide) ?_
        refine J_isub hC dX3_ageOneDay_82 ?_
        refine J_iconst (v := 0) hC dX3_ageOneDay_83 (by decide) ?_
        refine J_max hC qw_220 qw_221 qw_41 qw_222 ⟨Nat.le_of_ble_eq_true rfl, Nat.le_of_ble_eq_true rfl, Nat.le_of_ble_eq_true rfl, Nat.le_of_ble_eq_true rfl⟩ dX3_ageOneDay_84 ?_
        refine J_put (X' := (va_up X d (va_up D i (va_up (va_up (D i) 3 (imin ((D i 3) + (p0 / 2)) 100)) 5 (imax ((D i 5) - ((10 - p1) / 2)) 0))))) hC (nl_wh hd hi) (ent_wh hd hi) rfl in3 tyX3_ok nmX3 5 (by decide) rfl qw_98 rfl (by decide) (Nat.le_of_ble_eq_true rfl) (pu_whW hd hi (by decide)) dX3_ageOneDay_87 ?_
        refine J_aload_n hC (j := 0) dX3_ageOneDay_90 rfl rfl ?_
        refine J_dup hC dX3_ageOneDay_91 rfl ?_
        refine J_get hC (nl_wh hd hi) (ent_wh hd hi) rfl in3 6 (by decide) rfl qw_99 rfl (rG (x := (D i 6)) (by first | rfl | simp [va_up])) dX3_ageOneDay_92 ?_
        refine J_iconst (v := 1) hC dX3_ageOneDay_95 (by decide) ?_
        refine J_iadd hC dX3_ageOneDay_96 ?_
        refine J_put (X' := (va_up X d (va_up D i (va_up (va_up (va_up (D i) 3 (imin ((D i 3) + (p0 / 2)) 100)) 5 (imax ((D i 5) - ((10 - p1) / 2)) 0)) 6 ((D i 6) + 1))))) hC (nl_wh hd hi) (ent_wh hd hi) rfl in3 tyX3_ok nmX3 6 (by decide) rfl qw_99 rfl (by decide) (Nat.le_of_ble_eq_true rfl) (pu_whW hd hi (by decide)) dX3_ageOneDay_97 ?_
        exact J_vret hC hr (congrArg (fun w => va_up X d (va_up D i w)) (by simp [age, age1, age2, age3, age4, va_up, c4, c13, c52])) rfl dX3_ageOneDay_100
    · refine J_aload_n hC (j := 0) dX3_ageOneDay_16 rfl rfl ?_
      refine J_aload_n hC (j := 0) dX3_ageOneDay_17 rfl rfl ?_
      refine J_get hC (nl_wh hd hi) (ent_wh hd hi) rfl in3 8 (by decide) rfl qw_103 rfl rF dX3_ageOneDay_18 ?_
      refine J_iload_n hC (j := 2) dX3_ageOneDay_21 rfl rfl ?_
      refine J_bipush (v := 6) hC dX3_ageOneDay_22 (by decide) ?_
      refine J_icmp_lt (tgt := 31) hC dX3_ageOneDay_24 (by decide) (fun c24 => ?_) (fun c24 => ?_)
      · refine J_iconst (v := 1) hC dX3_ageOneDay_31 (by decide) ?_
        refine J_iadd hC dX3_ageOneDay_32 ?_
        refine J_bipush (v := 9) hC dX3_ageOneDay_33 (by decide) ?_
        refine J_min hC qw_568 qw_569 qw_41 qw_570 ⟨Nat.le_of_ble_eq_true rfl, Nat.le_of_ble_eq_true rfl, Nat.le_of_ble_eq_true rfl, Nat.le_of_ble_eq_true rfl⟩ dX3_ageOneDay_35 ?_
        refine J_put (X' := (va_up X d (va_up D i (va_up (D i) 8 (imin ((D i 8) + 1) 9))))) hC (nl_wh hd hi) (ent_wh hd hi) rfl in3 tyX3_ok nmX3 8 (by decide) rfl qw_103 rfl (by decide) (Nat.le_of_ble_eq_true rfl) (pu_whF hd hi (by decide)) dX3_ageOneDay_38 ?_
        refine J_aload_n hC (j := 0) dX3_ageOneDay_41 rfl rfl ?_
        refine J_aload_n hC (j := 0) dX3_ageOneDay_42 rfl rfl ?_
        refine J_get hC (nl_wh hd hi) (ent_wh hd hi) rfl in3 3 (by decide) rfl qw_96 rfl (rG (x := (D i 3)) (by first | rfl | simp [va_up])) dX3_ageOneDay_43 ?_
        refine J_aload_n hC (j := 0) dX3_ageOneDay_46 rfl rfl ?_
        refine J_get hC (nl_wh hd hi) (ent_wh hd hi) rfl in3 6 (by decide) rfl qw_99 rfl (rG (x := (D i 6)) (by first | rfl | simp [va_up])) dX3_ageOneDay_47 ?_
        refine J_bipush (v := 7) hC dX3_ageOneDay_50 (by decide) ?_
        refine J_icmp_lt (tgt := 61) hC dX3_ageOneDay_52 (by decide) (fun c52 => ?_) (fun c52 => ?_)
        · refine J_iload_n hC (j := 1) dX3_ageOneDay_61 rfl rfl ?_
          refine J_iadd hC dX3_ageOneDay_62 ?_
          refine J_bipush (v := 100) hC dX3_ageOneDay_63 (by decide) ?_
          refine J_min hC qw_568 qw_569 qw_41 qw_570 ⟨Nat.le_of_ble_eq_true rfl, Nat.le_of_ble_eq_true rfl, Nat.le_of_ble_eq_true rfl, Nat.le_of_ble_eq_true rfl⟩ dX3_ageOneDay_65 ?_
          refine J_put (X' := (va_up X d (va_up D i (va_up (va_up (D i) 8 (imin ((D i 8) + 1) 9)) 3 (imin ((D i 3) + p0) 100))))) hC (nl_wh hd hi) (ent_wh hd hi) rfl in3 tyX3_ok nmX3 3 (by decide) rfl qw_96 rfl (by decide) (Nat.le_of_ble_eq_true rfl) (pu_whW hd hi (by decide)) dX3_ageOneDay_68 ?_
          refine J_aload_n hC (j := 0) dX3_ageOneDay_71 rfl rfl ?_
          refine J_aload_n hC (j := 0) dX3_ageOneDay_72 rfl rfl ?_
          refine J_get hC (nl_wh hd hi) (ent_wh hd hi) rfl in3 5 (by decide) rfl qw_98 rfl (rG (x := (D i 5)) (by first | rfl | simp [va_up])) dX3_ageOneDay_73 ?_
          refine J_bipush (v := 10) hC dX3_ageOneDay_76 (by decide) ?_
          refine J_iload_n hC (j := 2) dX3_ageOneDay_78 rfl rfl ?_
          refine J_isub hC dX3_ageOneDay_79 ?_
          refine J_iconst (v := 2) hC dX3_ageOneDay_80 (by decide) ?_
          refine J_idiv hC dX3_ageOneDay_81 (by decide) ?_
          refine J_isub hC dX3_ageOneDay_82 ?_
          refine J_iconst (v := 0) hC dX3_ageOneDay_83 (by decide) ?_
          refine J_max hC qw_220 qw_221 qw_41 qw_222 ⟨Nat.le_of_ble_eq_true rfl, Nat.le_of_ble_eq_true rfl, Nat.le_of_ble_eq_true rfl, Nat.le_of_ble_eq_true rfl⟩ dX3_ageOneDay_84 ?_
          refine J_put (X' := (va_up X d (va_up D i (va_up (va_up (va_up (D i) 8 (imin ((D i 8) + 1) 9)) 3 (imin ((D i 3) + p0) 100)) 5 (imax ((D i 5) - ((10 - p1) / 2)) 0))))) hC (nl_wh hd hi) (ent_wh hd hi) rfl in3 tyX3_ok nmX3 5 (by decide) rfl qw_98 rfl (by decide) (Nat.le_of_ble_eq_true rfl) (pu_whW hd hi (by decide)) dX3_ageOneDay_87 ?_
          refine J_aload_n hC (j := 0) dX3_ageOneDay_90 rfl rfl ?_
          refine J_dup hC dX3_ageOneDay_91 rfl ?_
          refine J_get hC (nl_wh hd hi) (ent_wh hd hi) rfl in3 6 (by decide) rfl qw_99 rfl (rG (x := (D i 6)) (by first | rfl | simp [va_up])) dX3_ageOneDay_92 ?_
          refine J_iconst (v := 1) hC dX3_ageOneDay_95 (by decide) ?_
          refine J_iadd hC dX3_ageOneDay_96 ?_
          refine J_put (X' := (va_up X d (va_up D i (va_up (va_up (va_up (va_up (D i) 8 (imin ((D i 8) + 1) 9)) 3 (imin ((D i 3) + p0) 100)) 5 (imax ((D i 5) - ((10 - p1) / 2)) 0)) 6 ((D i 6) + 1))))) hC (nl_wh hd hi) (ent_wh hd hi) rfl in3 tyX3_ok nmX3 6 (by decide) rfl qw_99 rfl (by decide) (Nat.le_of_ble_eq_true rfl) (pu_whW hd hi (by decide)) dX3_ageOneDay_97 ?_
          exact J_vret hC hr (congrArg (fun w => va_up X d (va_up D i w)) (by simp [age, age1, age2, age3, age4, va_up, c4, c13, c24, c52])) rfl dX3_ageOneDay_100
        · refine J_iload_n hC (j := 1) dX3_ageOneDay_55 rfl rfl ?_
          refine J_iconst (v := 2) hC dX3_ageOneDay_56 (by decide) ?_
          refine J_idiv hC dX3_ageOneDay_57 (by decide) ?_
          refine J_goto (tgt := 62) hC dX3_ageOneDay_58 (by decide) ?_
          refine J_iadd hC dX3_ageOneDay_62 ?_
          refine J_bipush (v := 100) hC dX3_ageOneDay_63 (by decide) ?_
          refine J_min hC qw_568 qw_569 qw_41 qw_570 ⟨Nat.le_of_ble_eq_true rfl, Nat.le_of_ble_eq_true rfl, Nat.le_of_ble_eq_true rfl, Nat.le_of_ble_eq_true rfl⟩ dX3_ageOneDay_65 ?_
          refine J_put (X' := (va_up X d (va_up D i (va_up (va_up (D i) 8 (imin ((D i 8) + 1) 9)) 3 (imin ((D i 3) + (p0 / 2)) 100))))) hC (nl_wh hd hi) (ent_wh hd hi) rfl in3 tyX3_ok nmX3 3 (by decide) rfl qw_96 rfl (by decide) (Nat.le_of_ble_eq_true rfl) (pu_whW hd hi (by decide)) dX3_ageOneDay_68 ?_
          refine J_aload_n hC (j := 0) dX3_ageOneDay_71 rfl rfl ?_
          refine J_aload_n hC (j := 0) dX3_ageOneDay_72 rfl rfl ?_
          refine J_get hC (nl_wh hd hi) (ent_wh hd hi) rfl in3 5 (by decide) rfl qw_98 rfl (rG (x := (D i 5)) (by first | rfl | simp [va_up])) dX3_ageOneDay_73 ?_
          refine J_bipush (v := 10) hC dX3_ageOneDay_76 (by decide) ?_
          refine J_iload_n hC (j := 2) dX3_ageOneDay_78 rfl rfl ?_
          refine J_isub hC dX3_ageOneDay_79 ?_
          refine J_iconst (v := 2) hC dX3_ageOneDay_80 (by decide) ?_
          refine J_idiv hC dX3_ageOneDay_81 (by decide) ?_
          refine J_isub hC dX3_ageOneDay_82 ?_
          refine J_iconst (v := 0) hC dX3_ageOneDay_83 (by decide) ?_
          refine J_max hC qw_220 qw_221 qw_41 qw_222 ⟨Nat.le_of_ble_eq_true rfl, Nat.le_of_ble_eq_true rfl, Nat.le_of_ble_eq_true rfl, Nat.le_of_ble_eq_true rfl⟩ dX3_ageOneDay_84 ?_
          refine J_put (X' := (va_up X d (va_up D i (va_up (va_up (va_up (D i) 8 (imin ((D i 8) + 1) 9)) 3 (imin ((D i 3) + (p0 / 2)) 100)) 5 (imax ((D i 5) - ((10 - p1) / 2)) 0))))) hC (nl_wh hd hi) (ent_wh hd hi) rfl in3 tyX3_ok nmX3 5 (by decide) rfl qw_98 rfl (by decide) (Nat.le_of_ble_eq_true rfl) (pu_whW hd hi (by decide)) dX3_ageOneDay_87 ?_
          refine J_aload_n hC (j := 0) dX3_ageOneDay_90 rfl rfl ?_
          refine J_dup hC dX3_ageOneDay_91 rfl ?_
          refine J_get hC (nl_wh hd hi) (ent_wh hd hi) rfl in3 6 (by decide) rfl qw_99 rfl (rG (x := (D i 6)) (by first | rfl | simp [va_up])) dX3_ageOneDay_92 ?_
          refine J_iconst (v := 1) hC dX3_ageOneDay_95 (by decide) ?_
          refine J_iadd hC dX3_ageOneDay_96 ?_
          refine J_put (X' := (va_up X d (va_up D i (va_up (va_up (va_up (va_up (D i) 8 (imin ((D i 8) + 1) 9)) 3 (imin ((D i 3) + (p0 / 2)) 100)) 5 (imax ((D i 5) - ((10 - p1) / 2)) 0)) 6 ((D i 6) + 1))))) hC (nl_wh hd hi) (ent_wh hd hi) rfl in3 tyX3_ok nmX3 6 (by decide) rfl qw_99 rfl (by decide) (Nat.le_of_ble_eq_true rfl) (pu_whW hd hi (by decide)) dX3_ageOneDay_97 ?_
          exact J_vret hC hr (congrArg (fun w => va_up X d (va_up D i w)) (by simp [age, age1, age2, age3, age4, va_up, c4, c13, c24, c52])) rfl dX3_ageOneDay_100
      · refine J_iconst (v := 2) hC dX3_ageOneDay_27 (by decide) ?_
        refine J_goto (tgt := 32) hC dX3_ageOneDay_28 (by decide) ?_
        refine J_iadd hC dX3_ageOneDay_32 ?_
        refine J_bipush (v := 9) hC dX3_ageOneDay_33 (by decide) ?_
        refine J_min hC qw_568 qw_569 qw_41 qw_570 ⟨Nat.le_of_ble_eq_true rfl, Nat.le_of_ble_eq_true rfl, Nat.le_of_ble_eq_true rfl, Nat.le_of_ble_eq_true rfl⟩ dX3_ageOneDay_35 ?_
        refine J_put (X' := (va_up X d (va_up D i (va_up (D i) 8 (imin ((D i 8) + 2) 9))))) hC (nl_wh hd hi) (ent_wh hd hi) rfl in3 tyX3_ok nmX3 8 (by decide) rfl qw_103 rfl (by decide) (Nat.le_of_ble_eq_true rfl) (pu_whF hd hi (by decide)) dX3_ageOneDay_38 ?_
        refine J_aload_n hC (j := 0) dX3_ageOneDay_41 rfl rfl ?_
        refine J_aload_n hC (j := 0) dX3_ageOneDay_42 rfl rfl ?_
        refine J_get hC (nl_wh hd hi) (ent_wh hd hi) rfl in3 3 (by decide) rfl qw_96 rfl (rG (x := (D i 3)) (by first | rfl | simp [va_up])) dX3_ageOneDay_43 ?_
        refine J_aload_n hC (j := 0) dX3_ageOneDay_46 rfl rfl ?_
        refine J_get hC (nl_wh hd hi) (ent_wh hd hi) rfl in3 6 (by decide) rfl qw_99 rfl (rG (x := (D i 6)) (by first | rfl | simp [va_up])) dX3_ageOneDay_47 ?_
        refine J_bipush (v := 7) hC dX3_ageOneDay_50 (by decide) ?_
        refine J_icmp_lt (tgt := 61) hC dX3_ageOneDay_52 (by decide) (fun c52 => ?_) (fun c52 => ?_)
        · refine J_iload_n hC (j := 1) dX3_ageOneDay_61 rfl rfl ?_
          refine J_iadd hC dX3_ageOneDay_62 ?_
          refine J_bipush (v := 100) hC dX3_ageOneDay_63 (by decide) ?_
          refine J_min hC qw_568 qw_569 qw_41 qw_570 ⟨Nat.le_of_ble_eq_true rfl, Nat.le_of_ble_eq_true rfl, Nat.le_of_ble_eq_true rfl, Nat.le_of_ble_eq_true rfl⟩ dX3_ageOneDay_65 ?_
          refine J_put (X' := (va_up X d (va_up D i (va_up (va_up (D i) 8 (imin ((D i 8) + 2) 9)) 3 (imin ((D i 3) + p0) 100))))) hC (nl_wh hd hi) (ent_wh hd hi) rfl in3 tyX3_ok nmX3 3 (by decide) rfl qw_96 rfl (by decide) (Nat.le_of_ble_eq_true rfl) (pu_whW hd hi (by decide)) dX3_ageOneDay_68 ?_
          refine J_aload_n hC (j := 0) dX3_ageOneDay_71 rfl rfl ?_
          refine J_aload_n hC (j := 0) dX3_ageOneDay_72 rfl rfl ?_
          refine J_get hC (nl_wh hd hi) (ent_wh hd hi) rfl in3 5 (by decide) rfl qw_98 rfl (rG (x := (D i 5)) (by first | rfl | simp [va_up])) dX3_ageOneDay_73 ?_
          refine J_bipush (v := 10) hC dX3_ageOneDay_76 (by decide) ?_
          refine J_iload_n hC (j := 2) dX3_ageOneDay_78 rfl rfl ?_
          refine J_isub hC dX3_ageOneDay_79 ?_
          refine J_iconst (v := 2) hC dX3_ageOneDay_80 (by decide) ?_
          refine J_idiv hC dX3_ageOneDay_81 (by decide) ?_
          refine J_isub hC dX3_ageOneDay_82 ?_
          refine J_iconst (v := 0) hC dX3_ageOneDay_83 (by decide) ?_
          refine J_max hC qw_220 qw_221 qw_41 qw_222 ⟨Nat.le_of_ble_eq_true rfl, Nat.le_of_ble_eq_true rfl, Nat.le_of_ble_eq_true rfl, Nat.le_of_ble_eq_true rfl⟩ dX3_ageOneDay_84 ?_
          refine J_put (X' := (va_up X d (va_up D i (va_up (va_up (va_up (D i) 8 (imin ((D i 8) + 2) 9)) 3 (imin ((D i 3) + p0) 100)) 5 (imax ((D i 5) - ((10 - p1) / 2)) 0))))) hC (nl_wh hd hi) (ent_wh hd hi) rfl in3 tyX3_ok nmX3 5 (by decide) rfl qw_98 rfl (by decide) (Nat.le_of_ble_eq_true rfl) (pu_whW hd hi (by decide)) dX3_ageOneDay_87 ?_
          refine J_aload_n hC (j := 0) dX3_ageOneDay_90 rfl rfl ?_
          refine J_dup hC dX3_ageOneDay_91 rfl ?_
          refine J_get hC (nl_wh hd hi) (ent_wh hd hi) rfl in3 6 (by decide) rfl qw_99 rfl (rG (x := (D i 6)) (by first | rfl | simp [va_up])) dX3_ageOneDay_92 ?_
          refine J_iconst (v := 1) hC dX3_ageOneDay_95 (by decide) ?_
          refine J_iadd hC dX3_ageOneDay_96 ?_
          refine J_put (X' := (va_up X d (va_up D i (va_up (va_up (va_up (va_up (D i) 8 (imin ((D i 8) + 2) 9)) 3 (imin ((D i 3) + p0) 100)) 5 (imax ((D i 5) - ((10 - p1) / 2)) 0)) 6 ((D i 6) + 1))))) hC (nl_wh hd hi) (ent_wh hd hi) rfl in3 tyX3_ok nmX3 6 (by decide) rfl qw_99 rfl (by decide) (Nat.le_of_ble_eq_true rfl) (pu_whW hd hi (by decide)) dX3_ageOneDay_97 ?_
          exact J_vret hC hr (congrArg (fun w => va_up X d (va_up D i w)) (by simp [age, age1, age2, age3, age4, va_up, c4, c13, c24, c52])) rfl dX3_ageOneDay_100
        · refine J_iload_n hC (j := 1) dX3_ageOneDay_55 rfl rfl ?_
          refine J_iconst (v := 2) hC dX3_ageOneDay_56 (by decide) ?_
          refine J_idiv hC dX3_ageOneDay_57 (by decide) ?_
          refine J_goto (tgt := 62) hC dX3_ageOneDay_58 (by decide) ?_
          refine J_iadd hC dX3_ageOneDay_62 ?_
          refine J_bipush (v := 100) hC dX3_ageOneDay_63 (by decide) ?_
          refine J_min hC qw_568 qw_569 qw_41 qw_570 ⟨Nat.le_of_ble_eq_true rfl, Nat.le_of_ble_eq_true rfl, Nat.le_of_ble_eq_true rfl, Nat.le_of_ble_eq_true rfl⟩ dX3_ageOneDay_65 ?_
          refine J_put (X' := (va_up X d (va_up D i (va_up (va_up (D i) 8 (imin ((D i 8) + 2) 9)) 3 (imin ((D i 3) + (p0 / 2)) 100))))) hC (nl_wh hd hi) (ent_wh hd hi) rfl in3 tyX3_ok nmX3 3 (by decide) rfl qw_96 rfl (by decide) (Nat.le_of_ble_eq_true rfl) (pu_whW hd hi (by decide)) dX3_ageOneDay_68 ?_
          refine J_aload_n hC (j := 0) dX3_ageOneDay_71 rfl rfl ?_
          refine J_aload_n hC (j := 0) dX3_ageOneDay_72 rfl rfl ?_
          refine J_get hC (nl_wh hd hi) (ent_wh hd hi) rfl in3 5 (by decide) rfl qw_98 rfl (rG (x := (D i 5)) (by first | rfl | simp [va_up])) dX3_ageOneDay_73 ?_
          refine J_bipush (v := 10) hC dX3_ageOneDay_76 (by decide) ?_
          refine J_iload_n hC (j := 2) dX3_ageOneDay_78 rfl rfl ?_
          refine J_isub hC dX3_ageOneDay_79 ?_
          refine J_iconst (v := 2) hC dX3_ageOneDay_80 (by decide) ?_
          refine J_idiv hC dX3_ageOneDay_81 (by decide) ?_
          refine J_isub hC dX3_ageOneDay_82 ?_
          refine J_iconst (v := 0) hC dX3_ageOneDay_83 (by decide) ?_
          refine J_max hC qw_220 qw_221 qw_41 qw_222 ⟨Nat.le_of_ble_eq_true rfl, Nat.le_of_ble_eq_true rfl, Nat.le_of_ble_eq_true rfl, Nat.le_of_ble_eq_true rfl⟩ dX3_ageOneDay_84 ?_
          refine J_put (X' := (va_up X d (va_up D i (va_up (va_up (va_up (D i) 8 (imin ((D i 8) + 2) 9)) 3 (imin ((D i 3) + (p0 / 2)) 100)) 5 (imax ((D i 5) - ((10 - p1) / 2)) 0))))) hC (nl_wh hd hi) (ent_wh hd hi) rfl in3 tyX3_ok nmX3 5 (by decide) rfl qw_98 rfl (by decide) (Nat.le_of_ble_eq_true rfl) (pu_whW hd hi (by decide)) dX3_ageOneDay_87 ?_
          refine J_aload_n hC (j := 0) dX3_ageOneDay_90 rfl rfl ?_
          refine J_dup hC dX3_ageOneDay_91 rfl ?_
          refine J_get hC (nl_wh hd hi) (ent_wh hd hi) rfl in3 6 (by decide) rfl qw_99 rfl (rG (x := (D i 6)) (by first | rfl | simp [va_up])) dX3_ageOneDay_92 ?_
          refine J_iconst (v := 1) hC dX3_ageOneDay_95 (by decide) ?_
          refine J_iadd hC dX3_ageOneDay_96 ?_
          refine J_put (X' := (va_up X d (va_up D i (va_up (va_up (va_up (va_up (D i) 8 (imin ((D i 8) + 2) 9)) 3 (imin ((D i 3) + (p0 / 2)) 100)) 5 (imax ((D i 5) - ((10 - p1) / 2)) 0)) 6 ((D i 6) + 1))))) hC (nl_wh hd hi) (ent_wh hd hi) rfl in3 tyX3_ok nmX3 6 (by decide) rfl qw_99 rfl (by decide) (Nat.le_of_ble_eq_true rfl) (pu_whW hd hi (by decide)) dX3_ageOneDay_97 ?_
          exact J_vret hC hr (congrArg (fun w => va_up X d (va_up D i w)) (by simp [age, age1, age2, age3, age4, va_up, c4, c13, c24, c52])) rfl dX3_ageOneDay_100
set_option maxHeartbeats 4000000 in
set_option maxRecDepth 100000 in
theorem ct_X3_isSpoiled (l : Launch) (G : GG) (X : XX) (o : OO) (d : Nat) (hd : d < 2) (D : DD) (i : Nat) (hi : i < 24) : CT l yX3_isSpoiled cX3_isSpoiled 1 (some .boolean) 0 0 0 0 G [.ref (aX G d i)] (va_up X d D) o (some (.int (bI (spoiled (D i) = true)))) (va_up X d D) o := by
  refine CT_of (own := RX3) (lv := [(0, .ref (aX G d i))]) (by decide) rfl (Nat.le_of_ble_eq_true rfl) rfl ?_
  intro p e s m args below meth c hr hC
  refine J_aload_n hC (j := 0) dX3_isSpoiled_0 rfl rfl ?_
  refine J_get hC (nl_wh hd hi) (ent_wh hd hi) rfl in3 7 (by decide) rfl qw_100 rfl rF dX3_isSpoiled_1 ?_
  refine J_iconst (v := 3) hC dX3_isSpoiled_4 (by decide) ?_
  refine J_icmp_ne (tgt := 17) hC dX3_isSpoiled_5 (by decide) (fun c5 => ?_) (fun c5 => ?_)
  · refine J_aload_n hC (j := 0) dX3_isSpoiled_17 rfl rfl ?_
    refine J_get hC (nl_wh hd hi) (ent_wh hd hi) rfl in3 5 (by decide) rfl qw_98 rfl rF dX3_isSpoiled_18 ?_
    refine J_if_ne (tgt := 28) hC dX3_isSpoiled_21 (by decide) (fun c21 => ?_) (fun c21 => ?_)
    · refine J_iconst (v := 0) hC dX3_isSpoiled_28 (by decide) ?_
      exact J_zret hC hr (by decide) (by simp [spoiled, c5, c21]) rfl rfl dX3_isSpoiled_29
    · refine J_iconst (v := 1) hC dX3_isSpoiled_24 (by decide) ?_
      refine J_goto (tgt := 29) hC dX3_isSpoiled_25 (by decide) ?_
      exact J_zret hC hr (by decide) (by simp [spoiled, c5, c21]) rfl rfl dX3_isSpoiled_29
  · refine J_aload_n hC (j := 0) dX3_isSpoiled_8 rfl rfl ?_
    refine J_get hC (nl_wh hd hi) (ent_wh hd hi) rfl in3 8 (by decide) rfl qw_103 rfl rF dX3_isSpoiled_9 ?_
    refine J_bipush (v := 9) hC dX3_isSpoiled_12 (by decide) ?_
    refine J_icmp_eq (tgt := 24) hC dX3_isSpoiled_14 (by decide) (fun c14 => ?_) (fun c14 => ?_)
    · refine J_iconst (v := 1) hC dX3_isSpoiled_24 (by decide) ?_
      refine J_goto (tgt := 29) hC dX3_isSpoiled_25 (by decide) ?_
      exact J_zret hC hr (by decide) (by simp [spoiled, c5, c14]) rfl rfl dX3_isSpoiled_29
    · refine J_aload_n hC (j := 0) dX3_isSpoiled_17 rfl rfl ?_
      refine J_get hC (nl_wh hd hi) (ent_wh hd hi) rfl in3 5 (by decide) rfl qw_98 rfl rF dX3_isSpoiled_18 ?_
      refine J_if_ne (tgt := 28) hC dX3_isSpoiled_21 (by decide) (fun c21 => ?_) (fun c21 => ?_)
      · refine J_iconst (v := 0) hC dX3_isSpoiled_28 (by decide) ?_
        exact J_zret hC hr (by decide) (by simp [spoiled, c5, c14, c21]) rfl rfl dX3_isSpoiled_29
      · refine J_iconst (v := 1) hC dX3_isSpoiled_24 (by decide) ?_
        refine J_goto (tgt := 29) hC dX3_isSpoiled_25 (by decide) ?_
        exact J_zret hC hr (by decide) (by simp [spoiled, c5, c14, c21]) rfl rfl dX3_isSpoiled_29
set_option maxHeartbeats 4000000 in
set_option maxRecDepth 100000 in
theorem ct_X3_fact (l : Launch) (G : GG) (X : XX) (o : OO) (d : Nat) (hd : d < 2) (D : DD) (i : Nat) (hi : i < 24) (p0 : Int32) : CT l yX3_fact cX3_fact 2 (some .int) 2 42 0 0 G [.ref (aX G d i), .int p0] (va_up X d D) o (some (.int (wFact (D i) p0))) (va_up X d D) o := by
  refine CT_of (own := RX3) (lv := [(0, .ref (aX G d i)), (1, .int p0)]) (by decide) rfl (Nat.le_of_ble_eq_true rfl) rfl ?_
  intro p e s m args below meth c hr hC
  refine J_iload_n hC (j := 1) dX3_fact_0 rfl rfl ?_
  by_cases c1_0 : p0 = 0
  · refine J_tableIn (off := 55) (tgt := 56) hC dX3_fact_1 (by rw [c1_0]; decide) (by rw [c1_0]; decide) (by rw [c1_0]; decide) (by decide) ?_
    refine J_aload_n hC (j := 0) dX3_fact_56 rfl rfl ?_
    refine J_get hC (nl_wh hd hi) (ent_wh hd hi) rfl in3 0 (by decide) rfl qw_88 rfl rF dX3_fact_57 ?_
    exact J_iret hC hr (by simp [wFact, c1_0]) rfl rfl dX3_fact_60
  by_cases c1_1 : p0 = 1
  · refine J_tableIn (off := 60) (tgt := 61) hC dX3_fact_1 (by rw [c1_1]; decide) (by rw [c1_1]; decide) (by rw [c1_1]; decide) (by decide) ?_
    refine J_aload_n hC (j := 0) dX3_fact_61 rfl rfl ?_
    refine J_get hC (nl_wh hd hi) (ent_wh hd hi) rfl in3 1 (by decide) rfl qw_90 rfl rF dX3_fact_62 ?_
    exact J_iret hC hr (by simp [wFact, c1_0, c1_1]) rfl rfl dX3_fact_65
  by_cases c1_2 : p0 = 2
  · refine J_tableIn (off := 65) (tgt := 66) hC dX3_fact_1 (by rw [c1_2]; decide) (by rw [c1_2]; decide) (by rw [c1_2]; decide) (by decide) ?_
    refine J_aload_n hC (j := 0) dX3_fact_66 rfl rfl ?_
    refine J_get hC (nl_wh hd hi) (ent_wh hd hi) rfl in3 2 (by decide) rfl qw_93 rfl rF dX3_fact_67 ?_
    exact J_iret hC hr (by simp [wFact, c1_0, c1_1, c1_2]) rfl rfl dX3_fact_70
  by_cases c1_3 : p0 = 3
  · refine J_tableIn (off := 70) (tgt := 71) hC dX3_fact_1 (by rw [c1_3]; decide) (by rw [c1_3]; decide) (by rw [c1_3]; decide) (by decide) ?_
    refine J_aload_n hC (j := 0) dX3_fact_71 rfl rfl ?_
    refine J_get hC (nl_wh hd hi) (ent_wh hd hi) rfl in3 3 (by decide) rfl qw_96 rfl rF dX3_fact_72 ?_
    exact J_iret hC hr (by simp [wFact, c1_0, c1_1, c1_2, c1_3]) rfl rfl dX3_fact_75
  by_cases c1_4 : p0 = 4
  · refine J_tableIn (off := 75) (tgt := 76) hC dX3_fact_1 (by rw [c1_4]; decide) (by rw [c1_4]; decide) (by rw [c1_4]; decide) (by decide) ?_
    refine J_aload_n hC (j := 0) dX3_fact_76 rfl rfl ?_
    refine J_get hC (nl_wh hd hi) (ent_wh hd hi) rfl in3 4 (by decide) rfl qw_97 rfl rF dX3_fact_77 ?_
    exact J_iret hC hr (by simp [wFact, c1_0, c1_1, c1_2, c1_3, c1_4]) rfl rfl dX3_fact_80
  by_cases c1_5 : p0 = 5
  · refine J_tableIn (off := 80) (tgt := 81) hC dX3_fact_1 (by rw [c1_5]; decide) (by rw [c1_5]; decide) (by rw [c1_5]; decide) (by decide) ?_
    refine J_aload_n hC (j := 0) dX3_fact_81 rfl rfl ?_
    refine J_get hC (nl_wh hd hi) (ent_wh hd hi) rfl in3 5 (by decide) rfl qw_98 rfl rF dX3_fact_82 ?_
    exact J_iret hC hr (by simp [wFact, c1_0, c1_1, c1_2, c1_3, c1_4, c1_5]) rfl rfl dX3_fact_85
  by_cases c1_6 : p0 = 6
  · refine J_tableIn (off := 85) (tgt := 86) hC dX3_fact_1 (by rw [c1_6]; decide) (by rw [c1_6]; decide) (by rw [c1_6]; decide) (by decide) ?_
    refine J_aload_n hC (j := 0) dX3_fact_86 rfl rfl ?_
    refine J_get hC (nl_wh hd hi) (ent_wh hd hi) rfl in3 6 (by decide) rfl qw_99 rfl rF dX3_fact_87 ?_
    exact J_iret hC hr (by simp [wFact, c1_0, c1_1, c1_2, c1_3, c1_4, c1_5, c1_6]) rfl rfl dX3_fact_90
  by_cases c1_7 : p0 = 7
  · refine J_tableIn (off := 90) (tgt := 91) hC dX3_fact_1 (by rw [c1_7]; decide) (by rw [c1_7]; decide) (by rw [c1_7]; decide) (by decide) ?_
    refine J_aload_n hC (j := 0) dX3_fact_91 rfl rfl ?_
    refine J_get hC (nl_wh hd hi) (ent_wh hd hi) rfl in3 7 (by decide) rfl qw_100 rfl rF dX3_fact_92 ?_
    exact J_iret hC hr (by simp [wFact, c1_0, c1_1, c1_2, c1_3, c1_4, c1_5, c1_6, c1_7]) rfl rfl dX3_fact_95
  by_cases c1_8 : p0 = 8
  · refine J_tableIn (off := 95) (tgt := 96) hC dX3_fact_1 (by rw [c1_8]; decide) (by rw [c1_8]; decide) (by rw [c1_8]; decide) (by decide) ?_
    refine J_aload_n hC (j := 0) dX3_fact_96 rfl rfl ?_
    refine J_get hC (nl_wh hd hi) (ent_wh hd hi) rfl in3 8 (by decide) rfl qw_103 rfl rF dX3_fact_97 ?_
    exact J_iret hC hr (by simp [wFact, c1_0, c1_1, c1_2, c1_3, c1_4, c1_5, c1_6, c1_7, c1_8]) rfl rfl dX3_fact_100
  by_cases c1_9 : p0 = 9
  · refine J_tableIn (off := 100) (tgt := 101) hC dX3_fact_1 (by rw [c1_9]; decide) (by rw [c1_9]; decide) (by rw [c1_9]; decide) (by decide) ?_
    refine J_aload_n hC (j := 0) dX3_fact_101 rfl rfl ?_
    refine J_get hC (nl_wh hd hi) (ent_wh hd hi) rfl in3 9 (by decide) rfl qw_105 rfl rF dX3_fact_102 ?_
    exact J_iret hC hr (by simp [wFact, c1_0, c1_1, c1_2, c1_3, c1_4, c1_5, c1_6, c1_7, c1_8, c1_9]) rfl rfl dX3_fact_105
  refine J_tableOut (tgt := 106) hC dX3_fact_1 (sw10 c1_0 c1_1 c1_2 c1_3 c1_4 c1_5 c1_6 c1_7 c1_8 c1_9) (by decide) ?_
  refine J_aload_n hC (j := 0) dX3_fact_106 rfl rfl ?_
  refine J_callV hC (ct_X3_worth l G X o d hd D i hi) mw_X3_worth qw_262 (nl_wh hd hi) (ent_wh hd hi) rfl rfl rfl (Nat.le_of_ble_eq_true rfl) ⟨Nat.le_of_ble_eq_true rfl, Nat.le_of_ble_eq_true rfl⟩ ⟨Nat.le_of_ble_eq_true rfl, Nat.le_of_ble_eq_true rfl⟩ dX3_fact_107 ?_
  exact J_iret hC hr (by simp [wFact, c1_0, c1_1, c1_2, c1_3, c1_4, c1_5, c1_6, c1_7, c1_8, c1_9]) rfl rfl dX3_fact_110
