set_option maxHeartbeats 4000000 in
set_option maxRecDepth 100000 in
theorem ct_X6_advise (l : Launch) (G : GG) (D E g S A : DD) (o : OO) (p0 : Int32) (p1 : Int32) (hg : GG2 (setT g 0)) (hS : SI S) (b : Nat) (hy : DY S b) (hb : b + 200 < 2147483648) : CT l yX6_advise cX6_advise 7 (some .int) 5 117 0 0 G [.ref (aX G 2 0), .int p0, .int p1] (mk5 D E g S A) o (some (.int (vAdvM (setT g 0) S A p0 p1))) (mk5 D E (mAdv (setT g 0) p0 p1) S (aAdv (setT g 0) S A p0 p1)) o := by
  refine CT_of (own := RX6) (lv := [(0, .ref (aX G 2 0)), (1, .int p0), (2, .int p1)]) (by decide) rfl (Nat.le_of_ble_eq_true rfl) rfl ?_
  intro p e s m args below meth c hr hC
  have h4c := g2c hg
  refine J_aload_n hC (j := 0) dX6_advise_0 rfl rfl ?_
  refine J_iconst (v := 0) hC dX6_advise_1 (by decide) ?_
  refine J_X (X' := (va_up (mk5 D E g S A) 2 g)) m5u2.symm ?_
  refine J_put (X' := (va_up (mk5 D E g S A) 2 (va_up g 0 (va_up (g 0) 0 0)))) hC nl_m0 ent_m0 rfl in6 tyX6_ok nmX6 0 (by decide) rfl qw_730 rfl (by decide) (Nat.le_of_ble_eq_true rfl) (pu_m0F  (by decide)) dX6_advise_2 ?_
  refine J_X (X' := (mk5 D E (va_up g 0 (va_up (g 0) 0 0)) S A)) m5u2 ?_
  refine J_X (X' := (mk5 D E (setT g 0) S A)) rfl ?_
  refine J_aload_n hC (j := 0) dX6_advise_5 rfl rfl ?_
  refine J_iload_n hC (j := 1) dX6_advise_6 rfl rfl ?_
  refine J_callV hC (ct_X6_isWheel l G D E (setT g 0) S A o p0) mw_X6_isWheel qw_815 nl_m0 ent_m0 rfl rfl rfl (Nat.le_of_ble_eq_true rfl) ⟨Nat.le_of_ble_eq_true rfl, Nat.le_of_ble_eq_true rfl⟩ ⟨Nat.le_of_ble_eq_true rfl, Nat.le_of_ble_eq_true rfl⟩ dX6_advise_7 ?_
  by_cases h7 : wI (setT g 0) p0 = true
  · refine J_tv (congrArg Value.int (bI_pos h7)) ?_
    refine J_if_ne (tgt := 19) hC dX6_advise_10 (by decide) (fun _ => ?_) (fun h => absurd h (by decide))
    refine J_iload_n hC (j := 2) dX6_advise_19 rfl rfl ?_
    refine J_iconst (v := 1) hC dX6_advise_20 (by decide) ?_
    refine J_bipush (v := 40) hC dX6_advise_21 (by decide) ?_
    refine J_callS hC (ct_X6_isIn l G (mk5 D E (setT g 0) S A) o p1 1 40) ms_X6_isIn qw_785 rfl rfl (Nat.le_of_ble_eq_true rfl) ⟨Nat.le_of_ble_eq_true rfl, Nat.le_of_ble_eq_true rfl⟩ ⟨Nat.le_of_ble_eq_true rfl, Nat.le_of_ble_eq_true rfl⟩ dX6_advise_23 ?_
    by_cases h23 : wthn p1 1 40 = true
    · refine J_tv (congrArg Value.int (bI_pos h23)) ?_
      refine J_if_ne (tgt := 35) hC dX6_advise_26 (by decide) (fun _ => ?_) (fun h => absurd h (by decide))
      refine J_aload_n hC (j := 0) dX6_advise_35 rfl rfl ?_
      refine J_get (v' := .ref (aX G 3 0)) hC nl_m0 ent_m0 rfl in6 10 (by decide) rfl qw_747 rfl rfl dX6_advise_36 ?_
      refine J_getN (v' := .ref (aX G 3 2)) hC (nl_s0 (Or.inl rfl)) (ent_s0 (Or.inl rfl)) rfl in5 2 (by decide) rfl nqw_676 rfl rfl dX6_advise_39 ?_
      refine J_iload_n hC (j := 1) dX6_advise_42 rfl rfl ?_
      refine J_iald (x := (S 2 (ix p0))) hC (nl_si2 (Or.inl rfl)) (ent_si2 (Or.inl rfl)) (wI_in hg h7) (iv (r5 (x := (S 2 (ix p0))) rfl)) dX6_advise_43 ?_
      refine J_if_eq (tgt := 49) hC dX6_advise_44 (by decide) (fun c44 => ?_) (fun c44 => ?_)
      · refine J_iconst (v := (-1)) hC dX6_advise_49 (by decide) ?_
        refine J_istore_n (lv' := [(3, .int (-1)), (0, .ref (aX G 2 0)), (1, .int p0), (2, .int p1)]) hC dX6_advise_50 rfl (by decide) rfl ?_
        refine J_iconst (v := (-1)) hC dX6_advise_51 (by decide) ?_
        refine J_istore (lv' := [(4, .int (-1)), (3, .int (-1)), (0, .ref (aX G 2 0)), (1, .int p0), (2, .int p1)]) hC dX6_advise_52 (by decide) rfl ?_
        refine J_iconst (v := 0) hC dX6_advise_54 (by decide) ?_
        refine J_istore (lv' := [(5, .int 0), (4, .int (-1)), (3, .int (-1)), (0, .ref (aX G 2 0)), (1, .int p0), (2, .int p1)]) hC dX6_advise_55 (by decide) rfl ?_
        have L57 : ∀ n i : Nat, i + n = (ix ((setT g 0) 0 1)) → Jd p l e ({ frames := 5, cells := 0, slots := 0, locals := 117 }) s m args below meth c (MQ below (CQ G (some (.int (vAdvM (setT g 0) S A p0 p1))) (mk5 D E (mAdv (setT g 0) p0 p1) S (aAdv (setT g 0) S A p0 p1)) o) args s 0 0 (gB G)) G 7 0 0 (mk5 D E (setT g 0) S (adL (setT g 0) S A p0 p1 i).1) o 57 [(0, .ref (aX G 2 0)), (1, .int p0), (2, .int p1), (3, .int (adL (setT g 0) S A p0 p1 i).2.2), (4, .int (adL (setT g 0) S A p0 p1 i).2.1), (5, .int (nI i))] [] := by
          intro n
          induction n with
          | zero =>
            intro i hn 
            have hz : i = (ix ((setT g 0) 0 1)) := by omega
            subst hz
            refine J_iload hC (j := 5) dX6_advise_57 rfl ?_
            refine J_aload_n hC (j := 0) dX6_advise_59 rfl rfl ?_
            refine J_get hC nl_m0 ent_m0 rfl in6 1 (by decide) rfl qw_731 rfl (r5 (x := ((setT g 0) 0 1)) rfl) dX6_advise_60 ?_
            refine J_icmp_ge (tgt := 217) hC dX6_advise_63 (by decide) (fun c63 => ?_) (fun c63 => absurd c63 (not_not_intro (le_ix ((setT g 0) 0 1))))
            refine J_iload_n hC (j := 3) dX6_advise_217 rfl rfl ?_
            exact J_iret hC hr (by first | (simp [vAdvM, mAdv, aAdv, h7, h23, c44, mk5_2]; done) | rfl) (by first | (simp [vAdvM, mAdv, aAdv, h7, h23, c44, mk5_2]; done) | rfl) rfl dX6_advise_218
          | succ n ih =>
            intro i hn 
            refine J_iload hC (j := 5) dX6_advise_57 rfl ?_
            refine J_aload_n hC (j := 0) dX6_advise_59 rfl rfl ?_
            refine J_get hC nl_m0 ent_m0 rfl in6 1 (by decide) rfl qw_731 rfl (r5 (x := ((setT g 0) 0 1)) rfl) dX6_advise_60 ?_
            refine J_icmp_ge (tgt := 217) hC dX6_advise_63 (by decide) (fun c63 => absurd c63 (nle_ix (by omega))) (fun c63 => ?_)
            refine J_aload_n hC (j := 0) dX6_advise_66 rfl rfl ?_
            refine J_get (v' := .ref (aX G 4 0)) hC nl_m0 ent_m0 rfl in6 11 (by decide) rfl qw_748 rfl rfl dX6_advise_67 ?_
            refine J_aload_n hC (j := 0) dX6_advise_70 rfl rfl ?_
            refine J_get (v' := .ref (aX G 3 0)) hC nl_m0 ent_m0 rfl in6 10 (by decide) rfl qw_747 rfl rfl dX6_advise_71 ?_
            refine J_callVv hC (ct_rw (X4 := (mk5 D E (setT g 0) S (becomeS (adL (setT g 0) S A p0 p1 i).1 S))) m5u4 m5u4 (ct_X5_become l G (mk5 D E (setT g 0) S (adL (setT g 0) S A p0 p1 i).1) o (adL (setT g 0) S A p0 p1 i).1)) mw_X5_become qw_941 (nl_s0 (Or.inr rfl)) (ent_s0 (Or.inr rfl)) rfl rfl rfl (Nat.le_of_ble_eq_true rfl) ⟨Nat.le_of_ble_eq_true rfl, Nat.le_of_ble_eq_true rfl⟩ ⟨Nat.le_of_ble_eq_true rfl, Nat.le_of_ble_eq_true rfl⟩ dX6_advise_74 ?_
            refine J_iload hC (j := 5) dX6_advise_77 rfl ?_
            refine J_aload_n hC (j := 0) dX6_advise_79 rfl rfl ?_
            refine J_get (v' := .ref (aX G 3 0)) hC nl_m0 ent_m0 rfl in6 10 (by decide) rfl qw_747 rfl rfl dX6_advise_80 ?_
            refine J_getN (v' := .ref (aX G 3 3)) hC (nl_s0 (Or.inl rfl)) (ent_s0 (Or.inl rfl)) rfl in5 3 (by decide) rfl nqw_678 rfl rfl dX6_advise_83 ?_
            refine J_iload_n hC (j := 1) dX6_advise_86 rfl rfl ?_
            refine J_iald (x := (S 3 (ix p0))) hC (nl_si3 (Or.inl rfl)) (ent_si3 (Or.inl rfl)) (wI_in hg h7) (iv (r5 (x := (S 3 (ix p0))) rfl)) dX6_advise_87 ?_
            refine J_bipush (v := 10) hC dX6_advise_88 (by decide) ?_
            refine J_idiv hC dX6_advise_90 (by decide) ?_
            refine J_icmp_eq (tgt := 174) hC dX6_advise_91 (by decide) (fun c91 => ?_) (fun c91 => ?_)
            · refine J_aload_n hC (j := 0) dX6_advise_174 rfl rfl ?_
              refine J_get (v' := .ref (aX G 4 0)) hC nl_m0 ent_m0 rfl in6 11 (by decide) rfl qw_748 rfl rfl dX6_advise_175 ?_
              refine J_iload_n hC (j := 2) dX6_advise_178 rfl rfl ?_
              refine J_callVv hC (ct_rw (X4 := (mk5 D E (setT g 0) S (passN (setT g 0) (becomeS (adL (setT g 0) S A p0 p1 i).1 S) (ix p1)))) m5u4 m5u4 (ct_X5_pass_ l G (mk5 D E (setT g 0) S (becomeS (adL (setT g 0) S A p0 p1 i).1 S)) o 4 (Or.inr rfl) (becomeS (adL (setT g 0) S A p0 p1 i).1 S) p1 (SI_become hS) hg b (DY_become hy) (Nat.lt_of_le_of_lt (Nat.add_le_add_left (wt_ix (n := 40) (by decide) h23) b) (by omega)))) mw_X5_pass_ qw_902 (nl_s0 (Or.inr rfl)) (ent_s0 (Or.inr rfl)) rfl rfl rfl (Nat.le_of_ble_eq_true rfl) ⟨Nat.le_of_ble_eq_true rfl, Nat.le_of_ble_eq_true rfl⟩ ⟨Nat.le_of_ble_eq_true rfl, Nat.le_of_ble_eq_true rfl⟩ dX6_advise_179 ?_
              refine J_aload_n hC (j := 0) dX6_advise_182 rfl rfl ?_
              refine J_get (v' := .ref (aX G 4 0)) hC nl_m0 ent_m0 rfl in6 11 (by decide) rfl qw_748 rfl rfl dX6_advise_183 ?_
              refine J_iload_n hC (j := 1) dX6_advise_186 rfl rfl ?_
              refine J_callV hC (ct_rw (X4 := (mk5 D E (setT g 0) S (passN (setT g 0) (becomeS (adL (setT g 0) S A p0 p1 i).1 S) (ix p1)))) m5u4 m5u4 (ct_X5_worthNow l G (mk5 D E (setT g 0) S (passN (setT g 0) (becomeS (adL (setT g 0) S A p0 p1 i).1 S) (ix p1))) o 4 (Or.inr rfl) (passN (setT g 0) (becomeS (adL (setT g 0) S A p0 p1 i).1 S) (ix p1)) p0 (wI_in hg h7))) mw_X5_worthNow qw_952 (nl_s0 (Or.inr rfl)) (ent_s0 (Or.inr rfl)) rfl rfl rfl (Nat.le_of_ble_eq_true rfl) ⟨Nat.le_of_ble_eq_true rfl, Nat.le_of_ble_eq_true rfl⟩ ⟨Nat.le_of_ble_eq_true rfl, Nat.le_of_ble_eq_true rfl⟩ dX6_advise_187 ?_
              refine J_iload hC (j := 4) dX6_advise_190 rfl ?_
              refine J_icmp_gt (tgt := 198) hC dX6_advise_192 (by decide) (fun c192 => ?_) (fun c192 => ?_)
              · refine J_aload_n hC (j := 0) dX6_advise_198 rfl rfl ?_
                refine J_get (v' := .ref (aX G 4 0)) hC nl_m0 ent_m0 rfl in6 11 (by decide) rfl qw_748 rfl rfl dX6_advise_199 ?_
                refine J_iload_n hC (j := 1) dX6_advise_202 rfl rfl ?_
                refine J_callV hC (ct_rw (X4 := (mk5 D E (setT g 0) S (passN (setT g 0) (becomeS (adL (setT g 0) S A p0 p1 i).1 S) (ix p1)))) m5u4 m5u4 (ct_X5_worthNow l G (mk5 D E (setT g 0) S (passN (setT g 0) (becomeS (adL (setT g 0) S A p0 p1 i).1 S) (ix p1))) o 4 (Or.inr rfl) (passN (setT g 0) (becomeS (adL (setT g 0) S A p0 p1 i).1 S) (ix p1)) p0 (wI_in hg h7))) mw_X5_worthNow qw_952 (nl_s0 (Or.inr rfl)) (ent_s0 (Or.inr rfl)) rfl rfl rfl (Nat.le_of_ble_eq_true rfl) ⟨Nat.le_of_ble_eq_true rfl, Nat.le_of_ble_eq_true rfl⟩ ⟨Nat.le_of_ble_eq_true rfl, Nat.le_of_ble_eq_true rfl⟩ dX6_advise_203 ?_
                refine J_istore (lv' := [(4, .int (worthNowS (passN (setT g 0) (becomeS (adL (setT g 0) S A p0 p1 i).1 S) (ix p1)) p0)), (0, .ref (aX G 2 0)), (1, .int p0), (2, .int p1), (3, .int (adL (setT g 0) S A p0 p1 i).2.2), (5, .int (nI i))]) hC dX6_advise_206 (by decide) rfl ?_
                refine J_iload hC (j := 5) dX6_advise_208 rfl ?_
                refine J_istore_n (lv' := [(3, .int (nI i)), (4, .int (worthNowS (passN (setT g 0) (becomeS (adL (setT g 0) S A p0 p1 i).1 S) (ix p1)) p0)), (0, .ref (aX G 2 0)), (1, .int p0), (2, .int p1), (5, .int (nI i))]) hC dX6_advise_210 rfl (by decide) rfl ?_
                refine J_iinc (j := 5) (v := ((nI i) + 1)) (lv' := [(5, .int ((nI i) + 1)), (3, .int (nI i)), (4, .int (worthNowS (passN (setT g 0) (becomeS (adL (setT g 0) S A p0 p1 i).1 S) (ix p1)) p0)), (0, .ref (aX G 2 0)), (1, .int p0), (2, .int p1)]) hC dX6_advise_211 rfl rfl (by decide) rfl ?_
                refine J_goto (tgt := 57) hC dX6_advise_214 (by decide) ?_
                refine J_lv [3, 4, 5, 1, 2, 0] (lv' := [(0, .ref (aX G 2 0)), (1, .int p0), (2, .int p1), (3, .int (nI i)), (4, .int (worthNowS (passN (setT g 0) (becomeS (adL (setT g 0) S A p0 p1 i).1 S) (ix p1)) p0)), (5, .int ((nI i) + 1))]) rfl ?_
                exact J_cast (congrArg (mk5 D E (setT g 0) S) (by rw [adL_s, adF, if_pos c91, adR]; simp only [c192, if_true, if_false])) (by rw [adL_s, adF, if_pos c91, adR]; simp only [c192, if_true, if_false]; try rw [nI_succ]) rfl (ih (i + 1) (by omega) )
              · refine J_goto (tgt := 211) hC dX6_advise_195 (by decide) ?_
                refine J_iinc (j := 5) (v := ((nI i) + 1)) (lv' := [(5, .int ((nI i) + 1)), (0, .ref (aX G 2 0)), (1, .int p0), (2, .int p1), (3, .int (adL (setT g 0) S A p0 p1 i).2.2), (4, .int (adL (setT g 0) S A p0 p1 i).2.1)]) hC dX6_advise_211 rfl rfl (by decide) rfl ?_
                refine J_goto (tgt := 57) hC dX6_advise_214 (by decide) ?_
                refine J_lv [1, 2, 3, 4, 5, 0] (lv' := [(0, .ref (aX G 2 0)), (1, .int p0), (2, .int p1), (3, .int (adL (setT g 0) S A p0 p1 i).2.2), (4, .int (adL (setT g 0) S A p0 p1 i).2.1), (5, .int ((nI i) + 1))]) rfl ?_
                exact J_cast (congrArg (mk5 D E (setT g 0) S) (by rw [adL_s, adF, if_pos c91, adR]; simp only [c192, if_true, if_false])) (by rw [adL_s, adF, if_pos c91, adR]; simp only [c192, if_true, if_false]; try rw [nI_succ]) rfl (ih (i + 1) (by omega) )
            · refine J_iconst (v := 0) hC dX6_advise_94 (by decide) ?_
              refine J_istore (lv' := [(6, .int 0), (0, .ref (aX G 2 0)), (1, .int p0), (2, .int p1), (3, .int (adL (setT g 0) S A p0 p1 i).2.2), (4, .int (adL (setT g 0) S A p0 p1 i).2.1), (5, .int (nI i))]) hC dX6_advise_95 (by decide) rfl ?_
              have L97 : ∀ k j : Nat, j + k = 10 → (ffS (becomeS (adL (setT g 0) S A p0 p1 i).1 S 1) (nI i) 10 0 = ffS (becomeS (adL (setT g 0) S A p0 p1 i).1 S 1) (nI i) k j) → Jd p l e ({ frames := 5, cells := 0, slots := 0, locals := 117 }) s m args below meth c (MQ below (CQ G (some (.int (vAdvM (setT g 0) S A p0 p1))) (mk5 D E (mAdv (setT g 0) p0 p1) S (aAdv (setT g 0) S A p0 p1)) o) args s 0 0 (gB G)) G 7 0 0 (mk5 D E (setT g 0) S (becomeS (adL (setT g 0) S A p0 p1 i).1 S)) o 97 [(0, .ref (aX G 2 0)), (1, .int p0), (2, .int p1), (3, .int (adL (setT g 0) S A p0 p1 i).2.2), (4, .int (adL (setT g 0) S A p0 p1 i).2.1), (5, .int (nI i)), (6, .int (nI j))] [] := by
                intro k
                induction k with
                | zero =>
                  intro j hn hf
                  obtain rfl : j = 10 := by omega
                  refine J_iload hC (j := 6) dX6_advise_97 rfl ?_
                  refine J_bipush (v := 10) hC dX6_advise_99 (by decide) ?_
                  refine J_icmp_ge (tgt := 130) hC dX6_advise_101 (by decide) (fun c101 => ?_) (fun c101 => absurd c101 (not_not_intro (le_nI (K := 10) rfl (by omega) (by omega))))
                  refine J_iload hC (j := 6) dX6_advise_130 rfl ?_
                  refine J_bipush (v := 10) hC dX6_advise_132 (by decide) ?_
                  refine J_icmp_ne (tgt := 140) hC dX6_advise_134 (by decide) (fun c134 => absurd c134 (not_not_intro rfl)) (fun c134 => ?_)
                  refine J_goto (tgt := 211) hC dX6_advise_137 (by decide) ?_
                  refine J_iinc (j := 5) (v := ((nI i) + 1)) (lv' := [(5, .int ((nI i) + 1)), (0, .ref (aX G 2 0)), (1, .int p0), (2, .int p1), (3, .int (adL (setT g 0) S A p0 p1 i).2.2), (4, .int (adL (setT g 0) S A p0 p1 i).2.1), (6, .int (nI 10))]) hC dX6_advise_211 rfl rfl (by decide) rfl ?_
                  refine J_goto (tgt := 57) hC dX6_advise_214 (by decide) ?_
                  refine J_lv [1, 2, 3, 4, 5, 0] (lv' := [(0, .ref (aX G 2 0)), (1, .int p0), (2, .int p1), (3, .int (adL (setT g 0) S A p0 p1 i).2.2), (4, .int (adL (setT g 0) S A p0 p1 i).2.1), (5, .int ((nI i) + 1))]) rfl ?_
                  exact J_cast (congrArg (mk5 D E (setT g 0) S) (by rw [adL_s, adF, if_neg c91, if_pos (show ffS (becomeS (adL (setT g 0) S A p0 p1 i).1 S 1) (nI i) 10 0 = 10 from hf)])) (by rw [adL_s, adF, if_neg c91, if_pos (show ffS (becomeS (adL (setT g 0) S A p0 p1 i).1 S 1) (nI i) 10 0 = 10 from hf)]; try rw [nI_succ]) rfl (ih (i + 1) (by omega) )
                | succ k ih97 =>
                  intro j hn hf
                  refine J_iload hC (j := 6) dX6_advise_97 rfl ?_
                  refine J_bipush (v := 10) hC dX6_advise_99 (by decide) ?_
                  refine J_icmp_ge (tgt := 130) hC dX6_advise_101 (by decide) (fun c101 => absurd c101 (nle_nI (K := 10) rfl (by omega) (by omega))) (fun c101 => ?_)
                  refine J_aload_n hC (j := 0) dX6_advise_104 rfl rfl ?_
                  refine J_get (v' := .ref (aX G 4 0)) hC nl_m0 ent_m0 rfl in6 11 (by decide) rfl qw_748 rfl rfl dX6_advise_105 ?_
                  refine J_getN (v' := .ref (aX G 4 1)) hC (nl_s0 (Or.inr rfl)) (ent_s0 (Or.inr rfl)) rfl in5 1 (by decide) rfl nqw_674 rfl rfl dX6_advise_108 ?_
                  refine J_bipush (v := 10) hC dX6_advise_111 (by decide) ?_
                  refine J_iload hC (j := 5) dX6_advise_113 rfl ?_
                  refine J_imul hC dX6_advise_115 ?_
                  refine J_iload hC (j := 6) dX6_advise_116 rfl ?_
                  refine J_iadd hC dX6_advise_118 ?_
                  refine J_iald (x := ((becomeS (adL (setT g 0) S A p0 p1 i).1 S) 1 (ix ((10 * (nI i)) + (nI j))))) hC (nl_si1 (Or.inr rfl)) (ent_si1 (Or.inr rfl)) (vp_bd (vp_nI (by omega)) (vp_nI (by omega))) (iv (r5 (x := ((becomeS (adL (setT g 0) S A p0 p1 i).1 S) 1 (ix ((10 * (nI i)) + (nI j))))) rfl)) dX6_advise_119 ?_
                  refine J_iconst (v := (-1)) hC dX6_advise_120 (by decide) ?_
                  refine J_icmp_eq (tgt := 130) hC dX6_advise_121 (by decide) (fun c121 => ?_) (fun c121 => ?_)
                  · refine J_iload hC (j := 6) dX6_advise_130 rfl ?_
                    refine J_bipush (v := 10) hC dX6_advise_132 (by decide) ?_
                    refine J_icmp_ne (tgt := 140) hC dX6_advise_134 (by decide) (fun c134 => ?_) (fun c134 => absurd c134 (nI_ne10 (by omega)))
                    refine J_aload_n hC (j := 0) dX6_advise_140 rfl rfl ?_
                    refine J_get (v' := .ref (aX G 4 0)) hC nl_m0 ent_m0 rfl in6 11 (by decide) rfl qw_748 rfl rfl dX6_advise_141 ?_
                    refine J_getN (v' := .ref (aX G 4 1)) hC (nl_s0 (Or.inr rfl)) (ent_s0 (Or.inr rfl)) rfl in5 1 (by decide) rfl nqw_674 rfl rfl dX6_advise_144 ?_
                    refine J_aload_n hC (j := 0) dX6_advise_147 rfl rfl ?_
                    refine J_get (v' := .ref (aX G 4 0)) hC nl_m0 ent_m0 rfl in6 11 (by decide) rfl qw_748 rfl rfl dX6_advise_148 ?_
                    refine J_getN (v' := .ref (aX G 4 3)) hC (nl_s0 (Or.inr rfl)) (ent_s0 (Or.inr rfl)) rfl in5 3 (by decide) rfl nqw_678 rfl rfl dX6_advise_151 ?_
                    refine J_iload_n hC (j := 1) dX6_advise_154 rfl rfl ?_
                    refine J_iald (x := ((becomeS (adL (setT g 0) S A p0 p1 i).1 S) 3 (ix p0))) hC (nl_si3 (Or.inr rfl)) (ent_si3 (Or.inr rfl)) (wI_in hg h7) (iv (r5 (x := ((becomeS (adL (setT g 0) S A p0 p1 i).1 S) 3 (ix p0))) rfl)) dX6_advise_155 ?_
                    refine J_iconst (v := (-1)) hC dX6_advise_156 (by decide) ?_
                    refine J_X (X' := (va_up (mk5 D E (setT g 0) S (becomeS (adL (setT g 0) S A p0 p1 i).1 S)) 4 (becomeS (adL (setT g 0) S A p0 p1 i).1 S))) m5u4.symm ?_
                    refine J_iast (X' := (va_up (mk5 D E (setT g 0) S (becomeS (adL (setT g 0) S A p0 p1 i).1 S)) 4 (va_up (becomeS (adL (setT g 0) S A p0 p1 i).1 S) 1 (va_up ((becomeS (adL (setT g 0) S A p0 p1 i).1 S) 1) (ix ((becomeS (adL (setT g 0) S A p0 p1 i).1 S) 3 (ix p0))) (-1))))) hC (nl_si1 (Or.inr rfl)) (ent_si1 (Or.inr rfl)) ((SI_become hS).1 _ (vp_lt (wI_in hg h7))) (pu_si1F (Or.inr rfl)) dX6_advise_157 ?_
                    refine J_X (X' := (mk5 D E (setT g 0) S (va_up (becomeS (adL (setT g 0) S A p0 p1 i).1 S) 1 (va_up ((becomeS (adL (setT g 0) S A p0 p1 i).1 S) 1) (ix ((becomeS (adL (setT g 0) S A p0 p1 i).1 S) 3 (ix p0))) (-1))))) m5u4 ?_
                    refine J_aload_n hC (j := 0) dX6_advise_158 rfl rfl ?_
                    refine J_get (v' := .ref (aX G 4 0)) hC nl_m0 ent_m0 rfl in6 11 (by decide) rfl qw_748 rfl rfl dX6_advise_159 ?_
                    refine J_iload_n hC (j := 1) dX6_advise_162 rfl rfl ?_
                    refine J_bipush (v := 10) hC dX6_advise_163 (by decide) ?_
                    refine J_iload hC (j := 5) dX6_advise_165 rfl ?_
                    refine J_imul hC dX6_advise_167 ?_
                    refine J_iload hC (j := 6) dX6_advise_168 rfl ?_
                    refine J_iadd hC dX6_advise_170 ?_
                    refine J_callVv hC (ct_rw (X4 := (mk5 D E (setT g 0) S (sPut (va_up (becomeS (adL (setT g 0) S A p0 p1 i).1 S) 1 (va_up ((becomeS (adL (setT g 0) S A p0 p1 i).1 S) 1) (ix ((becomeS (adL (setT g 0) S A p0 p1 i).1 S) 3 (ix p0))) (-1))) p0 ((10 * (nI i)) + (nI j))))) m5u4 m5u4 (ct_X5_put l G (mk5 D E (setT g 0) S (va_up (becomeS (adL (setT g 0) S A p0 p1 i).1 S) 1 (va_up ((becomeS (adL (setT g 0) S A p0 p1 i).1 S) 1) (ix ((becomeS (adL (setT g 0) S A p0 p1 i).1 S) 3 (ix p0))) (-1)))) o 4 (Or.inr rfl) (va_up (becomeS (adL (setT g 0) S A p0 p1 i).1 S) 1 (va_up ((becomeS (adL (setT g 0) S A p0 p1 i).1 S) 1) (ix ((becomeS (adL (setT g 0) S A p0 p1 i).1 S) 3 (ix p0))) (-1))) p0 ((10 * (nI i)) + (nI j)) (wI_in hg h7) (vp_bd (vp_nI (by omega)) (vp_nI (by omega))))) mw_X5_put qw_807 (nl_s0 (Or.inr rfl)) (ent_s0 (Or.inr rfl)) rfl rfl rfl (Nat.le_of_ble_eq_true rfl) ⟨Nat.le_of_ble_eq_true rfl, Nat.le_of_ble_eq_true rfl⟩ ⟨Nat.le_of_ble_eq_true rfl, Nat.le_of_ble_eq_true rfl⟩ dX6_advise_171 ?_
                    refine J_X (X' := (mk5 D E (setT g 0) S (adMv (becomeS (adL (setT g 0) S A p0 p1 i).1 S) p0 ((10 * (nI i)) + (nI j))))) rfl ?_
                    refine J_aload_n hC (j := 0) dX6_advise_174 rfl rfl ?_
                    refine J_get (v' := .ref (aX G 4 0)) hC nl_m0 ent_m0 rfl in6 11 (by decide) rfl qw_748 rfl rfl dX6_advise_175 ?_
                    refine J_iload_n hC (j := 2) dX6_advise_178 rfl rfl ?_
                    refine J_callVv hC (ct_rw (X4 := (mk5 D E (setT g 0) S (passN (setT g 0) (adMv (becomeS (adL (setT g 0) S A p0 p1 i).1 S) p0 ((10 * (nI i)) + (nI j))) (ix p1)))) m5u4 m5u4 (ct_X5_pass_ l G (mk5 D E (setT g 0) S (adMv (becomeS (adL (setT g 0) S A p0 p1 i).1 S) p0 ((10 * (nI i)) + (nI j)))) o 4 (Or.inr rfl) (adMv (becomeS (adL (setT g 0) S A p0 p1 i).1 S) p0 ((10 * (nI i)) + (nI j))) p1 (SI_mv (SI_become hS) (wI_in hg h7) (vp_bd (vp_nI (by omega)) (vp_nI (by omega)))) hg b (DY_mv (DY_become hy)) (Nat.lt_of_le_of_lt (Nat.add_le_add_left (wt_ix (n := 40) (by decide) h23) b) (by omega)))) mw_X5_pass_ qw_902 (nl_s0 (Or.inr rfl)) (ent_s0 (Or.inr rfl)) rfl rfl rfl (Nat.le_of_ble_eq_true rfl) ⟨Nat.le_of_ble_eq_true rfl, Nat.le_of_ble_eq_true rfl⟩ ⟨Nat.le_of_ble_eq_true rfl, Nat.le_of_ble_eq_true rfl⟩ dX6_advise_179 ?_
                    refine J_aload_n hC (j := 0) dX6_advise_182 rfl rfl ?_
                    refine J_get (v' := .ref (aX G 4 0)) hC nl_m0 ent_m0 rfl in6 11 (by decide) rfl qw_748 rfl rfl dX6_advise_183 ?_
                    refine J_iload_n hC (j := 1) dX6_advise_186 rfl rfl ?_
                    refine J_callV hC (ct_rw (X4 := (mk5 D E (setT g 0) S (passN (setT g 0) (adMv (becomeS (adL (setT g 0) S A p0 p1 i).1 S) p0 ((10 * (nI i)) + (nI j))) (ix p1)))) m5u4 m5u4 (ct_X5_worthNow l G (mk5 D E (setT g 0) S (passN (setT g 0) (adMv (becomeS (adL (setT g 0) S A p0 p1 i).1 S) p0 ((10 * (nI i)) + (nI j))) (ix p1))) o 4 (Or.inr rfl) (passN (setT g 0) (adMv (becomeS (adL (setT g 0) S A p0 p1 i).1 S) p0 ((10 * (nI i)) + (nI j))) (ix p1)) p0 (wI_in hg h7))) mw_X5_worthNow qw_952 (nl_s0 (Or.inr rfl)) (ent_s0 (Or.inr rfl)) rfl rfl rfl (Nat.le_of_ble_eq_true rfl) ⟨Nat.le_of_ble_eq_true rfl, Nat.le_of_ble_eq_true rfl⟩ ⟨Nat.le_of_ble_eq_true rfl, Nat.le_of_ble_eq_true rfl⟩ dX6_advise_187 ?_
                    refine J_iload hC (j := 4) dX6_advise_190 rfl ?_
                    refine J_icmp_gt (tgt := 198) hC dX6_advise_192 (by decide) (fun c192 => ?_) (fun c192 => ?_)
                    · refine J_aload_n hC (j := 0) dX6_advise_198 rfl rfl ?_
                      refine J_get (v' := .ref (aX G 4 0)) hC nl_m0 ent_m0 rfl in6 11 (by decide) rfl qw_748 rfl rfl dX6_advise_199 ?_
                      refine J_iload_n hC (j := 1) dX6_advise_202 rfl rfl ?_
                      refine J_callV hC (ct_rw (X4 := (mk5 D E (setT g 0) S (passN (setT g 0) (adMv (becomeS (adL (setT g 0) S A p0 p1 i).1 S) p0 ((10 * (nI i)) + (nI j))) (ix p1)))) m5u4 m5u4 (ct_X5_worthNow l G (mk5 D E (setT g 0) S (passN (setT g 0) (adMv (becomeS (adL (setT g 0) S A p0 p1 i).1 S) p0 ((10 * (nI i)) + (nI j))) (ix p1))) o 4 (Or.inr rfl) (passN (setT g 0) (adMv (becomeS (adL (setT g 0) S A p0 p1 i).1 S) p0 ((10 * (nI i)) + (nI j))) (ix p1)) p0 (wI_in hg h7))) mw_X5_worthNow qw_952 (nl_s0 (Or.inr rfl)) (ent_s0 (Or.inr rfl)) rfl rfl rfl (Nat.le_of_ble_eq_true rfl) ⟨Nat.le_of_ble_eq_true rfl, Nat.le_of_ble_eq_true rfl⟩ ⟨Nat.le_of_ble_eq_true rfl, Nat.le_of_ble_eq_true rfl⟩ dX6_advise_203 ?_
                      refine J_istore (lv' := [(4, .int (worthNowS (passN (setT g 0) (adMv (becomeS (adL (setT g 0) S A p0 p1 i).1 S) p0 ((10 * (nI i)) + (nI j))) (ix p1)) p0)), (0, .ref (aX G 2 0)), (1, .int p0), (2, .int p1), (3, .int (adL (setT g 0) S A p0 p1 i).2.2), (5, .int (nI i)), (6, .int (nI j))]) hC dX6_advise_206 (by decide) rfl ?_
                      refine J_iload hC (j := 5) dX6_advise_208 rfl ?_
                      refine J_istore_n (lv' := [(3, .int (nI i)), (4, .int (worthNowS (passN (setT g 0) (adMv (becomeS (adL (setT g 0) S A p0 p1 i).1 S) p0 ((10 * (nI i)) + (nI j))) (ix p1)) p0)), (0, .ref (aX G 2 0)), (1, .int p0), (2, .int p1), (5, .int (nI i)), (6, .int (nI j))]) hC dX6_advise_210 rfl (by decide) rfl ?_
                      refine J_iinc (j := 5) (v := ((nI i) + 1)) (lv' := [(5, .int ((nI i) + 1)), (3, .int (nI i)), (4, .int (worthNowS (passN (setT g 0) (adMv (becomeS (adL (setT g 0) S A p0 p1 i).1 S) p0 ((10 * (nI i)) + (nI j))) (ix p1)) p0)), (0, .ref (aX G 2 0)), (1, .int p0), (2, .int p1), (6, .int (nI j))]) hC dX6_advise_211 rfl rfl (by decide) rfl ?_
                      refine J_goto (tgt := 57) hC dX6_advise_214 (by decide) ?_
                      refine J_lv [3, 4, 5, 1, 2, 0] (lv' := [(0, .ref (aX G 2 0)), (1, .int p0), (2, .int p1), (3, .int (nI i)), (4, .int (worthNowS (passN (setT g 0) (adMv (becomeS (adL (setT g 0) S A p0 p1 i).1 S) p0 ((10 * (nI i)) + (nI j))) (ix p1)) p0)), (5, .int ((nI i) + 1))]) rfl ?_
                      exact J_cast (congrArg (mk5 D E (setT g 0) S) (by rw [adL_s, adF, if_neg c91, (show ffS (becomeS (adL (setT g 0) S A p0 p1 i).1 S 1) (nI i) 10 0 = j from hf.trans (by rw [ffS, if_pos c121])), if_neg (show ¬ j = 10 by omega), adR]; simp only [c192, if_true, if_false])) (by rw [adL_s, adF, if_neg c91, (show ffS (becomeS (adL (setT g 0) S A p0 p1 i).1 S 1) (nI i) 10 0 = j from hf.trans (by rw [ffS, if_pos c121])), if_neg (show ¬ j = 10 by omega), adR]; simp only [c192, if_true, if_false]; try rw [nI_succ]) rfl (ih (i + 1) (by omega) )
                    · refine J_goto (tgt := 211) hC dX6_advise_195 (by decide) ?_
                      refine J_iinc (j := 5) (v := ((nI i) + 1)) (lv' := [(5, .int ((nI i) + 1)), (0, .ref (aX G 2 0)), (1, .int p0), (2, .int p1), (3, .int (adL (setT g 0) S A p0 p1 i).2.2), (4, .int (adL (setT g 0) S A p0 p1 i).2.1), (6, .int (nI j))]) hC dX6_advise_211 rfl rfl (by decide) rfl ?_
                      refine J_goto (tgt := 57) hC dX6_advise_214 (by decide) ?_
                      refine J_lv [1, 2, 3, 4, 5, 0] (lv' := [(0, .ref (aX G 2 0)), (1, .int p0), (2, .int p1), (3, .int (adL (setT g 0) S A p0 p1 i).2.2), (4, .int (adL (setT g 0) S A p0 p1 i).2.1), (5, .int ((nI i) + 1))]) rfl ?_
                      exact J_cast (congrArg (mk5 D E (setT g 0) S) (by rw [adL_s, adF, if_neg c91, (show ffS (becomeS (adL (setT g 0) S A p0 p1 i).1 S 1) (nI i) 10 0 = j from hf.trans (by rw [ffS, if_pos c121])), if_neg (show ¬ j = 10 by omega), adR]; simp only [c192, if_true, if_false])) (by rw [adL_s, adF, if_neg c91, (show ffS (becomeS (adL (setT g 0) S A p0 p1 i).1 S 1) (nI i) 10 0 = j from hf.trans (by rw [ffS, if_pos c121])), if_neg (show ¬ j = 10 by omega), adR]; simp only [c192, if_true, if_false]; try rw [nI_succ]) rfl (ih (i + 1) (by omega) )
                  · refine J_iinc (j := 6) (v := ((nI j) + 1)) (lv' := [(6, .int ((nI j) + 1)), (0, .ref (aX G 2 0)), (1, .int p0), (2, .int p1), (3, .int (adL (setT g 0) S A p0 p1 i).2.2), (4, .int (adL (setT g 0) S A p0 p1 i).2.1), (5, .int (nI i))]) hC dX6_advise_124 rfl rfl (by decide) rfl ?_
                    refine J_goto (tgt := 97) hC dX6_advise_127 (by decide) ?_
                    refine J_lv [1, 2, 3, 4, 5, 6, 0] (lv' := [(0, .ref (aX G 2 0)), (1, .int p0), (2, .int p1), (3, .int (adL (setT g 0) S A p0 p1 i).2.2), (4, .int (adL (setT g 0) S A p0 p1 i).2.1), (5, .int (nI i)), (6, .int ((nI j) + 1))]) rfl ?_
                    exact J_cast rfl (by simp [nI_succ, h7, h23, c44, c91, c121]) rfl (ih97 (j + 1) (by omega) (hf.trans (by rw [ffS, if_neg c121])))
              refine J_lv [1, 2, 3, 4, 5, 6, 0] (lv' := [(0, .ref (aX G 2 0)), (1, .int p0), (2, .int p1), (3, .int (adL (setT g 0) S A p0 p1 i).2.2), (4, .int (adL (setT g 0) S A p0 p1 i).2.1), (5, .int (nI i)), (6, .int 0)]) rfl ?_
              exact J_cast rfl (by first | rfl | simp [nI_0]) rfl (L97 10 0 (by omega) rfl)
        refine J_lv [3, 4, 5, 2, 1, 0] (lv' := [(0, .ref (aX G 2 0)), (1, .int p0), (2, .int p1), (3, .int (-1)), (4, .int (-1)), (5, .int 0)]) rfl ?_
        exact J_cast rfl (by first | rfl | simp [adL, rep, nI_0]) rfl (L57 (ix ((setT g 0) 0 1)) 0 (by omega) )
      · refine J_iconst (v := (-1)) hC dX6_advise_47 (by decide) ?_
        exact J_iret hC hr (by first | (simp [vAdvM, mAdv, aAdv, h7, h23, c44, mk5_2]; done) | rfl) (by first | (simp [vAdvM, mAdv, aAdv, h7, h23, c44, mk5_2]; done) | rfl) rfl dX6_advise_48
    · refine J_tv (congrArg Value.int (bI_neg h23)) ?_
      refine J_if_ne (tgt := 35) hC dX6_advise_26 (by decide) (fun h => absurd h (by decide)) (fun _ => ?_)
      refine J_aload_n hC (j := 0) dX6_advise_29 rfl rfl ?_
      refine J_iconst (v := 2) hC dX6_advise_30 (by decide) ?_
      refine J_callV hC (ct_X6_no l G D E (setT g 0) S A o 2) mw_X6_no qw_788 nl_m0 ent_m0 rfl rfl rfl (Nat.le_of_ble_eq_true rfl) ⟨Nat.le_of_ble_eq_true rfl, Nat.le_of_ble_eq_true rfl⟩ ⟨Nat.le_of_ble_eq_true rfl, Nat.le_of_ble_eq_true rfl⟩ dX6_advise_31 ?_
      exact J_iret hC hr (by first | (simp [vAdvM, mAdv, aAdv, h7, h23, mk5_2]; done) | rfl) (by first | (simp [vAdvM, mAdv, aAdv, h7, h23, mk5_2]; done) | rfl) rfl dX6_advise_34
  · refine J_tv (congrArg Value.int (bI_neg h7)) ?_
    refine J_if_ne (tgt := 19) hC dX6_advise_10 (by decide) (fun h => absurd h (by decide)) (fun _ => ?_)
    refine J_aload_n hC (j := 0) dX6_advise_13 rfl rfl ?_
    refine J_iconst (v := 1) hC dX6_advise_14 (by decide) ?_
    refine J_callV hC (ct_X6_no l G D E (setT g 0) S A o 1) mw_X6_no qw_788 nl_m0 ent_m0 rfl rfl rfl (Nat.le_of_ble_eq_true rfl) ⟨Nat.le_of_ble_eq_true rfl, Nat.le_of_ble_eq_true rfl⟩ ⟨Nat.le_of_ble_eq_true rfl, Nat.le_of_ble_eq_true rfl⟩ dX6_advise_15 ?_
    exact J_iret hC hr (by first | (simp [vAdvM, mAdv, aAdv, h7, mk5_2]; done) | rfl) (by first | (simp [vAdvM, mAdv, aAdv, h7, mk5_2]; done) | rfl) rfl dX6_advise_18
