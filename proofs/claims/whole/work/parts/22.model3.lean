theorem dgN_0 {g S : DD} : dgN g S 0 = 937 := rfl
theorem dgN_s {g S : DD} {i : Nat} : dgN g S (i + 1) = dgN g S i * 31 + (nTold g S (nI i)).toInt64 := rfl
theorem dgC1_0 {g S : DD} {c : Nat} {d : Int64} : dgC1 g S c d 0 = d := rfl
theorem dgC1_s {g S : DD} {c i : Nat} {d : Int64} : dgC1 g S c d (i + 1) = dgC1 g S c d i * 31 + (cTold g S (nI c) (nI i)).toInt64 := rfl
theorem dgC_0 {g S : DD} {d : Int64} : dgC g S d 0 = d := rfl
theorem dgC_s {g S : DD} {i : Nat} {d : Int64} : dgC g S d (i + 1) = dgC1 g S i (dgC g S d i) 4 := rfl
theorem dgW1_0 {S : DD} {c : Nat} {d : Int64} : dgW1 S c d 0 = d := rfl
theorem dgW1_s {S : DD} {c i : Nat} {d : Int64} : dgW1 S c d (i + 1) = dgW1 S c d i * 31 + (wTold S (nI c) (nI i)).toInt64 := rfl
theorem dgW_0 {S : DD} {d : Int64} : dgW S d 0 = d := rfl
theorem dgW_s {S : DD} {i : Nat} {d : Int64} : dgW S d (i + 1) = dgW1 S i (dgW S d i) 11 := rfl
theorem dgM1_0 {g S : DD} {c : Nat} {d : Int64} : dgM1 g S c d 0 = d := rfl
theorem dgM1_s {g S : DD} {c i : Nat} {d : Int64} : dgM1 g S c d (i + 1) = dgM1 g S c d i * 31 + (mTold g S (nI c) (nI i)).toInt64 := rfl
theorem dgM2_0 {g : DD} {c : Nat} {d : Int64} : dgM2 g c d 0 = d := rfl
theorem dgM2_s {g : DD} {c i : Nat} {d : Int64} : dgM2 g c d (i + 1) = dgM2 g c d i * 31 + (g 5 (ix (7 * nI c + nI i))).toInt64 := rfl
theorem dgM_0 {g S : DD} {d : Int64} : dgM g S d 0 = d := rfl
theorem dgM_s {g S : DD} {i : Nat} {d : Int64} : dgM g S d (i + 1) = dgM2 g i (dgM1 g S i (dgM g S d i) 5) 7 := rfl
set_option maxHeartbeats 4000000 in
set_option maxRecDepth 100000 in
theorem ct_X6_digest (l : Launch) (G : GG) (D E g S A : DD) (o : OO) (hg : GG2 (setT g 0)) (hS : SI S) (hy : ¬ S 0 0 < 0) : CT l yX6_digest cX6_digest 5 (some .long) 3 68 273 2985 G [.ref (aX G 2 0)] (mk5 D E g S A) o (some (.long (digS (setT g 0) S))) (mk5 D E (setT g 0) S A) o := by
  refine CT_of (own := RX6) (lv := [(0, .ref (aX G 2 0))]) (by decide) rfl (Nat.le_of_ble_eq_true rfl) rfl ?_
  intro p e s m args below meth c hr hC
  have h24 := g2w hg
  have h4 := g2m hg
  have h4c := g2c hg
  refine J_aload_n hC (j := 0) dX6_digest_0 rfl rfl ?_
  refine J_iconst (v := 0) hC dX6_digest_1 (by decide) ?_
  refine J_X (X' := (va_up (mk5 D E g S A) 2 g)) m5u2.symm ?_
  refine J_put (X' := (va_up (mk5 D E g S A) 2 (va_up g 0 (va_up (g 0) 0 0)))) hC nl_m0 ent_m0 rfl in6 tyX6_ok nmX6 0 (by decide) rfl qw_730 rfl (by decide) (Nat.le_of_ble_eq_true rfl) (pu_m0F  (by decide)) dX6_digest_2 ?_
  refine J_X (X' := (mk5 D E (va_up g 0 (va_up (g 0) 0 0)) S A)) m5u2 ?_
  refine J_X (X' := (mk5 D E (setT g 0) S A)) rfl ?_
  refine J_ldc2 (v := 937) hC qw_978 dX6_digest_5 ?_
  refine J_lstore_n (lv' := [(1, .long 937), (0, .ref (aX G 2 0))]) hC dX6_digest_8 rfl (by decide) rfl ?_
  refine J_iconst (v := 0) hC dX6_digest_9 (by decide) ?_
  refine J_istore_n (lv' := [(3, .int 0), (1, .long 937), (0, .ref (aX G 2 0))]) hC dX6_digest_10 rfl (by decide) rfl ?_
  have L11 : ∀ n i : Nat, i + n = 9 → Jd p l e ({ frames := 3, cells := 273, slots := 2985, locals := 68 }) s m args below meth c (MQ below (CQ G (some (.long (digS (setT g 0) S))) (mk5 D E (setT g 0) S A) o) args s 273 2985 (gB G)) G 5 (i) (9 * i) (mk5 D E (setT g 0) S A) o 11 [(0, .ref (aX G 2 0)), (1, .long (dgN (setT g 0) S i)), (3, .int (nI i))] [] := by
    intro n
    induction n with
    | zero =>
      intro i hn 
      obtain rfl : i = 9 := by omega
      refine J_iload_n hC (j := 2) dX6_digest_11 rfl rfl ?_
      refine J_bipush (v := 9) hC dX6_digest_12 (by decide) ?_
      refine J_icmp_ge (tgt := 36) hC dX6_digest_14 (by decide) (fun c14 => ?_) (fun c14 => absurd c14 (not_not_intro (le_nI (K := 9) rfl (by omega) (by omega))))
      refine J_iconst (v := 0) hC dX6_digest_36 (by decide) ?_
      refine J_istore_n (lv' := [(3, .int 0), (0, .ref (aX G 2 0)), (1, .long (dgN (setT g 0) S 9))]) hC dX6_digest_37 rfl (by decide) rfl ?_
      have L38 : ∀ n i : Nat, i + n = (ix ((setT g 0) 0 1)) → Jd p l e ({ frames := 3, cells := 273, slots := 2985, locals := 68 }) s m args below meth c (MQ below (CQ G (some (.long (digS (setT g 0) S))) (mk5 D E (setT g 0) S A) o) args s 273 2985 (gB G)) G 5 9 81 (mk5 D E (setT g 0) S A) o 38 [(0, .ref (aX G 2 0)), (1, .long (dgC (setT g 0) S (dgN (setT g 0) S 9) i)), (3, .int (nI i))] [] := by
        intro n
        induction n with
        | zero =>
          intro i hn 
          have hz : i = (ix ((setT g 0) 0 1)) := by omega
          subst hz
          refine J_iload_n hC (j := 2) dX6_digest_38 rfl rfl ?_
          refine J_aload_n hC (j := 0) dX6_digest_39 rfl rfl ?_
          refine J_get hC nl_m0 ent_m0 rfl in6 1 (by decide) rfl qw_731 rfl (r5 (x := ((setT g 0) 0 1)) rfl) dX6_digest_40 ?_
          refine J_icmp_ge (tgt := 82) hC dX6_digest_43 (by decide) (fun c43 => ?_) (fun c43 => absurd c43 (not_not_intro (le_ix ((setT g 0) 0 1))))
          refine J_iconst (v := 0) hC dX6_digest_82 (by decide) ?_
          refine J_istore_n (lv' := [(3, .int 0), (0, .ref (aX G 2 0)), (1, .long (dgC (setT g 0) S (dgN (setT g 0) S 9) (ix ((setT g 0) 0 1))))]) hC dX6_digest_83 rfl (by decide) rfl ?_
          have L84 : ∀ n i : Nat, i + n = (ix ((setT g 0) 0 4)) → Jd p l e ({ frames := 3, cells := 273, slots := 2985, locals := 68 }) s m args below meth c (MQ below (CQ G (some (.long (digS (setT g 0) S))) (mk5 D E (setT g 0) S A) o) args s 273 2985 (gB G)) G 5 (9 + 11 * i) (81 + 121 * i) (mk5 D E (setT g 0) S A) o 84 [(0, .ref (aX G 2 0)), (1, .long (dgW S (dgC (setT g 0) S (dgN (setT g 0) S 9) (ix ((setT g 0) 0 1))) i)), (3, .int (nI i))] [] := by
            intro n
            induction n with
            | zero =>
              intro i hn 
              have hz : i = (ix ((setT g 0) 0 4)) := by omega
              subst hz
              refine J_iload_n hC (j := 2) dX6_digest_84 rfl rfl ?_
              refine J_aload_n hC (j := 0) dX6_digest_85 rfl rfl ?_
              refine J_get hC nl_m0 ent_m0 rfl in6 4 (by decide) rfl qw_736 rfl (r5 (x := ((setT g 0) 0 4)) rfl) dX6_digest_86 ?_
              refine J_icmp_ge (tgt := 129) hC dX6_digest_89 (by decide) (fun c89 => ?_) (fun c89 => absurd c89 (not_not_intro (le_ix ((setT g 0) 0 4))))
              refine J_iconst (v := 0) hC dX6_digest_129 (by decide) ?_
              refine J_istore_n (lv' := [(3, .int 0), (0, .ref (aX G 2 0)), (1, .long (dgW S (dgC (setT g 0) S (dgN (setT g 0) S 9) (ix ((setT g 0) 0 1))) (ix ((setT g 0) 0 4))))]) hC dX6_digest_130 rfl (by decide) rfl ?_
              have L131 : ∀ n i : Nat, i + n = (ix ((setT g 0) 0 5)) → Jd p l e ({ frames := 3, cells := 273, slots := 2985, locals := 68 }) s m args below meth c (MQ below (CQ G (some (.long (digS (setT g 0) S))) (mk5 D E (setT g 0) S A) o) args s 273 2985 (gB G)) G 5 (9 + 11 * (ix ((setT g 0) 0 4))) (81 + 121 * (ix ((setT g 0) 0 4))) (mk5 D E (setT g 0) S A) o 131 [(0, .ref (aX G 2 0)), (1, .long (dgM (setT g 0) S (dgW S (dgC (setT g 0) S (dgN (setT g 0) S 9) (ix ((setT g 0) 0 1))) (ix ((setT g 0) 0 4))) i)), (3, .int (nI i))] [] := by
                intro n
                induction n with
                | zero =>
                  intro i hn 
                  have hz : i = (ix ((setT g 0) 0 5)) := by omega
                  subst hz
                  refine J_iload_n hC (j := 2) dX6_digest_131 rfl rfl ?_
                  refine J_aload_n hC (j := 0) dX6_digest_132 rfl rfl ?_
                  refine J_get hC nl_m0 ent_m0 rfl in6 5 (by decide) rfl qw_738 rfl (r5 (x := ((setT g 0) 0 5)) rfl) dX6_digest_133 ?_
                  refine J_icmp_ge (tgt := 211) hC dX6_digest_136 (by decide) (fun c136 => ?_) (fun c136 => absurd c136 (not_not_intro (le_ix ((setT g 0) 0 5))))
                  refine J_lload_n hC (j := 1) dX6_digest_211 rfl rfl ?_
                  refine J_widen (k := 273) (n := 2985) (by omega) (by omega) ?_
                  exact J_lret hC hr (by first | (simp [digS, mk5_2]; done) | rfl) rfl rfl dX6_digest_212
                | succ n ih =>
                  intro i hn 
                  refine J_iload_n hC (j := 2) dX6_digest_131 rfl rfl ?_
                  refine J_aload_n hC (j := 0) dX6_digest_132 rfl rfl ?_
                  refine J_get hC nl_m0 ent_m0 rfl in6 5 (by decide) rfl qw_738 rfl (r5 (x := ((setT g 0) 0 5)) rfl) dX6_digest_133 ?_
                  refine J_icmp_ge (tgt := 211) hC dX6_digest_136 (by decide) (fun c136 => absurd c136 (nle_ix (by omega))) (fun c136 => ?_)
                  refine J_iconst (v := 0) hC dX6_digest_139 (by decide) ?_
                  refine J_istore (lv' := [(4, .int 0), (0, .ref (aX G 2 0)), (1, .long (dgM (setT g 0) S (dgW S (dgC (setT g 0) S (dgN (setT g 0) S 9) (ix ((setT g 0) 0 1))) (ix ((setT g 0) 0 4))) i)), (3, .int (nI i))]) hC dX6_digest_140 (by decide) rfl ?_
                  have L142 : ∀ k j : Nat, j + k = 5 → Jd p l e ({ frames := 3, cells := 273, slots := 2985, locals := 68 }) s m args below meth c (MQ below (CQ G (some (.long (digS (setT g 0) S))) (mk5 D E (setT g 0) S A) o) args s 273 2985 (gB G)) G 5 (9 + 11 * (ix ((setT g 0) 0 4))) (81 + 121 * (ix ((setT g 0) 0 4))) (mk5 D E (setT g 0) S A) o 142 [(0, .ref (aX G 2 0)), (1, .long (dgM1 (setT g 0) S i (dgM (setT g 0) S (dgW S (dgC (setT g 0) S (dgN (setT g 0) S 9) (ix ((setT g 0) 0 1))) (ix ((setT g 0) 0 4))) i) j)), (3, .int (nI i)), (4, .int (nI j))] [] := by
                    intro k
                    induction k with
                    | zero =>
                      intro j hn 
                      obtain rfl : j = 5 := by omega
                      refine J_iload hC (j := 3) dX6_digest_142 rfl ?_
                      refine J_iconst (v := 5) hC dX6_digest_144 (by decide) ?_
                      refine J_icmp_ge (tgt := 169) hC dX6_digest_145 (by decide) (fun c145 => ?_) (fun c145 => absurd c145 (not_not_intro (le_nI (K := 5) rfl (by omega) (by omega))))
                      refine J_iconst (v := 0) hC dX6_digest_169 (by decide) ?_
                      refine J_istore (lv' := [(4, .int 0), (0, .ref (aX G 2 0)), (1, .long (dgM1 (setT g 0) S i (dgM (setT g 0) S (dgW S (dgC (setT g 0) S (dgN (setT g 0) S 9) (ix ((setT g 0) 0 1))) (ix ((setT g 0) 0 4))) i) 5)), (3, .int (nI i))]) hC dX6_digest_170 (by decide) rfl ?_
                      have L172 : ∀ k j : Nat, j + k = 7 → Jd p l e ({ frames := 3, cells := 273, slots := 2985, locals := 68 }) s m args below meth c (MQ below (CQ G (some (.long (digS (setT g 0) S))) (mk5 D E (setT g 0) S A) o) args s 273 2985 (gB G)) G 5 (9 + 11 * (ix ((setT g 0) 0 4))) (81 + 121 * (ix ((setT g 0) 0 4))) (mk5 D E (setT g 0) S A) o 172 [(0, .ref (aX G 2 0)), (1, .long (dgM2 (setT g 0) i (dgM1 (setT g 0) S i (dgM (setT g 0) S (dgW S (dgC (setT g 0) S (dgN (setT g 0) S 9) (ix ((setT g 0) 0 1))) (ix ((setT g 0) 0 4))) i) 5) j)), (3, .int (nI i)), (4, .int (nI j))] [] := by
                        intro k
                        induction k with
                        | zero =>
                          intro j hn 
                          obtain rfl : j = 7 := by omega
                          refine J_iload hC (j := 3) dX6_digest_172 rfl ?_
                          refine J_bipush (v := 7) hC dX6_digest_174 (by decide) ?_
                          refine J_icmp_ge (tgt := 205) hC dX6_digest_176 (by decide) (fun c176 => ?_) (fun c176 => absurd c176 (not_not_intro (le_nI (K := 7) rfl (by omega) (by omega))))
                          refine J_iinc (j := 2) (v := ((nI i) + 1)) (lv' := [(3, .int ((nI i) + 1)), (0, .ref (aX G 2 0)), (1, .long (dgM2 (setT g 0) i (dgM1 (setT g 0) S i (dgM (setT g 0) S (dgW S (dgC (setT g 0) S (dgN (setT g 0) S 9) (ix ((setT g 0) 0 1))) (ix ((setT g 0) 0 4))) i) 5) 7)), (4, .int (nI 7))]) hC dX6_digest_205 rfl rfl (by decide) rfl ?_
                          refine J_goto (tgt := 131) hC dX6_digest_208 (by decide) ?_
                          refine J_lv [1, 2, 0] (lv' := [(0, .ref (aX G 2 0)), (1, .long (dgM2 (setT g 0) i (dgM1 (setT g 0) S i (dgM (setT g 0) S (dgW S (dgC (setT g 0) S (dgN (setT g 0) S 9) (ix ((setT g 0) 0 1))) (ix ((setT g 0) 0 4))) i) 5) 7)), (3, .int ((nI i) + 1))]) rfl ?_
                          refine J_widen (k := (9 + 11 * (ix ((setT g 0) 0 4)))) (n := (81 + 121 * (ix ((setT g 0) 0 4)))) (by omega) (by omega) ?_
                          exact J_cast rfl (by rw [nI_succ, dgM_s]) rfl (ih (i + 1) (by omega) )
                        | succ k ih172 =>
                          intro j hn 
                          refine J_iload hC (j := 3) dX6_digest_172 rfl ?_
                          refine J_bipush (v := 7) hC dX6_digest_174 (by decide) ?_
                          refine J_icmp_ge (tgt := 205) hC dX6_digest_176 (by decide) (fun c176 => absurd c176 (nle_nI (K := 7) rfl (by omega) (by omega))) (fun c176 => ?_)
                          refine J_lload_n hC (j := 1) dX6_digest_179 rfl rfl ?_
                          refine J_ldc2 (v := 31) hC qw_979 dX6_digest_180 ?_
                          refine J_lmul hC dX6_digest_183 ?_
                          refine J_aload_n hC (j := 0) dX6_digest_184 rfl rfl ?_
                          refine J_get (v' := .ref (aX G 2 5)) hC nl_m0 ent_m0 rfl in6 8 (by decide) rfl qw_744 rfl rfl dX6_digest_185 ?_
                          refine J_bipush (v := 7) hC dX6_digest_188 (by decide) ?_
                          refine J_iload_n hC (j := 2) dX6_digest_190 rfl rfl ?_
                          refine J_imul hC dX6_digest_191 ?_
                          refine J_iload hC (j := 3) dX6_digest_192 rfl ?_
                          refine J_iadd hC dX6_digest_194 ?_
                          refine J_iald (x := ((setT g 0) 5 (ix ((7 * (nI i)) + (nI j))))) hC (nl_mi (by decide)) (ent_mi5) (vp_rt (vp_nI (by omega)) (vp_nI (by omega))) (iv (r5 (x := ((setT g 0) 5 (ix ((7 * (nI i)) + (nI j))))) rfl)) dX6_digest_195 ?_
                          refine J_i2l hC dX6_digest_196 ?_
                          refine J_ladd hC dX6_digest_197 ?_
                          refine J_lstore_n (lv' := [(1, .long (((dgM2 (setT g 0) i (dgM1 (setT g 0) S i (dgM (setT g 0) S (dgW S (dgC (setT g 0) S (dgN (setT g 0) S 9) (ix ((setT g 0) 0 1))) (ix ((setT g 0) 0 4))) i) 5) j) * 31) + (((setT g 0) 5 (ix ((7 * (nI i)) + (nI j))))).toInt64)), (0, .ref (aX G 2 0)), (3, .int (nI i)), (4, .int (nI j))]) hC dX6_digest_198 rfl (by decide) rfl ?_
                          refine J_iinc (j := 3) (v := ((nI j) + 1)) (lv' := [(4, .int ((nI j) + 1)), (1, .long (((dgM2 (setT g 0) i (dgM1 (setT g 0) S i (dgM (setT g 0) S (dgW S (dgC (setT g 0) S (dgN (setT g 0) S 9) (ix ((setT g 0) 0 1))) (ix ((setT g 0) 0 4))) i) 5) j) * 31) + (((setT g 0) 5 (ix ((7 * (nI i)) + (nI j))))).toInt64)), (0, .ref (aX G 2 0)), (3, .int (nI i))]) hC dX6_digest_199 rfl rfl (by decide) rfl ?_
                          refine J_goto (tgt := 172) hC dX6_digest_202 (by decide) ?_
                          refine J_lv [2, 1, 3, 0] (lv' := [(0, .ref (aX G 2 0)), (1, .long (((dgM2 (setT g 0) i (dgM1 (setT g 0) S i (dgM (setT g 0) S (dgW S (dgC (setT g 0) S (dgN (setT g 0) S 9) (ix ((setT g 0) 0 1))) (ix ((setT g 0) 0 4))) i) 5) j) * 31) + (((setT g 0) 5 (ix ((7 * (nI i)) + (nI j))))).toInt64)), (3, .int (nI i)), (4, .int ((nI j) + 1))]) rfl ?_
                          refine J_widen (k := (9 + 11 * (ix ((setT g 0) 0 4)))) (n := (81 + 121 * (ix ((setT g 0) 0 4)))) (by omega) (by omega) ?_
                          exact J_cast rfl (by rw [nI_succ, dgM2_s]) rfl (ih172 (j + 1) (by omega) )
                      refine J_lv [1, 2, 3, 0] (lv' := [(0, .ref (aX G 2 0)), (1, .long (dgM1 (setT g 0) S i (dgM (setT g 0) S (dgW S (dgC (setT g 0) S (dgN (setT g 0) S 9) (ix ((setT g 0) 0 1))) (ix ((setT g 0) 0 4))) i) 5)), (3, .int (nI i)), (4, .int 0)]) rfl ?_
                      refine J_widen (k := (9 + 11 * (ix ((setT g 0) 0 4)))) (n := (81 + 121 * (ix ((setT g 0) 0 4)))) (by omega) (by omega) ?_
                      exact J_cast rfl (by rw [dgM2_0]; rfl) rfl (L172 7 0 (by omega) )
                    | succ k ih142 =>
                      intro j hn 
                      refine J_iload hC (j := 3) dX6_digest_142 rfl ?_
                      refine J_iconst (v := 5) hC dX6_digest_144 (by decide) ?_
                      refine J_icmp_ge (tgt := 169) hC dX6_digest_145 (by decide) (fun c145 => absurd c145 (nle_nI (K := 5) rfl (by omega) (by omega))) (fun c145 => ?_)
                      refine J_lload_n hC (j := 1) dX6_digest_148 rfl rfl ?_
                      refine J_ldc2 (v := 31) hC qw_979 dX6_digest_149 ?_
                      refine J_lmul hC dX6_digest_152 ?_
                      refine J_aload_n hC (j := 0) dX6_digest_153 rfl rfl ?_
                      refine J_iload_n hC (j := 2) dX6_digest_154 rfl rfl ?_
                      refine J_iload hC (j := 3) dX6_digest_155 rfl ?_
                      refine J_callV hC (ct_X6_monkTold l G D E (setT g 0) S A o (nI i) (nI j) (vp_nI (by omega)) hy) mw_X6_monkTold qw_878 nl_m0 ent_m0 rfl rfl rfl (Nat.le_of_ble_eq_true rfl) ⟨Nat.le_of_ble_eq_true rfl, Nat.le_of_ble_eq_true rfl⟩ ⟨(by show (9 + 11 * (ix ((setT g 0) 0 4))) + 0 ≤ 273; omega), (by show (81 + 121 * (ix ((setT g 0) 0 4))) + 0 ≤ 2985; omega)⟩ dX6_digest_157 ?_
                      refine J_i2l hC dX6_digest_160 ?_
                      refine J_ladd hC dX6_digest_161 ?_
                      refine J_lstore_n (lv' := [(1, .long (((dgM1 (setT g 0) S i (dgM (setT g 0) S (dgW S (dgC (setT g 0) S (dgN (setT g 0) S 9) (ix ((setT g 0) 0 1))) (ix ((setT g 0) 0 4))) i) j) * 31) + ((mTold (setT g 0) S (nI i) (nI j))).toInt64)), (0, .ref (aX G 2 0)), (3, .int (nI i)), (4, .int (nI j))]) hC dX6_digest_162 rfl (by decide) rfl ?_
                      refine J_iinc (j := 3) (v := ((nI j) + 1)) (lv' := [(4, .int ((nI j) + 1)), (1, .long (((dgM1 (setT g 0) S i (dgM (setT g 0) S (dgW S (dgC (setT g 0) S (dgN (setT g 0) S 9) (ix ((setT g 0) 0 1))) (ix ((setT g 0) 0 4))) i) j) * 31) + ((mTold (setT g 0) S (nI i) (nI j))).toInt64)), (0, .ref (aX G 2 0)), (3, .int (nI i))]) hC dX6_digest_163 rfl rfl (by decide) rfl ?_
                      refine J_goto (tgt := 142) hC dX6_digest_166 (by decide) ?_
                      refine J_lv [2, 1, 3, 0] (lv' := [(0, .ref (aX G 2 0)), (1, .long (((dgM1 (setT g 0) S i (dgM (setT g 0) S (dgW S (dgC (setT g 0) S (dgN (setT g 0) S 9) (ix ((setT g 0) 0 1))) (ix ((setT g 0) 0 4))) i) j) * 31) + ((mTold (setT g 0) S (nI i) (nI j))).toInt64)), (3, .int (nI i)), (4, .int ((nI j) + 1))]) rfl ?_
                      refine J_widen (k := (9 + 11 * (ix ((setT g 0) 0 4)))) (n := (81 + 121 * (ix ((setT g 0) 0 4)))) (by omega) (by omega) ?_
                      exact J_cast rfl (by rw [nI_succ, dgM1_s]) rfl (ih142 (j + 1) (by omega) )
                  refine J_lv [1, 2, 3, 0] (lv' := [(0, .ref (aX G 2 0)), (1, .long (dgM (setT g 0) S (dgW S (dgC (setT g 0) S (dgN (setT g 0) S 9) (ix ((setT g 0) 0 1))) (ix ((setT g 0) 0 4))) i)), (3, .int (nI i)), (4, .int 0)]) rfl ?_
                  refine J_widen (k := (9 + 11 * (ix ((setT g 0) 0 4)))) (n := (81 + 121 * (ix ((setT g 0) 0 4)))) (by omega) (by omega) ?_
                  exact J_cast rfl (by rw [dgM1_0]; rfl) rfl (L142 5 0 (by omega) )
              refine J_lv [1, 2, 0] (lv' := [(0, .ref (aX G 2 0)), (1, .long (dgW S (dgC (setT g 0) S (dgN (setT g 0) S 9) (ix ((setT g 0) 0 1))) (ix ((setT g 0) 0 4)))), (3, .int 0)]) rfl ?_
              refine J_widen (k := (9 + 11 * (ix ((setT g 0) 0 4)))) (n := (81 + 121 * (ix ((setT g 0) 0 4)))) (by omega) (by omega) ?_
              exact J_cast rfl (by rw [dgM_0]; rfl) rfl (L131 (ix ((setT g 0) 0 5)) 0 (by omega) )
            | succ n ih =>
              intro i hn 
              refine J_iload_n hC (j := 2) dX6_digest_84 rfl rfl ?_
              refine J_aload_n hC (j := 0) dX6_digest_85 rfl rfl ?_
              refine J_get hC nl_m0 ent_m0 rfl in6 4 (by decide) rfl qw_736 rfl (r5 (x := ((setT g 0) 0 4)) rfl) dX6_digest_86 ?_
              refine J_icmp_ge (tgt := 129) hC dX6_digest_89 (by decide) (fun c89 => absurd c89 (nle_ix (by omega))) (fun c89 => ?_)
              refine J_iconst (v := 0) hC dX6_digest_92 (by decide) ?_
              refine J_istore (lv' := [(4, .int 0), (0, .ref (aX G 2 0)), (1, .long (dgW S (dgC (setT g 0) S (dgN (setT g 0) S 9) (ix ((setT g 0) 0 1))) i)), (3, .int (nI i))]) hC dX6_digest_93 (by decide) rfl ?_
              have L95 : ∀ k j : Nat, j + k = 11 → Jd p l e ({ frames := 3, cells := 273, slots := 2985, locals := 68 }) s m args below meth c (MQ below (CQ G (some (.long (digS (setT g 0) S))) (mk5 D E (setT g 0) S A) o) args s 273 2985 (gB G)) G 5 (9 + 11 * i + j) (81 + 121 * i + 11 * j) (mk5 D E (setT g 0) S A) o 95 [(0, .ref (aX G 2 0)), (1, .long (dgW1 S i (dgW S (dgC (setT g 0) S (dgN (setT g 0) S 9) (ix ((setT g 0) 0 1))) i) j)), (3, .int (nI i)), (4, .int (nI j))] [] := by
                intro k
                induction k with
                | zero =>
                  intro j hn 
                  obtain rfl : j = 11 := by omega
                  refine J_iload hC (j := 3) dX6_digest_95 rfl ?_
                  refine J_bipush (v := 11) hC dX6_digest_97 (by decide) ?_
                  refine J_icmp_ge (tgt := 123) hC dX6_digest_99 (by decide) (fun c99 => ?_) (fun c99 => absurd c99 (not_not_intro (le_nI (K := 11) rfl (by omega) (by omega))))
                  refine J_iinc (j := 2) (v := ((nI i) + 1)) (lv' := [(3, .int ((nI i) + 1)), (0, .ref (aX G 2 0)), (1, .long (dgW1 S i (dgW S (dgC (setT g 0) S (dgN (setT g 0) S 9) (ix ((setT g 0) 0 1))) i) 11)), (4, .int (nI 11))]) hC dX6_digest_123 rfl rfl (by decide) rfl ?_
                  refine J_goto (tgt := 84) hC dX6_digest_126 (by decide) ?_
                  refine J_lv [1, 2, 0] (lv' := [(0, .ref (aX G 2 0)), (1, .long (dgW1 S i (dgW S (dgC (setT g 0) S (dgN (setT g 0) S 9) (ix ((setT g 0) 0 1))) i) 11)), (3, .int ((nI i) + 1))]) rfl ?_
                  refine J_widen (k := (9 + 11 * (i + 1))) (n := (81 + 121 * (i + 1))) (by omega) (by omega) ?_
                  exact J_cast rfl (by rw [nI_succ, dgW_s]) rfl (ih (i + 1) (by omega) )
                | succ k ih95 =>
                  intro j hn 
                  refine J_iload hC (j := 3) dX6_digest_95 rfl ?_
                  refine J_bipush (v := 11) hC dX6_digest_97 (by decide) ?_
                  refine J_icmp_ge (tgt := 123) hC dX6_digest_99 (by decide) (fun c99 => absurd c99 (nle_nI (K := 11) rfl (by omega) (by omega))) (fun c99 => ?_)
                  refine J_lload_n hC (j := 1) dX6_digest_102 rfl rfl ?_
                  refine J_ldc2 (v := 31) hC qw_979 dX6_digest_103 ?_
                  refine J_lmul hC dX6_digest_106 ?_
                  refine J_aload_n hC (j := 0) dX6_digest_107 rfl rfl ?_
                  refine J_iload_n hC (j := 2) dX6_digest_108 rfl rfl ?_
                  refine J_iload hC (j := 3) dX6_digest_109 rfl ?_
                  refine J_callV hC (ct_X6_wheelTold l G D E (setT g 0) S A o (nI i) (nI j) (vp_nI (by omega)) (vp_nI (by omega))) mw_X6_wheelTold qw_858 nl_m0 ent_m0 rfl rfl rfl (Nat.le_of_ble_eq_true rfl) ⟨Nat.le_of_ble_eq_true rfl, Nat.le_of_ble_eq_true rfl⟩ ⟨(by show (9 + 11 * i + j) + 1 ≤ 273; omega), (by show (81 + 121 * i + 11 * j) + 11 ≤ 2985; omega)⟩ dX6_digest_111 ?_
                  refine J_i2l hC dX6_digest_114 ?_
                  refine J_ladd hC dX6_digest_115 ?_
                  refine J_lstore_n (lv' := [(1, .long (((dgW1 S i (dgW S (dgC (setT g 0) S (dgN (setT g 0) S 9) (ix ((setT g 0) 0 1))) i) j) * 31) + ((wTold S (nI i) (nI j))).toInt64)), (0, .ref (aX G 2 0)), (3, .int (nI i)), (4, .int (nI j))]) hC dX6_digest_116 rfl (by decide) rfl ?_
                  refine J_iinc (j := 3) (v := ((nI j) + 1)) (lv' := [(4, .int ((nI j) + 1)), (1, .long (((dgW1 S i (dgW S (dgC (setT g 0) S (dgN (setT g 0) S 9) (ix ((setT g 0) 0 1))) i) j) * 31) + ((wTold S (nI i) (nI j))).toInt64)), (0, .ref (aX G 2 0)), (3, .int (nI i))]) hC dX6_digest_117 rfl rfl (by decide) rfl ?_
                  refine J_goto (tgt := 95) hC dX6_digest_120 (by decide) ?_
                  refine J_lv [2, 1, 3, 0] (lv' := [(0, .ref (aX G 2 0)), (1, .long (((dgW1 S i (dgW S (dgC (setT g 0) S (dgN (setT g 0) S 9) (ix ((setT g 0) 0 1))) i) j) * 31) + ((wTold S (nI i) (nI j))).toInt64)), (3, .int (nI i)), (4, .int ((nI j) + 1))]) rfl ?_
                  refine J_widen (k := (9 + 11 * i + (j + 1))) (n := (81 + 121 * i + 11 * (j + 1))) (by omega) (by omega) ?_
                  exact J_cast rfl (by rw [nI_succ, dgW1_s]) rfl (ih95 (j + 1) (by omega) )
              refine J_lv [1, 2, 3, 0] (lv' := [(0, .ref (aX G 2 0)), (1, .long (dgW S (dgC (setT g 0) S (dgN (setT g 0) S 9) (ix ((setT g 0) 0 1))) i)), (3, .int (nI i)), (4, .int 0)]) rfl ?_
              refine J_widen (k := (9 + 11 * i + 0)) (n := (81 + 121 * i + 11 * 0)) (by omega) (by omega) ?_
              exact J_cast rfl (by rw [dgW1_0]; rfl) rfl (L95 11 0 (by omega) )
          refine J_lv [1, 2, 0] (lv' := [(0, .ref (aX G 2 0)), (1, .long (dgC (setT g 0) S (dgN (setT g 0) S 9) (ix ((setT g 0) 0 1)))), (3, .int 0)]) rfl ?_
          refine J_widen (k := (9 + 11 * 0)) (n := (81 + 121 * 0)) (by omega) (by omega) ?_
          exact J_cast rfl (by rw [dgW_0]; rfl) rfl (L84 (ix ((setT g 0) 0 4)) 0 (by omega) )
        | succ n ih =>
          intro i hn 
          refine J_iload_n hC (j := 2) dX6_digest_38 rfl rfl ?_
          refine J_aload_n hC (j := 0) dX6_digest_39 rfl rfl ?_
          refine J_get hC nl_m0 ent_m0 rfl in6 1 (by decide) rfl qw_731 rfl (r5 (x := ((setT g 0) 0 1)) rfl) dX6_digest_40 ?_
          refine J_icmp_ge (tgt := 82) hC dX6_digest_43 (by decide) (fun c43 => absurd c43 (nle_ix (by omega))) (fun c43 => ?_)
          refine J_iconst (v := 0) hC dX6_digest_46 (by decide) ?_
          refine J_istore (lv' := [(4, .int 0), (0, .ref (aX G 2 0)), (1, .long (dgC (setT g 0) S (dgN (setT g 0) S 9) i)), (3, .int (nI i))]) hC dX6_digest_47 (by decide) rfl ?_
          have L49 : ∀ k j : Nat, j + k = 4 → Jd p l e ({ frames := 3, cells := 273, slots := 2985, locals := 68 }) s m args below meth c (MQ below (CQ G (some (.long (digS (setT g 0) S))) (mk5 D E (setT g 0) S A) o) args s 273 2985 (gB G)) G 5 9 81 (mk5 D E (setT g 0) S A) o 49 [(0, .ref (aX G 2 0)), (1, .long (dgC1 (setT g 0) S i (dgC (setT g 0) S (dgN (setT g 0) S 9) i) j)), (3, .int (nI i)), (4, .int (nI j))] [] := by
            intro k
            induction k with
            | zero =>
              intro j hn 
              obtain rfl : j = 4 := by omega
              refine J_iload hC (j := 3) dX6_digest_49 rfl ?_
              refine J_iconst (v := 4) hC dX6_digest_51 (by decide) ?_
              refine J_icmp_ge (tgt := 76) hC dX6_digest_52 (by decide) (fun c52 => ?_) (fun c52 => absurd c52 (not_not_intro (le_nI (K := 4) rfl (by omega) (by omega))))
              refine J_iinc (j := 2) (v := ((nI i) + 1)) (lv' := [(3, .int ((nI i) + 1)), (0, .ref (aX G 2 0)), (1, .long (dgC1 (setT g 0) S i (dgC (setT g 0) S (dgN (setT g 0) S 9) i) 4)), (4, .int (nI 4))]) hC dX6_digest_76 rfl rfl (by decide) rfl ?_
              refine J_goto (tgt := 38) hC dX6_digest_79 (by decide) ?_
              refine J_lv [1, 2, 0] (lv' := [(0, .ref (aX G 2 0)), (1, .long (dgC1 (setT g 0) S i (dgC (setT g 0) S (dgN (setT g 0) S 9) i) 4)), (3, .int ((nI i) + 1))]) rfl ?_
              refine J_widen (k := 9) (n := 81) (by omega) (by omega) ?_
              exact J_cast rfl (by rw [nI_succ, dgC_s]) rfl (ih (i + 1) (by omega) )
            | succ k ih49 =>
              intro j hn 
              refine J_iload hC (j := 3) dX6_digest_49 rfl ?_
              refine J_iconst (v := 4) hC dX6_digest_51 (by decide) ?_
              refine J_icmp_ge (tgt := 76) hC dX6_digest_52 (by decide) (fun c52 => absurd c52 (nle_nI (K := 4) rfl (by omega) (by omega))) (fun c52 => ?_)
              refine J_lload_n hC (j := 1) dX6_digest_55 rfl rfl ?_
              refine J_ldc2 (v := 31) hC qw_979 dX6_digest_56 ?_
              refine J_lmul hC dX6_digest_59 ?_
              refine J_aload_n hC (j := 0) dX6_digest_60 rfl rfl ?_
              refine J_iload_n hC (j := 2) dX6_digest_61 rfl rfl ?_
              refine J_iload hC (j := 3) dX6_digest_62 rfl ?_
              refine J_callV hC (ct_X6_cellarTold l G D E (setT g 0) S A o (nI i) (nI j) hS (vp_nI (by omega))) mw_X6_cellarTold qw_866 nl_m0 ent_m0 rfl rfl rfl (Nat.le_of_ble_eq_true rfl) ⟨Nat.le_of_ble_eq_true rfl, Nat.le_of_ble_eq_true rfl⟩ ⟨Nat.le_of_ble_eq_true rfl, Nat.le_of_ble_eq_true rfl⟩ dX6_digest_64 ?_
              refine J_i2l hC dX6_digest_67 ?_
              refine J_ladd hC dX6_digest_68 ?_
              refine J_lstore_n (lv' := [(1, .long (((dgC1 (setT g 0) S i (dgC (setT g 0) S (dgN (setT g 0) S 9) i) j) * 31) + ((cTold (setT g 0) S (nI i) (nI j))).toInt64)), (0, .ref (aX G 2 0)), (3, .int (nI i)), (4, .int (nI j))]) hC dX6_digest_69 rfl (by decide) rfl ?_
              refine J_iinc (j := 3) (v := ((nI j) + 1)) (lv' := [(4, .int ((nI j) + 1)), (1, .long (((dgC1 (setT g 0) S i (dgC (setT g 0) S (dgN (setT g 0) S 9) i) j) * 31) + ((cTold (setT g 0) S (nI i) (nI j))).toInt64)), (0, .ref (aX G 2 0)), (3, .int (nI i))]) hC dX6_digest_70 rfl rfl (by decide) rfl ?_
              refine J_goto (tgt := 49) hC dX6_digest_73 (by decide) ?_
              refine J_lv [2, 1, 3, 0] (lv' := [(0, .ref (aX G 2 0)), (1, .long (((dgC1 (setT g 0) S i (dgC (setT g 0) S (dgN (setT g 0) S 9) i) j) * 31) + ((cTold (setT g 0) S (nI i) (nI j))).toInt64)), (3, .int (nI i)), (4, .int ((nI j) + 1))]) rfl ?_
              refine J_widen (k := 9) (n := 81) (by omega) (by omega) ?_
              exact J_cast rfl (by rw [nI_succ, dgC1_s]) rfl (ih49 (j + 1) (by omega) )
          refine J_lv [1, 2, 3, 0] (lv' := [(0, .ref (aX G 2 0)), (1, .long (dgC (setT g 0) S (dgN (setT g 0) S 9) i)), (3, .int (nI i)), (4, .int 0)]) rfl ?_
          refine J_widen (k := 9) (n := 81) (by omega) (by omega) ?_
          exact J_cast rfl (by rw [dgC1_0]; rfl) rfl (L49 4 0 (by omega) )
      refine J_lv [1, 2, 0] (lv' := [(0, .ref (aX G 2 0)), (1, .long (dgN (setT g 0) S 9)), (3, .int 0)]) rfl ?_
      refine J_widen (k := 9) (n := 81) (by omega) (by omega) ?_
      exact J_cast rfl (by rw [dgC_0]; rfl) rfl (L38 (ix ((setT g 0) 0 1)) 0 (by omega) )
    | succ n ih =>
      intro i hn 
      refine J_iload_n hC (j := 2) dX6_digest_11 rfl rfl ?_
      refine J_bipush (v := 9) hC dX6_digest_12 (by decide) ?_
      refine J_icmp_ge (tgt := 36) hC dX6_digest_14 (by decide) (fun c14 => absurd c14 (nle_nI (K := 9) rfl (by omega) (by omega))) (fun c14 => ?_)
      refine J_lload_n hC (j := 1) dX6_digest_17 rfl rfl ?_
      refine J_ldc2 (v := 31) hC qw_979 dX6_digest_18 ?_
      refine J_lmul hC dX6_digest_21 ?_
      refine J_aload_n hC (j := 0) dX6_digest_22 rfl rfl ?_
      refine J_iload_n hC (j := 2) dX6_digest_23 rfl rfl ?_
      refine J_callV hC (ct_X6_counted l G D E (setT g 0) S A o (nI i) hg (vp_nI (by omega))) mw_X6_counted qw_886 nl_m0 ent_m0 rfl rfl rfl (Nat.le_of_ble_eq_true rfl) ⟨Nat.le_of_ble_eq_true rfl, Nat.le_of_ble_eq_true rfl⟩ ⟨(by show (i) + 1 ≤ 273; omega), (by show (9 * i) + 9 ≤ 2985; omega)⟩ dX6_digest_24 ?_
      refine J_i2l hC dX6_digest_27 ?_
      refine J_ladd hC dX6_digest_28 ?_
      refine J_lstore_n (lv' := [(1, .long (((dgN (setT g 0) S i) * 31) + ((nTold (setT g 0) S (nI i))).toInt64)), (0, .ref (aX G 2 0)), (3, .int (nI i))]) hC dX6_digest_29 rfl (by decide) rfl ?_
      refine J_iinc (j := 2) (v := ((nI i) + 1)) (lv' := [(3, .int ((nI i) + 1)), (1, .long (((dgN (setT g 0) S i) * 31) + ((nTold (setT g 0) S (nI i))).toInt64)), (0, .ref (aX G 2 0))]) hC dX6_digest_30 rfl rfl (by decide) rfl ?_
      refine J_goto (tgt := 11) hC dX6_digest_33 (by decide) ?_
      refine J_lv [2, 1, 0] (lv' := [(0, .ref (aX G 2 0)), (1, .long (((dgN (setT g 0) S i) * 31) + ((nTold (setT g 0) S (nI i))).toInt64)), (3, .int ((nI i) + 1))]) rfl ?_
      refine J_widen (k := ((i + 1))) (n := (9 * (i + 1))) (by omega) (by omega) ?_
      exact J_cast rfl (by rw [nI_succ, dgN_s]) rfl (ih (i + 1) (by omega) )
  refine J_lv [2, 1, 0] (lv' := [(0, .ref (aX G 2 0)), (1, .long 937), (3, .int 0)]) rfl ?_
  refine J_widen (k := (0)) (n := (9 * 0)) (by omega) (by omega) ?_
  exact J_cast rfl (by rw [dgN_0]; rfl) rfl (L11 9 0 (by omega) )
