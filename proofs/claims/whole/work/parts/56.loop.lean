/-! THE LAW'S LOOP (loopgen.py) -/
theorem gt_iff {L t : Nat} (hL : L ≤ 2048) (ht : t ≤ 512) : nI L - 4 < nI (4 * t) ↔ L < 4 * t + 4 := by
  by_cases h : L < 4
  · rcases (show L = 0 ∨ L = 1 ∨ L = 2 ∨ L = 3 by omega) with rfl | rfl | rfl | rfl
    · rw [Int32.lt_iff_toInt_lt, nI_toInt (by omega), show (nI 0 - 4).toInt = -4 by decide]; omega
    · rw [Int32.lt_iff_toInt_lt, nI_toInt (by omega), show (nI 1 - 4).toInt = -3 by decide]; omega
    · rw [Int32.lt_iff_toInt_lt, nI_toInt (by omega), show (nI 2 - 4).toInt = -2 by decide]; omega
    · rw [Int32.lt_iff_toInt_lt, nI_toInt (by omega), show (nI 3 - 4).toInt = -1 by decide]; omega
  · obtain ⟨k, rfl⟩ : ∃ k, L = k + 4 := ⟨L - 4, by omega⟩
    have e : nI (k + 4) - 4 = nI k := by rw [← nI_k4, Int32.add_sub_cancel]
    rw [e, nI_lt_iff (by omega) (by omega)]; omega
set_option maxHeartbeats 4000000 in
set_option maxRecDepth 100000 in
theorem law_turn {p : Program} {l : Launch} {e : Env} {s : State} {m : MethodId} {below : List Frame} {meth : Method} {c : Code} {Q : State → Prop} {G : GG} {b L : Nat} {xs : Nat → Int32} (h0 : LC p l s m meth c G b L xs) (hL : L ≤ 2048) {t : Nat} (ht : 4 * t + 4 ≤ L) {D E g S A : DD} {z : Int64} (hJ : JJ (100 * t) D g S) (hK : LK p l e s m below meth c Q G b t (124 + 280 * t + 280) (1425 + 3000 * t + 3000)) : Jd p l e room_1 s m #[Value.ref b] below meth c Q G 9 (124 + 280 * t) (1425 + 3000 * t) (mk5 D E g S A) (z, []) 32 (lvL G b t) [] := by
  obtain ⟨hC, hN, hlt, hX, hbl, hbA⟩ := id h0
  obtain ⟨p0, hp0⟩ : ∃ x, xs (ix (nI (4 * t))) = x := ⟨_, rfl⟩
  refine J_aload_n hC (j := 4) dL_law_32 rfl rfl ?_
  refine J_iload hC (j := 0) dL_law_33 rfl ?_
  refine J_sld hC hX hbl hbA (vp_nI (by omega) (by omega)) hp0 dL_law_35 ?_
  refine J_bipush (v := 31) hC dL_law_36 (by decide) ?_
  refine J_iand hC dL_law_38 ?_
  generalize p0 &&& 31 = w
  by_cases h1 : w = 0
  · subst h1
    refine J_tableIn (off := 89) (tgt := 128) hC dL_law_39 (by decide) (by decide) (by decide) (by decide) ?_
    exact law_build h0 hL ht hJ hK
  by_cases h2 : w = 1
  · subst h2
    refine J_tableIn (off := 157) (tgt := 196) hC dL_law_39 (by decide) (by decide) (by decide) (by decide) ?_
    exact law_air h0 hL ht hJ hK
  by_cases h3 : w = 2
  · subst h3
    refine J_tableIn (off := 237) (tgt := 276) hC dL_law_39 (by decide) (by decide) (by decide) (by decide) ?_
    exact law_make h0 hL ht hJ hK
  by_cases h4 : w = 3
  · subst h4
    refine J_tableIn (off := 305) (tgt := 344) hC dL_law_39 (by decide) (by decide) (by decide) (by decide) ?_
    exact law_carry h0 hL ht hJ hK
  by_cases h5 : w = 4
  · subst h5
    refine J_tableIn (off := 385) (tgt := 424) hC dL_law_39 (by decide) (by decide) (by decide) (by decide) ?_
    exact law_infect h0 hL ht hJ hK
  by_cases h6 : w = 5
  · subst h6
    refine J_tableIn (off := 453) (tgt := 492) hC dL_law_39 (by decide) (by decide) (by decide) (by decide) ?_
    exact law_sell h0 hL ht hJ hK
  by_cases h7 : w = 6
  · subst h7
    refine J_tableIn (off := 509) (tgt := 548) hC dL_law_39 (by decide) (by decide) (by decide) (by decide) ?_
    exact law_hire h0 hL ht hJ hK
  by_cases h8 : w = 7
  · subst h8
    refine J_tableIn (off := 577) (tgt := 616) hC dL_law_39 (by decide) (by decide) (by decide) (by decide) ?_
    exact law_setRota h0 hL ht hJ hK
  by_cases h9 : w = 8
  · subst h9
    refine J_tableIn (off := 657) (tgt := 696) hC dL_law_39 (by decide) (by decide) (by decide) (by decide) ?_
    exact law_wheel h0 hL ht hJ hK
  by_cases h10 : w = 9
  · subst h10
    refine J_tableIn (off := 725) (tgt := 764) hC dL_law_39 (by decide) (by decide) (by decide) (by decide) ?_
    exact law_cellar h0 hL ht hJ hK
  by_cases h11 : w = 10
  · subst h11
    refine J_tableIn (off := 793) (tgt := 832) hC dL_law_39 (by decide) (by decide) (by decide) (by decide) ?_
    exact law_at h0 hL ht hJ hK
  by_cases h12 : w = 11
  · subst h12
    refine J_tableIn (off := 861) (tgt := 900) hC dL_law_39 (by decide) (by decide) (by decide) (by decide) ?_
    exact law_monk h0 hL ht hJ hK
  by_cases h13 : w = 12
  · subst h13
    refine J_tableIn (off := 929) (tgt := 968) hC dL_law_39 (by decide) (by decide) (by decide) (by decide) ?_
    exact law_count h0 hL ht hJ hK
  by_cases h14 : w = 13
  · subst h14
    refine J_tableIn (off := 985) (tgt := 1024) hC dL_law_39 (by decide) (by decide) (by decide) (by decide) ?_
    exact law_pass h0 hL ht hJ hK
  by_cases h15 : w = 14
  · subst h15
    refine J_tableIn (off := 1041) (tgt := 1080) hC dL_law_39 (by decide) (by decide) (by decide) (by decide) ?_
    exact law_best h0 hL ht hJ hK
  by_cases h16 : w = 15
  · subst h16
    refine J_tableIn (off := 1097) (tgt := 1136) hC dL_law_39 (by decide) (by decide) (by decide) (by decide) ?_
    exact law_foresee h0 hL ht hJ hK
  by_cases h17 : w = 16
  · subst h17
    refine J_tableIn (off := 1165) (tgt := 1204) hC dL_law_39 (by decide) (by decide) (by decide) (by decide) ?_
    exact law_advise h0 hL ht hJ hK
  by_cases h18 : w = 17
  · subst h18
    refine J_tableIn (off := 1233) (tgt := 1272) hC dL_law_39 (by decide) (by decide) (by decide) (by decide) ?_
    exact law_mean h0 hL ht hJ hK
  by_cases h19 : w = 18
  · subst h19
    refine J_tableIn (off := 1274) (tgt := 1313) hC dL_law_39 (by decide) (by decide) (by decide) (by decide) ?_
    exact law_digest h0 hL ht hJ hK
  refine J_tableOut (tgt := 1327) hC dL_law_39 (sw19 h1 h2 h3 h4 h5 h6 h7 h8 h9 h10 h11 h12 h13 h14 h15 h16 h17 h18 h19) (by decide) ?_
  refine J_widen (k := 124 + 280 * t + 280) (n := 1425 + 3000 * t + 3000) (by omega) (by omega) ?_
  exact hK D E g S A z (JJ_mono hJ (by omega))
set_option maxHeartbeats 4000000 in
set_option maxRecDepth 100000 in
theorem law_loop {p : Program} {l : Launch} {e : Env} {s : State} {m : MethodId} {below : List Frame} {meth : Method} {c : Code} {G : GG} {b L : Nat} {xs : Nat → Int32} (h0 : LC p l s m meth c G b L xs) (hr : meth.sig.returnType = ret) (hB : ∀ q, gB G q → s.heap.size ≤ q) (hL : L ≤ 2048) : ∀ n t : Nat, t + n = 512 → ∀ (D E g S A : DD) (z : Int64), JJ (100 * t) D g S →
    Jd p l e room_1 s m #[Value.ref b] below meth c (lw_Z below #[Value.ref b] s) G 9 (124 + 280 * t) (1425 + 3000 * t) (mk5 D E g S A) (z, []) 23 (lvL G b t) [] := by
  obtain ⟨hC, hN, hlt, hX, hbl, hbA⟩ := id h0
  intro n
  induction n with
  | zero =>
    intro t htn D E g S A z hJ
    refine J_iload hC (j := 0) dL_law_23 rfl ?_
    refine J_aload_n hC (j := 4) dL_law_25 rfl rfl ?_
    refine J_slen hC hX hbl hbA dL_law_26 ?_
    refine J_iconst (v := 4) hC dL_law_27 (by decide) ?_
    refine J_isub hC dL_law_28 ?_
    refine J_icmp_gt (tgt := 1333) hC dL_law_29 (by decide) (fun _ => ?_) (fun h => absurd ((gt_iff hL (by omega)).mpr (by omega)) h)
    refine J_iconst (v := 1) hC dL_law_1333 (by decide) ?_
    exact J_done hC hr hB (by omega) (by omega)
  | succ n ih =>
    intro t htn D E g S A z hJ
    refine J_iload hC (j := 0) dL_law_23 rfl ?_
    refine J_aload_n hC (j := 4) dL_law_25 rfl rfl ?_
    refine J_slen hC hX hbl hbA dL_law_26 ?_
    refine J_iconst (v := 4) hC dL_law_27 (by decide) ?_
    refine J_isub hC dL_law_28 ?_
    refine J_icmp_gt (tgt := 1333) hC dL_law_29 (by decide) (fun _ => ?_) (fun h => ?_)
    · refine J_iconst (v := 1) hC dL_law_1333 (by decide) ?_
      exact J_done hC hr hB (by omega) (by omega)
    · have ht : 4 * t + 4 ≤ L := Nat.not_lt.mp fun q => h ((gt_iff hL (by omega)).mpr q)
      refine law_turn h0 hL ht hJ (fun D' E' g' S' A' z' hJ' => ?_)
      refine J_iinc (j := 0) (v := nI (4 * (t + 1))) (lv' := lvL G b (t + 1)) hC dL_law_1327 rfl (nI_k4 _) (by decide) rfl ?_
      refine J_goto (tgt := 23) hC dL_law_1330 (by decide) ?_
      exact ih (t + 1) (by omega) D' E' g' S' A' z' hJ'
