set_option maxHeartbeats 8000000 in
set_option maxRecDepth 100000 in
/-- from the entry, for every script of at most 2048 ints, the law comes to its end with true -/
theorem whole_start {p : Program} {e : Env} {s : State} {m : MethodId} {below : List Frame} {meth : Method} {c : Code} (l : Launch) (hflags : l.flags = flags0) {b L : Nat} {xs : Nat → Int32} (hL : L ≤ 2048) (C0 : lw_At p s m meth c b L xs) : W p l e room_1 s m #[Value.ref b] below meth c s.heap [] 0 0 (lw_Z below #[Value.ref b] s) (entryFrame m ([Value.ref b] : List Value).toArray 9) := by
  obtain ⟨hx, hb, hr, hml, hown, hts, hX, hbl, hlocks, hgv⟩ := id C0
  obtain ⟨Dg, tc, hKK⟩ := kk_known hts
  have hlt : l.stackTraces = false := by unfold Launch.stackTraces; rw [hflags]; decide
  have hC : KC p s m #[Value.ref b] meth c code 9 "CheeseRotaLaw" Dg tc (fun q => s.heap.size ≤ q) := ⟨hx, hb, hml, hown, fun w hw => hts w (lw_all_tbl hw), hlocks, hKK, fun q h => h⟩
  have hl := lv_entry ([.ref b]) (n := 9) (Nat.le_of_ble_eq_true rfl)
  rw [lg_entry_eq]
  generalize (lg_sl ([.ref b]) ++ List.replicate (9 - (lg_sl ([.ref b])).length) Slot.unset).toArray = ls at hl ⊢
  have hl : lv_has ls 9 [(0, .ref b)] := hl
  have start : Kd p l e room_1 s m #[Value.ref b] below meth c (lw_Z below #[Value.ref b] s) Dg (fun q => s.heap.size ≤ q) 9 0 0 [] 0 [(0, .ref b)] [] := by
    refine K_new (ci := 4) (N := 2) (fs := [.null, .null]) hC rfl in4 tyX4_ok qw_43 qw_44 qw_28 (fun j hj => by rcases (show j = 0 ∨ j = 1 by omega) with rfl | rfl <;> rfl) ⟨Nat.le_of_ble_eq_true rfl, Nat.le_of_ble_eq_true rfl⟩ dL_law_0 (fun x0 => ?_)
    refine K_dup hC dL_law_3 rfl ?_
    refine K_callI (As := []) (rw_ := []) hC (kt_rota l Dg tc x0) rfl qw_47 qw_28 qw_46 qw_45 rfl (n := 0) (by decide +kernel) rfl rfl (Nat.le_of_ble_eq_true rfl) ⟨Nat.le_of_ble_eq_true rfl, Nat.le_of_ble_eq_true rfl⟩ ⟨Nat.le_of_ble_eq_true rfl, Nat.le_of_ble_eq_true rfl⟩ dL_law_4 (fun w hw => ?_)
    obtain ⟨a1, a2, rfl⟩ := hw
    refine K_astore_n (lv' := [(1, .ref x0), (0, .ref b)]) hC dL_law_7 rfl (by decide) rfl ?_
    refine K_new (ci := 6) (N := 12) (fs := [.int 0, .int 0, .null, .null, .int 0, .int 0, .null, .null, .null, .int 0, .null, .null]) hC rfl in6 tyX6_ok qw_659 qw_660 qw_33 (fun j hj => by rcases (show j = 0 ∨ j = 1 ∨ j = 2 ∨ j = 3 ∨ j = 4 ∨ j = 5 ∨ j = 6 ∨ j = 7 ∨ j = 8 ∨ j = 9 ∨ j = 10 ∨ j = 11 by omega) with rfl | rfl | rfl | rfl | rfl | rfl | rfl | rfl | rfl | rfl | rfl | rfl <;> rfl) ⟨Nat.le_of_ble_eq_true rfl, Nat.le_of_ble_eq_true rfl⟩ dL_law_8 (fun x1 => ?_)
    refine K_dup hC dL_law_11 rfl ?_
    refine K_callI (As := []) (rw_ := [] ++ (([(x0, .inr (4, [.ref (a1 40), .ref (a2 40)]))] ++ dyW tc a1) ++ dyW tc a2)) hC (kt_model l Dg tc x1) rfl qw_663 qw_33 qw_662 qw_661 rfl (n := 0) (by decide +kernel) rfl rfl (Nat.le_of_ble_eq_true rfl) ⟨Nat.le_of_ble_eq_true rfl, Nat.le_of_ble_eq_true rfl⟩ ⟨Nat.le_of_ble_eq_true rfl, Nat.le_of_ble_eq_true rfl⟩ dL_law_12 (fun w hw => ?_)
    obtain ⟨b0, a3, a4, rfl, rfl⟩ := hw
    refine K_astore_n (lv' := [(2, .ref (b0 0)), (1, .ref x0), (0, .ref b)]) hC dL_law_15 rfl (by decide) rfl ?_
    refine K_iconst (v := 1) hC dL_law_16 (by decide) ?_
    refine K_newal hC qw_980 (by decide) (N := 1) rfl (by decide) ⟨Nat.le_of_ble_eq_true rfl, Nat.le_of_ble_eq_true rfl⟩ dL_law_17 (fun q => ?_)
    refine K_astore_n (lv' := [(3, .ref q), (2, .ref (b0 0)), (1, .ref x0), (0, .ref b)]) hC dL_law_19 rfl (by decide) rfl ?_
    refine K_iconst (v := nI (4 * 0)) hC dL_law_20 (by decide) ?_
    refine K_istore (lv' := [(4, .int (nI (4 * 0))), (3, .ref q), (2, .ref (b0 0)), (1, .ref x0), (0, .ref b)]) hC dL_law_21 (by decide) rfl ?_
    refine K_widen (k := 124 + 280 * 0) (n := 1425 + 3000 * 0) (by decide) (by decide) ?_
    intro H locs ls hP hD hS hl
    obtain ⟨tP, tD⟩ := sys_to (Dg := Dg) (A := fun q => s.heap.size ≤ q) (W := _) (x := x0) (q := q) (a1 := a1) (a2 := a2) (b0 := b0) (a3 := a3) (a4 := a4) (tc := tc) rfl
    have hP' := tP H hP
    have hD' := tD _ hD
    have hGI : GI (Dg, tc, adS x0 q a1 a2 b0 a3 a4, fun q => s.heap.size ≤ q) := ⟨fun n hn => hD'.2 n _ (sys0_get hn), fun n k hn hk e => hD'.1 n k _ _ (sys0_get hn) (sys0_get hk) e⟩
    have hcls : ∃ cC, s.vm.findClass "CheeseRota" = some cC := ⟨_, (hKK.1.1 4 _ rfl).2.1⟩
    obtain ⟨cC, hcC⟩ := hcls
    have hstr : ∀ q ∈ strsG, ∃ a, vk_R q.1 q.2.1 q.2.2 a s := fun q hq => by
      have h1 := hts _ (str_in q hq)
      obtain ⟨-, -, -, sa, -, -, -, -, -, hev⟩ := Cond.stringRef_spec (by rw [str_cls q hq]; exact hcC) h1
      exact ⟨sa, vk_R.of h1 hev⟩
    have hA : ∀ a : Nat, a < s.heap.size → ¬ (fun q => s.heap.size ≤ q) a := fun a ha h => Nat.not_le.mpr ha h
    have hJC : JC p s m #[Value.ref b] meth c code 9 "CheeseRotaLaw" (Dg, tc, adS x0 q a1 a2 b0 a3 a4, fun q => s.heap.size ≤ q) := ⟨hx, hb, hml, hown, fun w hw => hts w (lw_all_tbl hw), hlocks, ⟨hKK.1, hGI, hstr, hKK.2.1⟩, fun q h => h,
      vx_Zqof (hts _ ls_in1) (hts _ ini_thr) (flat_of_before _ hgv (Cond.isRef (.static "java/lang/Throwable" "UNASSIGNED_STACK" "[Ljava/lang/StackTraceElement;")) (by decide +kernel)) hA,
      vx_Zqof (hts _ ls_in2) (hts _ ini_thr) (flat_of_before _ hgv (Cond.isRef (.static "java/lang/Throwable" "SUPPRESSED_SENTINEL" "Ljava/util/List;")) (by decide +kernel)) hA⟩
    have hNC : NCs s := fun q hq => by
      simp only [ncP, List.mem_cons, List.not_mem_nil, or_false] at hq
      rcases hq with rfl | rfl | rfl | rfl
      · exact va_Nc.of (flat_of_before _ hgv (Cond.not (.castable "java/lang/IllegalStateException" "java/lang/IllegalArgumentException")) (by decide +kernel))
      · exact va_Nc.of (flat_of_before _ hgv (Cond.not (.castable "java/lang/IllegalArgumentException" "java/lang/IndexOutOfBoundsException")) (by decide +kernel))
      · exact va_Nc.of (flat_of_before _ hgv (Cond.not (.castable "java/lang/IllegalStateException" "java/lang/IndexOutOfBoundsException")) (by decide +kernel))
      · exact va_Nc.of (flat_of_before _ hgv (Cond.not (.castable "java/lang/IndexOutOfBoundsException" "java/lang/IllegalArgumentException")) (by decide +kernel))
    exact law_loop (G := (Dg, tc, adS x0 q a1 a2 b0 a3 a4, fun q => s.heap.size ≤ q)) ⟨hJC, hNC, hlt, hX, hbl, fun h => Nat.not_le.mpr hbl h⟩ hr (fun q h => h) hL 512 0 rfl dy0 dy0 (fun _ _ => 0) S00 (fun _ _ => 0) 0 JJ_00 H locs ls ⟨by rw [sysW, List.append_nil]; exact hP', by rw [sysW, List.append_nil]; exact hD'⟩ hS hl
  exact start s.heap [] ls (fun k q h => by simp at h) ⟨fun i j p q h => by simp at h, fun k q h => by simp at h⟩ va_S.rf hl
