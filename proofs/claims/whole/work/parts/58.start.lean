/-! THE LAW'S BEGINNING: what the tables give, the two sides made, the loop's first turn -/
theorem qw_46 : Cond.instanceMethod yX4_init ∈ lw_all := lw_all_in (i := 46) (by decide +kernel) (by decide +kernel)
theorem qw_662 : Cond.instanceMethod yX6_init ∈ lw_all := lw_all_in (i := 662) (by decide +kernel) (by decide +kernel)
theorem nest_tab {w : Cond} (h : nestGood w = true) : w.onTables = true := by
  cases w <;> first | rfl | exact absurd h (by simp [nestGood])
theorem arr_known {args : Array Value} {s : State} {ty : FieldType} (h : (Cond.arrayClass ty).before args s = true) : ∃ cA, ArrOfT s cA ty ∧ s.vm.findClass ("[" ++ ty.toString) = some cA := by
  obtain ⟨cA, kA, comp, hfind, hk, hkind⟩ := Cond.arrayClass_spec h
  exact ⟨cA, fun n z => ⟨(fun k h => by cases h), kA, hk, comp, hkind⟩, hfind⟩
theorem over_known {C : String} {s : State} (h : va_AO C s) : ∃ cA, ArrOfT s cA (.object C) ∧ va_RA s cA (.object C) := by
  obtain ⟨comp, c, k, h1, h2, h3, h4, h5⟩ := Cond.arrayOver_spec h
  exact ⟨c, fun N z => ⟨(fun k h => by cases h), k, h3, comp, h4⟩, k, comp, h3, h4, h1, h5⟩
theorem kk_known {args : Array Value} {s : State} (hts : ∀ w ∈ lw_tbl, w.before args s = true) : ∃ (Dg : va_G) (tc : Nat → ClassId), KK Dg tc s := by
  obtain ⟨c0, i0, k0⟩ := u_known (C := RX0) (T := TX0) (N := 3) (n := 3) hts (fun w hw => lw_all_tbl (in0 w hw)) (hts _ (lw_all_tbl qw_63))
  obtain ⟨c1, i1, k1⟩ := u_known (C := RX1) (T := TX1) (N := 8) (n := 8) hts (fun w hw => lw_all_tbl (in1 w hw)) (hts _ (lw_all_tbl qw_52))
  obtain ⟨c2, i2, k2⟩ := u_known (C := RX2) (T := TX2) (N := 5) (n := 5) hts (fun w hw => lw_all_tbl (in2 w hw)) (hts _ (lw_all_tbl qw_127))
  obtain ⟨c3, i3, k3⟩ := u_known (C := RX3) (T := TX3) (N := 10) (n := 10) hts (fun w hw => lw_all_tbl (in3 w hw)) (hts _ (lw_all_tbl qw_83))
  obtain ⟨c4, i4, k4⟩ := u_known (C := RX4) (T := TX4) (N := 2) (n := 2) hts (fun w hw => lw_all_tbl (in4 w hw)) (hts _ (lw_all_tbl qw_44))
  obtain ⟨c5, i5, k5⟩ := u_known (C := RX5) (T := TX5) (N := 15) (n := 15) hts (fun w hw => lw_all_tbl (in5 w hw)) (hts _ (lw_all_tbl qw_666))
  obtain ⟨c6, i6, k6⟩ := u_known (C := RX6) (T := TX6) (N := 12) (n := 12) hts (fun w hw => lw_all_tbl (in6 w hw)) (hts _ (lw_all_tbl qw_660))
  have hao : ∀ C ∈ aoS, va_AO C s := fun C hC => va_AO.of (hts _ (ao_in C hC))
  obtain ⟨t0, r0, f0⟩ := arr_known (ty := .int) (hts _ (lw_all_tbl qw_82))
  obtain ⟨t1, r1, f1⟩ := over_known (hao "CheeseRota$Cellar" (by decide))
  obtain ⟨t2, r2, f2⟩ := over_known (hao "CheeseRota$Wheel" (by decide))
  obtain ⟨t3, r3, f3⟩ := over_known (hao "CheeseRota$Monk" (by decide))
  obtain ⟨t4, r4, f4⟩ := arr_known (ty := .long) (hts _ (lw_all_tbl qw_980))
  refine ⟨(fun k => match k with | 0 => c0 | 1 => c1 | 2 => c2 | 3 => c3 | 4 => c4 | 5 => c5 | _ => c6, fun k => match k with | 0 => i0 | 1 => i1 | 2 => i2 | 3 => i3 | 4 => i4 | 5 => i5 | _ => i6), (fun k => match k with | 0 => t0 | 1 => t1 | 2 => t2 | 3 => t3 | _ => t4), ⟨fun k q hq => ?_, fun k q hq => ?_⟩, fun w hw => va_Nw.of (nest_tab (List.mem_filter.mp hw).2) (hts w (List.mem_filter.mp hw).1), hao⟩
  · match k, hq with
    | 0, hq => cases hq; exact k0
    | 1, hq => cases hq; exact k1
    | 2, hq => cases hq; exact k2
    | 3, hq => cases hq; exact k3
    | 4, hq => cases hq; exact k4
    | 5, hq => cases hq; exact k5
    | 6, hq => cases hq; exact k6
    | n + 7, hq => exact absurd hq (by simp [vwCl])
  · match k, hq with
    | 0, hq => cases hq; exact ⟨r0, f0⟩
    | 1, hq => cases hq; exact ⟨r1, f1⟩
    | 2, hq => cases hq; exact ⟨r2, f2⟩
    | 3, hq => cases hq; exact ⟨r3, f3⟩
    | 4, hq => cases hq; exact ⟨r4, f4⟩
    | n + 5, hq => exact absurd hq (by simp)
-- what both sides hold at first
def dy0 : DD := fun k => if k < 24 then wh0 else if k < 28 then (fun _ => 0) else if k < 32 then bd0 else if k < 36 then mk0 else (fun _ => 0)
def S00 : DD := fun r => if r = 1 then bd40 else (fun _ => 0)
abbrev X00 : XX := mk5 dy0 dy0 (fun _ _ => 0) S00 (fun _ _ => 0)
theorem JJ_00 : JJ (100 * 0) dy0 (fun _ _ => 0) S00 := by
  refine ⟨⟨0, 0, 0, ⟨⟨⟨by omega, by omega, by omega⟩, ⟨rfl, rfl, rfl⟩, rfl, rfl, rfl⟩, rfl, rfl, fun c h => absurd h (by omega), fun c h => absurd h (by omega), fun c h => absurd h (by omega), fun c p h => absurd h (by omega)⟩, fun c _ hc p hp => ?_, fun i _ hi => ?_, fun m _ hm => ?_⟩, ⟨fun w hw => ?_, fun q hq => Or.inl ?_, fun m hm => ⟨?_, ?_⟩⟩, fun m hm => ?_, fun q hq => ⟨0, by omega, rfl⟩, 0, by omega, rfl⟩
  · refine ⟨?_, ?_⟩
    · show dy0 (28 + c) p = -1
      simp only [dy0, show ¬ 28 + c < 24 by omega, show ¬ 28 + c < 28 by omega, show 28 + c < 32 by omega, if_true, if_false, brD, hp]
    · show brD 40 40 (10 * c + p) = -1
      simp only [brD, show 10 * c + p < 40 by omega, if_true]
  · have e : dy0 i = wh0 := by simp only [dy0, hi, if_true]
    rw [e]
    exact ⟨⟨rfl, rfl, rfl, rfl, rfl, rfl, rfl, rfl⟩, rfl, rfl, rfl, rfl, rfl, rfl⟩
  · have e1 : dy0 (32 + m) = mk0 := by simp only [dy0, show ¬ 32 + m < 24 by omega, show ¬ 32 + m < 28 by omega, show ¬ 32 + m < 32 by omega, show 32 + m < 36 by omega, if_true, if_false]
    have e2 : dy0 (36 + m) = fun _ => 0 := by simp only [dy0, show ¬ 36 + m < 24 by omega, show ¬ 36 + m < 28 by omega, show ¬ 36 + m < 32 by omega, show ¬ 36 + m < 36 by omega, if_false]
    rw [e1, e2]
    exact ⟨rfl, rfl, rfl, fun k hk => ⟨rfl, rfl⟩⟩
  · show vp_in 0 40; exact vp_nI (i := 0) (by omega)
  · show brD 40 40 q = -1
    simp only [brD, hq, if_true]
  · show ¬ (0 : Int32) < -1; decide
  · show ¬ (9 : Int32) < 0; decide
  · show vp_in 0 4; exact vp_nI (i := 0) (by omega)
-- a dairy as it was made, as the system has it
theorem dyW_at {tc : Nat → ClassId} {a : Nat → Nat} {k : Nat} (h : k < 44) : (dyW tc a)[k]? = some (a k, dyE tc a k) := by
  rw [dyW, List.getElem?_map, List.getElem?_range h]; rfl
theorem dy_ent {Dg : va_G} {G : GG} {X : XX} {o : Int64} {d k : Nat} {a : Nat → Nat} {H : Heap} (hd : d < 2) (hk : k < 44) (ha : ∀ j, j < 44 → aX G d j = a j) (hX : X d = dy0) (h : va_at Dg vwCl (a k, dyE G.2.1 a k) H) : va_at Dg vwCl (aX G d k, ent G X o (cn d k)) H := by
  rw [ha k hk]
  by_cases c1 : k < 24
  · rw [ent_wh hd c1, hX]
    simp only [dyE, c1, if_true] at h
    simp only [dy0, c1, if_true]; exact h
  by_cases c2 : k < 28
  · obtain ⟨i, rfl⟩ : ∃ i, k = 24 + i := ⟨k - 24, by omega⟩
    rw [ent_ce hd (by omega), hX, ha (28 + i) (by omega)]
    simp only [dyE, c1, c2, if_true, if_false] at h
    rw [show 24 + i + 4 = 28 + i by omega] at h
    simp only [dy0, c1, c2, if_true, if_false]; exact h
  by_cases c3 : k < 32
  · obtain ⟨i, rfl⟩ : ∃ i, k = 28 + i := ⟨k - 28, by omega⟩
    rw [ent_bo hd (by omega), hX]
    simp only [dyE, c1, c2, c3, if_true, if_false] at h
    simp only [dy0, c1, c2, c3, if_true, if_false]; exact h
  by_cases c4 : k < 36
  · obtain ⟨i, rfl⟩ : ∃ i, k = 32 + i := ⟨k - 32, by omega⟩
    rw [ent_mk hd (by omega), hX, ha (36 + i) (by omega)]
    simp only [dyE, c1, c2, c3, c4, if_true, if_false] at h
    rw [show 32 + i + 4 = 36 + i by omega] at h
    simp only [dy0, c1, c2, c3, c4, if_true, if_false]; exact h
  by_cases c5 : k < 40
  · obtain ⟨i, rfl⟩ : ∃ i, k = 36 + i := ⟨k - 36, by omega⟩
    rw [ent_ro hd (by omega), hX]
    simp only [dyE, c1, c2, c3, c4, c5, if_true, if_false] at h
    simp only [dy0, c1, c2, c3, c4, if_true, if_false]; exact h
  rcases (show k = 40 ∨ k = 41 ∨ k = 42 ∨ k = 43 by omega) with rfl | rfl | rfl | rfl
  · rw [ent_da hd, hX, ha 41 (by omega), ha 42 (by omega), ha 43 (by omega)]; exact h
  · rw [ent_ca hd]
    exact va_at_q (f := fun j => some (a (24 + j))) (fun j hj => by rw [ha _ (by omega)]) h
  · rw [ent_wa hd]
    exact va_at_q (f := fun j => some (a j)) (fun j hj => by rw [ha _ (by omega)]) h
  · rw [ent_ma hd]
    exact va_at_q (f := fun j => some (a (32 + j))) (fun j hj => by rw [ha _ (by omega)]) h
/-- where all cells lie -/
def adS (x q : Nat) (a1 a2 b0 a3 a4 : Nat → Nat) : Nat → Nat := fun n => if n < 44 then a1 n else if n < 88 then a2 (n - 44) else if n = 88 then x else if n < 95 then b0 (n - 89) else if n < 109 then a3 (n - 95) else if n < 123 then a4 (n - 109) else q
def ordS (n : Nat) : Nat := if n < 88 then 1 + n else if n = 88 then 0 else n
theorem sys_to {Dg : va_G} {tc : Nat → ClassId} {x q : Nat} {a1 a2 b0 a3 a4 : Nat → Nat} {A : Nat → Prop} {W : va_W} (hW : W = (((([(x, .inr (4, [.ref (a1 40), .ref (a2 40)]))] : va_W) ++ dyW tc a1) ++ dyW tc a2) ++ ((moW tc b0 (a3 0) (a4 0) ++ stW tc a3 (b0 0) bd40) ++ stW tc a4 (b0 0) (fun _ => 0))) ++ [(q, .inl (tc 4, 1, .inr (.inl (fun _ => 0))))]) :
    (∀ H, va_P Dg vwCl W H → va_P Dg vwCl (sys0 (Dg, tc, adS x q a1 a2 b0 a3 a4, A) X00 0) H) ∧ ∀ B, va_D B W → va_D B (sys0 (Dg, tc, adS x q a1 a2 b0 a3 a4, A) X00 0) := by
  have ld : ∀ a : Nat → Nat, (dyW tc a).length = 44 := fun a => by simp [dyW]
  have l1 : ((([(x, .inr (4, [.ref (a1 40), .ref (a2 40)]))] : va_W) ++ dyW tc a1) ++ dyW tc a2).length = 89 := by
    rw [List.length_append, List.length_append, ld, ld]; rfl
  have z0 : ∀ k, k < 44 → W[1 + k]? = some (a1 k, dyE tc a1 k) := fun k hk => by
    rw [hW, List.getElem?_append_left (by rw [List.length_append, l1]; omega), List.getElem?_append_left (by rw [l1]; omega), List.getElem?_append_left (by rw [List.length_append, ld]; show 1 + k < 1 + 44; omega), show 1 + k = ([(x, .inr (4, [.ref (a1 40), .ref (a2 40)]))] : va_W).length + k from rfl, app_r]
    exact dyW_at hk
  have z1 : ∀ k, k < 44 → W[45 + k]? = some (a2 k, dyE tc a2 k) := fun k hk => by
    rw [hW, List.getElem?_append_left (by rw [List.length_append, l1]; omega), List.getElem?_append_left (by rw [l1]; omega), show 45 + k = (([(x, .inr (4, [.ref (a1 40), .ref (a2 40)]))] : va_W) ++ dyW tc a1).length + k by rw [List.length_append, ld]; rfl, app_r]
    exact dyW_at hk
  have z2 : ∀ k, k < 34 → W[89 + k]? = ((moW tc b0 (a3 0) (a4 0) ++ stW tc a3 (b0 0) bd40) ++ stW tc a4 (b0 0) (fun _ => 0))[k]? := fun k hk => by
    rw [hW, List.getElem?_append_left (by rw [List.length_append, l1]; show 89 + k < 89 + 34; omega), ← l1, app_r]
  have z3 : W[123]? = some (q, .inl (tc 4, 1, .inr (.inl (fun _ => 0)))) := by
    rw [hW, show 123 = ((((([(x, .inr (4, [.ref (a1 40), .ref (a2 40)]))] : va_W) ++ dyW tc a1) ++ dyW tc a2) ++ ((moW tc b0 (a3 0) (a4 0) ++ stW tc a3 (b0 0) bd40) ++ stW tc a4 (b0 0) (fun _ => 0))) : va_W).length + 0 by rw [List.length_append, l1]; rfl, app_r]
    rfl
  refine w_by ordS (fun k hk => ?_) (fun i j hi hj e => ?_)
  · by_cases c1 : k < 44
    · refine ⟨dyE tc a1 k, ?_, fun H h => ?_⟩
      · simp only [ordS, show k < 88 by omega, if_true]
        rw [z0 k c1]
        simp only [gA, adS, c1, if_true]
      · exact dy_ent (d := 0) (G := (Dg, tc, adS x q a1 a2 b0 a3 a4, A)) (by omega) c1 (a := a1) (fun j hj => by
          show adS x q a1 a2 b0 a3 a4 j = a1 j
          simp only [adS, hj, if_true]) rfl (by
          have e : gA (Dg, tc, adS x q a1 a2 b0 a3 a4, A) k = a1 k := by simp only [gA, adS, c1, if_true]
          rw [e] at h; exact h)
    by_cases c2 : k < 88
    · obtain ⟨i, rfl⟩ : ∃ i, k = 44 + i := ⟨k - 44, by omega⟩
      have e : gA (Dg, tc, adS x q a1 a2 b0 a3 a4, A) (44 + i) = a2 i := by
        simp only [gA, adS, c1, c2, if_true, if_false]; congr 1; omega
      refine ⟨dyE tc a2 i, ?_, fun H h => ?_⟩
      · simp only [ordS, c2, if_true]
        rw [show 1 + (44 + i) = 45 + i by omega, z1 i (by omega), e]
      · rw [e] at h
        exact dy_ent (d := 1) (G := (Dg, tc, adS x q a1 a2 b0 a3 a4, A)) (by omega) (show i < 44 by omega) (a := a2) (fun j hj => by
          show adS x q a1 a2 b0 a3 a4 (44 + j) = a2 j
          simp only [adS, show ¬ 44 + j < 44 by omega, show 44 + j < 88 by omega, if_true, if_false]; congr 1; omega) rfl h
    by_cases c3 : k = 88
    · subst c3
      exact ⟨_, by rw [hW]; rfl, fun H h => h⟩
    by_cases c4 : k = 123
    · subst c4
      refine ⟨_, z3, fun H h => ?_⟩
      have e : outF 0 = fun _ => 0 := by funext j; unfold outF; split <;> rfl
      show va_at Dg vwCl (q, .inl (tc 4, 1, .inr (.inl (outF 0)))) H
      rw [e]; exact h
    obtain ⟨t, rfl⟩ : ∃ t, k = 89 + t := ⟨k - 89, by omega⟩
    have ht : t < 34 := by omega
    have eo : ordS (89 + t) = 89 + t := by simp only [ordS, show ¬ 89 + t < 88 by omega, show ¬ 89 + t = 88 by omega, if_false]
    rw [eo, z2 t ht]
    rcases (show t = 0 ∨ t = 1 ∨ t = 2 ∨ t = 3 ∨ t = 4 ∨ t = 5 ∨ t = 6 ∨ t = 7 ∨ t = 8 ∨ t = 9 ∨ t = 10 ∨ t = 11 ∨ t = 12 ∨ t = 13 ∨ t = 14 ∨ t = 15 ∨ t = 16 ∨ t = 17 ∨ t = 18 ∨ t = 19 ∨ t = 20 ∨ t = 21 ∨ t = 22 ∨ t = 23 ∨ t = 24 ∨ t = 25 ∨ t = 26 ∨ t = 27 ∨ t = 28 ∨ t = 29 ∨ t = 30 ∨ t = 31 ∨ t = 32 ∨ t = 33 by omega) with rfl | rfl | rfl | rfl | rfl | rfl | rfl | rfl | rfl | rfl | rfl | rfl | rfl | rfl | rfl | rfl | rfl | rfl | rfl | rfl | rfl | rfl | rfl | rfl | rfl | rfl | rfl | rfl | rfl | rfl | rfl | rfl | rfl | rfl
    all_goals exact ⟨_, rfl, fun H h => h⟩
  · unfold ordS at e
    repeat' split at e
    all_goals omega
theorem str_cls : ∀ q ∈ strsG, q.1 = "CheeseRota" := by decide
