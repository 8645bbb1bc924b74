/-! THE LAW'S OWN CALLS, each with its table of handlers: k, and the answer in out[0] where k is 0 -/
def ncP : List (String × String) := [("java/lang/IllegalStateException", "java/lang/IllegalArgumentException"), ("java/lang/IllegalArgumentException", "java/lang/IndexOutOfBoundsException"), ("java/lang/IllegalStateException", "java/lang/IndexOutOfBoundsException"), ("java/lang/IndexOutOfBoundsException", "java/lang/IllegalArgumentException")]
/-- none of these classes is below the other -/
def NCs (U : State) : Prop := ∀ q ∈ ncP, va_Nc q.1 q.2 U
theorem NCs.moved {u U : State} (hvm : u.vm.Alike U.vm) (h : NCs u) : NCs U := fun q hq => (h q hq).moved hvm
abbrev wsH (y : MethodName) (cb : ByteArray) (nb : Nat) (hh : List (Nat × Nat × Nat × Nat)) : List Cond := .codeWith y cb nb (some .int) hh :: lw_all
def WT (l : Launch) (y : MethodName) (cb : ByteArray) (nb : Nat) (hh : List (Nat × Nat × Nat × Nat)) (f lo mc ms : Nat) (G : GG) (av : List Value) (X : XX) (o : OO) (v : Option Value) (X' : XX) (o' : OO) : Prop :=
  Met l y (wsH y cb nb hh) { frames := f, cells := mc, slots := ms, locals := lo } (va_Pc av (fun U => SysU G X o U ∧ NCs U)) (CQ G v X' o') mc ms (gB G)
theorem Met_ofWH {l : Launch} {y : MethodName} {ws ws' : List Cond} {rm : Room} {Pc : Array Value → State → Prop} {Qc : Array Value → State → Outcome → State → Prop} {mc ms : Nat} {free : Addr → Prop} {cc : ByteArray} {maxL : Nat} {ret : Option FieldType} {hh : List (Nat × Nat × Nat × Nat)}
    (hy : plainName y.cls = true) (hw : ws = Cond.codeWith y cc maxL ret hh :: ws')
    (body : ∀ p e s m args below meth c s₁, BodyLoose p l y (headSpec ws rm) cc maxL ret e s m args below meth c s₁ → c.maxLocals = maxL → Pc args s →
      W p l e (headSpec ws rm).room s m args below meth c s.heap [] 0 0 (MQ below Qc args s mc ms free) (entryFrame m args maxL)) : Met l y ws rm Pc Qc mc ms free := by
  refine MetFree.of_bodyS (code := cc) (maxLocals := maxL) (ret := ret) hy ?_ ?_
  · intro args s m h hn
    obtain ⟨m9, meth, c, hn9, h1, h2, h3, h4, -, h5, h6, -⟩ := Cond.codeWith_spec (atoms_spec (ws := ws) h _ (by rw [hw]; exact List.mem_cons_self))
    cases hn.symm.trans hn9
    exact ⟨meth, c, h1, h2, h3, h4, h5, h6⟩
  · intro p e s m args below meth c s₁ B hml hP _
    have hh0 : s₁.heap = s.heap := by rw [B.state]; rfl
    obtain ⟨t, a1, o, b1, b2, b3⟩ := body p e s m args below meth c s₁ B hml hP s₁ hh0 (Stand.of_body B)
    exact ⟨t, o, a1, b1, b2, ⟨b3.1, b3.2⟩⟩
theorem WT_of {l : Launch} {y : MethodName} {cb : ByteArray} {nb : Nat} {hh : List (Nat × Nat × Nat × Nat)} {f lo mc ms : Nat} {G : GG} {av : List Value} {X : XX} {o : OO} {v : Option Value} {X' : XX} {o' : OO} {own : String} {lv : List (Nat × Value)}
    (hy : plainName y.cls = true) (ho : y.cls = own) (hlen : (lg_sl av).length ≤ nb) (hav : lv_args 0 av = lv)
    (body : ∀ (p : Program) (e : Env) (s : State) (m : MethodId) (args : Array Value) (below : List Frame) (meth : Method) (c : Code), meth.sig.returnType = some .int → c.exceptionTable.toList = tableOf hh → NCs s → JC p s m args meth c cb nb own G →
      Jd p l e { frames := f, cells := mc, slots := ms, locals := lo } s m args below meth c (MQ below (CQ G v X' o') args s mc ms (gB G)) G nb 0 0 X o 0 lv []) : WT l y cb nb hh f lo mc ms G av X o v X' o' := by
  refine Met_ofWH (cc := cb) (maxL := nb) (ret := some .int) (hh := hh) hy rfl ?_
  intro p e s m args below meth c s₁ B hml hv
  obtain ⟨rfl, ⟨hk, hz, hP⟩, hN⟩ := hv
  have hts := atoms_spec (ws := wsH y cb nb hh) B.pre
  have hcw : (Cond.codeWith y cb nb (some .int) hh).before av.toArray s = true := hts _ List.mem_cons_self
  have ht := vx_table (x := y) (y := y) B hcw
  have hl := lv_entry av (n := nb) hlen
  rw [lg_entry_eq]
  generalize (lg_sl av ++ List.replicate (nb - (lg_sl av).length) Slot.unset).toArray = ls at hl ⊢
  rw [hav] at hl
  exact body p e s m _ below meth c B.returns ht hN ⟨B.exec, B.bytes, hml, by rw [← ho]; exact findClass_of_methodNamed B.named, fun w h => hts w (List.mem_cons_of_mem _ h), B.notSynchronized, hk, hz⟩ s.heap [] ls hP va_S.rf hl
set_option maxHeartbeats 4000000 in
set_option maxRecDepth 100000 in
theorem wt_build (l : Launch) (hlt : l.stackTraces = false) (G : GG) (D E g S A : DD) (o : OO) (p0 : Int32) (p1 : Int32) : WT l yL_build cL_build 5 [(0, 10, 13, 13), (0, 10, 17, 15)] 7 104 1 6 G [.ref (gA G 88), .int p0, .int p1, .ref (gA G 123)] (mk5 D E g S A) o (some (.int (kBuild D p0 p1))) (if (kBuild D p0 p1) = 0 then (mk5 (addC D p0 p1) E g S A) else (mk5 D E g S A)) (if (kBuild D p0 p1) = 0 then ((((D 40 2)).toInt64), o.2) else o) := by
  refine WT_of (own := RL) (lv := [(0, .ref (gA G 88)), (1, .int p0), (2, .int p1), (3, .ref (gA G 123))]) (by decide) rfl (Nat.le_of_ble_eq_true rfl) rfl ?_
  intro p e s m args below meth c hr ht hN hC
  refine J_aload_n hC (j := 3) dL_build_0 rfl rfl ?_
  refine J_iconst (v := 0) hC dL_build_1 (by decide) ?_
  refine J_aload_n hC (j := 0) dL_build_2 rfl rfl ?_
  refine J_iload_n hC (j := 1) dL_build_3 rfl rfl ?_
  refine J_iload_n hC (j := 2) dL_build_4 rfl rfl ?_
  refine J_callX hC (xt_X4_build l hlt G D E g S A o p0 p1) mw_X4_build qw_288 (by decide) ent_rt rfl rfl rfl (Nat.le_of_ble_eq_true rfl) ⟨Nat.le_of_ble_eq_true rfl, Nat.le_of_ble_eq_true rfl⟩ ⟨Nat.le_of_ble_eq_true rfl, Nat.le_of_ble_eq_true rfl⟩ dL_build_5 (fun i E9 hi hk => ?_) (fun hk => ?_)
  · match i, hi, hk with
    | 0, hi, hk =>
      obtain rfl := Option.some.inj (show some "java/lang/IllegalArgumentException" = some E9 from hi)
      refine J_catch hC [] ⟨0, 10, 13, 13⟩ [⟨0, 10, 17, 15⟩] (ht.trans rfl) (fun z hz => absurd hz (List.not_mem_nil)) (by decide) (by decide) qw_286 nqw_297 (fun q9 => ?_)
      refine J_astore (lv' := [(4, .ref q9), (0, .ref (gA G 88)), (1, .int p0), (2, .int p1), (3, .ref (gA G 123))]) hC dL_build_13 (by decide) rfl ?_
      refine J_iconst (v := 1) hC dL_build_15 (by decide) ?_
      refine J_widen (k := 1) (n := 6) (by decide) (by decide) ?_
      exact J_iret hC hr (by rw [hk]; decide) (by rw [if_neg (by rw [hk]; decide)]) (by rw [if_neg (by rw [hk]; decide)]) dL_build_16
    | 1, hi, hk =>
      obtain rfl := Option.some.inj (show some "java/lang/IllegalStateException" = some E9 from hi)
      refine J_catch hC [⟨0, 10, 13, 13⟩] ⟨0, 10, 17, 15⟩ [] (ht.trans rfl) (fun z hz => by obtain rfl := List.mem_singleton.mp hz; exact Or.inr ⟨by decide, _, qw_286, hN ("java/lang/IllegalStateException", "java/lang/IllegalArgumentException") (by decide)⟩) (by decide) (by decide) qw_287 nqw_365 (fun q9 => ?_)
      refine J_astore (lv' := [(4, .ref q9), (0, .ref (gA G 88)), (1, .int p0), (2, .int p1), (3, .ref (gA G 123))]) hC dL_build_17 (by decide) rfl ?_
      refine J_iconst (v := 2) hC dL_build_19 (by decide) ?_
      refine J_widen (k := 1) (n := 6) (by decide) (by decide) ?_
      exact J_iret hC hr (by rw [hk]; decide) (by rw [if_neg (by rw [hk]; decide)]) (by rw [if_neg (by rw [hk]; decide)]) dL_build_20
    | n + 2, hi, hk => exact absurd hi (by simp)
  · refine J_i2l hC dL_build_8 ?_
    refine J_last hC (by unfold vp_in; decide) dL_build_9 ?_
    refine J_goto (tgt := 21) hC dL_build_10 (by decide) ?_
    refine J_iconst (v := 0) hC dL_build_21 (by decide) ?_
    refine J_widen (k := 1) (n := 6) (by decide) (by decide) ?_
    exact J_iret hC hr (by rw [hk]) (by rw [if_pos hk]) (by rw [if_pos hk]) dL_build_22
set_option maxHeartbeats 4000000 in
set_option maxRecDepth 100000 in
theorem wt_air (l : Launch) (hlt : l.stackTraces = false) (G : GG) (D E g S A : DD) (o : OO) (p0 : Int32) (p1 : Int32) (p2 : Int32) : WT l yL_air cL_air 6 [(0, 12, 15, 21), (0, 12, 19, 13)] 7 107 1 6 G [.ref (gA G 88), .int p0, .int p1, .int p2, .ref (gA G 123)] (mk5 D E g S A) o (some (.int (kAir D p0 p1 p2))) (if (kAir D p0 p1 p2) = 0 then (mk5 (dAir D p0 p1 p2) E g S A) else (mk5 D E g S A)) (if (kAir D p0 p1 p2) = 0 then ((((vAir D p0)).toInt64), o.2) else o) := by
  refine WT_of (own := RL) (lv := [(0, .ref (gA G 88)), (1, .int p0), (2, .int p1), (3, .int p2), (4, .ref (gA G 123))]) (by decide) rfl (Nat.le_of_ble_eq_true rfl) rfl ?_
  intro p e s m args below meth c hr ht hN hC
  refine J_aload hC (j := 4) dL_air_0 rfl ?_
  refine J_iconst (v := 0) hC dL_air_2 (by decide) ?_
  refine J_aload_n hC (j := 0) dL_air_3 rfl rfl ?_
  refine J_iload_n hC (j := 1) dL_air_4 rfl rfl ?_
  refine J_iload_n hC (j := 2) dL_air_5 rfl rfl ?_
  refine J_iload_n hC (j := 3) dL_air_6 rfl rfl ?_
  refine J_callX hC (xt_X4_air l hlt G D E g S A o p0 p1 p2) mw_X4_air qw_387 (by decide) ent_rt rfl rfl rfl (Nat.le_of_ble_eq_true rfl) ⟨Nat.le_of_ble_eq_true rfl, Nat.le_of_ble_eq_true rfl⟩ ⟨Nat.le_of_ble_eq_true rfl, Nat.le_of_ble_eq_true rfl⟩ dL_air_7 (fun i E9 hi hk => ?_) (fun hk => ?_)
  · match i, hi, hk with
    | 0, hi, hk =>
      obtain rfl := Option.some.inj (show some "java/lang/IndexOutOfBoundsException" = some E9 from hi)
      refine J_catch hC [] ⟨0, 12, 15, 21⟩ [⟨0, 12, 19, 13⟩] (ht.trans rfl) (fun z hz => absurd hz (List.not_mem_nil)) (by decide) (by decide) qw_386 nqw_394 (fun q9 => ?_)
      refine J_astore (lv' := [(5, .ref q9), (0, .ref (gA G 88)), (1, .int p0), (2, .int p1), (3, .int p2), (4, .ref (gA G 123))]) hC dL_air_15 (by decide) rfl ?_
      refine J_iconst (v := 1) hC dL_air_17 (by decide) ?_
      refine J_widen (k := 1) (n := 6) (by decide) (by decide) ?_
      exact J_iret hC hr (by rw [hk]; decide) (by rw [if_neg (by rw [hk]; decide)]) (by rw [if_neg (by rw [hk]; decide)]) dL_air_18
    | 1, hi, hk =>
      obtain rfl := Option.some.inj (show some "java/lang/IllegalArgumentException" = some E9 from hi)
      refine J_catch hC [⟨0, 12, 15, 21⟩] ⟨0, 12, 19, 13⟩ [] (ht.trans rfl) (fun z hz => by obtain rfl := List.mem_singleton.mp hz; exact Or.inr ⟨by decide, _, qw_386, hN ("java/lang/IllegalArgumentException", "java/lang/IndexOutOfBoundsException") (by decide)⟩) (by decide) (by decide) qw_286 nqw_297 (fun q9 => ?_)
      refine J_astore (lv' := [(5, .ref q9), (0, .ref (gA G 88)), (1, .int p0), (2, .int p1), (3, .int p2), (4, .ref (gA G 123))]) hC dL_air_19 (by decide) rfl ?_
      refine J_iconst (v := 2) hC dL_air_21 (by decide) ?_
      refine J_widen (k := 1) (n := 6) (by decide) (by decide) ?_
      exact J_iret hC hr (by rw [hk]; decide) (by rw [if_neg (by rw [hk]; decide)]) (by rw [if_neg (by rw [hk]; decide)]) dL_air_22
    | n + 2, hi, hk => exact absurd hi (by simp)
  · refine J_i2l hC dL_air_10 ?_
    refine J_last hC (by unfold vp_in; decide) dL_air_11 ?_
    refine J_goto (tgt := 23) hC dL_air_12 (by decide) ?_
    refine J_iconst (v := 0) hC dL_air_23 (by decide) ?_
    refine J_widen (k := 1) (n := 6) (by decide) (by decide) ?_
    exact J_iret hC hr (by rw [hk]) (by rw [if_pos hk]) (by rw [if_pos hk]) dL_air_24
set_option maxHeartbeats 4000000 in
set_option maxRecDepth 100000 in
theorem wt_make (l : Launch) (hlt : l.stackTraces = false) (G : GG) (D E g S A : DD) (o : OO) (p0 : Int32) (p1 : Int32) : WT l yL_make cL_make 5 [(0, 10, 13, 21), (0, 10, 17, 15)] 7 105 1 6 G [.ref (gA G 88), .int p0, .int p1, .ref (gA G 123)] (mk5 D E g S A) o (some (.int (kMake D p0 p1))) (if (kMake D p0 p1) = 0 then (mk5 (addW D p0 p1) E g S A) else (mk5 D E g S A)) (if (kMake D p0 p1) = 0 then ((((D 40 3)).toInt64), o.2) else o) := by
  refine WT_of (own := RL) (lv := [(0, .ref (gA G 88)), (1, .int p0), (2, .int p1), (3, .ref (gA G 123))]) (by decide) rfl (Nat.le_of_ble_eq_true rfl) rfl ?_
  intro p e s m args below meth c hr ht hN hC
  refine J_aload_n hC (j := 3) dL_make_0 rfl rfl ?_
  refine J_iconst (v := 0) hC dL_make_1 (by decide) ?_
  refine J_aload_n hC (j := 0) dL_make_2 rfl rfl ?_
  refine J_iload_n hC (j := 1) dL_make_3 rfl rfl ?_
  refine J_iload_n hC (j := 2) dL_make_4 rfl rfl ?_
  refine J_callX hC (xt_X4_make l hlt G D E g S A o p0 p1) mw_X4_make qw_411 (by decide) ent_rt rfl rfl rfl (Nat.le_of_ble_eq_true rfl) ⟨Nat.le_of_ble_eq_true rfl, Nat.le_of_ble_eq_true rfl⟩ ⟨Nat.le_of_ble_eq_true rfl, Nat.le_of_ble_eq_true rfl⟩ dL_make_5 (fun i E9 hi hk => ?_) (fun hk => ?_)
  · match i, hi, hk with
    | 0, hi, hk =>
      obtain rfl := Option.some.inj (show some "java/lang/IndexOutOfBoundsException" = some E9 from hi)
      refine J_catch hC [] ⟨0, 10, 13, 21⟩ [⟨0, 10, 17, 15⟩] (ht.trans rfl) (fun z hz => absurd hz (List.not_mem_nil)) (by decide) (by decide) qw_386 nqw_394 (fun q9 => ?_)
      refine J_astore (lv' := [(4, .ref q9), (0, .ref (gA G 88)), (1, .int p0), (2, .int p1), (3, .ref (gA G 123))]) hC dL_make_13 (by decide) rfl ?_
      refine J_iconst (v := 1) hC dL_make_15 (by decide) ?_
      refine J_widen (k := 1) (n := 6) (by decide) (by decide) ?_
      exact J_iret hC hr (by rw [hk]; decide) (by rw [if_neg (by rw [hk]; decide)]) (by rw [if_neg (by rw [hk]; decide)]) dL_make_16
    | 1, hi, hk =>
      obtain rfl := Option.some.inj (show some "java/lang/IllegalStateException" = some E9 from hi)
      refine J_catch hC [⟨0, 10, 13, 21⟩] ⟨0, 10, 17, 15⟩ [] (ht.trans rfl) (fun z hz => by obtain rfl := List.mem_singleton.mp hz; exact Or.inr ⟨by decide, _, qw_386, hN ("java/lang/IllegalStateException", "java/lang/IndexOutOfBoundsException") (by decide)⟩) (by decide) (by decide) qw_287 nqw_365 (fun q9 => ?_)
      refine J_astore (lv' := [(4, .ref q9), (0, .ref (gA G 88)), (1, .int p0), (2, .int p1), (3, .ref (gA G 123))]) hC dL_make_17 (by decide) rfl ?_
      refine J_iconst (v := 2) hC dL_make_19 (by decide) ?_
      refine J_widen (k := 1) (n := 6) (by decide) (by decide) ?_
      exact J_iret hC hr (by rw [hk]; decide) (by rw [if_neg (by rw [hk]; decide)]) (by rw [if_neg (by rw [hk]; decide)]) dL_make_20
    | n + 2, hi, hk => exact absurd hi (by simp)
  · refine J_i2l hC dL_make_8 ?_
    refine J_last hC (by unfold vp_in; decide) dL_make_9 ?_
    refine J_goto (tgt := 21) hC dL_make_10 (by decide) ?_
    refine J_iconst (v := 0) hC dL_make_21 (by decide) ?_
    refine J_widen (k := 1) (n := 6) (by decide) (by decide) ?_
    exact J_iret hC hr (by rw [hk]) (by rw [if_pos hk]) (by rw [if_pos hk]) dL_make_22
set_option maxHeartbeats 4000000 in
set_option maxRecDepth 100000 in
theorem wt_carry (l : Launch) (hlt : l.stackTraces = false) (G : GG) (D E g S A : DD) (o : OO) (p0 : Int32) (p1 : Int32) (p2 : Int32) : WT l yL_carry cL_carry 6 [(0, 12, 15, 21), (0, 12, 19, 15)] 7 108 1 6 G [.ref (gA G 88), .int p0, .int p1, .int p2, .ref (gA G 123)] (mk5 D E g S A) o (some (.int (kCarry D p0 p1 p2))) (if (kCarry D p0 p1 p2) = 0 then (mk5 (moveW D p0 p1 p2) E g S A) else (mk5 D E g S A)) (if (kCarry D p0 p1 p2) = 0 then ((((vCarry D p0)).toInt64), o.2) else o) := by
  refine WT_of (own := RL) (lv := [(0, .ref (gA G 88)), (1, .int p0), (2, .int p1), (3, .int p2), (4, .ref (gA G 123))]) (by decide) rfl (Nat.le_of_ble_eq_true rfl) rfl ?_
  intro p e s m args below meth c hr ht hN hC
  refine J_aload hC (j := 4) dL_carry_0 rfl ?_
  refine J_iconst (v := 0) hC dL_carry_2 (by decide) ?_
  refine J_aload_n hC (j := 0) dL_carry_3 rfl rfl ?_
  refine J_iload_n hC (j := 1) dL_carry_4 rfl rfl ?_
  refine J_iload_n hC (j := 2) dL_carry_5 rfl rfl ?_
  refine J_iload_n hC (j := 3) dL_carry_6 rfl rfl ?_
  refine J_callX hC (xt_X4_carry l hlt G D E g S A o p0 p1 p2) mw_X4_carry qw_439 (by decide) ent_rt rfl rfl rfl (Nat.le_of_ble_eq_true rfl) ⟨Nat.le_of_ble_eq_true rfl, Nat.le_of_ble_eq_true rfl⟩ ⟨Nat.le_of_ble_eq_true rfl, Nat.le_of_ble_eq_true rfl⟩ dL_carry_7 (fun i E9 hi hk => ?_) (fun hk => ?_)
  · match i, hi, hk with
    | 0, hi, hk =>
      obtain rfl := Option.some.inj (show some "java/lang/IndexOutOfBoundsException" = some E9 from hi)
      refine J_catch hC [] ⟨0, 12, 15, 21⟩ [⟨0, 12, 19, 15⟩] (ht.trans rfl) (fun z hz => absurd hz (List.not_mem_nil)) (by decide) (by decide) qw_386 nqw_394 (fun q9 => ?_)
      refine J_astore (lv' := [(5, .ref q9), (0, .ref (gA G 88)), (1, .int p0), (2, .int p1), (3, .int p2), (4, .ref (gA G 123))]) hC dL_carry_15 (by decide) rfl ?_
      refine J_iconst (v := 1) hC dL_carry_17 (by decide) ?_
      refine J_widen (k := 1) (n := 6) (by decide) (by decide) ?_
      exact J_iret hC hr (by rw [hk]; decide) (by rw [if_neg (by rw [hk]; decide)]) (by rw [if_neg (by rw [hk]; decide)]) dL_carry_18
    | 1, hi, hk =>
      obtain rfl := Option.some.inj (show some "java/lang/IllegalStateException" = some E9 from hi)
      refine J_catch hC [⟨0, 12, 15, 21⟩] ⟨0, 12, 19, 15⟩ [] (ht.trans rfl) (fun z hz => by obtain rfl := List.mem_singleton.mp hz; exact Or.inr ⟨by decide, _, qw_386, hN ("java/lang/IllegalStateException", "java/lang/IndexOutOfBoundsException") (by decide)⟩) (by decide) (by decide) qw_287 nqw_365 (fun q9 => ?_)
      refine J_astore (lv' := [(5, .ref q9), (0, .ref (gA G 88)), (1, .int p0), (2, .int p1), (3, .int p2), (4, .ref (gA G 123))]) hC dL_carry_19 (by decide) rfl ?_
      refine J_iconst (v := 2) hC dL_carry_21 (by decide) ?_
      refine J_widen (k := 1) (n := 6) (by decide) (by decide) ?_
      exact J_iret hC hr (by rw [hk]; decide) (by rw [if_neg (by rw [hk]; decide)]) (by rw [if_neg (by rw [hk]; decide)]) dL_carry_22
    | n + 2, hi, hk => exact absurd hi (by simp)
  · refine J_i2l hC dL_carry_10 ?_
    refine J_last hC (by unfold vp_in; decide) dL_carry_11 ?_
    refine J_goto (tgt := 23) hC dL_carry_12 (by decide) ?_
    refine J_iconst (v := 0) hC dL_carry_23 (by decide) ?_
    refine J_widen (k := 1) (n := 6) (by decide) (by decide) ?_
    exact J_iret hC hr (by rw [hk]) (by rw [if_pos hk]) (by rw [if_pos hk]) dL_carry_24
set_option maxHeartbeats 4000000 in
set_option maxRecDepth 100000 in
theorem wt_infect (l : Launch) (hlt : l.stackTraces = false) (G : GG) (D E g S A : DD) (o : OO) (p0 : Int32) (p1 : Int32) : WT l yL_infect cL_infect 5 [(0, 10, 13, 21), (0, 10, 17, 13), (0, 10, 21, 15)] 7 106 1 6 G [.ref (gA G 88), .int p0, .int p1, .ref (gA G 123)] (mk5 D E g S A) o (some (.int (kInfect D p0 p1))) (if (kInfect D p0 p1) = 0 then (mk5 (dInfect D p0 p1) E g S A) else (mk5 D E g S A)) (if (kInfect D p0 p1) = 0 then ((((D (ix p0) 7)).toInt64), o.2) else o) := by
  refine WT_of (own := RL) (lv := [(0, .ref (gA G 88)), (1, .int p0), (2, .int p1), (3, .ref (gA G 123))]) (by decide) rfl (Nat.le_of_ble_eq_true rfl) rfl ?_
  intro p e s m args below meth c hr ht hN hC
  refine J_aload_n hC (j := 3) dL_infect_0 rfl rfl ?_
  refine J_iconst (v := 0) hC dL_infect_1 (by decide) ?_
  refine J_aload_n hC (j := 0) dL_infect_2 rfl rfl ?_
  refine J_iload_n hC (j := 1) dL_infect_3 rfl rfl ?_
  refine J_iload_n hC (j := 2) dL_infect_4 rfl rfl ?_
  refine J_callX hC (xt_X4_infect l hlt G D E g S A o p0 p1) mw_X4_infect qw_457 (by decide) ent_rt rfl rfl rfl (Nat.le_of_ble_eq_true rfl) ⟨Nat.le_of_ble_eq_true rfl, Nat.le_of_ble_eq_true rfl⟩ ⟨Nat.le_of_ble_eq_true rfl, Nat.le_of_ble_eq_true rfl⟩ dL_infect_5 (fun i E9 hi hk => ?_) (fun hk => ?_)
  · match i, hi, hk with
    | 0, hi, hk =>
      obtain rfl := Option.some.inj (show some "java/lang/IndexOutOfBoundsException" = some E9 from hi)
      refine J_catch hC [] ⟨0, 10, 13, 21⟩ [⟨0, 10, 17, 13⟩, ⟨0, 10, 21, 15⟩] (ht.trans rfl) (fun z hz => absurd hz (List.not_mem_nil)) (by decide) (by decide) qw_386 nqw_394 (fun q9 => ?_)
      refine J_astore (lv' := [(4, .ref q9), (0, .ref (gA G 88)), (1, .int p0), (2, .int p1), (3, .ref (gA G 123))]) hC dL_infect_13 (by decide) rfl ?_
      refine J_iconst (v := 1) hC dL_infect_15 (by decide) ?_
      refine J_widen (k := 1) (n := 6) (by decide) (by decide) ?_
      exact J_iret hC hr (by rw [hk]; decide) (by rw [if_neg (by rw [hk]; decide)]) (by rw [if_neg (by rw [hk]; decide)]) dL_infect_16
    | 1, hi, hk =>
      obtain rfl := Option.some.inj (show some "java/lang/IllegalArgumentException" = some E9 from hi)
      refine J_catch hC [⟨0, 10, 13, 21⟩] ⟨0, 10, 17, 13⟩ [⟨0, 10, 21, 15⟩] (ht.trans rfl) (fun z hz => by obtain rfl := List.mem_singleton.mp hz; exact Or.inr ⟨by decide, _, qw_386, hN ("java/lang/IllegalArgumentException", "java/lang/IndexOutOfBoundsException") (by decide)⟩) (by decide) (by decide) qw_286 nqw_297 (fun q9 => ?_)
      refine J_astore (lv' := [(4, .ref q9), (0, .ref (gA G 88)), (1, .int p0), (2, .int p1), (3, .ref (gA G 123))]) hC dL_infect_17 (by decide) rfl ?_
      refine J_iconst (v := 2) hC dL_infect_19 (by decide) ?_
      refine J_widen (k := 1) (n := 6) (by decide) (by decide) ?_
      exact J_iret hC hr (by rw [hk]; decide) (by rw [if_neg (by rw [hk]; decide)]) (by rw [if_neg (by rw [hk]; decide)]) dL_infect_20
    | 2, hi, hk =>
      obtain rfl := Option.some.inj (show some "java/lang/IllegalStateException" = some E9 from hi)
      refine J_catch hC [⟨0, 10, 13, 21⟩, ⟨0, 10, 17, 13⟩] ⟨0, 10, 21, 15⟩ [] (ht.trans rfl) (fun z hz => by rcases List.mem_cons.mp hz with rfl | hz; exact Or.inr ⟨by decide, _, qw_386, hN ("java/lang/IllegalStateException", "java/lang/IndexOutOfBoundsException") (by decide)⟩; obtain rfl := List.mem_singleton.mp hz; exact Or.inr ⟨by decide, _, qw_286, hN ("java/lang/IllegalStateException", "java/lang/IllegalArgumentException") (by decide)⟩) (by decide) (by decide) qw_287 nqw_365 (fun q9 => ?_)
      refine J_astore (lv' := [(4, .ref q9), (0, .ref (gA G 88)), (1, .int p0), (2, .int p1), (3, .ref (gA G 123))]) hC dL_infect_21 (by decide) rfl ?_
      refine J_iconst (v := 3) hC dL_infect_23 (by decide) ?_
      refine J_widen (k := 1) (n := 6) (by decide) (by decide) ?_
      exact J_iret hC hr (by rw [hk]; decide) (by rw [if_neg (by rw [hk]; decide)]) (by rw [if_neg (by rw [hk]; decide)]) dL_infect_24
    | n + 3, hi, hk => exact absurd hi (by simp)
  · refine J_i2l hC dL_infect_8 ?_
    refine J_last hC (by unfold vp_in; decide) dL_infect_9 ?_
    refine J_goto (tgt := 25) hC dL_infect_10 (by decide) ?_
    refine J_iconst (v := 0) hC dL_infect_25 (by decide) ?_
    refine J_widen (k := 1) (n := 6) (by decide) (by decide) ?_
    exact J_iret hC hr (by rw [hk]) (by rw [if_pos hk]) (by rw [if_pos hk]) dL_infect_26
set_option maxHeartbeats 4000000 in
set_option maxRecDepth 100000 in
theorem wt_sell (l : Launch) (hlt : l.stackTraces = false) (G : GG) (D E g S A : DD) (o : OO) (p0 : Int32) : WT l yL_sell cL_sell 4 [(0, 9, 12, 21), (0, 9, 15, 15)] 7 105 1 6 G [.ref (gA G 88), .int p0, .ref (gA G 123)] (mk5 D E g S A) o (some (.int (kSell D p0))) (if (kSell D p0) = 0 then (mk5 (dSell D p0) E g S A) else (mk5 D E g S A)) (if (kSell D p0) = 0 then ((((worth (D (ix p0)))).toInt64), o.2) else o) := by
  refine WT_of (own := RL) (lv := [(0, .ref (gA G 88)), (1, .int p0), (2, .ref (gA G 123))]) (by decide) rfl (Nat.le_of_ble_eq_true rfl) rfl ?_
  intro p e s m args below meth c hr ht hN hC
  refine J_aload_n hC (j := 2) dL_sell_0 rfl rfl ?_
  refine J_iconst (v := 0) hC dL_sell_1 (by decide) ?_
  refine J_aload_n hC (j := 0) dL_sell_2 rfl rfl ?_
  refine J_iload_n hC (j := 1) dL_sell_3 rfl rfl ?_
  refine J_callX hC (xt_X4_sell l hlt G D E g S A o p0) mw_X4_sell qw_471 (by decide) ent_rt rfl rfl rfl (Nat.le_of_ble_eq_true rfl) ⟨Nat.le_of_ble_eq_true rfl, Nat.le_of_ble_eq_true rfl⟩ ⟨Nat.le_of_ble_eq_true rfl, Nat.le_of_ble_eq_true rfl⟩ dL_sell_4 (fun i E9 hi hk => ?_) (fun hk => ?_)
  · match i, hi, hk with
    | 0, hi, hk =>
      obtain rfl := Option.some.inj (show some "java/lang/IndexOutOfBoundsException" = some E9 from hi)
      refine J_catch hC [] ⟨0, 9, 12, 21⟩ [⟨0, 9, 15, 15⟩] (ht.trans rfl) (fun z hz => absurd hz (List.not_mem_nil)) (by decide) (by decide) qw_386 nqw_394 (fun q9 => ?_)
      refine J_astore_n (lv' := [(3, .ref q9), (0, .ref (gA G 88)), (1, .int p0), (2, .ref (gA G 123))]) hC dL_sell_12 rfl (by decide) rfl ?_
      refine J_iconst (v := 1) hC dL_sell_13 (by decide) ?_
      refine J_widen (k := 1) (n := 6) (by decide) (by decide) ?_
      exact J_iret hC hr (by rw [hk]; decide) (by rw [if_neg (by rw [hk]; decide)]) (by rw [if_neg (by rw [hk]; decide)]) dL_sell_14
    | 1, hi, hk =>
      obtain rfl := Option.some.inj (show some "java/lang/IllegalStateException" = some E9 from hi)
      refine J_catch hC [⟨0, 9, 12, 21⟩] ⟨0, 9, 15, 15⟩ [] (ht.trans rfl) (fun z hz => by obtain rfl := List.mem_singleton.mp hz; exact Or.inr ⟨by decide, _, qw_386, hN ("java/lang/IllegalStateException", "java/lang/IndexOutOfBoundsException") (by decide)⟩) (by decide) (by decide) qw_287 nqw_365 (fun q9 => ?_)
      refine J_astore_n (lv' := [(3, .ref q9), (0, .ref (gA G 88)), (1, .int p0), (2, .ref (gA G 123))]) hC dL_sell_15 rfl (by decide) rfl ?_
      refine J_iconst (v := 2) hC dL_sell_16 (by decide) ?_
      refine J_widen (k := 1) (n := 6) (by decide) (by decide) ?_
      exact J_iret hC hr (by rw [hk]; decide) (by rw [if_neg (by rw [hk]; decide)]) (by rw [if_neg (by rw [hk]; decide)]) dL_sell_17
    | n + 2, hi, hk => exact absurd hi (by simp)
  · refine J_i2l hC dL_sell_7 ?_
    refine J_last hC (by unfold vp_in; decide) dL_sell_8 ?_
    refine J_goto (tgt := 18) hC dL_sell_9 (by decide) ?_
    refine J_iconst (v := 0) hC dL_sell_18 (by decide) ?_
    refine J_widen (k := 1) (n := 6) (by decide) (by decide) ?_
    exact J_iret hC hr (by rw [hk]) (by rw [if_pos hk]) (by rw [if_pos hk]) dL_sell_19
set_option maxHeartbeats 4000000 in
set_option maxRecDepth 100000 in
theorem wt_hire (l : Launch) (hlt : l.stackTraces = false) (G : GG) (D E g S A : DD) (o : OO) (p0 : Int32) (p1 : Int32) : WT l yL_hire cL_hire 5 [(0, 10, 13, 21), (0, 10, 17, 13), (0, 10, 21, 15)] 7 104 1 6 G [.ref (gA G 88), .int p0, .int p1, .ref (gA G 123)] (mk5 D E g S A) o (some (.int (kHire D p0 p1))) (if (kHire D p0 p1) = 0 then (mk5 (addM D p0 p1) E g S A) else (mk5 D E g S A)) (if (kHire D p0 p1) = 0 then ((((D 40 4)).toInt64), o.2) else o) := by
  refine WT_of (own := RL) (lv := [(0, .ref (gA G 88)), (1, .int p0), (2, .int p1), (3, .ref (gA G 123))]) (by decide) rfl (Nat.le_of_ble_eq_true rfl) rfl ?_
  intro p e s m args below meth c hr ht hN hC
  refine J_aload_n hC (j := 3) dL_hire_0 rfl rfl ?_
  refine J_iconst (v := 0) hC dL_hire_1 (by decide) ?_
  refine J_aload_n hC (j := 0) dL_hire_2 rfl rfl ?_
  refine J_iload_n hC (j := 1) dL_hire_3 rfl rfl ?_
  refine J_iload_n hC (j := 2) dL_hire_4 rfl rfl ?_
  refine J_callX hC (xt_X4_hire l hlt G D E g S A o p0 p1) mw_X4_hire qw_483 (by decide) ent_rt rfl rfl rfl (Nat.le_of_ble_eq_true rfl) ⟨Nat.le_of_ble_eq_true rfl, Nat.le_of_ble_eq_true rfl⟩ ⟨Nat.le_of_ble_eq_true rfl, Nat.le_of_ble_eq_true rfl⟩ dL_hire_5 (fun i E9 hi hk => ?_) (fun hk => ?_)
  · match i, hi, hk with
    | 0, hi, hk =>
      obtain rfl := Option.some.inj (show some "java/lang/IndexOutOfBoundsException" = some E9 from hi)
      refine J_catch hC [] ⟨0, 10, 13, 21⟩ [⟨0, 10, 17, 13⟩, ⟨0, 10, 21, 15⟩] (ht.trans rfl) (fun z hz => absurd hz (List.not_mem_nil)) (by decide) (by decide) qw_386 nqw_394 (fun q9 => ?_)
      refine J_astore (lv' := [(4, .ref q9), (0, .ref (gA G 88)), (1, .int p0), (2, .int p1), (3, .ref (gA G 123))]) hC dL_hire_13 (by decide) rfl ?_
      refine J_iconst (v := 1) hC dL_hire_15 (by decide) ?_
      refine J_widen (k := 1) (n := 6) (by decide) (by decide) ?_
      exact J_iret hC hr (by rw [hk]; decide) (by rw [if_neg (by rw [hk]; decide)]) (by rw [if_neg (by rw [hk]; decide)]) dL_hire_16
    | 1, hi, hk =>
      obtain rfl := Option.some.inj (show some "java/lang/IllegalArgumentException" = some E9 from hi)
      refine J_catch hC [⟨0, 10, 13, 21⟩] ⟨0, 10, 17, 13⟩ [⟨0, 10, 21, 15⟩] (ht.trans rfl) (fun z hz => by obtain rfl := List.mem_singleton.mp hz; exact Or.inr ⟨by decide, _, qw_386, hN ("java/lang/IllegalArgumentException", "java/lang/IndexOutOfBoundsException") (by decide)⟩) (by decide) (by decide) qw_286 nqw_297 (fun q9 => ?_)
      refine J_astore (lv' := [(4, .ref q9), (0, .ref (gA G 88)), (1, .int p0), (2, .int p1), (3, .ref (gA G 123))]) hC dL_hire_17 (by decide) rfl ?_
      refine J_iconst (v := 2) hC dL_hire_19 (by decide) ?_
      refine J_widen (k := 1) (n := 6) (by decide) (by decide) ?_
      exact J_iret hC hr (by rw [hk]; decide) (by rw [if_neg (by rw [hk]; decide)]) (by rw [if_neg (by rw [hk]; decide)]) dL_hire_20
    | 2, hi, hk =>
      obtain rfl := Option.some.inj (show some "java/lang/IllegalStateException" = some E9 from hi)
      refine J_catch hC [⟨0, 10, 13, 21⟩, ⟨0, 10, 17, 13⟩] ⟨0, 10, 21, 15⟩ [] (ht.trans rfl) (fun z hz => by rcases List.mem_cons.mp hz with rfl | hz; exact Or.inr ⟨by decide, _, qw_386, hN ("java/lang/IllegalStateException", "java/lang/IndexOutOfBoundsException") (by decide)⟩; obtain rfl := List.mem_singleton.mp hz; exact Or.inr ⟨by decide, _, qw_286, hN ("java/lang/IllegalStateException", "java/lang/IllegalArgumentException") (by decide)⟩) (by decide) (by decide) qw_287 nqw_365 (fun q9 => ?_)
      refine J_astore (lv' := [(4, .ref q9), (0, .ref (gA G 88)), (1, .int p0), (2, .int p1), (3, .ref (gA G 123))]) hC dL_hire_21 (by decide) rfl ?_
      refine J_iconst (v := 3) hC dL_hire_23 (by decide) ?_
      refine J_widen (k := 1) (n := 6) (by decide) (by decide) ?_
      exact J_iret hC hr (by rw [hk]; decide) (by rw [if_neg (by rw [hk]; decide)]) (by rw [if_neg (by rw [hk]; decide)]) dL_hire_24
    | n + 3, hi, hk => exact absurd hi (by simp)
  · refine J_i2l hC dL_hire_8 ?_
    refine J_last hC (by unfold vp_in; decide) dL_hire_9 ?_
    refine J_goto (tgt := 25) hC dL_hire_10 (by decide) ?_
    refine J_iconst (v := 0) hC dL_hire_25 (by decide) ?_
    refine J_widen (k := 1) (n := 6) (by decide) (by decide) ?_
    exact J_iret hC hr (by rw [hk]) (by rw [if_pos hk]) (by rw [if_pos hk]) dL_hire_26
set_option maxHeartbeats 4000000 in
set_option maxRecDepth 100000 in
theorem wt_setRota (l : Launch) (hlt : l.stackTraces = false) (G : GG) (D E g S A : DD) (o : OO) (p0 : Int32) (p1 : Int32) (p2 : Int32) : WT l yL_setRota cL_setRota 6 [(0, 12, 15, 21), (0, 12, 19, 13)] 7 107 1 6 G [.ref (gA G 88), .int p0, .int p1, .int p2, .ref (gA G 123)] (mk5 D E g S A) o (some (.int (kRota D p0 p1 p2))) (if (kRota D p0 p1 p2) = 0 then (mk5 (dRota D p0 p1 p2) E g S A) else (mk5 D E g S A)) (if (kRota D p0 p1 p2) = 0 then ((((wOn (D (36 + (ix p0))) p1)).toInt64), o.2) else o) := by
  refine WT_of (own := RL) (lv := [(0, .ref (gA G 88)), (1, .int p0), (2, .int p1), (3, .int p2), (4, .ref (gA G 123))]) (by decide) rfl (Nat.le_of_ble_eq_true rfl) rfl ?_
  intro p e s m args below meth c hr ht hN hC
  refine J_aload hC (j := 4) dL_setRota_0 rfl ?_
  refine J_iconst (v := 0) hC dL_setRota_2 (by decide) ?_
  refine J_aload_n hC (j := 0) dL_setRota_3 rfl rfl ?_
  refine J_iload_n hC (j := 1) dL_setRota_4 rfl rfl ?_
  refine J_iload_n hC (j := 2) dL_setRota_5 rfl rfl ?_
  refine J_iload_n hC (j := 3) dL_setRota_6 rfl rfl ?_
  refine J_callX hC (xt_X4_setRota l hlt G D E g S A o p0 p1 p2) mw_X4_setRota qw_497 (by decide) ent_rt rfl rfl rfl (Nat.le_of_ble_eq_true rfl) ⟨Nat.le_of_ble_eq_true rfl, Nat.le_of_ble_eq_true rfl⟩ ⟨Nat.le_of_ble_eq_true rfl, Nat.le_of_ble_eq_true rfl⟩ dL_setRota_7 (fun i E9 hi hk => ?_) (fun hk => ?_)
  · match i, hi, hk with
    | 0, hi, hk =>
      obtain rfl := Option.some.inj (show some "java/lang/IndexOutOfBoundsException" = some E9 from hi)
      refine J_catch hC [] ⟨0, 12, 15, 21⟩ [⟨0, 12, 19, 13⟩] (ht.trans rfl) (fun z hz => absurd hz (List.not_mem_nil)) (by decide) (by decide) qw_386 nqw_394 (fun q9 => ?_)
      refine J_astore (lv' := [(5, .ref q9), (0, .ref (gA G 88)), (1, .int p0), (2, .int p1), (3, .int p2), (4, .ref (gA G 123))]) hC dL_setRota_15 (by decide) rfl ?_
      refine J_iconst (v := 1) hC dL_setRota_17 (by decide) ?_
      refine J_widen (k := 1) (n := 6) (by decide) (by decide) ?_
      exact J_iret hC hr (by rw [hk]; decide) (by rw [if_neg (by rw [hk]; decide)]) (by rw [if_neg (by rw [hk]; decide)]) dL_setRota_18
    | 1, hi, hk =>
      obtain rfl := Option.some.inj (show some "java/lang/IllegalArgumentException" = some E9 from hi)
      refine J_catch hC [⟨0, 12, 15, 21⟩] ⟨0, 12, 19, 13⟩ [] (ht.trans rfl) (fun z hz => by obtain rfl := List.mem_singleton.mp hz; exact Or.inr ⟨by decide, _, qw_386, hN ("java/lang/IllegalArgumentException", "java/lang/IndexOutOfBoundsException") (by decide)⟩) (by decide) (by decide) qw_286 nqw_297 (fun q9 => ?_)
      refine J_astore (lv' := [(5, .ref q9), (0, .ref (gA G 88)), (1, .int p0), (2, .int p1), (3, .int p2), (4, .ref (gA G 123))]) hC dL_setRota_19 (by decide) rfl ?_
      refine J_iconst (v := 2) hC dL_setRota_21 (by decide) ?_
      refine J_widen (k := 1) (n := 6) (by decide) (by decide) ?_
      exact J_iret hC hr (by rw [hk]; decide) (by rw [if_neg (by rw [hk]; decide)]) (by rw [if_neg (by rw [hk]; decide)]) dL_setRota_22
    | n + 2, hi, hk => exact absurd hi (by simp)
  · refine J_i2l hC dL_setRota_10 ?_
    refine J_last hC (by unfold vp_in; decide) dL_setRota_11 ?_
    refine J_goto (tgt := 23) hC dL_setRota_12 (by decide) ?_
    refine J_iconst (v := 0) hC dL_setRota_23 (by decide) ?_
    refine J_widen (k := 1) (n := 6) (by decide) (by decide) ?_
    exact J_iret hC hr (by rw [hk]) (by rw [if_pos hk]) (by rw [if_pos hk]) dL_setRota_24
set_option maxHeartbeats 4000000 in
set_option maxRecDepth 100000 in
theorem wt_wheel (l : Launch) (hlt : l.stackTraces = false) (G : GG) (D E g S A : DD) (o : OO) (p0 : Int32) (p1 : Int32) : WT l yL_wheel cL_wheel 5 [(0, 10, 13, 21)] 7 105 1 6 G [.ref (gA G 88), .int p0, .int p1, .ref (gA G 123)] (mk5 D E g S A) o (some (.int (kWheel D p0 p1))) (if (kWheel D p0 p1) = 0 then (mk5 D E g S A) else (mk5 D E g S A)) (if (kWheel D p0 p1) = 0 then ((((wFact (D (ix p0)) p1)).toInt64), o.2) else o) := by
  refine WT_of (own := RL) (lv := [(0, .ref (gA G 88)), (1, .int p0), (2, .int p1), (3, .ref (gA G 123))]) (by decide) rfl (Nat.le_of_ble_eq_true rfl) rfl ?_
  intro p e s m args below meth c hr ht hN hC
  refine J_aload_n hC (j := 3) dL_wheel_0 rfl rfl ?_
  refine J_iconst (v := 0) hC dL_wheel_1 (by decide) ?_
  refine J_aload_n hC (j := 0) dL_wheel_2 rfl rfl ?_
  refine J_iload_n hC (j := 1) dL_wheel_3 rfl rfl ?_
  refine J_iload_n hC (j := 2) dL_wheel_4 rfl rfl ?_
  refine J_callX hC (xt_X4_wheel l hlt G D E g S A o p0 p1) mw_X4_wheel qw_510 (by decide) ent_rt rfl rfl rfl (Nat.le_of_ble_eq_true rfl) ⟨Nat.le_of_ble_eq_true rfl, Nat.le_of_ble_eq_true rfl⟩ ⟨Nat.le_of_ble_eq_true rfl, Nat.le_of_ble_eq_true rfl⟩ dL_wheel_5 (fun i E9 hi hk => ?_) (fun hk => ?_)
  · match i, hi, hk with
    | 0, hi, hk =>
      obtain rfl := Option.some.inj (show some "java/lang/IndexOutOfBoundsException" = some E9 from hi)
      refine J_catch hC [] ⟨0, 10, 13, 21⟩ [] (ht.trans rfl) (fun z hz => absurd hz (List.not_mem_nil)) (by decide) (by decide) qw_386 nqw_394 (fun q9 => ?_)
      refine J_astore (lv' := [(4, .ref q9), (0, .ref (gA G 88)), (1, .int p0), (2, .int p1), (3, .ref (gA G 123))]) hC dL_wheel_13 (by decide) rfl ?_
      refine J_iconst (v := 1) hC dL_wheel_15 (by decide) ?_
      refine J_widen (k := 1) (n := 6) (by decide) (by decide) ?_
      exact J_iret hC hr (by rw [hk]; decide) (by rw [if_neg (by rw [hk]; decide)]) (by rw [if_neg (by rw [hk]; decide)]) dL_wheel_16
    | n + 1, hi, hk => exact absurd hi (by simp)
  · refine J_i2l hC dL_wheel_8 ?_
    refine J_last hC (by unfold vp_in; decide) dL_wheel_9 ?_
    refine J_goto (tgt := 17) hC dL_wheel_10 (by decide) ?_
    refine J_iconst (v := 0) hC dL_wheel_17 (by decide) ?_
    refine J_widen (k := 1) (n := 6) (by decide) (by decide) ?_
    exact J_iret hC hr (by rw [hk]) (by rw [if_pos hk]) (by rw [if_pos hk]) dL_wheel_18
set_option maxHeartbeats 4000000 in
set_option maxRecDepth 100000 in
theorem wt_cellar (l : Launch) (hlt : l.stackTraces = false) (G : GG) (D E g S A : DD) (o : OO) (p0 : Int32) (p1 : Int32) : WT l yL_cellar cL_cellar 5 [(0, 10, 13, 21)] 7 113 1 6 G [.ref (gA G 88), .int p0, .int p1, .ref (gA G 123)] (mk5 D E g S A) o (some (.int (kCellar D p0 p1))) (if (kCellar D p0 p1) = 0 then (mk5 D E g S A) else (mk5 D E g S A)) (if (kCellar D p0 p1) = 0 then ((((ceFact D p0 p1)).toInt64), o.2) else o) := by
  refine WT_of (own := RL) (lv := [(0, .ref (gA G 88)), (1, .int p0), (2, .int p1), (3, .ref (gA G 123))]) (by decide) rfl (Nat.le_of_ble_eq_true rfl) rfl ?_
  intro p e s m args below meth c hr ht hN hC
  refine J_aload_n hC (j := 3) dL_cellar_0 rfl rfl ?_
  refine J_iconst (v := 0) hC dL_cellar_1 (by decide) ?_
  refine J_aload_n hC (j := 0) dL_cellar_2 rfl rfl ?_
  refine J_iload_n hC (j := 1) dL_cellar_3 rfl rfl ?_
  refine J_iload_n hC (j := 2) dL_cellar_4 rfl rfl ?_
  refine J_callX hC (xt_X4_cellar l hlt G D E g S A o p0 p1) mw_X4_cellar qw_518 (by decide) ent_rt rfl rfl rfl (Nat.le_of_ble_eq_true rfl) ⟨Nat.le_of_ble_eq_true rfl, Nat.le_of_ble_eq_true rfl⟩ ⟨Nat.le_of_ble_eq_true rfl, Nat.le_of_ble_eq_true rfl⟩ dL_cellar_5 (fun i E9 hi hk => ?_) (fun hk => ?_)
  · match i, hi, hk with
    | 0, hi, hk =>
      obtain rfl := Option.some.inj (show some "java/lang/IndexOutOfBoundsException" = some E9 from hi)
      refine J_catch hC [] ⟨0, 10, 13, 21⟩ [] (ht.trans rfl) (fun z hz => absurd hz (List.not_mem_nil)) (by decide) (by decide) qw_386 nqw_394 (fun q9 => ?_)
      refine J_astore (lv' := [(4, .ref q9), (0, .ref (gA G 88)), (1, .int p0), (2, .int p1), (3, .ref (gA G 123))]) hC dL_cellar_13 (by decide) rfl ?_
      refine J_iconst (v := 1) hC dL_cellar_15 (by decide) ?_
      refine J_widen (k := 1) (n := 6) (by decide) (by decide) ?_
      exact J_iret hC hr (by rw [hk]; decide) (by rw [if_neg (by rw [hk]; decide)]) (by rw [if_neg (by rw [hk]; decide)]) dL_cellar_16
    | n + 1, hi, hk => exact absurd hi (by simp)
  · refine J_i2l hC dL_cellar_8 ?_
    refine J_last hC (by unfold vp_in; decide) dL_cellar_9 ?_
    refine J_goto (tgt := 17) hC dL_cellar_10 (by decide) ?_
    refine J_iconst (v := 0) hC dL_cellar_17 (by decide) ?_
    refine J_widen (k := 1) (n := 6) (by decide) (by decide) ?_
    exact J_iret hC hr (by rw [hk]) (by rw [if_pos hk]) (by rw [if_pos hk]) dL_cellar_18
set_option maxHeartbeats 4000000 in
set_option maxRecDepth 100000 in
theorem wt_at (l : Launch) (hlt : l.stackTraces = false) (G : GG) (D E g S A : DD) (o : OO) (p0 : Int32) (p1 : Int32) : WT l yL_at cL_at 5 [(0, 10, 13, 21)] 7 105 1 6 G [.ref (gA G 88), .int p0, .int p1, .ref (gA G 123)] (mk5 D E g S A) o (some (.int (kAt D p0 p1))) (if (kAt D p0 p1) = 0 then (mk5 D E g S A) else (mk5 D E g S A)) (if (kAt D p0 p1) = 0 then ((((wAt (D (28 + (ix p0))) p1)).toInt64), o.2) else o) := by
  refine WT_of (own := RL) (lv := [(0, .ref (gA G 88)), (1, .int p0), (2, .int p1), (3, .ref (gA G 123))]) (by decide) rfl (Nat.le_of_ble_eq_true rfl) rfl ?_
  intro p e s m args below meth c hr ht hN hC
  refine J_aload_n hC (j := 3) dL_at_0 rfl rfl ?_
  refine J_iconst (v := 0) hC dL_at_1 (by decide) ?_
  refine J_aload_n hC (j := 0) dL_at_2 rfl rfl ?_
  refine J_iload_n hC (j := 1) dL_at_3 rfl rfl ?_
  refine J_iload_n hC (j := 2) dL_at_4 rfl rfl ?_
  refine J_callX hC (xt_X4_at l hlt G D E g S A o p0 p1) mw_X4_at qw_526 (by decide) ent_rt rfl rfl rfl (Nat.le_of_ble_eq_true rfl) ⟨Nat.le_of_ble_eq_true rfl, Nat.le_of_ble_eq_true rfl⟩ ⟨Nat.le_of_ble_eq_true rfl, Nat.le_of_ble_eq_true rfl⟩ dL_at_5 (fun i E9 hi hk => ?_) (fun hk => ?_)
  · match i, hi, hk with
    | 0, hi, hk =>
      obtain rfl := Option.some.inj (show some "java/lang/IndexOutOfBoundsException" = some E9 from hi)
      refine J_catch hC [] ⟨0, 10, 13, 21⟩ [] (ht.trans rfl) (fun z hz => absurd hz (List.not_mem_nil)) (by decide) (by decide) qw_386 nqw_394 (fun q9 => ?_)
      refine J_astore (lv' := [(4, .ref q9), (0, .ref (gA G 88)), (1, .int p0), (2, .int p1), (3, .ref (gA G 123))]) hC dL_at_13 (by decide) rfl ?_
      refine J_iconst (v := 1) hC dL_at_15 (by decide) ?_
      refine J_widen (k := 1) (n := 6) (by decide) (by decide) ?_
      exact J_iret hC hr (by rw [hk]; decide) (by rw [if_neg (by rw [hk]; decide)]) (by rw [if_neg (by rw [hk]; decide)]) dL_at_16
    | n + 1, hi, hk => exact absurd hi (by simp)
  · refine J_i2l hC dL_at_8 ?_
    refine J_last hC (by unfold vp_in; decide) dL_at_9 ?_
    refine J_goto (tgt := 17) hC dL_at_10 (by decide) ?_
    refine J_iconst (v := 0) hC dL_at_17 (by decide) ?_
    refine J_widen (k := 1) (n := 6) (by decide) (by decide) ?_
    exact J_iret hC hr (by rw [hk]) (by rw [if_pos hk]) (by rw [if_pos hk]) dL_at_18
set_option maxHeartbeats 4000000 in
set_option maxRecDepth 100000 in
theorem wt_monk (l : Launch) (hlt : l.stackTraces = false) (G : GG) (D E g S A : DD) (o : OO) (p0 : Int32) (p1 : Int32) : WT l yL_monk cL_monk 5 [(0, 10, 13, 21)] 7 105 1 6 G [.ref (gA G 88), .int p0, .int p1, .ref (gA G 123)] (mk5 D E g S A) o (some (.int (kMonk D p0 p1))) (if (kMonk D p0 p1) = 0 then (mk5 D E g S A) else (mk5 D E g S A)) (if (kMonk D p0 p1) = 0 then ((((mFact (D (32 + (ix p0))) (D (36 + (ix p0))) p1 (D 40 0))).toInt64), o.2) else o) := by
  refine WT_of (own := RL) (lv := [(0, .ref (gA G 88)), (1, .int p0), (2, .int p1), (3, .ref (gA G 123))]) (by decide) rfl (Nat.le_of_ble_eq_true rfl) rfl ?_
  intro p e s m args below meth c hr ht hN hC
  refine J_aload_n hC (j := 3) dL_monk_0 rfl rfl ?_
  refine J_iconst (v := 0) hC dL_monk_1 (by decide) ?_
  refine J_aload_n hC (j := 0) dL_monk_2 rfl rfl ?_
  refine J_iload_n hC (j := 1) dL_monk_3 rfl rfl ?_
  refine J_iload_n hC (j := 2) dL_monk_4 rfl rfl ?_
  refine J_callX hC (xt_X4_monk l hlt G D E g S A o p0 p1) mw_X4_monk qw_533 (by decide) ent_rt rfl rfl rfl (Nat.le_of_ble_eq_true rfl) ⟨Nat.le_of_ble_eq_true rfl, Nat.le_of_ble_eq_true rfl⟩ ⟨Nat.le_of_ble_eq_true rfl, Nat.le_of_ble_eq_true rfl⟩ dL_monk_5 (fun i E9 hi hk => ?_) (fun hk => ?_)
  · match i, hi, hk with
    | 0, hi, hk =>
      obtain rfl := Option.some.inj (show some "java/lang/IndexOutOfBoundsException" = some E9 from hi)
      refine J_catch hC [] ⟨0, 10, 13, 21⟩ [] (ht.trans rfl) (fun z hz => absurd hz (List.not_mem_nil)) (by decide) (by decide) qw_386 nqw_394 (fun q9 => ?_)
      refine J_astore (lv' := [(4, .ref q9), (0, .ref (gA G 88)), (1, .int p0), (2, .int p1), (3, .ref (gA G 123))]) hC dL_monk_13 (by decide) rfl ?_
      refine J_iconst (v := 1) hC dL_monk_15 (by decide) ?_
      refine J_widen (k := 1) (n := 6) (by decide) (by decide) ?_
      exact J_iret hC hr (by rw [hk]; decide) (by rw [if_neg (by rw [hk]; decide)]) (by rw [if_neg (by rw [hk]; decide)]) dL_monk_16
    | n + 1, hi, hk => exact absurd hi (by simp)
  · refine J_i2l hC dL_monk_8 ?_
    refine J_last hC (by unfold vp_in; decide) dL_monk_9 ?_
    refine J_goto (tgt := 17) hC dL_monk_10 (by decide) ?_
    refine J_iconst (v := 0) hC dL_monk_17 (by decide) ?_
    refine J_widen (k := 1) (n := 6) (by decide) (by decide) ?_
    exact J_iret hC hr (by rw [hk]) (by rw [if_pos hk]) (by rw [if_pos hk]) dL_monk_18
set_option maxHeartbeats 4000000 in
set_option maxRecDepth 100000 in
theorem wt_count (l : Launch) (hlt : l.stackTraces = false) (G : GG) (D E g S A : DD) (o : OO) (p0 : Int32) : WT l yL_count cL_count 4 [(0, 9, 12, 21)] 7 132 1 6 G [.ref (gA G 88), .int p0, .ref (gA G 123)] (mk5 D E g S A) o (some (.int (kCount D p0))) (if (kCount D p0) = 0 then (mk5 D E g S A) else (mk5 D E g S A)) (if (kCount D p0) = 0 then ((((dFact D p0)).toInt64), o.2) else o) := by
  refine WT_of (own := RL) (lv := [(0, .ref (gA G 88)), (1, .int p0), (2, .ref (gA G 123))]) (by decide) rfl (Nat.le_of_ble_eq_true rfl) rfl ?_
  intro p e s m args below meth c hr ht hN hC
  refine J_aload_n hC (j := 2) dL_count_0 rfl rfl ?_
  refine J_iconst (v := 0) hC dL_count_1 (by decide) ?_
  refine J_aload_n hC (j := 0) dL_count_2 rfl rfl ?_
  refine J_iload_n hC (j := 1) dL_count_3 rfl rfl ?_
  refine J_callX hC (xt_X4_count l hlt G D E g S A o p0) mw_X4_count qw_541 (by decide) ent_rt rfl rfl rfl (Nat.le_of_ble_eq_true rfl) ⟨Nat.le_of_ble_eq_true rfl, Nat.le_of_ble_eq_true rfl⟩ ⟨Nat.le_of_ble_eq_true rfl, Nat.le_of_ble_eq_true rfl⟩ dL_count_4 (fun i E9 hi hk => ?_) (fun hk => ?_)
  · match i, hi, hk with
    | 0, hi, hk =>
      obtain rfl := Option.some.inj (show some "java/lang/IndexOutOfBoundsException" = some E9 from hi)
      refine J_catch hC [] ⟨0, 9, 12, 21⟩ [] (ht.trans rfl) (fun z hz => absurd hz (List.not_mem_nil)) (by decide) (by decide) qw_386 nqw_394 (fun q9 => ?_)
      refine J_astore_n (lv' := [(3, .ref q9), (0, .ref (gA G 88)), (1, .int p0), (2, .ref (gA G 123))]) hC dL_count_12 rfl (by decide) rfl ?_
      refine J_iconst (v := 1) hC dL_count_13 (by decide) ?_
      refine J_widen (k := 1) (n := 6) (by decide) (by decide) ?_
      exact J_iret hC hr (by rw [hk]; decide) (by rw [if_neg (by rw [hk]; decide)]) (by rw [if_neg (by rw [hk]; decide)]) dL_count_14
    | n + 1, hi, hk => exact absurd hi (by simp)
  · refine J_i2l hC dL_count_7 ?_
    refine J_last hC (by unfold vp_in; decide) dL_count_8 ?_
    refine J_goto (tgt := 15) hC dL_count_9 (by decide) ?_
    refine J_iconst (v := 0) hC dL_count_15 (by decide) ?_
    refine J_widen (k := 1) (n := 6) (by decide) (by decide) ?_
    exact J_iret hC hr (by rw [hk]) (by rw [if_pos hk]) (by rw [if_pos hk]) dL_count_16
set_option maxHeartbeats 4000000 in
set_option maxRecDepth 100000 in
theorem wt_pass (l : Launch) (hlt : l.stackTraces = false) (G : GG) (D E g S A : DD) (o : OO) (p0 : Int32) : WT l yL_pass cL_pass 4 [(0, 9, 12, 13)] 7 138 1 6 G [.ref (gA G 88), .int p0, .ref (gA G 123)] (mk5 D E g S A) o (some (.int (kPass D p0))) (if (kPass D p0) = 0 then (mk5 (days D (ix p0)) E g S A) else (mk5 D E g S A)) (if (kPass D p0) = 0 then (((((cntSt (days D (ix p0)) 2 24) - (cntSt D 2 24))).toInt64), o.2) else o) := by
  refine WT_of (own := RL) (lv := [(0, .ref (gA G 88)), (1, .int p0), (2, .ref (gA G 123))]) (by decide) rfl (Nat.le_of_ble_eq_true rfl) rfl ?_
  intro p e s m args below meth c hr ht hN hC
  refine J_aload_n hC (j := 2) dL_pass_0 rfl rfl ?_
  refine J_iconst (v := 0) hC dL_pass_1 (by decide) ?_
  refine J_aload_n hC (j := 0) dL_pass_2 rfl rfl ?_
  refine J_iload_n hC (j := 1) dL_pass_3 rfl rfl ?_
  refine J_callX hC (xt_X4_pass l hlt G D E g S A o p0) mw_X4_pass qw_549 (by decide) ent_rt rfl rfl rfl (Nat.le_of_ble_eq_true rfl) ⟨Nat.le_of_ble_eq_true rfl, Nat.le_of_ble_eq_true rfl⟩ ⟨Nat.le_of_ble_eq_true rfl, Nat.le_of_ble_eq_true rfl⟩ dL_pass_4 (fun i E9 hi hk => ?_) (fun hk => ?_)
  · match i, hi, hk with
    | 0, hi, hk =>
      obtain rfl := Option.some.inj (show some "java/lang/IllegalArgumentException" = some E9 from hi)
      refine J_catch hC [] ⟨0, 9, 12, 13⟩ [] (ht.trans rfl) (fun z hz => absurd hz (List.not_mem_nil)) (by decide) (by decide) qw_286 nqw_297 (fun q9 => ?_)
      refine J_astore_n (lv' := [(3, .ref q9), (0, .ref (gA G 88)), (1, .int p0), (2, .ref (gA G 123))]) hC dL_pass_12 rfl (by decide) rfl ?_
      refine J_iconst (v := 1) hC dL_pass_13 (by decide) ?_
      refine J_widen (k := 1) (n := 6) (by decide) (by decide) ?_
      exact J_iret hC hr (by rw [hk]; decide) (by rw [if_neg (by rw [hk]; decide)]) (by rw [if_neg (by rw [hk]; decide)]) dL_pass_14
    | n + 1, hi, hk => exact absurd hi (by simp)
  · refine J_i2l hC dL_pass_7 ?_
    refine J_last hC (by unfold vp_in; decide) dL_pass_8 ?_
    refine J_goto (tgt := 15) hC dL_pass_9 (by decide) ?_
    refine J_iconst (v := 0) hC dL_pass_15 (by decide) ?_
    refine J_widen (k := 1) (n := 6) (by decide) (by decide) ?_
    exact J_iret hC hr (by rw [hk]) (by rw [if_pos hk]) (by rw [if_pos hk]) dL_pass_16
set_option maxHeartbeats 4000000 in
set_option maxRecDepth 100000 in
theorem wt_foresee (l : Launch) (hlt : l.stackTraces = false) (G : GG) (D E g S A : DD) (o : OO) (p0 : Int32) (p1 : Int32) : WT l yL_foresee cL_foresee 5 [(0, 10, 13, 13), (0, 10, 17, 21)] 7 138 1 6 G [.ref (gA G 88), .int p0, .int p1, .ref (gA G 123)] (mk5 D E g S A) o (some (.int (kForesee D p0 p1))) (if (kForesee D p0 p1) = 0 then (mk5 D (days (cpD E D) (ix p0)) g S A) else (mk5 D E g S A)) (if (kForesee D p0 p1) = 0 then ((((vForesee (days (cpD E D) (ix p0)) p1)).toInt64), o.2) else o) := by
  refine WT_of (own := RL) (lv := [(0, .ref (gA G 88)), (1, .int p0), (2, .int p1), (3, .ref (gA G 123))]) (by decide) rfl (Nat.le_of_ble_eq_true rfl) rfl ?_
  intro p e s m args below meth c hr ht hN hC
  refine J_aload_n hC (j := 3) dL_foresee_0 rfl rfl ?_
  refine J_iconst (v := 0) hC dL_foresee_1 (by decide) ?_
  refine J_aload_n hC (j := 0) dL_foresee_2 rfl rfl ?_
  refine J_iload_n hC (j := 1) dL_foresee_3 rfl rfl ?_
  refine J_iload_n hC (j := 2) dL_foresee_4 rfl rfl ?_
  refine J_callX hC (xt_X4_foresee l hlt G D E g S A o p0 p1) mw_X4_foresee qw_637 (by decide) ent_rt rfl rfl rfl (Nat.le_of_ble_eq_true rfl) ⟨Nat.le_of_ble_eq_true rfl, Nat.le_of_ble_eq_true rfl⟩ ⟨Nat.le_of_ble_eq_true rfl, Nat.le_of_ble_eq_true rfl⟩ dL_foresee_5 (fun i E9 hi hk => ?_) (fun hk => ?_)
  · match i, hi, hk with
    | 0, hi, hk =>
      obtain rfl := Option.some.inj (show some "java/lang/IllegalArgumentException" = some E9 from hi)
      refine J_catch hC [] ⟨0, 10, 13, 13⟩ [⟨0, 10, 17, 21⟩] (ht.trans rfl) (fun z hz => absurd hz (List.not_mem_nil)) (by decide) (by decide) qw_286 nqw_297 (fun q9 => ?_)
      refine J_astore (lv' := [(4, .ref q9), (0, .ref (gA G 88)), (1, .int p0), (2, .int p1), (3, .ref (gA G 123))]) hC dL_foresee_13 (by decide) rfl ?_
      refine J_iconst (v := 1) hC dL_foresee_15 (by decide) ?_
      refine J_widen (k := 1) (n := 6) (by decide) (by decide) ?_
      exact J_iret hC hr (by rw [hk]; decide) (by rw [if_neg (by rw [hk]; decide)]) (by rw [if_neg (by rw [hk]; decide)]) dL_foresee_16
    | 1, hi, hk =>
      obtain rfl := Option.some.inj (show some "java/lang/IndexOutOfBoundsException" = some E9 from hi)
      refine J_catch hC [⟨0, 10, 13, 13⟩] ⟨0, 10, 17, 21⟩ [] (ht.trans rfl) (fun z hz => by obtain rfl := List.mem_singleton.mp hz; exact Or.inr ⟨by decide, _, qw_286, hN ("java/lang/IndexOutOfBoundsException", "java/lang/IllegalArgumentException") (by decide)⟩) (by decide) (by decide) qw_386 nqw_394 (fun q9 => ?_)
      refine J_astore (lv' := [(4, .ref q9), (0, .ref (gA G 88)), (1, .int p0), (2, .int p1), (3, .ref (gA G 123))]) hC dL_foresee_17 (by decide) rfl ?_
      refine J_iconst (v := 2) hC dL_foresee_19 (by decide) ?_
      refine J_widen (k := 1) (n := 6) (by decide) (by decide) ?_
      exact J_iret hC hr (by rw [hk]; decide) (by rw [if_neg (by rw [hk]; decide)]) (by rw [if_neg (by rw [hk]; decide)]) dL_foresee_20
    | n + 2, hi, hk => exact absurd hi (by simp)
  · refine J_i2l hC dL_foresee_8 ?_
    refine J_last hC (by unfold vp_in; decide) dL_foresee_9 ?_
    refine J_goto (tgt := 21) hC dL_foresee_10 (by decide) ?_
    refine J_iconst (v := 0) hC dL_foresee_21 (by decide) ?_
    refine J_widen (k := 1) (n := 6) (by decide) (by decide) ?_
    exact J_iret hC hr (by rw [hk]) (by rw [if_pos hk]) (by rw [if_pos hk]) dL_foresee_22
set_option maxHeartbeats 4000000 in
set_option maxRecDepth 100000 in
theorem wt_best (l : Launch) (hlt : l.stackTraces = false) (G : GG) (D E g S A : DD) (o : OO) (p0 : Int32) : WT l yL_best cL_best 4 [(0, 9, 12, 21)] 7 141 1 6 G [.ref (gA G 88), .int p0, .ref (gA G 123)] (mk5 D E g S A) o (some (.int (kBest D p0))) (if (kBest D p0) = 0 then (mk5 D (eBest D E p0) g S A) else (mk5 D E g S A)) (if (kBest D p0) = 0 then ((((vBest D E p0)).toInt64), o.2) else o) := by
  refine WT_of (own := RL) (lv := [(0, .ref (gA G 88)), (1, .int p0), (2, .ref (gA G 123))]) (by decide) rfl (Nat.le_of_ble_eq_true rfl) rfl ?_
  intro p e s m args below meth c hr ht hN hC
  refine J_aload_n hC (j := 2) dL_best_0 rfl rfl ?_
  refine J_iconst (v := 0) hC dL_best_1 (by decide) ?_
  refine J_aload_n hC (j := 0) dL_best_2 rfl rfl ?_
  refine J_iload_n hC (j := 1) dL_best_3 rfl rfl ?_
  refine J_callX hC (xt_X4_best l hlt G D E g S A o p0) mw_X4_best qw_612 (by decide) ent_rt rfl rfl rfl (Nat.le_of_ble_eq_true rfl) ⟨Nat.le_of_ble_eq_true rfl, Nat.le_of_ble_eq_true rfl⟩ ⟨Nat.le_of_ble_eq_true rfl, Nat.le_of_ble_eq_true rfl⟩ dL_best_4 (fun i E9 hi hk => ?_) (fun hk => ?_)
  · match i, hi, hk with
    | 0, hi, hk =>
      obtain rfl := Option.some.inj (show some "java/lang/IndexOutOfBoundsException" = some E9 from hi)
      refine J_catch hC [] ⟨0, 9, 12, 21⟩ [] (ht.trans rfl) (fun z hz => absurd hz (List.not_mem_nil)) (by decide) (by decide) qw_386 nqw_394 (fun q9 => ?_)
      refine J_astore_n (lv' := [(3, .ref q9), (0, .ref (gA G 88)), (1, .int p0), (2, .ref (gA G 123))]) hC dL_best_12 rfl (by decide) rfl ?_
      refine J_iconst (v := 1) hC dL_best_13 (by decide) ?_
      refine J_widen (k := 1) (n := 6) (by decide) (by decide) ?_
      exact J_iret hC hr (by rw [hk]; decide) (by rw [if_neg (by rw [hk]; decide)]) (by rw [if_neg (by rw [hk]; decide)]) dL_best_14
    | n + 1, hi, hk => exact absurd hi (by simp)
  · refine J_i2l hC dL_best_7 ?_
    refine J_last hC (by unfold vp_in; decide) dL_best_8 ?_
    refine J_goto (tgt := 15) hC dL_best_9 (by decide) ?_
    refine J_iconst (v := 0) hC dL_best_15 (by decide) ?_
    refine J_widen (k := 1) (n := 6) (by decide) (by decide) ?_
    exact J_iret hC hr (by rw [hk]) (by rw [if_pos hk]) (by rw [if_pos hk]) dL_best_16
set_option maxHeartbeats 4000000 in
set_option maxRecDepth 100000 in
theorem wt_advise (l : Launch) (hlt : l.stackTraces = false) (G : GG) (D E g S A : DD) (o : OO) (p0 : Int32) (p1 : Int32) : WT l yL_advise cL_advise 5 [(0, 10, 13, 21), (0, 10, 17, 13)] 7 168 1 6 G [.ref (gA G 88), .int p0, .int p1, .ref (gA G 123)] (mk5 D E g S A) o (some (.int (kAdvise D p0 p1))) (if (kAdvise D p0 p1) = 0 then (mk5 D (advL D E p0 p1 4).1 g S A) else (mk5 D E g S A)) (if (kAdvise D p0 p1) = 0 then ((((advL D E p0 p1 4).2.2).toInt64), o.2) else o) := by
  refine WT_of (own := RL) (lv := [(0, .ref (gA G 88)), (1, .int p0), (2, .int p1), (3, .ref (gA G 123))]) (by decide) rfl (Nat.le_of_ble_eq_true rfl) rfl ?_
  intro p e s m args below meth c hr ht hN hC
  refine J_aload_n hC (j := 3) dL_advise_0 rfl rfl ?_
  refine J_iconst (v := 0) hC dL_advise_1 (by decide) ?_
  refine J_aload_n hC (j := 0) dL_advise_2 rfl rfl ?_
  refine J_iload_n hC (j := 1) dL_advise_3 rfl rfl ?_
  refine J_iload_n hC (j := 2) dL_advise_4 rfl rfl ?_
  refine J_callX hC (xt_X4_advise l hlt G D E g S A o p0 p1) mw_X4_advise qw_646 (by decide) ent_rt rfl rfl rfl (Nat.le_of_ble_eq_true rfl) ⟨Nat.le_of_ble_eq_true rfl, Nat.le_of_ble_eq_true rfl⟩ ⟨Nat.le_of_ble_eq_true rfl, Nat.le_of_ble_eq_true rfl⟩ dL_advise_5 (fun i E9 hi hk => ?_) (fun hk => ?_)
  · match i, hi, hk with
    | 0, hi, hk =>
      obtain rfl := Option.some.inj (show some "java/lang/IndexOutOfBoundsException" = some E9 from hi)
      refine J_catch hC [] ⟨0, 10, 13, 21⟩ [⟨0, 10, 17, 13⟩] (ht.trans rfl) (fun z hz => absurd hz (List.not_mem_nil)) (by decide) (by decide) qw_386 nqw_394 (fun q9 => ?_)
      refine J_astore (lv' := [(4, .ref q9), (0, .ref (gA G 88)), (1, .int p0), (2, .int p1), (3, .ref (gA G 123))]) hC dL_advise_13 (by decide) rfl ?_
      refine J_iconst (v := 1) hC dL_advise_15 (by decide) ?_
      refine J_widen (k := 1) (n := 6) (by decide) (by decide) ?_
      exact J_iret hC hr (by rw [hk]; decide) (by rw [if_neg (by rw [hk]; decide)]) (by rw [if_neg (by rw [hk]; decide)]) dL_advise_16
    | 1, hi, hk =>
      obtain rfl := Option.some.inj (show some "java/lang/IllegalArgumentException" = some E9 from hi)
      refine J_catch hC [⟨0, 10, 13, 21⟩] ⟨0, 10, 17, 13⟩ [] (ht.trans rfl) (fun z hz => by obtain rfl := List.mem_singleton.mp hz; exact Or.inr ⟨by decide, _, qw_386, hN ("java/lang/IllegalArgumentException", "java/lang/IndexOutOfBoundsException") (by decide)⟩) (by decide) (by decide) qw_286 nqw_297 (fun q9 => ?_)
      refine J_astore (lv' := [(4, .ref q9), (0, .ref (gA G 88)), (1, .int p0), (2, .int p1), (3, .ref (gA G 123))]) hC dL_advise_17 (by decide) rfl ?_
      refine J_iconst (v := 2) hC dL_advise_19 (by decide) ?_
      refine J_widen (k := 1) (n := 6) (by decide) (by decide) ?_
      exact J_iret hC hr (by rw [hk]; decide) (by rw [if_neg (by rw [hk]; decide)]) (by rw [if_neg (by rw [hk]; decide)]) dL_advise_20
    | n + 2, hi, hk => exact absurd hi (by simp)
  · refine J_i2l hC dL_advise_8 ?_
    refine J_last hC (by unfold vp_in; decide) dL_advise_9 ?_
    refine J_goto (tgt := 21) hC dL_advise_10 (by decide) ?_
    refine J_iconst (v := 0) hC dL_advise_21 (by decide) ?_
    refine J_widen (k := 1) (n := 6) (by decide) (by decide) ?_
    exact J_iret hC hr (by rw [hk]) (by rw [if_pos hk]) (by rw [if_pos hk]) dL_advise_22
