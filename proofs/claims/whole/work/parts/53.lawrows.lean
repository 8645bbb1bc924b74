/-! THE LAW: its own rows, over the judgement Jd -/
/-- what the law's walk stands on -/
def LC (p : Program) (l : Launch) (s : State) (m : MethodId) (meth : Method) (c : Code) (G : GG) (b L : Nat) (xs : Nat → Int32) : Prop :=
  JC p s m #[Value.ref b] meth c code 9 "CheeseRotaLaw" G ∧ NCs s ∧ l.stackTraces = false ∧ va_X b L xs s s.heap ∧ b < s.heap.size ∧ ¬ gB G b
abbrev lvL (G : GG) (b t : Nat) : List (Nat × Value) := [(4, .int (nI (4 * t))), (3, .ref (gA G 123)), (2, .ref (aX G 2 0)), (1, .ref (gA G 88)), (0, .ref b)]
/-- what follows a call: the next turn of the loop -/
def LK (p : Program) (l : Launch) (e : Env) (s : State) (m : MethodId) (below : List Frame) (meth : Method) (c : Code) (Q : State → Prop) (G : GG) (b t cells slots : Nat) : Prop :=
  ∀ (D E g S A : DD) (z : Int64), JJ (100 * t + 100) D g S → Jd p l e room_1 s m #[Value.ref b] below meth c Q G 9 cells slots (mk5 D E g S A) (z, []) 1327 (lvL G b t) []
theorem nI_k1 (n : Nat) : nI n + 1 = nI (n + 1) := nI_1s n
theorem nI_k2 (n : Nat) : nI n + 2 = nI (n + 2) := by rw [show (2 : Int32) = nI 2 from rfl, nI_add]
theorem nI_k3 (n : Nat) : nI n + 3 = nI (n + 3) := by rw [show (3 : Int32) = nI 3 from rfl, nI_add]
theorem nI_k4 (n : Nat) : nI n + 4 = nI (n + 4) := by rw [show (4 : Int32) = nI 4 from rfl, nI_add]
theorem lgc_self {x y : Int64} (h : x = y) : lg_cmp x y = 0 := (lg_cmp_eq x y).mpr h
theorem ifD {P : Prop} [Decidable P] {D D' E g S A : DD} : (if P then mk5 D' E g S A else mk5 D E g S A) = mk5 (if P then D' else D) E g S A := by split <;> rfl
theorem ifE {P : Prop} [Decidable P] {D E E' g S A : DD} : (if P then mk5 D E' g S A else mk5 D E g S A) = mk5 D (if P then E' else E) g S A := by split <;> rfl
theorem ifO {P : Prop} [Decidable P] {x z : Int64} : (if P then ((x, ((z, []) : OO).2) : OO) else (z, [])) = ((if P then x else z), []) := by split <;> rfl
section LR
variable {p : Program} {l : Launch} {e : Env} {R : Room} {s : State} {m : MethodId} {args : Array Value} {below : List Frame} {meth : Method} {c : Code} {Q : State → Prop} {G : GG} {nL cells slots : Nat} {X X' : XX} {o o' : OO} {pc : Nat} {lv lv' : List (Nat × Value)} {st : List Value} {cc : ByteArray} {own : String}
theorem J_o (h : o = o') (kk : Jd p l e R s m args below meth c Q G nL cells slots X o' pc lv st) : Jd p l e R s m args below meth c Q G nL cells slots X o pc lv st := by subst h; exact kk
theorem J_sld (hC : JC p s m args meth c cc nL own G) {b L : Nat} {xs : Nat → Int32} (hX : va_X b L xs s s.heap) (hbl : b < s.heap.size) (hbA : ¬ gB G b) {i x : Int32} (hin : vp_in i L) (hx : xs (ix i) = x) (hdg : decode cc pc = .ok (.iaload, 1)) (kk : Jd p l e R s m args below meth c Q G nL cells slots X o (pc + 1) lv (.int x :: st)) : Jd p l e R s m args below meth c Q G nL cells slots X o pc lv (.int i :: .ref b :: st) := by
  subst hx
  exact fun H locs ls hP hS hl => va_sld hC.1 hC.2.1 hX hbl hbA hS hin hdg (kk H locs ls hP hS hl)
theorem J_slen (hC : JC p s m args meth c cc nL own G) {b L : Nat} {xs : Nat → Int32} (hX : va_X b L xs s s.heap) (hbl : b < s.heap.size) (hbA : ¬ gB G b) (hdg : decode cc pc = .ok (.arraylength, 1)) (kk : Jd p l e R s m args below meth c Q G nL cells slots X o (pc + 1) lv (.int (nI L) :: st)) : Jd p l e R s m args below meth c Q G nL cells slots X o pc lv (.ref b :: st) :=
  fun H locs ls hP hS hl => va_slen hC.1 hC.2.1 hX hbl hbA hS hdg (kk H locs ls hP hS hl)
theorem WP_blind {av : List Value} : FrameBlind (va_Pc av (fun U => SysU G X o U ∧ NCs U)) := fun a U g mk q => by
  obtain ⟨h1, h2, h3⟩ := q
  have z := SysU_blind (G := G) (X := X) (o := o) (av := av) a U g mk ⟨h1, h2⟩
  exact ⟨z.1, z.2, NCs.moved (u := U) (U := U.calling g mk a) (Vm.Alike.refl U.vm) h3⟩
/-- a call of a method with a table of handlers -/
theorem J_callW (hC : JC p s m args meth c cc nL own G) (hN : NCs s) {y : MethodName} {cb : ByteArray} {nb f lo mc ms n index : Nat} {hh : List (Nat × Nat × Nat × Nat)} {As st0 : List Value} {v : Value} (hM : WT l y cb nb hh f lo mc ms G As X o (some v) X' o') (hstat : Cond.static y ∈ lw_all) (hini : Cond.initialized y.cls ∈ lw_all) (hcode : Cond.codeWith y cb nb (some .int) hh ∈ lw_all)
    (hd : y.cls ≠ "java/lang/invoke/MethodHandle" ∧ y.cls ≠ "java/lang/invoke/VarHandle" ∧ (parseMethodDescriptor y.desc).map (fun d => d.parameters.length) = some n) (hlink : Cond.methodLink own index y ∈ lw_all) (hn : As.length = n) (hst : st0 = As.reverse ++ st) (hW : (st.map fun v => v.category).sum ≤ 8) (hR : f + 1 ≤ R.frames ∧ 8 + (nb + 11) + lo ≤ R.locals) (hf : cells + mc ≤ R.cells ∧ slots + ms ≤ R.slots) (hdg : decode cc pc = .ok (.invokestatic index, 3))
    (kk : Jd p l e R s m args below meth c Q G nL (cells + mc) (slots + ms) X' o' (pc + 3) lv (v :: st)) : Jd p l e R s m args below meth c Q G nL cells slots X o pc lv st0 := by
  subst hst
  refine J_run (v := some v) (a := As.toArray) (fun H locs ls hP hS hl => ?_) kk
  have hts := hC.2.2.2.2.1
  have hG : GoodIn lw_all (wsH y cb nb hh) := fun w hw => (List.mem_cons.mp hw).elim (fun e => e ▸ lw_GoodIn _ hcode) (fun h => lw_GoodIn _ h)
  exact vx_runSW ⟨hC.1, hC.2.1, hC.2.2.1, hC.2.2.2.1, hts⟩ hM ⟨⟨rfl, rfl, hR.1, hR.2, pay_in hts hG, List.mem_cons_self⟩, hts _ hcode, hts _ hini, ⟨hd.1, hd.2.1⟩, fun sig h => (by
    have h2 := hd.2.2
    rw [h] at h2
    exact (Option.some.inj h2).symm), hts _ hlink, hts _ hstat⟩
    ⟨WP_blind, fun U hU hW => ⟨(J_pre (av := As) hC hP hS U hU hW).1, (J_pre (av := As) hC hP hS U hU hW).2, hN.moved hW.alike⟩⟩ rfl hn hl.1 rfl (lv_room hW) hdg hf
end LR
/-- the law's end -/
theorem J_done {p : Program} {l : Launch} {e : Env} {s : State} {m : MethodId} {below : List Frame} {meth : Method} {c : Code} {G : GG} {b cells slots : Nat} {X : XX} {o : OO} {lv : List (Nat × Value)} (hC : JC p s m #[Value.ref b] meth c code 9 "CheeseRotaLaw" G) (hr : meth.sig.returnType = ret) (hB : ∀ q, gB G q → s.heap.size ≤ q) (hc : cells ≤ 601024) (hs : slots ≤ 7293034) : Jd p l e room_1 s m #[Value.ref b] below meth c (lw_Z below #[Value.ref b] s) G 9 cells slots X o 1334 lv [.int 1] := fun H locs ls hP hS hl =>
  va_forget (fun q hq => hB _ (hS.2.2 q hq)) (W.widen hc hs (W.base (lw_ret (Drawn.sameBut.refl s.drawn lw_cs) hC.1 hC.2.1 hr hC.2.2.2.2.2.1 dL_law_1334)))
