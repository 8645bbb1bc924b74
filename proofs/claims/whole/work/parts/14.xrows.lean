/-! METHODS THAT THROW: k is 0 where the method returns, 1, 2, 3 where it throws the first, second, third of es -/
def XC0 (G : GG) (k : Int32) (v : Option Value) (X : XX) (o : OO) : Array Value → State → Outcome → State → Prop := fun a st oc t => k = 0 ∧ CQ G v X o a st oc t
def XQ (G : GG) (k : Int32) (es : List String) (X : XX) (o : OO) : String → State → State → Prop := fun E st t => (∃ i, es[i]? = some E ∧ k = nI (i + 1)) ∧ HP G X o t.heap ∧ va_F (gB G) st t
def XT (l : Launch) (y : MethodName) (cb : ByteArray) (nb : Nat) (r : Option FieldType) (f lo mc ms : Nat) (G : GG) (av : List Value) (X : XX) (o : OO) (k : Int32) (es : List String) (v : Option Value) (X' : XX) (o' : OO) : Prop :=
  vx_Met l y (ws_ y cb nb r) { frames := f, cells := mc, slots := ms, locals := lo } (va_Pc av (SysU G X o)) (XC0 G k v X' o') (XQ G k es X o) mc ms (gB G)
theorem XT_of {l : Launch} {y : MethodName} {cb : ByteArray} {nb : Nat} {r : Option FieldType} {f lo mc ms : Nat} {G : GG} {av : List Value} {X : XX} {o : OO} {k : Int32} {es : List String} {v : Option Value} {X' : XX} {o' : OO} {own : String} {lv : List (Nat × Value)}
    (hy : plainName y.cls = true) (ho : y.cls = own) (hlen : (lg_sl av).length ≤ nb) (hav : lv_args 0 av = lv)
    (body : ∀ (p : Program) (e : Env) (s : State) (m : MethodId) (args : Array Value) (below : List Frame) (meth : Method) (c : Code), meth.sig.returnType = r → (∀ x ∈ c.exceptionTable.toList, False) → JC p s m args meth c cb nb own G →
      Jd p l e { frames := f, cells := mc, slots := ms, locals := lo } s m args below meth c (vx_MQ below (XC0 G k v X' o') (XQ G k es X o) args s mc ms (gB G)) G nb 0 0 X o 0 lv []) : XT l y cb nb r f lo mc ms G av X o k es v X' o' := by
  refine vx_ofW (cc := cb) (maxL := nb) (ret := r) hy rfl ?_
  intro p e s m args below meth c s₁ B hml ht hv
  obtain ⟨rfl, hk, hz, hP⟩ := hv
  have hts := atoms_spec (ws := ws_ y cb nb r) B.pre
  have hl := lv_entry av (n := nb) hlen
  rw [lg_entry_eq]
  generalize (lg_sl av ++ List.replicate (nb - (lg_sl av).length) Slot.unset).toArray = ls at hl ⊢
  rw [hav] at hl
  exact body p e s m _ below meth c B.returns ht ⟨B.exec, B.bytes, hml, by rw [← ho]; exact findClass_of_methodNamed B.named, fun w h => hts w (List.mem_cons_of_mem _ h), B.notSynchronized, hk, hz⟩ s.heap [] ls hP va_S.rf hl
abbrev thrNames : List String := ["java/lang/RuntimeException", "java/lang/Exception"]
/-- the words of a throw of cls by the class own -/
def TW (own : String) (ik ic : Nat) (cls : String) : Prop := Bundle.fit cls = true ∧ Cond.classLink own ik cls ∈ lw_all ∧ Cond.initialized cls ∈ lw_all ∧ (∀ w ∈ vx_atS own ic cls thrNames, w ∈ lw_all ∨ w ∈ lw_nw) ∧ ∀ w ∈ Cond.classLink own ik cls :: Cond.initialized cls :: vx_atS own ic cls thrNames, vx_ot w = true
theorem nw_onTables {w : Cond} (h : w ∈ lw_nw) : w.onTables = true := by
  have hg := (List.mem_filter.mp h).2
  cases w <;> first | rfl | exact absurd hg (by simp [nestGood])
section JX
variable {p : Program} {l : Launch} {e : Env} {R : Room} {s : State} {m : MethodId} {args : Array Value} {below : List Frame} {meth : Method} {c : Code} {Q : State → Prop} {G : GG} {nL cells slots : Nat} {X X' : XX} {o o' : OO} {pc : Nat} {lv lv' : List (Nat × Value)} {st st' : List Value} {cc : ByteArray} {own : String} {k : Int32} {es : List String}

theorem J_throw (hC : JC p s m args meth c cc nL own G) (hl : l.stackTraces = false) (hex : ∀ x ∈ c.exceptionTable.toList, False) {cls text : String} {ik is ic mc ms : Nat} {v : Option Value} (hT : TW own ik ic cls) (hstr : (own, is, text) ∈ strsG) (i : Nat) (hi : es[i]? = some cls) (hk : k = nI (i + 1))
    (d0 : decode cc pc = .ok (.new ik, 3)) (d3 : decode cc (pc + 3) = .ok (.dup, 1)) (d4 : decode cc (pc + 4) = .ok (.ldc is, 2)) (d6 : decode cc (pc + 6) = .ok (.invokespecial ic, 3)) (d9 : decode cc (pc + 9) = .ok (.athrow, 1))
    (hR : 5 < R.frames ∧ (st.map fun v => v.category).sum + 82 ≤ R.locals ∧ cells + 1 ≤ R.cells ∧ slots + 6 ≤ R.slots) (hc : cells + 1 ≤ mc ∧ slots + 6 ≤ ms) : Jd p l e R s m args below meth c (vx_MQ below (XC0 G k v X' o') (XQ G k es X o) args s mc ms (gB G)) G nL cells slots X o pc lv st := by
  intro H locs ls hP hS hl0
  obtain ⟨sa, hsa⟩ := hC.2.2.2.2.2.2.1.2.2.1 _ hstr
  have hts := hC.2.2.2.2.1
  refine vx_throwS hC.1 hC.2.1 hl hC.2.2.2.1 hT.1 (by decide) (hts _ hT.2.1) (hts _ hT.2.2.1) hsa (fun w hw => ?_) hT.2.2.2.2 hC.2.2.2.2.2.2.2.2.1 hC.2.2.2.2.2.2.2.2.2 hS (hl0.1.trans hC.2.2.1.symm) d0 d3 d4 d6 d9 (fun x hx => (hex x hx).elim) hR.1 hR.2.1 hR.2.2.1 hR.2.2.2 hC.2.2.2.2.2.1 (fun t hvm hz hk2 => ?_) hS.2.2 hc.1 hc.2
  · rcases hT.2.2.2.1 w hw with h | h
    · exact hts _ h
    · exact va_Nw.use (nw_onTables h) (hC.2.2.2.2.2.2.1.2.2.2 _ h)
  · refine ⟨⟨i, hi, hk⟩, ⟨hP.1.kept (fun j q hj => hk2 q.1 (hP.1 j q hj).lt), hP.2⟩, Nat.le_trans hS.1 hz, fun q h1 h2 => ?_⟩
    rw [hk2 q (Nat.lt_of_lt_of_le h1 hS.1)]
    exact hS.2.1 q h1 h2
theorem JX_end {X0 : XX} {o0 : OO} {v : Option Value} (hC : JC p s m args meth c cc nL own G) (hk : k = 0) (kk : Jd p l e R s m args below meth c (MQ below (CQ G v X' o') args s cells slots (gB G)) G nL cells slots X o pc lv st) : Jd p l e R s m args below meth c (vx_MQ below (XC0 G k v X' o') (XQ G k es X0 o0) args s cells slots (gB G)) G nL cells slots X o pc lv st := by
  intro H locs ls hP hS hl T hT X9
  obtain ⟨t, a1, oc, b1, b2, b3, b4⟩ := kk H locs ls hP hS hl T hT X9
  exact ⟨t, a1, oc, b1, b2, Or.inl ⟨⟨hk, b3⟩, b4⟩⟩
theorem J_last (hC : JC p s m args meth c cc nL own G) {x : Int64} {i : Int32} (hin : vp_in i 1) (hdg : decode cc pc = .ok (.lastore, 1)) (kk : Jd p l e R s m args below meth c Q G nL cells slots X (x, o.2) (pc + 1) lv st) : Jd p l e R s m args below meth c Q G nL cells slots X o pc lv (.long x :: .int i :: .ref (gA G 123) :: st) := fun H locs ls hP hS hl => va_last hC.1 hC.2.1 hC.2.2.2.2.2.2.1.1 hP.1 hP.2 hS 123 4 (by rw [sysW_get (by omega), ent_ou]) rfl hin hdg (fun H1 locs1 hP1 hD1 hS1 => kk H1 locs1 ls (by
  have h0 : i.toNatClampNeg = 0 := by have h1 : i.toNatClampNeg < 1 := vp_lt hin; omega
  have e : vp_updL (outF o.1) i.toNatClampNeg x = outF x := by
    funext j; rw [h0]; simp only [vp_updL, outF]; split <;> rfl
  rw [e, sysW_upO] at hP1 hD1
  exact ⟨hP1, hD1⟩) hS1 hl)
/-- thrown at pc: the machine looks for a handler -/
def JdX (p : Program) (l : Launch) (e : Env) (R : Room) (s : State) (m : MethodId) (args : Array Value) (below : List Frame) (meth : Method) (c : Code) (Q : State → Prop) (G : GG) (nL cells slots : Nat) (X : XX) (o : OO) (pc : Nat) (lv : List (Nat × Value)) (E : String) : Prop :=
  ∀ (H : Heap) (locs : List Loc) (ls : Array Slot) (rest : List Value) (q : Nat) (ce : Cell), HP G X o H → va_S (gB G) s.heap H locs → lv_has ls nL lv → H[q]? = some ce → ce.vm = .none → s.vm.findClass E = some ce.cls → vx_W p l e R s m args below meth c H locs cells slots Q (F0 m pc ls rest) q
theorem J_catch (hC : JC p s m args meth c cc nL own G) {E : String} (pre : List ExceptionTableEntry) (x : ExceptionTableEntry) (suf : List ExceptionTableEntry) (hsplit : c.exceptionTable.toList = pre ++ x :: suf)
    (hpass : ∀ z ∈ pre, covers z pc = false ∨ (z.catchType ≠ 0 ∧ ∃ nm : String, Cond.classLink own z.catchType nm ∈ lw_all ∧ va_Nc E nm s)) (hx : covers x pc = true) (h0 : x.catchType ≠ 0) {name : String}
    (hlink : Cond.classLink own x.catchType name ∈ lw_all) (hcast : Cond.castable E name ∈ lw_nw) (kk : ∀ q : Nat, Jd p l e R s m args below meth c Q G nL cells slots X o x.handlerPc lv [.ref q]) : JdX p l e R s m args below meth c Q G nL cells slots X o pc lv E := fun H locs ls rest q ce hP hS hl hq hv hcl =>
  vx_catch hC.2.2.2.1 pre x suf hsplit (fun z hz => (hpass z hz).imp id (fun ⟨h1, nm, h2, h3⟩ => ⟨h1, nm, hC.2.2.2.2.1 _ h2, h3⟩)) hx h0 (hC.2.2.2.2.1 _ hlink) (va_Nw.use (nw_onTables hcast) (hC.2.2.2.2.2.2.1.2.2.2 _ hcast)) hq hv hcl (kk q H locs ls hP hS hl)
theorem J_runX {mc ms : Nat} {a : Array Value} {v : Value} {st0 : List Value} (hr : ∀ (H : Heap) (locs : List Loc) (ls : Array Slot), HP G X o H → va_S (gB G) s.heap H locs → lv_has ls nL lv → vx_Run p l e R s m args below meth c H locs cells slots mc ms (F0 m pc ls st0) st (XC0 G k (some v) X' o' a) (XQ G k es X o) (gB G))
    (kx : ∀ (i : Nat) (E : String), es[i]? = some E → k = nI (i + 1) → JdX p l e R s m args below meth c Q G nL (cells + mc) (slots + ms) X o pc lv E)
    (kk : k = 0 → Jd p l e R s m args below meth c Q G nL (cells + mc) (slots + ms) X' o' (pc + 3) lv (v :: st)) : Jd p l e R s m args below meth c Q G nL cells slots X o pc lv st0 := by
  intro H locs ls hP hS hl T hT X9
  rcases hr H locs ls hP hS hl T hT X9 with ⟨v9, st₀, t, T', L, h0, X8, hL, e1, e2, ⟨hk, hv, hP1, hF⟩, stp⟩ | ⟨q, st₀, t, T', L, E, ce, h0, X8, hL, e1, e2, ⟨⟨i, hi, hk⟩, hP1, hF⟩, hce, hcv, hcl, stp⟩
  · cases hv
    obtain ⟨k1, k2, k3⟩ := vx_keep h0 e1 hS (fun _ _ h => h) (fun _ h => h) hL hF
    obtain ⟨t2, a1, b1⟩ := kk hk T'.heap (locs ++ L) ls (by rw [e1]; exact hP1) k3 hl T' rfl X8
    exact ⟨t2, stp t2 a1, b1⟩
  · obtain ⟨k1, k2, k3⟩ := vx_keep h0 e1 hS (fun _ _ h => h) (fun _ h => h) hL hF
    obtain ⟨t2, a1, b1⟩ := kx i E hi hk T'.heap (locs ++ L) ls st q ce (by rw [e1]; exact hP1) k3 hl (by rw [e1]; exact hce) hcv hcl T' rfl X8
    exact ⟨t2, stp.trans a1, b1⟩
theorem J_callX (hC : JC p s m args meth c cc nL own G) {y : MethodName} {cb : ByteArray} {nb f lo mc ms n n0 ci N index : Nat} {r : Option FieldType} {As fs st0 : List Value} {v : Value} {T : u_T} (hM : XT l y cb nb r f lo mc ms G (.ref (gA G n0) :: As) X o k es (some v) X' o') (hw : MW y cb nb r n) (hlink : Cond.methodLink own index y ∈ lw_all) (hn0 : n0 < 124) (he : ent G X o.1 n0 = .inr (ci, fs)) (hc : vwCl[ci]? = some (y.cls, T, N)) (hn : As.length = n) (hst : st0 = As.reverse ++ .ref (gA G n0) :: st) (hW : (st.map fun v => v.category).sum ≤ 8) (hR : f + 1 ≤ R.frames ∧ 8 + (nb + 11) + lo ≤ R.locals) (hf : cells + mc ≤ R.cells ∧ slots + ms ≤ R.slots) (hdg : decode cc pc = .ok (.invokevirtual index, 3))
    (kx : ∀ (i : Nat) (E : String), es[i]? = some E → k = nI (i + 1) → JdX p l e R s m args below meth c Q G nL (cells + mc) (slots + ms) X o pc lv E)
    (kk : k = 0 → Jd p l e R s m args below meth c Q G nL (cells + mc) (slots + ms) X' o' (pc + 3) lv (v :: st)) : Jd p l e R s m args below meth c Q G nL cells slots X o pc lv st0 := by
  subst hst
  refine J_runX (a := (Value.ref (gA G n0) :: As).toArray) (fun H locs ls hP hS hl => ?_) kx kk
  have hts := hC.2.2.2.2.1
  exact vx_runV ⟨hC.1, hC.2.1, hC.2.2.1, hC.2.2.2.1, hts⟩ hM ⟨callB_of n hts (ws_good hw.2.2.2.1) rfl rfl rfl (hts _ hw.2.2.1) (hts _ hlink) hw.2.2.2.2 hR, hts _ hw.1, hts _ hw.2.1⟩
    ⟨SysU_blind, va_recv hC.2.2.2.2.2.2.1.1 hP.1 hc (q0 := n0) (by rw [sysW_get hn0, he]), J_pre hC hP hS⟩ rfl hn hl.1 rfl (lv_room hW) hdg hf
end JX

