/-! THE REFERENCE ITSELF: for each call what its object's rows (m..), its state (s..), the state ahead (a..) and its answer (v..) are; g is the object behind thrown = 0 -/
def cI (g : DD) (c : Int32) : Bool := wthn c 0 (g 0 1 - 1)
def wI (g : DD) (w : Int32) : Bool := wthn w 0 (g 0 4 - 1)
def mI (g : DD) (m : Int32) : Bool := wthn m 0 (g 0 5 - 1)
theorem cI_in {g : DD} {c : Int32} (hg : GG2 g) (h : cI g c = true) : vp_in c 4 := cnt_in (by decide) hg.2.2.2 h
theorem wI_in {g : DD} {c : Int32} (hg : GG2 g) (h : wI g c = true) : vp_in c 24 := cnt_in (by decide) hg.2.1 h
theorem mI_in {g : DD} {c : Int32} (hg : GG2 g) (h : mI g c = true) : vp_in c 4 := cnt_in (by decide) hg.2.2.1 h
theorem vp_rt {m x : Int32} (hm : vp_in m 4) (hx : vp_in x 7) : vp_in (7 * m + x) 28 := by
  obtain ⟨a, ha, rfl⟩ := vp_nat hm
  obtain ⟨b, hb, rfl⟩ := vp_nat hx
  rw [show (7 : Int32) = nI 7 from rfl, pk_mul, nI_add]
  exact vp_nI (by omega)
def mBuild2 (g : DD) (a b : Int32) : DD :=
  if airOk a b then (if g 0 1 = 4 then setT g 2 else
    va_up (va_up (va_up g 1 (va_up (g 1) (ix (g 0 1)) a)) 2 (va_up (g 2) (ix (g 0 1)) b)) 0 (va_up (g 0) 1 (g 0 1 + 1))) else setT g 1
def mAir (g : DD) (c a b : Int32) : DD := if cI g c then (if airOk a b then va_up (va_up g 1 (va_up (g 1) (ix c) a)) 2 (va_up (g 2) (ix c) b) else setT g 2) else setT g 1
def vAirM (g : DD) (c a b : Int32) : Int32 := if cI g c then (if airOk a b then 10 * g 1 (ix c) + g 2 (ix c) else 0) else 0
def mMake (g S : DD) (c p : Int32) : DD := if cI g c then (if isPl p then (if g 0 4 = 24 then setT g 2 else if S 1 (ix (10 * c + p)) = -1 then va_up g 0 (va_up (g 0) 4 (g 0 4 + 1)) else setT g 2) else setT g 1) else setT g 1
def sMk1 (S : DD) (w p : Int32) : DD := va_up (sPut S w p) 6 (va_up (sPut S w p 6) (ix w) 80)
def sMake1 (S : DD) (w p : Int32) : DD := va_up (sMk1 S w p) 10 (va_up (sMk1 S w p 10) (ix w) (-1))
def sMake (g S : DD) (c p : Int32) : DD := if cI g c then (if isPl p then (if g 0 4 = 24 then S else if S 1 (ix (10 * c + p)) = -1 then sMake1 S (g 0 4) (10 * c + p) else S) else S) else S
def vMakeM (g S : DD) (c p : Int32) : Int32 := if cI g c then (if isPl p then (if g 0 4 = 24 then 0 else if S 1 (ix (10 * c + p)) = -1 then g 0 4 + 1 - 1 else 0) else 0) else 0
def cOk (g : DD) (w c p : Int32) : Bool := wI g w && (cI g c && isPl p)
def mCarry (g S : DD) (w c p : Int32) : DD := if cOk g w c p then (if S 2 (ix w) = 0 then (if S 1 (ix (10 * c + p)) = -1 then g else setT g 2) else setT g 2) else setT g 1
def sCarry (g S : DD) (w c p : Int32) : DD := if cOk g w c p then (if S 2 (ix w) = 0 then (if S 1 (ix (10 * c + p)) = -1 then sPut (va_up S 1 (va_up (S 1) (ix (S 3 (ix w))) (-1))) w (10 * c + p) else S) else S) else S
def vCarryM (g S : DD) (w c p : Int32) : Int32 := if cOk g w c p then (if S 2 (ix w) = 0 then (if S 1 (ix (10 * c + p)) = -1 then S 3 (ix w) else 0) else 0) else 0
def mInf (g S : DD) (w k : Int32) : DD := if wI g w then (if wthn k 0 3 then (if S 2 (ix w) = 0 then g else setT g 3) else setT g 2) else setT g 1
def sInf (g S : DD) (w k : Int32) : DD := if wI g w then (if wthn k 0 3 then (if S 2 (ix w) = 0 then haveS S w k (if k ≤ 0 then 0 else 1) (-1) else S) else S) else S
def vInfM (g S : DD) (w k : Int32) : Int32 := if wI g w then (if wthn k 0 3 then (if S 2 (ix w) = 0 then S 8 (ix w) else 0) else 0) else 0
def mSell (g S : DD) (w : Int32) : DD := if wI g w then (if S 2 (ix w) = 0 then va_up g 0 (va_up (g 0) 9 (g 0 9 + sWorth (sLeave S w 1) w)) else setT g 2) else setT g 1
def sSell (g S : DD) (w : Int32) : DD := if wI g w then (if S 2 (ix w) = 0 then sLeave S w 1 else S) else S
def vSellM (g S : DD) (w : Int32) : Int32 := if wI g w then (if S 2 (ix w) = 0 then sWorth (sLeave S w 1) w else 0) else 0
def mHire (g : DD) (c k : Int32) : DD := if cI g c then (if wthn k 1 10 then (if g 0 5 = 4 then setT g 3 else
  va_up (va_up (va_up g 3 (va_up (g 3) (ix (g 0 5)) c)) 4 (va_up (g 4) (ix (g 0 5)) k)) 0 (va_up (g 0) 5 (g 0 5 + 1))) else setT g 2) else setT g 1
def sHire (g S : DD) (c k : Int32) : DD := if cI g c then (if wthn k 1 10 then (if g 0 5 = 4 then S else va_up S 12 (va_up (S 12) (ix (g 0 5)) (-1))) else S) else S
def vHireM (g : DD) (c k : Int32) : Int32 := if cI g c then (if wthn k 1 10 then (if g 0 5 = 4 then 0 else g 0 5 + 1 - 1) else 0) else 0
def mRota (g : DD) (m d k : Int32) : DD := if mI g m then (if wthn d 0 6 then (if wthn k 0 3 then va_up g 5 (va_up (g 5) (ix (7 * m + d)) k) else setT g 2) else setT g 1) else setT g 1
def vRotaM (g : DD) (m d k : Int32) : Int32 := if mI g m then (if wthn d 0 6 then (if wthn k 0 3 then g 5 (ix (7 * m + d)) else 0) else 0) else 0
/-- what a wheel, a cellar, a monk tells; what is counted -/
def wRow (S : DD) (x : Int32) : WW :=
  va_up (va_up (va_up (va_up (va_up (va_up (va_up (va_up (va_up (va_up (va_up (fun _ => 0) (ix 0) (S 2 (ix x))) (ix 1) (if S 2 (ix x) = 0 then S 3 (ix x) / 10 else -1)) (ix 2) (if S 2 (ix x) = 0 then irem (S 3 (ix x)) 10 else -1)) (ix 3) (S 4 (ix x))) (ix 4) (S 5 (ix x))) (ix 5) (S 6 (ix x))) (ix 6) (S 7 (ix x))) (ix 7) (S 8 (ix x))) (ix 8) (S 9 (ix x))) (ix 9) (S 10 (ix x))) (ix 10) (sWorth S x)
def wTold (S : DD) (x y : Int32) : Int32 := wRow S x (ix y)
def cT (S : DD) (c y : Int32) (i : Nat) : Int32 := rep (fun p a => a + (if S 1 (ix (10 * c + nI p)) = -1 then 0 else if y = 2 then 1 else if S 8 (ix (S 1 (ix (10 * c + nI p)))) ≤ 0 then 0 else 1)) 0 i
def cTold (g S : DD) (c y : Int32) : Int32 := if 2 ≤ y then cT S c y 10 else if y = 0 then g 1 (ix c) else g 2 (ix c)
def mTold (g S : DD) (m y : Int32) : Int32 := if y = 0 then g 3 (ix m) else if y = 1 then g 4 (ix m) else if y = 2 then S 11 (ix m) else if y = 3 then S 12 (ix m) else g 5 (ix (7 * m + irem (S 0 0) 7))
def nRow (g S : DD) : WW :=
  va_up (va_up (va_up (va_up (va_up (va_up (va_up (va_up (va_up (fun _ => 0) (ix 0) (S 0 0)) (ix 1) (g 0 1)) (ix 2) (g 0 4)) (ix 3) (manyS g S 0 (ix (g 0 4)))) (ix 4) (manyS g S 1 (ix (g 0 4)))) (ix 5) (manyS g S 2 (ix (g 0 4)))) (ix 6) (mouldyS g S (ix (g 0 4)))) (ix 7) (g 0 9)) (ix 8) (g 0 5)
def nTold (g S : DD) (y : Int32) : Int32 := nRow g S (ix y)
def mWheel (g : DD) (w y : Int32) : DD := if wI g w then (if wthn y 0 10 then g else setT g 1) else setT g 1
def vWheelM (g S : DD) (w y : Int32) : Int32 := if wI g w then (if wthn y 0 10 then wTold S w y else 0) else 0
def mCellar (g : DD) (c y : Int32) : DD := if cI g c then (if wthn y 0 3 then g else setT g 1) else setT g 1
def vCellarM (g S : DD) (c y : Int32) : Int32 := if cI g c then (if wthn y 0 3 then cTold g S c y else 0) else 0
def mAt (g : DD) (c p : Int32) : DD := if cI g c then (if isPl p then g else setT g 1) else setT g 1
def vAtM (g S : DD) (c p : Int32) : Int32 := if cI g c then (if isPl p then S 1 (ix (10 * c + p)) else 0) else 0
def mMonk (g : DD) (c y : Int32) : DD := if mI g c then (if wthn y 0 4 then g else setT g 1) else setT g 1
def vMonkM (g S : DD) (c y : Int32) : Int32 := if mI g c then (if wthn y 0 4 then mTold g S c y else 0) else 0
def mCount (g : DD) (y : Int32) : DD := if wthn y 0 8 then g else setT g 1
def vCountM (g S : DD) (y : Int32) : Int32 := if wthn y 0 8 then nTold g S y else 0
def mPass (g : DD) (d : Int32) : DD := if wthn d 1 100 then g else setT g 1
def sPass (g S : DD) (d : Int32) : DD := if wthn d 1 100 then passN g S (ix d) else S
def vPassM (g S : DD) (d : Int32) : Int32 := if wthn d 1 100 then manyS g (passN g S (ix d)) 2 (ix (g 0 4)) - manyS g S 2 (ix (g 0 4)) else 0
def bstL (g S : DD) (w : Int32) (i : Nat) : Int32 × Int32 := rep (fun i r => if worthNowS (passN g S i) w ≤ r.1 then r else (worthNowS (passN g S i) w, nI i)) (-1, -1) i
def mBest (g : DD) (w : Int32) : DD := if wI g w then g else setT g 1
def aBest (g S A : DD) (w : Int32) : DD := if wI g w then (if S 2 (ix w) = 0 then passN g (becomeS A S) 61 else A) else A
def vBestM (g S A : DD) (w : Int32) : Int32 := if wI g w then (if S 2 (ix w) = 0 then (bstL g (becomeS A S) w 61).2 else -1) else 0
def mFore (g : DD) (d y : Int32) : DD := if wthn d 1 100 then (if wthn y 0 2 then g else setT g 2) else setT g 1
def aFore (g S A : DD) (d y : Int32) : DD := if wthn d 1 100 then (if wthn y 0 2 then passN g (becomeS A S) (ix d) else A) else A
def vFore1 (g A : DD) (y : Int32) : Int32 := if y = 0 then manyS g A 2 (ix (g 0 4)) else if y = 1 then mouldyS g A (ix (g 0 4)) else worthAS A (ix (g 0 4))
def vForeM (g S A : DD) (d y : Int32) : Int32 := if wthn d 1 100 then (if wthn y 0 2 then vFore1 g (passN g (becomeS A S) (ix d)) y else 0) else 0
/-- the first place that is free -/
def ffS (b : WW) (c : Int32) : Nat → Nat → Nat
  | 0, j => j
  | n + 1, j => if b (ix (10 * c + nI j)) = -1 then j else ffS b c n (j + 1)
def adR (g : DD) (w d c : Int32) (r : DD × Int32 × Int32) : DD × Int32 × Int32 :=
  if r.2.1 < worthNowS (passN g r.1 (ix d)) w then (passN g r.1 (ix d), worthNowS (passN g r.1 (ix d)) w, c) else (passN g r.1 (ix d), r.2.1, r.2.2)
def adMv (A : DD) (w p : Int32) : DD := sPut (va_up A 1 (va_up (A 1) (ix (A 3 (ix w))) (-1))) w p
def adF (g S : DD) (w d : Int32) (i : Nat) (r : DD × Int32 × Int32) : DD × Int32 × Int32 :=
  if nI i = S 3 (ix w) / 10 then adR g w d (nI i) (becomeS r.1 S, r.2.1, r.2.2)
  else if ffS (becomeS r.1 S 1) (nI i) 10 0 = 10 then (becomeS r.1 S, r.2.1, r.2.2)
  else adR g w d (nI i) (adMv (becomeS r.1 S) w (10 * nI i + nI (ffS (becomeS r.1 S 1) (nI i) 10 0)), r.2.1, r.2.2)
def adL (g S A : DD) (w d : Int32) (i : Nat) : DD × Int32 × Int32 := rep (adF g S w d) (A, -1, -1) i
def mAdv (g : DD) (w d : Int32) : DD := if wI g w then (if wthn d 1 40 then g else setT g 2) else setT g 1
def aAdv (g S A : DD) (w d : Int32) : DD := if wI g w then (if wthn d 1 40 then (if S 2 (ix w) = 0 then (adL g S A w d (ix (g 0 1))).1 else A) else A) else A
def vAdvM (g S A : DD) (w d : Int32) : Int32 := if wI g w then (if wthn d 1 40 then (if S 2 (ix w) = 0 then (adL g S A w d (ix (g 0 1))).2.2 else -1) else 0) else 0
-- the checksum
def dgN (g S : DD) (i : Nat) : Int64 := rep (fun k d => d * 31 + (nTold g S (nI k)).toInt64) 937 i
def dgC1 (g S : DD) (c : Nat) (d : Int64) (i : Nat) : Int64 := rep (fun k d => d * 31 + (cTold g S (nI c) (nI k)).toInt64) d i
def dgC (g S : DD) (d : Int64) (i : Nat) : Int64 := rep (fun c d => dgC1 g S c d 4) d i
def dgW1 (S : DD) (c : Nat) (d : Int64) (i : Nat) : Int64 := rep (fun k d => d * 31 + (wTold S (nI c) (nI k)).toInt64) d i
def dgW (S : DD) (d : Int64) (i : Nat) : Int64 := rep (fun c d => dgW1 S c d 11) d i
def dgM1 (g S : DD) (c : Nat) (d : Int64) (i : Nat) : Int64 := rep (fun k d => d * 31 + (mTold g S (nI c) (nI k)).toInt64) d i
def dgM2 (g : DD) (c : Nat) (d : Int64) (i : Nat) : Int64 := rep (fun k d => d * 31 + (g 5 (ix (7 * nI c + nI k))).toInt64) d i
def dgM (g S : DD) (d : Int64) (i : Nat) : Int64 := rep (fun c d => dgM2 g c (dgM1 g S c d 5) 7) d i
def digS (g S : DD) : Int64 := dgM g S (dgW S (dgC g S (dgN g S 9) (ix (g 0 1))) (ix (g 0 4))) (ix (g 0 5))
theorem wt_ix {x M : Int32} {n : Nat} (hM : M.toInt = n) (h : wthn x 1 M = true) : ix x ≤ n := by
  have h2 : ¬ x < 1 ∧ ¬ M < x := of_decide_eq_true h
  have a1 := Int32.not_lt.mp h2.2
  rw [Int32.le_iff_toInt_le] at a1
  show x.toInt.toNat ≤ n
  omega
theorem nI_ne10 {j : Nat} (h : j < 10) : ¬ nI j = 10 := fun e => by
  have e1 : (nI j).toInt = 10 := by rw [e]; decide
  rw [nI_toInt (by omega)] at e1
  omega
theorem bstL_s {g S : DD} {w : Int32} {i : Nat} : bstL g S w (i + 1) = if worthNowS (passN g S i) w ≤ (bstL g S w i).1 then bstL g S w i else (worthNowS (passN g S i) w, nI i) := rfl
theorem adL_s {g S A : DD} {w d : Int32} {i : Nat} : adL g S A w d (i + 1) = adF g S w d i (adL g S A w d i) := rfl
theorem SI_free {S : DD} {x : Nat} (h : SI S) : SI (va_up S 1 (va_up (S 1) x (-1))) := by
  refine ⟨h.1, fun q hq => ?_, h.2.2⟩
  have e : va_up S 1 (va_up (S 1) x (-1)) 1 q = if q = x then -1 else S 1 q := rfl
  rw [e]; split
  · exact Or.inl rfl
  · exact h.2.1 q hq
theorem SI_put {S : DD} {w p : Int32} (h : SI S) (hw : vp_in w 24) (hp : vp_in p 40) : SI (sPut S w p) := by
  refine ⟨fun k hk => ?_, fun q hq => ?_, h.2.2⟩
  · have e : sPut S w p 3 k = if k = ix w then p else S 3 k := rfl
    rw [e]; split
    · exact hp
    · exact h.1 k hk
  · have e : sPut S w p 1 q = if q = ix p then w else S 1 q := rfl
    rw [e]; split
    · exact Or.inr hw
    · exact h.2.1 q hq
theorem SI_mv {S : DD} {w p : Int32} (h : SI S) (hw : vp_in w 24) (hp : vp_in p 40) : SI (adMv S w p) := SI_put (SI_free h) hw hp
theorem DY_mv {S : DD} {w p : Int32} {b : Nat} (h : DY S b) : DY (adMv S w p) b := DY_row h rfl
theorem mk5_2 {D E g S A : DD} : mk5 D E g S A 2 = g := rfl
-- arrays of the method's own
section JL
variable {p : Program} {l : Launch} {e : Env} {R : Room} {s : State} {m : MethodId} {args : Array Value} {below : List Frame} {meth : Method} {c : Code} {Q : State → Prop} {G : GG} {nL cells slots : Nat} {X X' : XX} {o o' : OO} {pc : Nat} {lv lv' : List (Nat × Value)} {st st' : List Value} {cc : ByteArray} {own : String}
theorem sysW_app {o1 : Int64} {w : va_W} {q : Nat × va_E} : sysW G X (o1, w ++ [q]) = sysW G X (o1, w) ++ [q] := (List.append_assoc _ _ _).symm
theorem sysW_len {o1 : Int64} {w : va_W} : (sysW G X (o1, w)).length = 124 + w.length := by rw [sysW, List.length_append, sys0_len]
theorem J_newa (hC : JC p s m args meth c cc nL own G) {n : Int32} {N : Nat} (hq : Cond.arrayClass .int ∈ lw_all) (hn : ¬ n < 0) (hN : n.toNatClampNeg = N) (hb : N * componentBytes .int ≤ 536870912) (hf : cells + 1 ≤ R.cells ∧ slots + N ≤ R.slots) (hdg : decode cc pc = .ok (.newarray .int, 2)) (kk : ∀ q, Jd p l e R s m args below meth c Q G nL (cells + 1) (slots + N) X (o.1, o.2 ++ [(q, eI G N (fun _ => 0))]) (pc + 2) lv (.ref q :: st)) : Jd p l e R s m args below meth c Q G nL cells slots X o pc lv (.int n :: st) := by
  intro H locs ls hP hS hl
  refine va_newa (atype := .int) (a0 := (N, .inl (fun _ => 0))) hC.1 hC.2.1 (hC.2.2.2.2.1 _ hq) (ty := .int) rfl hC.2.2.2.2.2.2.1.1 hP.1 hP.2 hS hC.2.2.2.2.2.2.2.1 (fun cA => rfl) hn hN hb hf.1 hf.2 hdg (fun q cA H1 hK hP1 hD1 hS1 => ?_)
  have e1 : s.vm.findClass ("[" ++ FieldType.int.toString) = some cA := (hK.2 5 (cA, .int) rfl).2
  have e2 : s.vm.findClass ("[" ++ FieldType.int.toString) = some (G.2.1 0) := (hK.2 0 (G.2.1 0, .int) rfl).2
  obtain rfl : cA = G.2.1 0 := Option.some.inj (e1.symm.trans e2)
  exact kk q H1 locs ls ⟨by rw [sysW_app]; exact hP1, by rw [sysW_app]; exact hD1⟩ hS1 hl
theorem sysW_lst {o1 : Int64} {w : va_W} {q : Nat × va_E} : (sysW G X (o1, w ++ [q]))[124 + w.length]? = some q := by
  rw [sysW_app, ← sysW_len (G := G) (X := X) (o1 := o1), List.getElem?_append_right (Nat.le_refl _)]
  simp
theorem sysW_lset {o1 : Int64} {w : va_W} {q q' : Nat × va_E} : (sysW G X (o1, w ++ [q])).set (124 + w.length) q' = sysW G X (o1, w ++ [q']) := by
  rw [sysW_app, sysW_app, ← sysW_len (G := G) (X := X) (o1 := o1), List.set_append_right _ _ (Nat.le_refl _)]
  simp
theorem J_lst (hC : JC p s m args meth c cc nL own G) {o1 : Int64} {w : va_W} {q N : Nat} {f : Nat → Int32} {i x : Int32} (hin : vp_in i N) (hdg : decode cc pc = .ok (.iastore, 1)) (kk : Jd p l e R s m args below meth c Q G nL cells slots X (o1, w ++ [(q, eI G N (va_up f (ix i) x))]) (pc + 1) lv st) : Jd p l e R s m args below meth c Q G nL cells slots X (o1, w ++ [(q, eI G N f)]) pc lv (.int x :: .int i :: .ref q :: st) := fun H locs ls hP hS hl =>
  va_iast hC.1 hC.2.1 hC.2.2.2.2.2.2.1.1 hP.1 hP.2 hS (124 + w.length) 0 sysW_lst rfl hin hdg (fun H1 locs1 hP1 hD1 hS1 => kk H1 locs1 ls ⟨by rw [← sysW_lset]; exact hP1, by rw [← sysW_lset]; exact hD1⟩ hS1 hl)
theorem J_lld (hC : JC p s m args meth c cc nL own G) {o1 : Int64} {w : va_W} {q N : Nat} {f : Nat → Int32} {i : Int32} (hin : vp_in i N) (hdg : decode cc pc = .ok (.iaload, 1)) (kk : Jd p l e R s m args below meth c Q G nL cells slots X (o1, w ++ [(q, eI G N f)]) (pc + 1) lv (.int (f (ix i)) :: st)) : Jd p l e R s m args below meth c Q G nL cells slots X (o1, w ++ [(q, eI G N f)]) pc lv (.int i :: .ref q :: st) := fun H locs ls hP hS hl =>
  va_iald hC.1 hC.2.1 hC.2.2.2.2.2.2.1.1 hP.1 (124 + w.length) 0 sysW_lst rfl hin hdg (kk H locs ls hP hS hl)
theorem J_drop {w : va_W} {q : Nat × va_E} (kk : Jd p l e R s m args below meth c Q G nL cells slots X o pc lv st) (h : w = o.2) : Jd p l e R s m args below meth c Q G nL cells slots X (o.1, w ++ [q]) pc lv st := by
  subst h
  intro H locs ls hP hS hl
  have hk : ∀ (k : Nat) (x : Nat × va_E), (sysW G X o)[k]? = some x → (sysW G X (o.1, o.2 ++ [q]))[k]? = some x := fun k x hx => by
    rw [sysW_app, List.getElem?_append_left (List.getElem?_eq_some_iff.mp hx).1]; exact hx
  exact kk H locs ls ⟨fun k x hx => hP.1 k x (hk k x hx), fun i j a b ha hb => hP.2.1 i j a b (hk i a ha) (hk j b hb), fun k x hx => hP.2.2 k x (hk k x hx)⟩ hS hl
end JL
