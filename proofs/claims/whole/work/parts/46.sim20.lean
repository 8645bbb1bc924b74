/-! CLASS AND REFERENCE: pass, foresee, best, advise -/
section RelU
variable {nc nw nm : Nat} {D g S : DD}
theorem RF_no (h : Rel nc nw nm D g S) : RF False nc nw nm D g S := ⟨h, fun f => f.elim⟩
theorem worthL_eq (h : Rel nc nw nm D g S) {i : Nat} (hi : i < nw) : worthL D (nI i) = worthNowS S (nI i) := by
  have hh := h.1.1
  have hx : ix (nI i) = i := ix_nI (by omega)
  rw [worthL, worthNowS, lies_of h hi, hx]
  by_cases h0 : S 2 i = 0
  · rw [if_pos (decide_eq_true h0), if_pos h0]; exact worth_R hh.2.1 h.2.2.2.2.1 hi
  · rw [if_neg (fun y => h0 (of_decide_eq_true y)), if_neg h0]
theorem worthNow_0 (S : DD) (x : Int32) : 0 ≤ (worthNowS S x).toInt := by
  have e : ∀ y : Int32, 0 ≤ (imax 0 y).toInt := fun y => by
    unfold imax
    split
    · rename_i a
      rw [Int32.lt_iff_toInt_lt, show (0 : Int32).toInt = 0 by decide] at a
      omega
    · decide
  unfold worthNowS
  split
  · exact e _
  · decide
theorem sim_pass (h : Rel nc nw nm D g S) (hf : Fr nc nw nm D g S) (h0 : g 0 0 = 0) (hgr : GR g) {b : Nat} (hy : DY S b) (hb : b + 200 < 2147483648) (p : Int32) :
    kPass D p = mPass g p 0 0 ∧ (kPass D p = 0 → cntSt (days D (ix p)) 2 24 - cntSt D 2 24 = vPassM g S p) ∧ Rel nc nw nm (if kPass D p = 0 then days D (ix p) else D) (mPass g p) (sPass g S p) ∧ Fr nc nw nm (if kPass D p = 0 then days D (ix p) else D) (mPass g p) (sPass g S p) := by
  rw [kPass, mPass, sPass, vPassM]
  have hh := h.1.1
  have ew : ix (g 0 4) = nw := by rw [h.1.2.2.2.1, ix_nI (by omega)]
  by_cases h1 : wthn p 1 100 = true
  · have hn : ix p ≤ 100 := wt_ix (n := 100) (by decide) h1
    have r : RF True nc nw nm (days D (ix p)) g (passN g S (ix p)) := RF_days ⟨h, fun _ => hf⟩ hgr hy (ix p) (by omega)
    simp only [h1, if_true]
    exact ⟨h0.symm, fun _ => by rw [ew, cntSt_eq r.1 2, cntSt_eq h 2], r.1, r.2 trivial⟩
  · simp only [h1, if_false, Bool.false_eq_true]
    exact ⟨rfl, fun q => absurd q (by decide), h, hf⟩
theorem sim_foresee (h : Rel nc nw nm D g S) (h0 : g 0 0 = 0) (hgr : GR g) {b : Nat} (hy : DY S b) (hb : b + 200 < 2147483648) (E A : DD) (p q : Int32) :
    kForesee D p q = mFore g p q 0 0 ∧ (kForesee D p q = 0 → vForesee (days (cpD E D) (ix p)) q = vForeM g S A p q) ∧ Rel nc nw nm D (mFore g p q) S := by
  rw [kForesee, mFore, vForeM]
  have hh := h.1.1
  have ew : ix (g 0 4) = nw := by rw [h.1.2.2.2.1, ix_nI (by omega)]
  by_cases h1 : wthn p 1 100 = true
  · by_cases h2 : wthn q 0 2 = true
    · have hn : ix p ≤ 100 := wt_ix (n := 100) (by decide) h1
      have r := RF_days (RF_no (Rel_copy h E A)) hgr (DY_become hy) (ix p) (by omega)
      simp only [h1, h2, if_true]
      refine ⟨h0.symm, fun _ => ?_, h⟩
      rw [vForesee, vFore1, ew, cntSt_eq r.1 2, mouldyAll_eq r.1, worthAll_eq r.1]
    · simp only [h1, h2, if_true, if_false, Bool.false_eq_true]
      exact ⟨rfl, fun q => absurd q (by decide), h⟩
  · simp only [h1, if_false, Bool.false_eq_true]
    exact ⟨rfl, fun q => absurd q (by decide), h⟩
theorem bestE_eq {E : DD} : ∀ n, bestE E n = days E n
  | 0 => rfl
  | n + 1 => by rw [bestE_s, bestE_eq n]; rfl
theorem best_eq {E A : DD} (h : Rel nc nw nm E g A) (hgr : GR g) {b : Nat} (hy : DY A b) (hb : b + 200 < 2147483648) {i : Nat} (hi : i < nw) : ∀ n, n ≤ 60 → bestL E (nI i) n = bstL g A (nI i) (n + 1)
  | 0, _ => by
    rw [bstL_s]
    show (worthL E (nI i), 0) = if worthNowS A (nI i) ≤ (-1 : Int32) then _ else (worthNowS A (nI i), nI 0)
    have z := worthNow_0 A (nI i)
    rw [if_neg (fun q => by rw [Int32.le_iff_toInt_le, show (-1 : Int32).toInt = -1 by decide] at q; omega), worthL_eq h hi]
    rfl
  | n + 1, hn => by
    have ih := best_eq h hgr hy hb hi n (by omega)
    have r := RF_days (RF_no h) hgr hy (n + 1) (by omega)
    rw [bestL_s, bstL_s, ← ih, bestE_eq, worthL_eq r.1 hi]
    rfl
theorem sim_best (h : Rel nc nw nm D g S) (h0 : g 0 0 = 0) (hgr : GR g) {b : Nat} (hy : DY S b) (hb : b + 200 < 2147483648) (E A : DD) (w : Int32) :
    kBest D w = mBest g w 0 0 ∧ (kBest D w = 0 → vBest D E w = vBestM g S A w) ∧ Rel nc nw nm D (mBest g w) S := by
  rw [kBest, mBest, vBestM, vBest, inW_eq h.1]
  have hh := h.1.1
  by_cases h1 : wI g w = true
  · obtain ⟨i, hi, rfl⟩ := wI_nat h.1 h1
    have hx : ix (nI i) = i := ix_nI (by omega)
    simp only [h1, if_true]
    refine ⟨h0.symm, fun _ => ?_, h⟩
    rw [lies_of h hi, hx, best_eq (Rel_copy h E A) hgr (DY_become hy) hb hi 60 (by omega)]
    by_cases z : S 2 i = 0
    · rw [if_pos (decide_eq_true z), if_pos z]
    · rw [if_neg (fun y => z (of_decide_eq_true y)), if_neg z]
  · simp only [h1, if_false, Bool.false_eq_true]
    exact ⟨rfl, fun q => absurd q (by decide), h⟩
/-- the first free place -/
theorem ff_eq {b b' : WW} {c : Nat} (hc : c < 4) (hb : ∀ p, p < 10 → b' p = b (10 * c + p)) : ∀ n j, j + n = 10 → (ffS b (nI c) n j = 10 ∧ ffp b' n j = -1) ∨ (∃ p, p < 10 ∧ ffS b (nI c) n j = p ∧ ffp b' n j = nI p ∧ b (10 * c + p) = -1)
  | 0, j, e => Or.inl ⟨by show j = 10; omega, rfl⟩
  | n + 1, j, e => by
    show ((if b (ix (10 * nI c + nI j)) = -1 then j else ffS b (nI c) n (j + 1)) = 10 ∧ (if wAt b' (nI j) = -1 then nI j else ffp b' n (j + 1)) = -1) ∨ (∃ p, p < 10 ∧ (if b (ix (10 * nI c + nI j)) = -1 then j else ffS b (nI c) n (j + 1)) = p ∧ (if wAt b' (nI j) = -1 then nI j else ffp b' n (j + 1)) = nI p ∧ b (10 * c + p) = -1)
    rw [ten_nat, ix_nI (by omega), wAt_nat _ (by omega), hb j (by omega)]
    by_cases z : b (10 * c + j) = -1
    · rw [if_pos z, if_pos z]; exact Or.inr ⟨j, by omega, rfl, rfl, z⟩
    · rw [if_neg z, if_neg z]; exact ff_eq hc hb n (j + 1) (by omega)
theorem adMv_rows {A : DD} {i c p c0 p0 : Nat} (hi : i < 24) (hc : c < 4) (hp : p < 10) (hc0 : c0 < 4) (hp0 : p0 < 10) (e3 : A 3 i = nI (10 * c0 + p0)) :
    adMv A (nI i) (10 * nI c + nI p) 1 = va_up (va_up (A 1) (10 * c0 + p0) (-1)) (10 * c + p) (nI i) ∧ adMv A (nI i) (10 * nI c + nI p) 3 = va_up (A 3) i (nI (10 * c + p)) ∧ ∀ r, r ≠ 1 → r ≠ 3 → adMv A (nI i) (10 * nI c + nI p) r = A r := by
  rw [ten_nat]
  unfold adMv sPut
  rw [ix_nI (show i < 2147483648 by omega), e3, ix_nI (show 10 * c0 + p0 < 2147483648 by omega), ix_nI (show 10 * c + p < 2147483648 by omega)]
  refine ⟨rfl, rfl, fun r h1 h2 => ?_⟩
  rw [va_up_ne _ _ h2, va_up_ne _ _ h1, va_up_ne _ _ h1]
/-- a cellar tried -/
theorem adv_step (h : Rel nc nw nm D g S) (hgr : GR g) {b : Nat} (hy : DY S b) (hb : b + 200 < 2147483648) {k : Int32} (hk : ix k ≤ 40) {i c : Nat} (hi : i < nw) (h0 : S 2 i = 0) (hc : c < nc) {s : DD × Int32 × Int32} {r : DD × Int32 × Int32} (hsr : s.2 = r.2) (hlo : -1 ≤ s.2.1.toInt) :
    (advF D (nI i) k c s).2 = (adF g S (nI i) k c r).2 := by
  have hh := h.1.1
  have hx : ix (nI i) = i := ix_nI (by omega)
  have hcx : ix (nI c) = c := ix_nI (by omega)
  obtain ⟨c0, p0, hc0, hp0, e1, e2, e3, e4⟩ := (h.2.2.2.2.1 i hi).2.2.2.2.2.1 h0
  have li : lies D (nI i) = true := by rw [lies_of h hi]; exact decide_eq_true h0
  have ic : inC D (nI c) = true := by rw [inC_eq h.1]; exact cI_of h.1 hc
  have hcp := Rel_copy h s.1 r.1
  have hyb : DY (becomeS r.1 S) b := DY_become hy
  have bs := become_at (A := r.1) (S := S)
  -- what both say of a worth
  have fin : ∀ (E A : DD), RF False nc nw nm E g A → DY A b → worthL (days E (ix k)) (nI i) = worthNowS (passN g A (ix k)) (nI i) := fun E A hr hd => worthL_eq (RF_days hr hgr hd (ix k) (by omega)).1 hi
  have cmp : ∀ (x y : Int32) (F B : DD), x = y → (if x ≤ s.2.1 then (F, s.2.1, s.2.2) else (F, x, nI c)).2 = (if r.2.1 < y then (B, y, nI c) else (B, r.2.1, r.2.2)).2 := fun x y F B e => by
    rw [e, hsr]
    by_cases z : y ≤ r.2.1
    · rw [if_pos z, if_neg (Int32.not_lt.mpr z)]
    · rw [if_neg z, if_pos (Int32.not_le.mp z)]
  by_cases q : c = c0
  · have a1 : nI c = D (ix (nI i)) 1 := by rw [hx, e1, q]
    have a2 : nI c = S 3 (ix (nI i)) / 10 := by rw [hx, e3, div10 hp0 (by omega), q]
    have w : wfcE D s.1 (nI i) (nI c) k = days (cpD s.1 D) (ix k) := by
      rw [wfcE, if_pos li, if_pos ic, if_pos a1]
    rw [advF, adF, if_pos a2, adR, wfcV, if_pos li, if_pos ic, if_pos a1, w]
    exact cmp _ _ _ _ (fin _ _ (RF_no hcp) hyb)
  · have a1 : ¬ nI c = D (ix (nI i)) 1 := by rw [hx, e1, nI_iff (by omega) (by omega)]; exact q
    have a2 : ¬ nI c = S 3 (ix (nI i)) / 10 := by rw [hx, e3, div10 hp0 (by omega), nI_iff (by omega) (by omega)]; exact q
    rcases ff_eq (b := becomeS r.1 S 1) (b' := D (28 + c)) (show c < 4 by omega) (fun p hp => by rw [bs.2.1 _ (by omega)]; exact (h.2.2.2.1 c hc).2.2 p hp) 10 0 rfl with ⟨f1, f2⟩ | ⟨p, hp, f1, f2, f3⟩
    · rw [advF, adF, if_neg a2, if_pos f1, wfcV, if_pos li, if_pos ic, if_neg a1, hcx, if_pos f2]
      rw [if_pos (show (-1 : Int32) ≤ s.2.1 by rw [Int32.le_iff_toInt_le, show (-1 : Int32).toInt = -1 by decide]; exact hlo)]
      exact hsr
    · have f2' : ¬ ffp (D (28 + c)) 10 0 = -1 := by rw [f2]; exact nI_m1 (by omega)
      have w : wfcE D s.1 (nI i) (nI c) k = days (moveW (cpD s.1 D) (nI i) (nI c) (nI p)) (ix k) := by
        rw [wfcE, if_pos li, if_pos ic, if_neg a1, hcx, if_neg f2', f2]
      rw [advF, adF, if_neg a2, if_neg (show ¬ ffS (becomeS r.1 S 1) (nI c) 10 0 = 10 by rw [f1]; omega), adR, wfcV, if_pos li, if_pos ic, if_neg a1, hcx, if_neg f2', w, f1]
      have h0' : becomeS r.1 S 2 i = 0 := by rw [bs.2.2.1 2 (by omega) (by omega) i (by omega)]; exact h0
      obtain ⟨c1, p1, hc1, hp1, x1, x2, x3, x4⟩ := (hcp.2.2.2.2.1 i hi).2.2.2.2.2.1 h0'
      obtain ⟨y1, y3, y0⟩ := adMv_rows (A := becomeS r.1 S) (show i < 24 by omega) (show c < 4 by omega) hp (show c1 < 4 by omega) hp1 x3
      have mv := Rel_moveF (fr := False) hcp (fun f => f.elim) hi hc hp hc1 hp1 h0' x1 x2 x3 x4 f3 y1 y3 y0
      exact cmp _ _ _ _ (fin _ _ mv (DY_row hyb (y0 0 (by decide) (by decide))))
theorem advF_lo {w k : Int32} {c : Nat} {s : DD × Int32 × Int32} (hlo : -1 ≤ s.2.1.toInt) : -1 ≤ (advF D w k c s).2.1.toInt := by
  unfold advF
  split
  · exact hlo
  · rename_i a
    rw [Int32.le_iff_toInt_le] at a
    show -1 ≤ (wfcV D s.1 w (nI c) k).toInt
    omega
theorem advL_lo {E : DD} {w k : Int32} : ∀ n, -1 ≤ (advL D E w k n).2.1.toInt
  | 0 => by show -1 ≤ (-1 : Int32).toInt; decide
  | n + 1 => by rw [advL_s]; exact advF_lo (advL_lo n)
theorem advF_stay {w k : Int32} {c : Nat} {s : DD × Int32 × Int32} (hlo : -1 ≤ s.2.1.toInt) (hv : wfcV D s.1 w (nI c) k = -1) : (advF D w k c s).2 = s.2 := by
  unfold advF
  rw [hv, if_pos (show (-1 : Int32) ≤ s.2.1 by rw [Int32.le_iff_toInt_le, show (-1 : Int32).toInt = -1 by decide]; exact hlo)]
theorem adv_loop (h : Rel nc nw nm D g S) (hgr : GR g) {b : Nat} (hy : DY S b) (hb : b + 200 < 2147483648) {k : Int32} (hk : ix k ≤ 40) {i : Nat} (hi : i < nw) (h0 : S 2 i = 0) (E A : DD) : ∀ n, n ≤ nc → (advL D E (nI i) k n).2 = (adL g S A (nI i) k n).2
  | 0, _ => rfl
  | n + 1, hn => by
    rw [advL_s, adL_s]
    exact adv_step h hgr hy hb hk hi h0 (by omega) (adv_loop h hgr hy hb hk hi h0 E A n (by omega)) (advL_lo n)
theorem adv_ge (h : RN nc nw nm D g) {w k : Int32} {E : DD} : ∀ n, nc ≤ n → n ≤ 4 → (advL D E w k n).2 = (advL D E w k nc).2
  | 0, h1, _ => by
    obtain rfl : nc = 0 := by omega
    rfl
  | n + 1, h1, h2 => by
    by_cases e : nc = n + 1
    · subst e; rfl
    · rw [advL_s, ← adv_ge h n (by omega) (by omega)]
      refine advF_stay (advL_lo n) ?_
      have hh := h.1.1
      have ic : ¬ inC D (nI n) = true := by
        rw [inC_eq h]
        intro q
        have q2 : ¬ nI n < 0 ∧ ¬ g 0 1 - 1 < nI n := of_decide_eq_true q
        rw [h.2.2.1, nIm1_lt (by omega) (by omega)] at q2
        omega
      rw [wfcV, if_neg ic]
      split <;> rfl
theorem adv_not {w k : Int32} {E : DD} (hl : ¬ lies D w = true) : ∀ n, (advL D E w k n).2 = (-1, -1)
  | 0 => rfl
  | n + 1 => by
    rw [advL_s, ← adv_not hl n (E := E) (k := k)]
    exact advF_stay (advL_lo n) (by rw [wfcV, if_neg hl])
theorem sim_advise (h : Rel nc nw nm D g S) (h0 : g 0 0 = 0) (hgr : GR g) {b : Nat} (hy : DY S b) (hb : b + 200 < 2147483648) (E A : DD) (w k : Int32) :
    kAdvise D w k = mAdv g w k 0 0 ∧ (kAdvise D w k = 0 → (advL D E w k 4).2.2 = vAdvM g S A w k) ∧ Rel nc nw nm D (mAdv g w k) S := by
  rw [kAdvise, mAdv, vAdvM, inW_eq h.1]
  have hh := h.1.1
  have ec : ix (g 0 1) = nc := by rw [h.1.2.2.1, ix_nI (by omega)]
  by_cases h1 : wI g w = true
  · by_cases h2 : wthn k 1 40 = true
    · obtain ⟨i, hi, rfl⟩ := wI_nat h.1 h1
      have hx : ix (nI i) = i := ix_nI (by omega)
      simp only [h1, h2, if_true]
      refine ⟨h0.symm, fun _ => ?_, h⟩
      rw [hx]
      by_cases z : S 2 i = 0
      · rw [if_pos z, ec, adv_ge h.1 4 hh.1 (by omega), adv_loop h hgr hy hb (wt_ix (n := 40) (by decide) h2) hi z E A nc (Nat.le_refl _)]
      · rw [if_neg z, adv_not (by rw [lies_of h hi]; exact fun y => z (of_decide_eq_true y))]
    · simp only [h1, h2, if_true, if_false, Bool.false_eq_true]
      exact ⟨rfl, fun q => absurd q (by decide), h⟩
  · simp only [h1, if_false, Bool.false_eq_true]
    exact ⟨rfl, fun q => absurd q (by decide), h⟩
end RelU
