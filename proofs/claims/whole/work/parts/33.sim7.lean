/-! CLASS AND REFERENCE: a wheel leaves its place; sell -/
section RelG
variable {nc nw nm : Nat} {D g S : DD}
theorem pAt_nat (b : WW) {p : Nat} (hp : p < 10) (y : Int32) : pAt b (nI p) y = va_up b p y := by
  rw [pAt, if_neg (nI_pos (by omega)), if_neg (by rw [show (10 : Int32) = nI 10 from rfl, nI_le_iff (by decide) (by omega)]; omega), ix_nI (by omega)]
theorem inW_row {D D' : DD} (h : D' 40 = D 40) (x : Int32) : inW D' x = inW D x := by rw [inW, inW, h]
theorem inC_row {D D' : DD} (h : D' 40 = D 40) (x : Int32) : inC D' x = inC D x := by rw [inC, inC, h]
theorem liftW_eq (h : Rel nc nw nm D g S) {i c p : Nat} (hi : i < nw) (hc : c < nc) (hp : p < 10) (e1 : D i 1 = nI c) (e2 : D i 2 = nI p) :
    liftW D (nI i) = va_up (va_up D (28 + c) (va_up (D (28 + c)) p (-1))) i (va_up (va_up (D i) 1 (-1)) 2 (-1)) := by
  have hh := h.1.1
  have e3 : inC D (nI c) = true := by rw [inC_eq h.1]; exact cI_of h.1 hc
  simp only [liftW, inW_of h.1 hi, if_true, ix_nI (show i < 2147483648 by omega), e1, e2, e3, ix_nI (show c < 2147483648 by omega), pAt_nat _ hp]
  rw [va_up_ne D _ (show i ≠ 28 + c by omega)]
theorem takeA_eq (h : Rel nc nw nm D g S) {i c p : Nat} (hi : i < nw) (hc : c < nc) (hp : p < 10) (e1 : D i 1 = nI c) (e2 : D i 2 = nI p) (st : Int32) :
    takeA D (nI i) st = va_up (va_up D (28 + c) (va_up (D (28 + c)) p (-1))) i (va_up (va_up (va_up (D i) 1 (-1)) 2 (-1)) 0 st) := by
  have hh := h.1.1
  have e := liftW_eq h hi hc hp e1 e2
  have e40 : liftW D (nI i) 40 = D 40 := by rw [e, va_up_ne _ _ (by omega), va_up_ne _ _ (by omega)]
  rw [takeA, if_pos (by rw [inW_row e40]; exact inW_of h.1 hi), ix_nI (by omega), e, va_up_self, va_up_up]
/-- wheel i leaves its place and is in state st then -/
theorem Rel_leave (h : Rel nc nw nm D g S) {i : Nat} (hi : i < nw) (h0 : S 2 i = 0) {st : Int32} (hst : ¬ st = 0) : Rel nc nw nm (takeA D (nI i) st) g (sLeave S (nI i) st) := by
  have hh := h.1.1
  have q := h.2.2.2.2.1 i hi
  obtain ⟨c, p, hc, hp, e1, e2, e3, e4⟩ := q.2.2.2.2.2.1 h0
  rw [takeA_eq h hi hc hp e1 e2 st]
  generalize hD' : va_up (va_up D (28 + c) (va_up (D (28 + c)) p (-1))) i (va_up (va_up (va_up (D i) 1 (-1)) 2 (-1)) 0 st) = D'
  have n1 : ∀ r, r ≠ i → r ≠ 28 + c → D' r = D r := fun r h1 h2 => by rw [← hD', va_up_ne _ _ h1, va_up_ne _ _ h2]
  have nB : D' (28 + c) = va_up (D (28 + c)) p (-1) := by rw [← hD', va_up_ne _ _ (by omega), va_up_self]
  have nW : D' i = va_up (va_up (va_up (D i) 1 (-1)) 2 (-1)) 0 st := by rw [← hD', va_up_self]
  generalize hS' : sLeave S (nI i) st = S'
  have s1 : S' 1 = va_up (S 1) (10 * c + p) (-1) := by rw [← hS']; unfold sLeave; rw [ix_nI (show i < 2147483648 by omega), e3, ix_nI (by omega)]; rfl
  have s2 : S' 2 = va_up (S 2) i st := by rw [← hS']; unfold sLeave; rw [ix_nI (show i < 2147483648 by omega)]; rfl
  have s0 : ∀ r, r ≠ 1 → r ≠ 2 → S' r = S r := fun r h1 h2 => by rw [← hS', sLeave_row ⟨h1, h2⟩]
  obtain ⟨hn, hd, hs, hc0, hw, hm, hb⟩ := h
  refine ⟨?_, ?_, ?_, fun c' hc' => ?_, fun j hj => ?_, fun m hm' => ?_, fun c' p' hc' hp' => ?_⟩
  · unfold RN; rw [n1 40 (by omega) (by omega)]; exact hn
  · rw [n1 40 (by omega) (by omega), s0 0 (by decide) (by decide)]; exact hd
  · rw [n1 40 (by omega) (by omega)]; exact hs
  · unfold RC
    rw [n1 (24 + c') (by omega) (by omega), s1]
    refine ⟨(hc0 c' hc').1, (hc0 c' hc').2.1, fun p' hp' => ?_⟩
    by_cases e : c' = c
    · subst e
      rw [nB]
      by_cases e5 : p' = p
      · subst e5; rw [va_up_self, va_up_self]
      · rw [va_up_ne _ _ e5, va_up_ne _ _ (by omega)]; exact (hc0 c' hc').2.2 p' hp'
    · rw [n1 (28 + c') (by omega) (by omega), va_up_ne _ _ (by omega)]; exact (hc0 c' hc').2.2 p' hp'
  · have z := hw j hj
    unfold RW at z ⊢
    rw [s1, s2, s0 3 (by decide) (by decide), s0 4 (by decide) (by decide), s0 5 (by decide) (by decide), s0 6 (by decide) (by decide), s0 7 (by decide) (by decide), s0 8 (by decide) (by decide), s0 9 (by decide) (by decide), s0 10 (by decide) (by decide)]
    by_cases e : j = i
    · subst e
      rw [nW, va_up_self, va_up_self]
      exact ⟨⟨rfl, z.1.2⟩, z.2.1, z.2.2.1, z.2.2.2.1, z.2.2.2.2.1, fun a => absurd a hst, fun _ => ⟨rfl, rfl⟩⟩
    · rw [n1 j e (by omega), va_up_ne _ _ e]
      refine ⟨z.1, z.2.1, z.2.2.1, z.2.2.2.1, z.2.2.2.2.1, fun a => ?_, z.2.2.2.2.2.2⟩
      obtain ⟨c', p', a1, a2, a3, a4, a5, a6⟩ := z.2.2.2.2.2.1 a
      refine ⟨c', p', a1, a2, a3, a4, a5, ?_⟩
      rw [va_up_ne _ _ (fun q => ?_)]
      · exact a6
      · rw [q, e4, nI_iff (by omega) (by omega)] at a6
        exact e a6.symm
  · unfold RM; rw [n1 (32 + m) (by omega) (by omega), n1 (36 + m) (by omega) (by omega), s0 11 (by decide) (by decide), s0 12 (by decide) (by decide)]; exact hm m hm'
  · unfold RB
    rw [s1, s2]
    by_cases e : 10 * c' + p' = 10 * c + p
    · rw [e, va_up_self]; exact Or.inl rfl
    · rw [va_up_ne _ _ e]
      rcases hb c' p' hc' hp' with b1 | ⟨t, ht, b1, b2, b3, b4⟩
      · exact Or.inl b1
      · have et : t ≠ i := fun q => by
          subst q
          rw [e1, nI_iff (by omega) (by omega)] at b3
          rw [e2, nI_iff (by omega) (by omega)] at b4
          exact e (by rw [b3, b4])
        exact Or.inr ⟨t, ht, b1, by rw [va_up_ne _ _ et]; exact b2, by rw [n1 t et (by omega)]; exact b3, by rw [n1 t et (by omega)]; exact b4⟩
theorem Fr_leave (h : Rel nc nw nm D g S) (hf : Fr nc nw nm D g S) {i : Nat} (hi : i < nw) (h0 : S 2 i = 0) {st : Int32} : Fr nc nw nm (takeA D (nI i) st) g (sLeave S (nI i) st) := by
  have hh := h.1.1
  have q := h.2.2.2.2.1 i hi
  obtain ⟨c, p, hc, hp, e1, e2, e3, e4⟩ := q.2.2.2.2.2.1 h0
  rw [takeA_eq h hi hc hp e1 e2 st]
  generalize hD' : va_up (va_up D (28 + c) (va_up (D (28 + c)) p (-1))) i (va_up (va_up (va_up (D i) 1 (-1)) 2 (-1)) 0 st) = D'
  have n1 : ∀ r, r ≠ i → r ≠ 28 + c → D' r = D r := fun r h1 h2 => by rw [← hD', va_up_ne _ _ h1, va_up_ne _ _ h2]
  generalize hS' : sLeave S (nI i) st = S'
  have s1 : S' 1 = va_up (S 1) (10 * c + p) (-1) := by rw [← hS']; unfold sLeave; rw [ix_nI (show i < 2147483648 by omega), e3, ix_nI (by omega)]; rfl
  have s2 : S' 2 = va_up (S 2) i st := by rw [← hS']; unfold sLeave; rw [ix_nI (show i < 2147483648 by omega)]; rfl
  have s0 : ∀ r, r ≠ 1 → r ≠ 2 → S' r = S r := fun r h1 h2 => by rw [← hS', sLeave_row ⟨h1, h2⟩]
  obtain ⟨f1, f2, f3⟩ := hf
  refine ⟨fun c' hc1 hc2 p' hp' => ?_, fun j hj1 hj2 => ?_, fun m hm1 hm2 => ?_⟩
  · rw [n1 (28 + c') (by omega) (by omega), s1, va_up_ne _ _ (by omega)]; exact f1 c' hc1 hc2 p' hp'
  · rw [n1 j (by omega) (by omega), s2, va_up_ne _ _ (show j ≠ i by omega), s0 4 (by decide) (by decide), s0 5 (by decide) (by decide), s0 7 (by decide) (by decide), s0 8 (by decide) (by decide), s0 9 (by decide) (by decide)]; exact f2 j hj1 hj2
  · rw [n1 (32 + m) (by omega) (by omega), n1 (36 + m) (by omega) (by omega), s0 11 (by decide) (by decide)]; exact f3 m hm1 hm2
/-- what is sold counts -/
theorem Rel_sold (h : Rel nc nw nm D g S) (x : Int32) : Rel nc nw nm (va_up D 40 (va_up (D 40) 1 (D 40 1 + x))) (va_up g 0 (va_up (g 0) 9 (g 0 9 + x))) S := by
  have hh := h.1.1
  obtain ⟨hn, hd, hs, hc0, hw, hm, hb⟩ := h
  generalize hD' : va_up D 40 (va_up (D 40) 1 (D 40 1 + x)) = D'
  have n1 : ∀ r, r ≠ 40 → D' r = D r := fun r h1 => by rw [← hD', va_up_ne _ _ h1]
  have n40 : D' 40 = va_up (D 40) 1 (D 40 1 + x) := by rw [← hD', va_up_self]
  refine ⟨?_, ?_, ?_, fun c' hc' => ?_, fun j hj => ?_, fun m hm' => ?_, fun c' p' hc' hp' => ?_⟩
  · unfold RN; rw [n40]; exact hn
  · rw [n40]; exact hd
  · rw [n40]; show D 40 1 + x = g 0 9 + x; rw [hs]
  · have z := hc0 c' hc'
    unfold RC at z ⊢; rw [n1 (24 + c') (by omega), n1 (28 + c') (by omega)]; exact z
  · have z := hw j hj
    unfold RW at z ⊢; rw [n1 j (by omega)]; exact z
  · have z := hm m hm'
    unfold RM at z ⊢; rw [n1 (32 + m) (by omega), n1 (36 + m) (by omega)]; exact z
  · rcases hb c' p' hc' hp' with e | ⟨t, ht, e⟩
    · exact Or.inl e
    · exact Or.inr ⟨t, ht, by rw [n1 t (by omega)]; exact e⟩
theorem Fr_sold (h : Rel nc nw nm D g S) (hf : Fr nc nw nm D g S) (x : Int32) : Fr nc nw nm (va_up D 40 (va_up (D 40) 1 (D 40 1 + x))) (va_up g 0 (va_up (g 0) 9 (g 0 9 + x))) S := by
  have hh := h.1.1
  generalize hD' : va_up D 40 (va_up (D 40) 1 (D 40 1 + x)) = D'
  have n1 : ∀ r, r ≠ 40 → D' r = D r := fun r h1 => by rw [← hD', va_up_ne _ _ h1]
  obtain ⟨f1, f2, f3⟩ := hf
  refine ⟨fun c' hc1 hc2 p' hp' => ?_, fun j hj1 hj2 => ?_, fun m hm1 hm2 => ?_⟩
  · rw [n1 (28 + c') (by omega)]; exact f1 c' hc1 hc2 p' hp'
  · rw [n1 j (by omega)]; exact f2 j hj1 hj2
  · rw [n1 (32 + m) (by omega), n1 (36 + m) (by omega)]; exact f3 m hm1 hm2
theorem sWorth_leave {S : DD} {x y st : Int32} : sWorth (sLeave S x st) y = sWorth S y := by
  unfold sWorth
  rw [sLeave_row (by decide), sLeave_row (by decide), sLeave_row (by decide), sLeave_row (by decide)]
theorem sim_sell (h : Rel nc nw nm D g S) (hf : Fr nc nw nm D g S) (h0 : g 0 0 = 0) (w : Int32) :
    kSell D w = mSell g S w 0 0 ∧ (kSell D w = 0 → worth (D (ix w)) = vSellM g S w) ∧ Rel nc nw nm (if kSell D w = 0 then dSell D w else D) (mSell g S w) (sSell g S w) ∧ Fr nc nw nm (if kSell D w = 0 then dSell D w else D) (mSell g S w) (sSell g S w) := by
  rw [kSell, mSell, sSell, vSellM, inW_eq h.1]
  have hh := h.1.1
  by_cases h1 : wI g w = true
  · obtain ⟨i, hi, rfl⟩ := wI_nat h.1 h1
    rw [lies_of h hi]
    by_cases h3 : S 2 i = 0
    · have ew : worth (D i) = sWorth S (nI i) := worth_R hh.2.1 h.2.2.2.2.1 hi
      simp only [h1, h3, decide_true, if_true, dSell, ix_nI (show i < 2147483648 by omega), sWorth_leave, ew]
      have hs := Rel_sold h (sWorth S (nI i))
      exact ⟨h0.symm, fun _ => by trivial, Rel_leave hs hi h3 (by decide), Fr_leave hs (Fr_sold h hf _) hi h3⟩
    · simp only [h1, h3, decide_false, if_true, if_false, Bool.false_eq_true, ix_nI (show i < 2147483648 by omega)]
      exact ⟨rfl, fun q => absurd q (by decide), h, hf⟩
  · simp only [h1, if_false, Bool.false_eq_true]
    exact ⟨rfl, fun q => absurd q (by decide), h, hf⟩
end RelG
