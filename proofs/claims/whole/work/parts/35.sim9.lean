/-! CLASS AND REFERENCE: carry -/
section RelI
variable {nc nw nm : Nat} {D g S : DD}
theorem Rel_moveF {fr : Prop} (h : Rel nc nw nm D g S) (hf : fr → Fr nc nw nm D g S) {i c p c0 p0 : Nat} (hi : i < nw) (hc : c < nc) (hp : p < 10) (hc0 : c0 < nc) (hp0 : p0 < 10) (h0 : S 2 i = 0) (e1 : D i 1 = nI c0) (e2 : D i 2 = nI p0) (e3 : S 3 i = nI (10 * c0 + p0)) (e4 : S 1 (10 * c0 + p0) = nI i) (hfree : S 1 (10 * c + p) = -1) {S' : DD}
    (s1 : S' 1 = va_up (va_up (S 1) (10 * c0 + p0) (-1)) (10 * c + p) (nI i)) (s3 : S' 3 = va_up (S 3) i (nI (10 * c + p))) (s0 : ∀ r, r ≠ 1 → r ≠ 3 → S' r = S r) :
    Rel nc nw nm (moveW D (nI i) (nI c) (nI p)) g S' ∧ (fr → Fr nc nw nm (moveW D (nI i) (nI c) (nI p)) g S') := by
  have hh := h.1.1
  have hne : 10 * c + p ≠ 10 * c0 + p0 := fun q => by
    rw [q, e4] at hfree
    exact nI_m1 (by omega) hfree
  have eL := liftW_eq h hi hc0 hp0 e1 e2
  generalize hL : liftW D (nI i) = L at eL
  have l40 : L 40 = D 40 := by rw [eL, va_up_ne _ _ (by omega), va_up_ne _ _ (by omega)]
  have em : moveW D (nI i) (nI c) (nI p) = va_up (va_up L i (va_up (va_up (L i) 1 (nI c)) 2 (nI p))) (28 + c) (va_up (L (28 + c)) p (nI i)) := by
    rw [moveW, hL]
    exact putW_eq (nc := nc) (nw := nw) (by rw [l40]; exact h.1.2.1.1) (by rw [l40]; exact h.1.2.1.2.1) hh.1 hh.2.1 hi hc hp
  rw [em]
  generalize hD' : va_up (va_up L i (va_up (va_up (L i) 1 (nI c)) 2 (nI p))) (28 + c) (va_up (L (28 + c)) p (nI i)) = D'
  have lB : ∀ c', c' < nc → ∀ p', p' < 10 → L (28 + c') p' = va_up (S 1) (10 * c0 + p0) (-1) (10 * c' + p') := fun c' hc' p' hp' => by
    have z := (h.2.2.2.1 c' hc').2.2 p' hp'
    rw [eL, va_up_ne _ _ (show 28 + c' ≠ i by omega)]
    by_cases e : c' = c0
    · subst e
      rw [va_up_self]
      by_cases e5 : p' = p0
      · subst e5; rw [va_up_self, va_up_self]
      · rw [va_up_ne _ _ e5, va_up_ne _ _ (by omega)]; exact z
    · rw [va_up_ne _ _ (by omega), va_up_ne _ _ (by omega)]; exact z
  have lo : ∀ r, r ≠ i → r ≠ 28 + c0 → L r = D r := fun r b1 b2 => by rw [eL, va_up_ne _ _ b1, va_up_ne _ _ b2]
  have lW : L i = va_up (va_up (D i) 1 (-1)) 2 (-1) := by rw [eL, va_up_self]
  have n1 : ∀ r, r ≠ i → r ≠ 28 + c → r ≠ 28 + c0 → D' r = D r := fun r b1 b2 b3 => by rw [← hD', va_up_ne _ _ b2, va_up_ne _ _ b1, lo r b1 b3]
  have nW : D' i = va_up (va_up (L i) 1 (nI c)) 2 (nI p) := by rw [← hD', va_up_ne _ _ (by omega), va_up_self]
  have nB : ∀ c', c' < nc → ∀ p', p' < 10 → D' (28 + c') p' = S' 1 (10 * c' + p') := fun c' hc' p' hp' => by
    rw [s1, ← hD']
    by_cases e : c' = c
    · subst e
      rw [va_up_self]
      by_cases e5 : p' = p
      · subst e5; rw [va_up_self, va_up_self]
      · rw [va_up_ne _ _ e5, va_up_ne _ _ (show 10 * c' + p' ≠ 10 * c' + p by omega)]; exact lB c' hc' p' hp'
    · rw [va_up_ne _ _ (by omega), va_up_ne _ _ (show 28 + c' ≠ i by omega), va_up_ne _ _ (show 10 * c' + p' ≠ 10 * c + p by omega)]; exact lB c' hc' p' hp'
  have d40 : D' 40 = D 40 := n1 40 (by omega) (by omega) (by omega)
  obtain ⟨hn, hd, hs, hc1, hw, hm, hb⟩ := h
  refine ⟨⟨?_, ?_, ?_, fun c' hc' => ?_, fun j hj => ?_, fun m hm' => ?_, fun c' p' hc' hp' => ?_⟩, fun f => ⟨fun c' hc1' hc2 p' hp' => ?_, fun j hj1 hj2 => ?_, fun m hm1 hm2 => ?_⟩⟩
  · unfold RN; rw [d40]; exact hn
  · rw [d40, s0 0 (by decide) (by decide)]; exact hd
  · rw [d40]; exact hs
  · unfold RC
    rw [n1 (24 + c') (by omega) (by omega) (by omega)]
    exact ⟨(hc1 c' hc').1, (hc1 c' hc').2.1, nB c' hc'⟩
  · have y := hw j hj
    unfold RW at y ⊢
    rw [s1, s3, s0 2 (by decide) (by decide), s0 4 (by decide) (by decide), s0 5 (by decide) (by decide), s0 6 (by decide) (by decide), s0 7 (by decide) (by decide), s0 8 (by decide) (by decide), s0 9 (by decide) (by decide), s0 10 (by decide) (by decide)]
    by_cases e : j = i
    · subst e
      rw [nW, lW]
      exact ⟨y.1, y.2.1, y.2.2.1, y.2.2.2.1, y.2.2.2.2.1, fun _ => ⟨c, p, hc, hp, rfl, rfl, va_up_self _ _ _, va_up_self _ _ _⟩, fun q => absurd h0 q⟩
    · rw [n1 j e (by omega) (by omega), va_up_ne (S 3) _ e]
      refine ⟨y.1, y.2.1, y.2.2.1, y.2.2.2.1, y.2.2.2.2.1, fun a => ?_, y.2.2.2.2.2.2⟩
      obtain ⟨c', p', b1, b2, b3, b4, b5, b6⟩ := y.2.2.2.2.2.1 a
      refine ⟨c', p', b1, b2, b3, b4, b5, ?_⟩
      have q1 : 10 * c' + p' ≠ 10 * c + p := fun q => by rw [q, hfree] at b6; exact nI_m1 (by omega) b6.symm
      have q2 : 10 * c' + p' ≠ 10 * c0 + p0 := fun q => by rw [q, e4, nI_iff (by omega) (by omega)] at b6; exact e b6.symm
      rw [va_up_ne _ _ q1, va_up_ne _ _ q2]; exact b6
  · unfold RM; rw [n1 (32 + m) (by omega) (by omega) (by omega), n1 (36 + m) (by omega) (by omega) (by omega), s0 11 (by decide) (by decide), s0 12 (by decide) (by decide)]; exact hm m hm'
  · unfold RB
    rw [s1, s0 2 (by decide) (by decide)]
    by_cases e : 10 * c' + p' = 10 * c + p
    · have ec : c' = c := by omega
      have epp : p' = p := by omega
      subst ec; subst epp
      exact Or.inr ⟨i, hi, va_up_self _ _ _, h0, by rw [nW]; rfl, by rw [nW]; rfl⟩
    · rw [va_up_ne _ _ e]
      by_cases e5 : 10 * c' + p' = 10 * c0 + p0
      · rw [e5, va_up_self]; exact Or.inl rfl
      · rw [va_up_ne _ _ e5]
        rcases hb c' p' hc' hp' with b1 | ⟨t, ht, b1, b2, b3, b4⟩
        · exact Or.inl b1
        · have et : t ≠ i := fun q => by
            subst q
            rw [e1, nI_iff (by omega) (by omega)] at b3
            rw [e2, nI_iff (by omega) (by omega)] at b4
            exact e5 (by rw [b3, b4])
          exact Or.inr ⟨t, ht, b1, b2, by rw [n1 t et (by omega) (by omega)]; exact b3, by rw [n1 t et (by omega) (by omega)]; exact b4⟩
  · rw [n1 (28 + c') (by omega) (by omega) (by omega), s1, va_up_ne _ _ (by omega), va_up_ne _ _ (by omega)]; exact (hf f).1 c' hc1' hc2 p' hp'
  · rw [n1 j (by omega) (by omega) (by omega), s0 2 (by decide) (by decide), s0 4 (by decide) (by decide), s0 5 (by decide) (by decide), s0 7 (by decide) (by decide), s0 8 (by decide) (by decide), s0 9 (by decide) (by decide)]; exact (hf f).2.1 j hj1 hj2
  · rw [n1 (32 + m) (by omega) (by omega) (by omega), n1 (36 + m) (by omega) (by omega) (by omega), s0 11 (by decide) (by decide)]; exact (hf f).2.2 m hm1 hm2
theorem Rel_move (h : Rel nc nw nm D g S) (hf : Fr nc nw nm D g S) {i c p c0 p0 : Nat} (hi : i < nw) (hc : c < nc) (hp : p < 10) (hc0 : c0 < nc) (hp0 : p0 < 10) (h0 : S 2 i = 0) (e1 : D i 1 = nI c0) (e2 : D i 2 = nI p0) (e3 : S 3 i = nI (10 * c0 + p0)) (e4 : S 1 (10 * c0 + p0) = nI i) (hfree : S 1 (10 * c + p) = -1) {S' : DD}
    (s1 : S' 1 = va_up (va_up (S 1) (10 * c0 + p0) (-1)) (10 * c + p) (nI i)) (s3 : S' 3 = va_up (S 3) i (nI (10 * c + p))) (s0 : ∀ r, r ≠ 1 → r ≠ 3 → S' r = S r) :
    Rel nc nw nm (moveW D (nI i) (nI c) (nI p)) g S' ∧ Fr nc nw nm (moveW D (nI i) (nI c) (nI p)) g S' :=
  ⟨(Rel_moveF (fr := True) h (fun _ => hf) hi hc hp hc0 hp0 h0 e1 e2 e3 e4 hfree s1 s3 s0).1, (Rel_moveF (fr := True) h (fun _ => hf) hi hc hp hc0 hp0 h0 e1 e2 e3 e4 hfree s1 s3 s0).2 trivial⟩
theorem sim_carry (h : Rel nc nw nm D g S) (hf : Fr nc nw nm D g S) (h0 : g 0 0 = 0) (w c p : Int32) :
    kCarry D w c p = mCarry g S w c p 0 0 ∧ (kCarry D w c p = 0 → vCarry D w = vCarryM g S w c p) ∧ Rel nc nw nm (if kCarry D w c p = 0 then moveW D w c p else D) (mCarry g S w c p) (sCarry g S w c p) ∧ Fr nc nw nm (if kCarry D w c p = 0 then moveW D w c p else D) (mCarry g S w c p) (sCarry g S w c p) := by
  rw [kCarry, mCarry, sCarry, vCarryM, inC_eq h.1, inW_eq h.1, cOk]
  have hh := h.1.1
  by_cases h1 : wI g w = true
  · by_cases h2 : cI g c = true
    · by_cases h3 : isPl p = true
      · obtain ⟨i, hi, rfl⟩ := wI_nat h.1 h1
        obtain ⟨c, hc, rfl⟩ := cI_nat h.1 h2
        obtain ⟨p, hp, rfl⟩ := pl_nat h3
        have hbd : wAt (D (28 + c)) (nI p) = S 1 (10 * c + p) := by rw [wAt_nat _ hp]; exact (h.2.2.2.1 c hc).2.2 p hp
        rw [lies_of h hi]
        by_cases h4 : S 2 i = 0
        · by_cases h5 : S 1 (10 * c + p) = -1
          · obtain ⟨c0, p0, hc0, hp0, e1, e2, e3, e4⟩ := (h.2.2.2.2.1 i hi).2.2.2.2.2.1 h4
            simp only [h1, h2, h3, h4, Bool.and_self, decide_true, if_true, ten_nat, vCarry, ix_nI (show i < 2147483648 by omega), ix_nI (show c < 2147483648 by omega), ix_nI (show 10 * c + p < 2147483648 by omega), hbd, h5, e1, e2, e3, ix_nI (show 10 * c0 + p0 < 2147483648 by omega)]
            refine ⟨h0.symm, fun _ => by trivial, Rel_move h hf hi hc hp hc0 hp0 h4 e1 e2 e3 e4 h5 ?_ ?_ ?_⟩
            · show va_up (va_up (S 1) (10 * c0 + p0) (-1)) (ix (nI (10 * c + p))) (nI i) = _; rw [ix_nI (by omega)]
            · show va_up (S 3) (ix (nI i)) (nI (10 * c + p)) = _; rw [ix_nI (by omega)]
            · intro r b1 b2
              unfold sPut
              rw [va_up_ne _ _ b2, va_up_ne _ _ b1, va_up_ne _ _ b1]
          · simp only [h1, h2, h3, h4, Bool.and_self, decide_true, if_true, ten_nat, ix_nI (show i < 2147483648 by omega), ix_nI (show c < 2147483648 by omega), ix_nI (show 10 * c + p < 2147483648 by omega), hbd, h5, if_false]
            exact ⟨rfl, fun q => absurd q (by decide), h, hf⟩
        · simp only [h1, h2, h3, h4, Bool.and_self, decide_false, if_true, if_false, Bool.false_eq_true, ix_nI (show i < 2147483648 by omega)]
          exact ⟨rfl, fun q => absurd q (by decide), h, hf⟩
      · simp only [h1, h2, h3, Bool.and_false, Bool.and_true, if_true, if_false, Bool.false_eq_true]
        exact ⟨rfl, fun q => absurd q (by decide), h, hf⟩
    · simp only [h1, h2, Bool.false_and, Bool.and_false, if_true, if_false, Bool.false_eq_true]
      exact ⟨rfl, fun q => absurd q (by decide), h, hf⟩
  · simp only [h1, Bool.false_and, if_false, Bool.false_eq_true]
    exact ⟨rfl, fun q => absurd q (by decide), h, hf⟩
end RelI
