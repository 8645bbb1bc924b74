/-! CLASS AND REFERENCE: make -/
section RelH
variable {nc nw nm : Nat} {D g S : DD}
theorem putW_eq {D : DD} {i c p nc nw : Nat} (hC : D 40 2 = nI nc) (hW : D 40 3 = nI nw) (hnc : nc ≤ 4) (hnw : nw ≤ 24) (hi : i < nw) (hc : c < nc) (hp : p < 10) :
    putW D (nI i) (nI c) (nI p) = va_up (va_up D i (va_up (va_up (D i) 1 (nI c)) 2 (nI p))) (28 + c) (va_up (D (28 + c)) p (nI i)) := by
  have e1 : inW D (nI i) = true := by
    refine decide_eq_true ⟨nI_pos (by omega), ?_, ?_⟩
    · rw [hW, nI_le_iff (by omega) (by omega)]; omega
    · rw [show (24 : Int32) = nI 24 from rfl, nI_le_iff (by omega) (by omega)]; omega
  have e2 : inC D (nI c) = true := by
    refine decide_eq_true ⟨nI_pos (by omega), ?_, ?_⟩
    · rw [hC, nI_le_iff (by omega) (by omega)]; omega
    · rw [show (4 : Int32) = nI 4 from rfl, nI_le_iff (by omega) (by omega)]; omega
  simp only [putW, e1, e2, if_true, ix_nI (show i < 2147483648 by omega), ix_nI (show c < 2147483648 by omega), pAt_nat _ hp]
  rw [va_up_ne D _ (show 28 + c ≠ i by omega)]
theorem sim_make (h : Rel nc nw nm D g S) (hf : Fr nc nw nm D g S) (h0 : g 0 0 = 0) (c p : Int32) :
    kMake D c p = mMake g S c p 0 0 ∧ (kMake D c p = 0 → D 40 3 = vMakeM g S c p) ∧ Both (if kMake D c p = 0 then addW D c p else D) (mMake g S c p) (sMake g S c p) := by
  rw [kMake, mMake, sMake, vMakeM, inC_eq h.1]
  have hh := h.1.1
  have e1 := h.1.2.1.2.1
  have e2 := h.1.2.2.2.1
  by_cases h1 : cI g c = true
  · by_cases h2 : isPl p = true
    · obtain ⟨c, hc, rfl⟩ := cI_nat h.1 h1
      obtain ⟨p, hp, rfl⟩ := pl_nat h2
      have hbd : wAt (D (28 + c)) (nI p) = S 1 (10 * c + p) := by rw [wAt_nat _ hp]; exact (h.2.2.2.1 c hc).2.2 p hp
      by_cases h3 : nw = 24
      · have a1 : (24 : Int32) ≤ nI nw := by rw [show (24 : Int32) = nI 24 from rfl, nI_le_iff (by omega) (by omega)]; omega
        have a2 : nI nw = 24 := by rw [h3]; rfl
        simp only [h1, h2, if_true, e1, e2, a1, a2, show (24 : Int32) ≤ 24 from by decide]
        exact ⟨rfl, fun q => absurd q (by decide), nc, nw, nm, h, hf⟩
      · have a1 : ¬ (24 : Int32) ≤ nI nw := by rw [show (24 : Int32) = nI 24 from rfl, nI_le_iff (by omega) (by omega)]; omega
        have a2 : ¬ nI nw = 24 := by rw [show (24 : Int32) = nI 24 from rfl, nI_iff (by omega) (by omega)]; exact h3
        by_cases h4 : S 1 (10 * c + p) = -1
        · have ep : addW D (nI c) (nI p) = va_up (va_up (va_up D 40 (va_up (D 40) 3 (nI (nw + 1)))) nw (va_up (va_up (D nw) 1 (nI c)) 2 (nI p))) (28 + c) (va_up (D (28 + c)) p (nI nw)) := by
            have e40 : va_up D 40 (va_up (D 40) 3 (D 40 3 + 1)) 40 = va_up (D 40) 3 (D 40 3 + 1) := va_up_self _ _ _
            rw [addW, e1, nI_1s]
            rw [e1, nI_1s] at e40
            rw [putW_eq (nc := nc) (nw := nw + 1) (by rw [e40]; exact h.1.2.1.1) (by rw [e40, va_up_self]) hh.1 (by omega) (by omega) hc hp, va_up_ne D _ (show nw ≠ 40 by omega), va_up_ne D _ (show 28 + c ≠ 40 by omega)]
          simp only [h1, h2, if_true, ten_nat, ix_nI (show c < 2147483648 by omega), ix_nI (show 10 * c + p < 2147483648 by omega), hbd, h4, e1, e2, a1, a2, if_false, ep]
          generalize hD' : va_up (va_up (va_up D 40 (va_up (D 40) 3 (nI (nw + 1)))) nw (va_up (va_up (D nw) 1 (nI c)) 2 (nI p))) (28 + c) (va_up (D (28 + c)) p (nI nw)) = D'
          have n1 : ∀ r, r ≠ 40 → r ≠ nw → r ≠ 28 + c → D' r = D r := fun r b1 b2 b3 => by rw [← hD', va_up_ne _ _ b3, va_up_ne _ _ b2, va_up_ne _ _ b1]
          have n40 : D' 40 = va_up (D 40) 3 (nI (nw + 1)) := by rw [← hD', va_up_ne _ _ (by omega), va_up_ne _ _ (by omega), va_up_self]
          have nW : D' nw = va_up (va_up (D nw) 1 (nI c)) 2 (nI p) := by rw [← hD', va_up_ne _ _ (by omega), va_up_self]
          have nB : D' (28 + c) = va_up (D (28 + c)) p (nI nw) := by rw [← hD', va_up_self]
          generalize hS' : sMake1 S (nI nw) (nI (10 * c + p)) = S'
          have s1 : S' 1 = va_up (S 1) (10 * c + p) (nI nw) := by rw [← hS']; show va_up (S 1) (ix (nI (10 * c + p))) (nI nw) = _; rw [ix_nI (by omega)]
          have s3 : S' 3 = va_up (S 3) nw (nI (10 * c + p)) := by rw [← hS']; show va_up (S 3) (ix (nI nw)) _ = _; rw [ix_nI (by omega)]
          have s6 : S' 6 = va_up (S 6) nw 80 := by rw [← hS']; show va_up (S 6) (ix (nI nw)) _ = _; rw [ix_nI (by omega)]
          have s10 : S' 10 = va_up (S 10) nw (-1) := by rw [← hS']; show va_up (S 10) (ix (nI nw)) _ = _; rw [ix_nI (by omega)]
          have s0 : ∀ r, r ≠ 1 → r ≠ 3 → r ≠ 6 → r ≠ 10 → S' r = S r := fun r b1 b2 b3 b4 => by
            rw [← hS']; unfold sMake1 sMk1 sPut
            rw [va_up_ne _ _ b4, va_up_ne _ _ b3, va_up_ne _ _ b2, va_up_ne _ _ b1]
          obtain ⟨hn, hd, hs, hc0, hw, hm, hb⟩ := h
          have z := hf.2.1 nw (by omega) (by omega)
          refine ⟨h0.symm, fun _ => (nI_1p nw).symm, nc, nw + 1, nm, ⟨?_, ?_, ?_, fun c' hc' => ?_, fun j hj => ?_, fun m hm' => ?_, fun c' p' hc' hp' => ?_⟩, ⟨fun c' hc1 hc2 p' hp' => ?_, fun j hj1 hj2 => ?_, fun m hm1 hm2 => ?_⟩⟩
          · unfold RN; rw [n40]; exact ⟨⟨hh.1, by omega, hh.2.2⟩, ⟨hn.2.1.1, rfl, hn.2.1.2.2⟩, hn.2.2.1, nI_1s nw, hn.2.2.2.2⟩
          · rw [n40, s0 0 (by decide) (by decide) (by decide) (by decide)]; exact hd
          · rw [n40]; exact hs
          · unfold RC
            rw [n1 (24 + c') (by omega) (by omega) (by omega), s1]
            refine ⟨(hc0 c' hc').1, (hc0 c' hc').2.1, fun p' hp' => ?_⟩
            by_cases e : c' = c
            · subst e
              rw [nB]
              by_cases e5 : p' = p
              · subst e5; rw [va_up_self, va_up_self]
              · rw [va_up_ne _ _ e5, va_up_ne _ _ (by omega)]; exact (hc0 c' hc').2.2 p' hp'
            · rw [n1 (28 + c') (by omega) (by omega) (by omega), va_up_ne _ _ (by omega)]; exact (hc0 c' hc').2.2 p' hp'
          · unfold RW
            rw [s1, s3, s6, s10, s0 2 (by decide) (by decide) (by decide) (by decide), s0 4 (by decide) (by decide) (by decide) (by decide), s0 5 (by decide) (by decide) (by decide) (by decide), s0 7 (by decide) (by decide) (by decide) (by decide), s0 8 (by decide) (by decide) (by decide) (by decide), s0 9 (by decide) (by decide) (by decide) (by decide)]
            by_cases e : j = nw
            · subst e
              obtain ⟨⟨z0, z3, z4, z5, z6, z7, z8, z9⟩, y2, y4, y5, y7, y8, y9⟩ := z
              rw [nW, va_up_self, va_up_self, va_up_self]
              refine ⟨⟨?_, ?_, ?_, ?_, ?_, ?_, ?_, ?_⟩, ⟨0, by omega, y8⟩, ⟨0, by omega, y9⟩, fun _ => ⟨y9, rfl⟩, fun q => absurd y8 q, fun _ => ⟨c, p, hc, hp, rfl, rfl, va_up_self _ _ _, va_up_self _ _ _⟩, fun q => absurd y2 q⟩
              · show D j 0 = S 2 j; rw [z0, y2]
              · show D j 3 = S 4 j; rw [z3, y4]
              · show D j 4 = S 5 j; rw [z4, y5]
              · show D j 5 = 80; exact z5
              · show D j 6 = S 7 j; rw [z6, y7]
              · show D j 7 = S 8 j; rw [z7, y8]
              · show D j 8 = S 9 j; rw [z8, y9]
              · show D j 9 = -1; exact z9
            · have y := hw j (by omega)
              unfold RW at y
              rw [n1 j (by omega) e (by omega), va_up_ne _ _ e, va_up_ne _ _ e, va_up_ne _ _ e]
              refine ⟨y.1, y.2.1, y.2.2.1, y.2.2.2.1, y.2.2.2.2.1, fun a => ?_, y.2.2.2.2.2.2⟩
              obtain ⟨c', p', b1, b2, b3, b4, b5, b6⟩ := y.2.2.2.2.2.1 a
              refine ⟨c', p', b1, b2, b3, b4, b5, ?_⟩
              rw [va_up_ne _ _ (fun q => ?_)]
              · exact b6
              · rw [q, h4] at b6
                exact nI_m1 (by omega) b6.symm
          · unfold RM; rw [n1 (32 + m) (by omega) (by omega) (by omega), n1 (36 + m) (by omega) (by omega) (by omega), s0 11 (by decide) (by decide) (by decide) (by decide), s0 12 (by decide) (by decide) (by decide) (by decide)]; exact hm m hm'
          · unfold RB
            rw [s1, s0 2 (by decide) (by decide) (by decide) (by decide)]
            by_cases e : 10 * c' + p' = 10 * c + p
            · have ec : c' = c := by omega
              have epp : p' = p := by omega
              subst ec; subst epp
              refine Or.inr ⟨nw, by omega, va_up_self _ _ _, z.2.1, ?_, ?_⟩
              · rw [nW]; rfl
              · rw [nW]; rfl
            · rw [va_up_ne _ _ e]
              rcases hb c' p' hc' hp' with b1 | ⟨t, ht, b1, b2, b3, b4⟩
              · exact Or.inl b1
              · exact Or.inr ⟨t, by omega, b1, b2, by rw [n1 t (by omega) (by omega) (by omega)]; exact b3, by rw [n1 t (by omega) (by omega) (by omega)]; exact b4⟩
          · rw [n1 (28 + c') (by omega) (by omega) (by omega), s1, va_up_ne _ _ (by omega)]; exact hf.1 c' hc1 hc2 p' hp'
          · rw [n1 j (by omega) (by omega) (by omega), s0 2 (by decide) (by decide) (by decide) (by decide), s0 4 (by decide) (by decide) (by decide) (by decide), s0 5 (by decide) (by decide) (by decide) (by decide), s0 7 (by decide) (by decide) (by decide) (by decide), s0 8 (by decide) (by decide) (by decide) (by decide), s0 9 (by decide) (by decide) (by decide) (by decide)]; exact hf.2.1 j (by omega) hj2
          · rw [n1 (32 + m) (by omega) (by omega) (by omega), n1 (36 + m) (by omega) (by omega) (by omega), s0 11 (by decide) (by decide) (by decide) (by decide)]; exact hf.2.2 m hm1 hm2
        · simp only [h1, h2, if_true, ten_nat, ix_nI (show c < 2147483648 by omega), ix_nI (show 10 * c + p < 2147483648 by omega), hbd, h4, e1, e2, a1, a2, if_false]
          exact ⟨rfl, fun q => absurd q (by decide), nc, nw, nm, h, hf⟩
    · simp only [h1, h2, if_true, if_false, Bool.false_eq_true]
      exact ⟨rfl, fun q => absurd q (by decide), nc, nw, nm, h, hf⟩
  · simp only [h1, if_false, Bool.false_eq_true]
    exact ⟨rfl, fun q => absurd q (by decide), nc, nw, nm, h, hf⟩
end RelH
