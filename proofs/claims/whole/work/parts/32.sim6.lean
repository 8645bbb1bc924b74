/-! CLASS AND REFERENCE: build, hire -/
section RelF
variable {nc nw nm : Nat} {D g S : DD}
def Both (D g S : DD) : Prop := ∃ nc nw nm, Rel nc nw nm D g S ∧ Fr nc nw nm D g S
theorem nI_1s (n : Nat) : nI n + 1 = nI (n + 1) := by rw [show (1 : Int32) = nI 1 from rfl, nI_add]
theorem nI_1p (n : Nat) : nI n + 1 - 1 = nI n := by rw [nI_1s, nI_pred]
theorem RW_mono {nc' : Nat} (hc : nc ≤ nc') {i : Nat} (h : RW nc D S i) : RW nc' D S i :=
  ⟨h.1, h.2.1, h.2.2.1, h.2.2.2.1, h.2.2.2.2.1, fun e => by obtain ⟨c, p, h1, h2⟩ := h.2.2.2.2.2.1 e; exact ⟨c, p, by omega, h2⟩, h.2.2.2.2.2.2⟩
theorem RM_mono {nc' : Nat} (hc : nc ≤ nc') {i : Nat} (h : RM nc D g S i) : RM nc' D g S i :=
  ⟨by obtain ⟨c, h1, h2⟩ := h.1; exact ⟨c, by omega, h2⟩, h.2⟩
theorem sim_build (h : Rel nc nw nm D g S) (hf : Fr nc nw nm D g S) (h0 : g 0 0 = 0) (a b : Int32) :
    kBuild D a b = mBuild2 g a b 0 0 ∧ (kBuild D a b = 0 → D 40 2 = vBuildM g a b) ∧ Both (if kBuild D a b = 0 then addC D a b else D) (mBuild2 g a b) S := by
  rw [kBuild, mBuild2, vBuildM]
  have hh := h.1.1
  have e1 := h.1.2.1.1
  have e2 := h.1.2.2.1
  by_cases h2 : wthn a 0 9 = true
  · by_cases h3 : wthn b 0 9 = true
    · have h4 : airOk a b = true := wthn_and.mpr ⟨h2, h3⟩
      by_cases h5 : nc = 4
      · have a1 : ¬ D 40 2 < 4 := by rw [e1, show (4 : Int32) = nI 4 from rfl, nI_lt_iff (by omega) (by omega)]; omega
        have a2 : g 0 1 = 4 := by rw [e2, h5]; rfl
        simp only [h2, h3, h4, if_true, a1, if_false, a2]
        exact ⟨rfl, fun q => absurd q (by decide), nc, nw, nm, h, hf⟩
      · have a1 : nI nc < 4 := by rw [show (4 : Int32) = nI 4 from rfl, nI_lt_iff (by omega) (by omega)]; omega
        have a2 : ¬ nI nc = 4 := by rw [show (4 : Int32) = nI 4 from rfl, nI_iff (by omega) (by omega)]; exact h5
        have hin : inC (va_up D 40 (va_up (D 40) 2 (nI nc + 1))) (nI nc) = true := by
          refine decide_eq_true ⟨nI_pos (by omega), ?_, ?_⟩
          · rw [show va_up D 40 (va_up (D 40) 2 (nI nc + 1)) 40 2 = nI nc + 1 from rfl, nI_1s, nI_le_iff (by omega) (by omega)]; omega
          · rw [show (4 : Int32) = nI 4 from rfl, nI_le_iff (by omega) (by omega)]; omega
        simp only [h2, h3, h4, if_true, a1, a2, if_false, addC, e1, e2, hin, ix_nI (show nc < 2147483648 by omega)]
        refine ⟨h0.symm, fun _ => (nI_1p nc).symm, nc + 1, nw, nm, ?_, ?_⟩
        · obtain ⟨hn, hd, hs, hc, hw, hm, hb⟩ := h
          generalize hD' : va_up (va_up D 40 (va_up (D 40) 2 (nI nc + 1))) (24 + nc) (va_up (va_up (va_up D 40 (va_up (D 40) 2 (nI nc + 1)) (24 + nc)) 0 a) 1 b) = D'
          have n1 : ∀ r, r ≠ 40 → r ≠ 24 + nc → D' r = D r := fun r h1 h2 => by rw [← hD', va_up_ne _ _ h2, va_up_ne _ _ h1]
          have n40 : D' 40 = va_up (D 40) 2 (nI nc + 1) := by rw [← hD', va_up_ne _ _ (by omega), va_up_self]
          have nC : D' (24 + nc) = va_up (va_up (D (24 + nc)) 0 a) 1 b := by rw [← hD', va_up_self, va_up_ne _ _ (by omega)]
          refine ⟨?_, ?_, ?_, fun c hc' => ?_, fun j hj => ?_, fun m hm' => ?_, fun c p hc' hp => ?_⟩
          · unfold RN
            rw [n40]
            refine ⟨⟨by omega, hh.2⟩, ⟨nI_1s nc, hn.2.1.2.1, hn.2.1.2.2⟩, nI_1s nc, hn.2.2.2.1, hn.2.2.2.2⟩
          · rw [n40]; exact hd
          · rw [n40]; exact hs
          · by_cases e : c = nc
            · subst e
              have z := hf.1 c (by omega) (by omega)
              unfold RC
              rw [nC, n1 (28 + c) (by omega) (by omega)]
              refine ⟨?_, ?_, fun p hp => by rw [(z p hp).1, (z p hp).2]⟩ <;> simp [va_up]
            · have z := hc c (by omega)
              unfold RC
              rw [n1 (24 + c) (by omega) (by omega), n1 (28 + c) (by omega) (by omega)]
              refine ⟨z.1.trans ?_, z.2.1.trans ?_, z.2.2⟩ <;> simp [va_up, e]
          · have z := RW_mono (show nc ≤ nc + 1 by omega) (hw j hj)
            unfold RW at z ⊢
            rw [n1 j (by omega) (by omega)]; exact z
          · have z := RM_mono (show nc ≤ nc + 1 by omega) (hm m hm')
            unfold RM at z ⊢
            rw [n1 (32 + m) (by omega) (by omega), n1 (36 + m) (by omega) (by omega)]; exact z
          · by_cases e : c = nc
            · subst e; exact Or.inl (hf.1 c (by omega) (by omega) p hp).2
            · rcases hb c p (by omega) hp with e | ⟨t, ht, e⟩
              · exact Or.inl e
              · exact Or.inr ⟨t, ht, by rw [n1 t (by omega) (by omega)]; exact e⟩
        · obtain ⟨f1, f2, f3⟩ := hf
          generalize hD' : va_up (va_up D 40 (va_up (D 40) 2 (nI nc + 1))) (24 + nc) (va_up (va_up (va_up D 40 (va_up (D 40) 2 (nI nc + 1)) (24 + nc)) 0 a) 1 b) = D'
          have n1 : ∀ r, r ≠ 40 → r ≠ 24 + nc → D' r = D r := fun r h1 h2 => by rw [← hD', va_up_ne _ _ h2, va_up_ne _ _ h1]
          refine ⟨fun c hc1 hc2 p hp => ?_, fun j hj1 hj2 => ?_, fun m hm1 hm2 => ?_⟩
          · rw [n1 (28 + c) (by omega) (by omega)]; exact f1 c (by omega) hc2 p hp
          · rw [n1 j (by omega) (by omega)]; exact f2 j hj1 hj2
          · rw [n1 (32 + m) (by omega) (by omega), n1 (36 + m) (by omega) (by omega)]; exact f3 m hm1 hm2
    · have h4 : ¬ airOk a b = true := fun q => h3 (wthn_and.mp q).2
      simp only [h2, h3, h4, if_true, if_false, Bool.false_eq_true]
      exact ⟨rfl, fun q => absurd q (by decide), nc, nw, nm, h, hf⟩
  · have h4 : ¬ airOk a b = true := fun q => h2 (wthn_and.mp q).1
    simp only [h2, h4, if_false, Bool.false_eq_true]
    exact ⟨rfl, fun q => absurd q (by decide), nc, nw, nm, h, hf⟩
theorem sim_hire (h : Rel nc nw nm D g S) (hf : Fr nc nw nm D g S) (h0 : g 0 0 = 0) (c k : Int32) :
    kHire D c k = mHire g c k 0 0 ∧ (kHire D c k = 0 → D 40 4 = vHireM g c k) ∧ Both (if kHire D c k = 0 then addM D c k else D) (mHire g c k) (sHire g S c k) := by
  rw [kHire, mHire, vHireM, sHire, inC_eq h.1]
  have hh := h.1.1
  have e1 := h.1.2.1.2.2
  have e2 := h.1.2.2.2.2
  by_cases h2 : cI g c = true
  · by_cases h3 : wthn k 1 10 = true
    · by_cases h5 : nm = 4
      · have a1 : ¬ D 40 4 < 4 := by rw [e1, show (4 : Int32) = nI 4 from rfl, nI_lt_iff (by omega) (by omega)]; omega
        have a2 : g 0 5 = 4 := by rw [e2, h5]; rfl
        simp only [h2, h3, if_true, a1, if_false, a2]
        exact ⟨rfl, fun q => absurd q (by decide), nc, nw, nm, h, hf⟩
      · have a1 : nI nm < 4 := by rw [show (4 : Int32) = nI 4 from rfl, nI_lt_iff (by omega) (by omega)]; omega
        have a2 : ¬ nI nm = 4 := by rw [show (4 : Int32) = nI 4 from rfl, nI_iff (by omega) (by omega)]; exact h5
        obtain ⟨i, hi, rfl⟩ := cI_nat h.1 h2
        have hin : inM (va_up D 40 (va_up (D 40) 4 (nI nm + 1))) (nI nm) = true := by
          refine decide_eq_true ⟨nI_pos (by omega), ?_, ?_⟩
          · rw [show va_up D 40 (va_up (D 40) 4 (nI nm + 1)) 40 4 = nI nm + 1 from rfl, nI_1s, nI_le_iff (by omega) (by omega)]; omega
          · rw [show (4 : Int32) = nI 4 from rfl, nI_le_iff (by omega) (by omega)]; omega
        simp only [h2, h3, if_true, a1, a2, if_false, addM, e1, e2, hin, ix_nI (show nm < 2147483648 by omega)]
        obtain ⟨hn, hd, hs, hc, hw, hm, hb⟩ := h
        have z := hf.2.2 nm (by omega) (by omega)
        generalize hD' : va_up (va_up D 40 (va_up (D 40) 4 (nI nm + 1))) (32 + nm) (va_up (va_up (va_up D 40 (va_up (D 40) 4 (nI nm + 1)) (32 + nm)) 0 (nI i)) 1 k) = D'
        generalize hg' : va_up (va_up (va_up g 3 (va_up (g 3) nm (nI i))) 4 (va_up (g 4) nm k)) 0 (va_up (g 0) 5 (nI nm + 1)) = g'
        generalize hS' : va_up S 12 (va_up (S 12) nm (-1)) = S'
        have n1 : ∀ r, r ≠ 40 → r ≠ 32 + nm → D' r = D r := fun r h1 h2 => by rw [← hD', va_up_ne _ _ h2, va_up_ne _ _ h1]
        have n40 : D' 40 = va_up (D 40) 4 (nI nm + 1) := by rw [← hD', va_up_ne _ _ (by omega), va_up_self]
        have nM : D' (32 + nm) = va_up (va_up (D (32 + nm)) 0 (nI i)) 1 k := by rw [← hD', va_up_self, va_up_ne _ _ (by omega)]
        have g0 : g' 0 = va_up (g 0) 5 (nI nm + 1) := by rw [← hg']; rfl
        have g1 : g' 1 = g 1 := by rw [← hg']; rfl
        have g2 : g' 2 = g 2 := by rw [← hg']; rfl
        have g3 : g' 3 = va_up (g 3) nm (nI i) := by rw [← hg']; rfl
        have g4 : g' 4 = va_up (g 4) nm k := by rw [← hg']; rfl
        have g5 : g' 5 = g 5 := by rw [← hg']; rfl
        have s1 : ∀ r, r ≠ 12 → S' r = S r := fun r hr => by rw [← hS', va_up_ne _ _ hr]
        have s12 : S' 12 = va_up (S 12) nm (-1) := by rw [← hS', va_up_self]
        refine ⟨by rw [g0]; exact h0.symm, fun _ => (nI_1p nm).symm, nc, nw, nm + 1, ⟨?_, ?_, ?_, fun c hc' => ?_, fun j hj => ?_, fun m hm' => ?_, fun c p hc' hp => ?_⟩, ⟨fun c hc1 hc2 p hp => ?_, fun j hj1 hj2 => ?_, fun m hm1 hm2 => ?_⟩⟩
        · unfold RN
          rw [n40, g0]
          exact ⟨⟨hh.1, hh.2.1, by omega⟩, ⟨hn.2.1.1, hn.2.1.2.1, nI_1s nm⟩, hn.2.2.1, hn.2.2.2.1, nI_1s nm⟩
        · rw [n40, s1 0 (by decide)]; exact hd
        · rw [n40, g0]; exact hs
        · unfold RC; rw [n1 (24 + c) (by omega) (by omega), n1 (28 + c) (by omega) (by omega), g1, g2, s1 1 (by decide)]; exact hc c hc'
        · unfold RW; rw [n1 j (by omega) (by omega), s1 1 (by decide), s1 2 (by decide), s1 3 (by decide), s1 4 (by decide), s1 5 (by decide), s1 6 (by decide), s1 7 (by decide), s1 8 (by decide), s1 9 (by decide), s1 10 (by decide)]; exact hw j hj
        · unfold RM
          rw [g3, g4, g5, s1 11 (by decide), s12, n1 (36 + m) (by omega) (by omega)]
          by_cases e : m = nm
          · subst e
            rw [nM, va_up_self, va_up_self, va_up_self, va_up_self]
            refine ⟨⟨i, hi, rfl, rfl⟩, rfl, ?_, ?_, ⟨0, by omega, z.2.2.1⟩, ⟨0, by omega, by decide⟩, fun t ht => by rw [(z.2.2.2 t ht).1, (z.2.2.2 t ht).2]⟩
            · show D (32 + m) 2 = S 11 m; rw [z.1, z.2.2.1]
            · exact z.2.1
          · rw [n1 (32 + m) (by omega) (by omega), va_up_ne _ _ e, va_up_ne _ _ e, va_up_ne _ _ e]
            exact hm m (by omega)
        · unfold RB
          rw [s1 1 (by decide), s1 2 (by decide)]
          rcases hb c p hc' hp with e | ⟨t, ht, e⟩
          · exact Or.inl e
          · exact Or.inr ⟨t, ht, by rw [n1 t (by omega) (by omega)]; exact e⟩
        · rw [n1 (28 + c) (by omega) (by omega), s1 1 (by decide)]; exact hf.1 c hc1 hc2 p hp
        · rw [n1 j (by omega) (by omega), s1 2 (by decide), s1 4 (by decide), s1 5 (by decide), s1 7 (by decide), s1 8 (by decide), s1 9 (by decide)]; exact hf.2.1 j hj1 hj2
        · rw [n1 (32 + m) (by omega) (by omega), n1 (36 + m) (by omega) (by omega), g5, s1 11 (by decide)]; exact hf.2.2 m (by omega) hm2
    · simp only [h2, h3, if_true, if_false, Bool.false_eq_true]
      exact ⟨rfl, fun q => absurd q (by decide), nc, nw, nm, h, hf⟩
  · simp only [h2, if_false, Bool.false_eq_true]
    exact ⟨rfl, fun q => absurd q (by decide), nc, nw, nm, h, hf⟩
end RelF
