/-! CLASS AND REFERENCE: a monk's work on a wheel -/
section RelL2
variable {nc nw nm : Nat} {D g S : DD} {fr : Prop}
theorem RF_wh (h : RF fr nc nw nm D g S) {i : Nat} (hi : i < nw) {w' : WW} {S' : DD} (hr : ∀ r, ¬ (4 ≤ r ∧ r ≤ 10) → S' r = S r) (hj : ∀ r j, j ≠ i → S' r j = S r j)
    (hw : w' 0 = D i 0 ∧ w' 1 = D i 1 ∧ w' 2 = D i 2) (hf : w' 3 = S' 4 i ∧ w' 4 = S' 5 i ∧ w' 5 = S' 6 i ∧ w' 6 = S' 7 i ∧ w' 7 = S' 8 i ∧ w' 8 = S' 9 i ∧ w' 9 = S' 10 i)
    (hm : (∃ m, m ≤ 3 ∧ S' 8 i = nI m) ∧ (∃ k, k ≤ 9 ∧ S' 9 i = nI k) ∧ (S' 8 i = 0 → S' 9 i = 0 ∧ S' 10 i = -1) ∧ (¬ S' 8 i = 0 → ¬ S' 9 i = 0)) : RF fr nc nw nm (va_up D i w') g S' :=
  ⟨Rel_wh h.1 hi hr hj hw hf hm, fun f => Fr_wh h.1 (h.2 f) hi hr hj⟩
theorem undergo_3 (w : WW) : undergo w (nI 3) = if w 7 = 0 then w else washW w := rfl
theorem sWork1_3 (S : DD) (x : Int32) : sWork1 S x (nI 3) = if S 9 (ix x) ≤ 3 then haveS S x 0 0 (-1) else va_up S 9 (va_up (S 9) (ix x) (S 9 (ix x) - 3)) := rfl
theorem RF_work1 (h : RF fr nc nw nm D g S) {i : Nat} (hi : i < nw) {t : Nat} (ht : t = 1 ∨ t = 2 ∨ t = 3) : RF fr nc nw nm (va_up D i (undergo (D i) (nI t))) g (sWork1 S (nI i) (nI t)) := by
  have hh := h.1.1.1
  have hx : ix (nI i) = i := ix_nI (by omega)
  have q := h.1.2.2.2.2.1 i hi
  obtain ⟨m, hm, em⟩ := q.2.1
  obtain ⟨k, hk, ek⟩ := q.2.2.1
  obtain ⟨q0, q3, q4, q5, q6, q7, q8, q9⟩ := q.1
  have hmm := (⟨q.2.1, q.2.2.1, q.2.2.2.1, q.2.2.2.2.1⟩ : (∃ m, m ≤ 3 ∧ S 8 i = nI m) ∧ (∃ k, k ≤ 9 ∧ S 9 i = nI k) ∧ (S 8 i = 0 → S 9 i = 0 ∧ S 10 i = -1) ∧ (¬ S 8 i = 0 → ¬ S 9 i = 0))
  rcases ht with rfl | rfl | rfl
  · rw [undergo, if_pos (by decide), sWork1, if_pos (by decide), hx]
    refine RF_wh h hi (fun r hr => va_up_ne _ _ (by omega)) (fun r j hj => colj r hj) ⟨rfl, rfl, rfl⟩ ?_ hmm
    refine ⟨q3, q4, q5, ?_, q7, q8, q9⟩
    rw [coli]; rfl
  · rw [undergo, if_neg (by decide), if_pos (by decide), sWork1, if_neg (by decide), if_pos (by decide), hx]
    refine RF_wh h hi (fun r hr => va_up_ne _ _ (by omega)) (fun r j hj => colj r hj) ⟨rfl, rfl, rfl⟩ ?_ hmm
    refine ⟨q3, ?_, q5, q6, q7, q8, q9⟩
    rw [coli, va_up_self, imin_c, q4]
  · rw [undergo_3, sWork1_3, hx, ek]
    by_cases k3 : k ≤ 3
    · have z : nI k ≤ 3 := by rw [show (3 : Int32) = nI 3 from rfl, nI_le_iff (by omega) (by omega)]; exact k3
      rw [if_pos z]
      have e := haveS_i (S := S) (i := i) (by omega) (m := 0) (gr := 0) (f := -1)
      refine RF_wh h hi haveS_o (haveS_j (by omega)) ?_ ?_ ?_
      · split
        · exact ⟨rfl, rfl, rfl⟩
        · unfold washW; split <;> exact ⟨rfl, rfl, rfl⟩
      · rw [haveS_k (by decide), haveS_k (by decide), haveS_k (by decide), haveS_k (by decide), e.1, e.2.1, e.2.2]
        by_cases y : D i 7 = 0
        · rw [if_pos y]
          rw [q7] at y
          refine ⟨q3, q4, q5, q6, by rw [q7, y], by rw [q8, (q.2.2.2.1 y).1], by rw [q9, (q.2.2.2.1 y).2]⟩
        · rw [if_neg y, washW, q8, ek, if_neg]
          · exact ⟨q3, q4, q5, q6, rfl, rfl, rfl⟩
          · intro a
            rcases (show k = 0 ∨ k = 1 ∨ k = 2 ∨ k = 3 by omega) with rfl | rfl | rfl | rfl <;> exact absurd a (by decide)
      · rw [e.1, e.2.1, e.2.2]
        exact ⟨⟨0, by omega, rfl⟩, ⟨0, by omega, rfl⟩, fun _ => ⟨rfl, rfl⟩, fun a => absurd rfl a⟩
    · have z : ¬ nI k ≤ 3 := by rw [show (3 : Int32) = nI 3 from rfl, nI_le_iff (by omega) (by omega)]; exact k3
      have y : ¬ D i 7 = 0 := fun y => by
        rw [q7] at y
        have a := (q.2.2.2.1 y).1
        rw [ek, show (0 : Int32) = nI 0 from rfl, nI_iff (by omega) (by omega)] at a
        omega
      have es : nI k - 3 = nI (k - 3) := by
        rcases (show k = 4 ∨ k = 5 ∨ k = 6 ∨ k = 7 ∨ k = 8 ∨ k = 9 by omega) with rfl | rfl | rfl | rfl | rfl | rfl <;> decide
      have pos : 0 < nI k - 3 := by rw [es, show (0 : Int32) = nI 0 from rfl, nI_lt_iff (by omega) (by omega)]; omega
      rw [if_neg z, if_neg y, washW, q8, ek, if_pos pos]
      refine RF_wh h hi (fun r hr => va_up_ne _ _ (by omega)) (fun r j hj => colj r hj) ⟨rfl, rfl, rfl⟩ ?_ ?_
      · refine ⟨q3, q4, q5, q6, q7, ?_, q9⟩
        rw [coli]; rfl
      · rw [coli, es]
        refine ⟨q.2.1, ⟨k - 3, by omega, rfl⟩, fun a => absurd (by rw [q7]; exact a) y, fun _ => ?_⟩
        rw [show (0 : Int32) = nI 0 from rfl, nI_iff (by omega) (by omega)]; omega
end RelL2
