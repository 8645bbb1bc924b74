/-! CLASS AND REFERENCE: what a monk's hands carry -/
section RelM2
variable {nc nw nm : Nat} {D g S : DD} {fr : Prop}
theorem RF_mk (h : RF fr nc nw nm D g S) {m : Nat} (hm : m < nm) {w' : WW} {S' : DD} (hr : ∀ r, r ≠ 11 → r ≠ 12 → S' r = S r) (hj : ∀ r j, j ≠ m → S' r j = S r j)
    (hw : w' 0 = D (32 + m) 0 ∧ w' 1 = D (32 + m) 1 ∧ w' 2 = S' 11 m ∧ w' 3 = S' 12 m) (h11 : ∃ k, k ≤ 3 ∧ S' 11 m = nI k) (h12 : ∃ j, j ≤ 10 ∧ S' 12 m + 1 = nI j) : RF fr nc nw nm (va_up D (32 + m) w') g S' := by
  have hh := h.1.1.1
  obtain ⟨⟨hn, hd, hs, hc, hw0, hm0, hb⟩, hf⟩ := h
  have n1 : ∀ r, r ≠ 32 + m → va_up D (32 + m) w' r = D r := fun r hr => va_up_ne _ _ hr
  have n2 : va_up D (32 + m) w' (32 + m) = w' := va_up_self _ _ _
  have s1 := hr 1 (by decide) (by decide); have s2 := hr 2 (by decide) (by decide)
  refine ⟨⟨?_, ?_, ?_, fun c hc' => ?_, fun j hj' => ?_, fun q hq => ?_, fun c p hc' hp => ?_⟩, fun f => ⟨fun c hc1 hc2 p hp => ?_, fun j hj1 hj2 => ?_, fun q hq1 hq2 => ?_⟩⟩
  · unfold RN; rw [n1 40 (by omega)]; exact hn
  · rw [n1 40 (by omega), hr 0 (by decide) (by decide)]; exact hd
  · rw [n1 40 (by omega)]; exact hs
  · have z := hc c hc'
    unfold RC at z ⊢; rw [n1 (24 + c) (by omega), n1 (28 + c) (by omega), s1]; exact z
  · have z := hw0 j hj'
    unfold RW at z ⊢; rw [n1 j (by omega), s1, s2, hr 3 (by decide) (by decide), hr 4 (by decide) (by decide), hr 5 (by decide) (by decide), hr 6 (by decide) (by decide), hr 7 (by decide) (by decide), hr 8 (by decide) (by decide), hr 9 (by decide) (by decide), hr 10 (by decide) (by decide)]; exact z
  · have z := hm0 q hq
    unfold RM at z ⊢
    rw [n1 (36 + q) (by omega)]
    by_cases e : q = m
    · subst e
      rw [n2, hw.1, hw.2.1, hw.2.2.1, hw.2.2.2]
      exact ⟨z.1, z.2.1, rfl, rfl, h11, h12, z.2.2.2.2.2.2⟩
    · rw [n1 (32 + q) (by omega), hj 11 q e, hj 12 q e]; exact z
  · unfold RB
    rw [s1, s2]
    rcases hb c p hc' hp with e | ⟨t, ht, e⟩
    · exact Or.inl e
    · exact Or.inr ⟨t, ht, by rw [n1 t (by omega)]; exact e⟩
  · rw [n1 (28 + c) (by omega), s1]; exact (hf f).1 c hc1 hc2 p hp
  · rw [n1 j (by omega), s2, hr 4 (by decide) (by decide), hr 5 (by decide) (by decide), hr 7 (by decide) (by decide), hr 8 (by decide) (by decide), hr 9 (by decide) (by decide)]; exact (hf f).2.1 j hj1 hj2
  · rw [n1 (32 + q) (by omega), n1 (36 + q) (by omega), hj 11 q (by omega)]; exact (hf f).2.2 q hq1 hq2
theorem RF_touch (h : RF fr nc nw nm D g S) {i m : Nat} (hi : i < nw) (hm : m < nm) : RF fr nc nw nm (touchD D m (nI m) i) g (sWork2 S (nI m) (nI i)) := by
  have hh := h.1.1.1
  have hx : ix (nI i) = i := ix_nI (by omega)
  have hy : ix (nI m) = m := ix_nI (by omega)
  have q := h.1.2.2.2.2.1 i hi
  have z := h.1.2.2.2.2.2.1 m hm
  obtain ⟨k, hk, ek⟩ := z.2.2.2.2.1
  obtain ⟨q0, q3, q4, q5, q6, q7, q8, q9⟩ := q.1
  rw [touchD, sWork2, sCatch, cCatch, hx, hy, q8, z.2.2.1, ek, q7, q4]
  by_cases a : S 9 i < 4
  · rw [if_pos a, if_pos a]
    by_cases b : nI k = 0
    · rw [if_pos b, if_pos ((le0 (by omega)).mpr b)]; exact h
    · rw [if_neg b, if_neg (fun y => b ((le0 (by omega)).mp y))]
      by_cases c : S 8 i = 0 ∧ S 5 i < 8
      · rw [if_pos (decide_eq_true c), if_pos (decide_eq_true c)]
        have r := Rel_have h.1 hi hk (f := 100 + nI m) (fun e => absurd (by rw [e]; decide) b)
        rw [if_neg b] at r
        exact ⟨r, fun f => Fr_wh h.1 (h.2 f) hi haveS_o (haveS_j (by omega))⟩
      · rw [if_neg (fun y => c (of_decide_eq_true y)), if_neg (fun y => c (of_decide_eq_true y))]; exact h
  · rw [if_neg a, if_neg a]
    refine RF_mk h hm (fun r hr _ => va_up_ne _ _ hr) (fun r j hj => colj r hj) ⟨rfl, rfl, ?_, z.2.2.2.1⟩ ?_ z.2.2.2.2.2.1
    · rw [coli]; rfl
    · rw [coli]; exact q.2.1
end RelM2
