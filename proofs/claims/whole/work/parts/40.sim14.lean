/-! CLASS AND REFERENCE: a monk's way along the places -/
section RelN2
variable {nc nw nm : Nat} {D g S : DD} {fr : Prop}
theorem RF_mwWheel (h : RF fr nc nw nm D g S) {i m t p : Nat} (hi : i < nw) (hm : m < nm) (ht : t = 1 ∨ t = 2 ∨ t = 3) (hp : p < 10) :
    RF fr nc nw nm (mwWheel m (nI t) (nI m) (nI p) i D) g (va_up (sWork S (nI m) (nI i) (nI t)) 12 (va_up (sWork S (nI m) (nI i) (nI t) 12) (ix (nI m)) (nI p))) := by
  have hh := h.1.1.1
  have h2 : RF fr nc nw nm (touchD (va_up D i (undergo (D i) (nI t))) m (nI m) i) g (sWork S (nI m) (nI i) (nI t)) := RF_touch (RF_work1 h hi ht) hi hm
  have z := h2.1.2.2.2.2.2.1 m hm
  rw [ix_nI (show m < 2147483648 by omega)]
  refine RF_mk h2 hm (fun r _ hr => va_up_ne _ _ hr) (fun r j hj => colj r hj) ⟨rfl, rfl, z.2.2.1, ?_⟩ z.2.2.2.2.1 ⟨p + 1, by omega, ?_⟩
  · rw [coli]; rfl
  · rw [coli]; exact nI_1s p
theorem lies_m1 : lies D (-1) = false := by
  rw [lies, show inW D (-1) = false from decide_eq_false (fun q => q.1 (by decide)), Bool.false_and]
theorem RF_mwLoop (h : RF fr nc nw nm D g S) {m c t j : Nat} (hm : m < nm) (hc : c < nc) (hg : g 3 m = nI c) (ht : t = 1 ∨ t = 2 ∨ t = 3) (hj : j ≤ 10) :
    ∀ n, n ≤ 10 → RF fr nc nw nm (mwLoop D m c (nI j) (nI t) (nI m) n).1 g (gaLoop g S (nI m) (nI j) (nI t) n).1 ∧ (mwLoop D m c (nI j) (nI t) (nI m) n).2 = (gaLoop g S (nI m) (nI j) (nI t) n).2
  | 0, _ => ⟨h, rfl⟩
  | n + 1, hn => by
    obtain ⟨ih, e2⟩ := RF_mwLoop h hm hc hg ht hj n (by omega)
    have hh := h.1.1.1
    show RF fr nc nw nm (mwStep m c (nI j) (nI t) (nI m) n (mwLoop D m c (nI j) (nI t) (nI m) n)).1 g (gaStep g (nI m) (nI j) (nI t) n (gaLoop g S (nI m) (nI j) (nI t) n)).1 ∧ (mwStep m c (nI j) (nI t) (nI m) n (mwLoop D m c (nI j) (nI t) (nI m) n)).2 = (gaStep g (nI m) (nI j) (nI t) n (gaLoop g S (nI m) (nI j) (nI t) n)).2
    generalize mwLoop D m c (nI j) (nI t) (nI m) n = a at ih e2 ⊢
    generalize gaLoop g S (nI m) (nI j) (nI t) n = b at ih e2 ⊢
    have ep : irem (nI j + nI n) 10 = nI ((j + n) % 10) := by
      rw [nI_add, show (10 : Int32) = nI 10 from rfl, irem_nI (by omega) (by decide) (by decide)]
    have hp := Nat.mod_lt (j + n) (show 0 < 10 by decide)
    have z := ih.1.2.2.2.2.2.1 m hm
    have hy : ix (nI m) = m := ix_nI (by omega)
    have hbd : wAt (a.1 (28 + c)) (nI ((j + n) % 10)) = b.1 1 (10 * c + (j + n) % 10) := by rw [wAt_nat _ hp]; exact (ih.1.2.2.2.1 c hc).2.2 _ hp
    rw [mwStep, gaStep, ep, hy, hg, ten_nat, ix_nI (show 10 * c + (j + n) % 10 < 2147483648 by omega), hbd, z.2.1, e2]
    by_cases k : g 4 m ≤ b.2
    · rw [if_neg (Int32.not_lt.mpr k), if_pos k]
      exact ⟨ih, e2⟩
    · rw [if_pos (Int32.not_le.mp k), if_neg k]
      rcases ih.1.2.2.2.2.2.2 c _ hc hp with e | ⟨i, hi, b1, b2, -, -⟩
      · rw [e, if_pos rfl, if_neg (by rw [lies_m1]; decide)]
        exact ⟨ih, e2⟩
      · rw [b1, if_pos (by rw [lies_of ih.1 hi]; exact decide_eq_true b2), if_neg (nI_m1 (by omega)), ix_nI (show i < 2147483648 by omega)]
        have r := RF_mwWheel ih hi hm ht hp
        rw [hy] at r
        exact ⟨r, rfl⟩
end RelN2
