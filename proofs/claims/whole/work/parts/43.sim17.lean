/-! CLASS AND REFERENCE: which wheel a mould leaps from -/
section RelQ
variable {nc nw nm : Nat} {D g S : DD} {fr : Prop}
theorem leap_out (h : Rel nc nw nm D g S) {i c p : Nat} {y : Int32} (hi : i < nw) (hc : c < nc) (hp : p < 10) (e3 : S 3 i = nI (10 * c + p)) (w : ¬ wthn (nI p + y) 0 9 = true) :
    leapAt D c (nI p + y) = leapr (S 1) (S 3) (S 8) (S 9) (g 2) (nI i) y := by
  have hh := h.1.1
  have hx : ix (nI i) = i := ix_nI (by omega)
  unfold leapr
  simp only [hx, e3, rem10 hp (show c < 4 by omega), w, if_false, if_true, Bool.false_eq_true]
  rw [leapAt, wAt_out _ w, lies_m1, if_neg (by decide)]
theorem leap_lo (h : Rel nc nw nm D g S) {i c p : Nat} (hi : i < nw) (hc : c < nc) (hp : p < 10) (e3 : S 3 i = nI (10 * c + p)) :
    leapAt D c (nI p - 1) = leapr (S 1) (S 3) (S 8) (S 9) (g 2) (nI i) (-1) := by
  have e : nI p - 1 = nI p + (-1) := Int32.sub_eq_add_neg _ _
  rw [e]
  rcases p with _ | p
  · exact leap_out h hi hc hp e3 (by decide)
  · refine leap_eq h hi hc (p2 := p) (by omega) e3 hp ?_ ?_
    · rw [← e, nI_pred]
    · rw [← Int32.sub_eq_add_neg, show 10 * c + (p + 1) = (10 * c + p) + 1 by omega, nI_pred]
theorem leap_hi (h : Rel nc nw nm D g S) {i c p : Nat} (hi : i < nw) (hc : c < nc) (hp : p < 10) (e3 : S 3 i = nI (10 * c + p)) :
    leapAt D c (nI p + 1) = leapr (S 1) (S 3) (S 8) (S 9) (g 2) (nI i) 1 := by
  by_cases q : p = 9
  · subst q
    exact leap_out h hi hc hp e3 (by decide)
  · refine leap_eq h hi hc (p2 := p + 1) (by omega) e3 hp (nI_1s p) ?_
    rw [nI_1s]; rfl
theorem leapS_eq (h : Rel nc nw nm D g S) {i c p : Nat} (hi : i < nw) (hc : c < nc) (hp : p < 10) (e3 : S 3 i = nI (10 * c + p)) : leapS D c (nI p) = lpB g S i := by
  rw [leapS, lpB, lpA, leap_lo h hi hc hp e3, leap_hi h hi hc hp e3]
end RelQ
