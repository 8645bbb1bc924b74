/-! CLASS AND REFERENCE: where a mould leaps from -/
section RelP
variable {nc nw nm : Nat} {D g S : DD} {fr : Prop}
theorem wAt_out (b : WW) {x : Int32} (h : ¬ wthn x 0 9 = true) : wAt b x = -1 := by
  unfold wAt
  by_cases h0 : x < 0
  · rw [if_pos h0]
  · rw [if_neg h0, if_pos]
    obtain ⟨j, hj, rfl⟩ := nI_of h0
    rw [show (10 : Int32) = nI 10 from rfl, nI_le_iff (by omega) hj]
    rcases Nat.lt_or_ge j 10 with q | q
    · refine absurd (decide_eq_true ⟨h0, ?_⟩) h
      rw [show (9 : Int32) = nI 9 from rfl, nI_lt_iff (by omega) hj]; omega
    · exact q
/-- the class's leaping wheel at a place beside, and the reference's -/
theorem leap_eq (h : Rel nc nw nm D g S) {i c p p2 : Nat} {y : Int32} (hi : i < nw) (hc : c < nc) (hp2 : p2 < 10) (e3 : S 3 i = nI (10 * c + p)) (hp : p < 10) (ey : nI p + y = nI p2) (e4 : nI (10 * c + p) + y = nI (10 * c + p2)) :
    leapAt D c (nI p + y) = leapr (S 1) (S 3) (S 8) (S 9) (g 2) (nI i) y := by
  have hh := h.1.1
  have hx : ix (nI i) = i := ix_nI (by omega)
  have rc := h.2.2.2.1 c hc
  unfold leapr
  simp only [hx, e3, rem10 hp (show c < 4 by omega), div10 hp (show c < 4 by omega), ix_nI (show c < 2147483648 by omega), e4, ix_nI (show 10 * c + p2 < 2147483648 by omega)]
  rw [ey]
  have w : wthn (nI p2) 0 9 = true := decide_eq_true ⟨nI_pos (by omega), by rw [show (9 : Int32) = nI 9 from rfl, nI_lt_iff (by omega) (by omega)]; omega⟩
  rw [w, leapAt, wAt_nat _ hp2, rc.2.2 p2 hp2, gtl, rc.2.1]
  simp only [if_true]
  rcases h.2.2.2.2.2.2 c p2 hc hp2 with e | ⟨t, ht, b1, b2, b3, b4⟩
  · rw [e, lies_m1, if_neg (by decide), if_pos rfl]
  · have q := h.2.2.2.2.1 t ht
    rw [b1, lies_of h ht, if_pos (decide_eq_true b2), if_neg (nI_m1 (by omega)), ix_nI (show t < 2147483648 by omega), q.1.2.2.2.2.2.2.1]
    by_cases z : S 8 t ≤ 0
    · obtain ⟨m, hm, em⟩ := q.2.1
      rw [em] at z
      have z0 : S 8 t = 0 := by rw [em]; exact (le0 (by omega)).mp z
      rw [if_pos (show S 8 t ≤ 0 by rw [em]; exact z), (q.2.2.2.1 z0).1, if_pos]
      split <;> decide
    · rw [if_neg z]
end RelP
