/-! CLASS AND REFERENCE: a wheel grows older -/
section RelJ
variable {nc nw nm : Nat} {D g S : DD}
theorem colj {S : DD} {r0 i : Nat} {x : Int32} (r : Nat) {j : Nat} (h : j ≠ i) : va_up S r0 (va_up (S r0) i x) r j = S r j := by
  by_cases e : r = r0
  · subst e; rw [va_up_self, va_up_ne _ _ h]
  · rw [va_up_ne _ _ e]
theorem coli {S : DD} {r0 i : Nat} {x : Int32} : va_up S r0 (va_up (S r0) i x) r0 i = x := by rw [va_up_self, va_up_self]
theorem rp1_j {S : DD} {i : Nat} (hi : i < 2147483648) {c : Int32} (r : Nat) {j : Nat} (h : j ≠ i) : rp1_ g S (nI i) c r j = S r j := by
  unfold rp1_
  rw [ix_nI hi]
  split
  · rfl
  · split
    · rfl
    · exact colj r h
theorem rp1_r {x c : Int32} {r : Nat} (h : r ≠ 9) : rp1_ g S x c r = S r := by
  unfold rp1_
  split
  · rfl
  · split
    · rfl
    · exact va_up_ne _ _ h
theorem rpN_j {S : DD} {i : Nat} (hi : i < 2147483648) (r : Nat) {j : Nat} (h : j ≠ i) : rpN g S (nI i) r j = S r j := by
  unfold rpN rp4_ rp3_ rp2_
  simp only [ix_nI hi]
  rw [colj r h, colj r h, colj r h, rp1_j hi r h]
/-- the growth of a day -/
theorem grow_in {k : Nat} (hk : k ≤ 9) {d : Int32} : ∃ j, 1 ≤ j ∧ j ≤ 9 ∧ imin 9 (nI k + (if d < 6 then 1 else 2)) = nI j := by
  have e : ∃ t, 1 ≤ t ∧ t ≤ 2 ∧ (if d < 6 then (1 : Int32) else 2) = nI t := by
    split
    · exact ⟨1, by omega, by omega, rfl⟩
    · exact ⟨2, by omega, by omega, rfl⟩
  obtain ⟨t, t1, t2, et⟩ := e
  rw [et, nI_add, imin, show (9 : Int32) = nI 9 from rfl]
  by_cases z : nI (k + t) < nI 9
  · rw [if_pos z]
    rw [nI_lt_iff (by omega) (by omega)] at z
    exact ⟨k + t, by omega, by omega, rfl⟩
  · rw [if_neg z]; exact ⟨9, by omega, by omega, rfl⟩
theorem Rel_age (h : Rel nc nw nm D g S) {i : Nat} (hi : i < nw) (h0 : S 2 i = 0) : Rel nc nw nm (ageD D (nI i)) g (rpN g S (nI i)) := by
  have hh := h.1.1
  have q := h.2.2.2.2.1 i hi
  obtain ⟨c, p, hc, hp, e1, e2, e3, e4⟩ := q.2.2.2.2.2.1 h0
  obtain ⟨m, hm, em⟩ := q.2.1
  obtain ⟨k, hk, ek⟩ := q.2.2.1
  have rc := h.2.2.2.1 c hc
  obtain ⟨q0, q3, q4, q5, q6, q7, q8, q9⟩ := q.1
  have hx : ix (nI i) = i := ix_nI (by omega)
  rw [ageD, hx, e1, ix_nI (show c < 2147483648 by omega), rc.1, rc.2.1]
  -- the reference's values at i
  have hd : S 3 i / 10 = nI c := by rw [e3, div10 hp (by omega)]
  have rN : rpN g S (nI i) = rp4_ (rp3_ g (rp2_ g (rp1_ g S (nI i) (nI c)) (nI i) (nI c)) (nI i) (nI c)) (nI i) := by
    unfold rpN; rw [hx, hd]
  have hcx : ix (nI c) = c := ix_nI (by omega)
  have v4 : rpN g S (nI i) 4 i = imin 100 (S 4 i + (if S 7 i < 7 then g 1 c else g 1 c / 2)) := by
    rw [rN]; unfold rp4_ rp3_ rp2_
    simp only [hx, hcx]
    rw [va_up_ne _ _ (by decide), va_up_ne _ _ (by decide), coli, rp1_r (by decide), rp1_r (by decide)]
  have v6 : rpN g S (nI i) 6 i = imax 0 (S 6 i - (10 - g 2 c) / 2) := by
    rw [rN]; unfold rp4_ rp3_ rp2_
    simp only [hx, hcx]
    rw [va_up_ne _ _ (by decide), coli, va_up_ne _ _ (by decide), rp1_r (by decide)]
  have v7 : rpN g S (nI i) 7 i = S 7 i + 1 := by
    rw [rN]; unfold rp4_ rp3_ rp2_
    simp only [hx, hcx]
    rw [coli, va_up_ne _ _ (by decide), va_up_ne _ _ (by decide), rp1_r (by decide)]
  have v9 : rpN g S (nI i) 9 i = if S 8 i ≤ 0 then S 9 i else if 12 ≤ S 5 i then S 9 i else imin 9 (S 9 i + (if g 2 c < 6 then 1 else 2)) := by
    rw [rN]; unfold rp4_ rp3_ rp2_
    simp only [hx, hcx]
    rw [va_up_ne _ _ (by decide), va_up_ne _ _ (by decide), va_up_ne _ _ (by decide)]
    unfold rp1_
    simp only [hx, hcx]
    split
    · rfl
    · split
      · rfl
      · exact coli
  have v5 : rpN g S (nI i) 5 = S 5 := rpN_row (by decide)
  have v8 : rpN g S (nI i) 8 = S 8 := rpN_row (by decide)
  have v10 : rpN g S (nI i) 10 = S 10 := rpN_row (by decide)
  refine Rel_wh h hi (fun r hr => rpN_row ⟨by omega, by omega, by omega, by omega⟩) (fun r j hj => rpN_j (by omega) r hj) ⟨?_, ?_, ?_⟩ ?_ ?_
  · unfold age age4 age3 age2 age1; split
    · rfl
    · split <;> rfl
  · unfold age age4 age3 age2 age1; split
    · rfl
    · split <;> rfl
  · unfold age age4 age3 age2 age1; split
    · rfl
    · split <;> rfl
  · rw [v4, v5, v6, v7, v8, v9, v10]
    have a1 : ∀ r, r ≠ 8 → age1 (D i) (g 2 c) r = D i r := fun r hr => by
      unfold age1; split
      · rfl
      · split
        · rfl
        · exact va_up_ne _ _ hr
    refine ⟨?_, ?_, ?_, ?_, ?_, ?_, ?_⟩
    · show imin (age1 (D i) (g 2 c) 3 + (if age1 (D i) (g 2 c) 6 < 7 then g 1 c else g 1 c / 2)) 100 = _
      rw [a1 3 (by decide), a1 6 (by decide), q3, q6, imin_c]
    · show age1 (D i) (g 2 c) 4 = _
      rw [a1 4 (by decide), q4]
    · show imax (age1 (D i) (g 2 c) 5 - (10 - g 2 c) / 2) 0 = _
      rw [a1 5 (by decide), q5, imax_c]
    · show age1 (D i) (g 2 c) 6 + 1 = _
      rw [a1 6 (by decide), q6]
    · show age1 (D i) (g 2 c) 7 = _
      rw [a1 7 (by decide), q7]
    · show age1 (D i) (g 2 c) 8 = _
      unfold age1
      rw [q7, q4, q8]
      by_cases z : S 8 i = 0
      · rw [if_pos z, if_pos (by rw [z]; decide), q8]
      · have z' : ¬ S 8 i ≤ 0 := fun y => z (by rw [em] at y ⊢; exact (le0 (by omega)).mp y)
        rw [if_neg z, if_neg z']
        by_cases z2 : 12 ≤ S 5 i
        · rw [if_pos z2, if_pos z2, q8]
        · rw [if_neg z2, if_neg z2, va_up_self, imin_c]
    · show age1 (D i) (g 2 c) 9 = _
      rw [a1 9 (by decide), q9]
  · rw [v8, v9, v10]
    refine ⟨⟨m, hm, em⟩, ?_, fun z => ?_, fun z => ?_⟩
    · split
      · exact ⟨k, hk, ek⟩
      · split
        · exact ⟨k, hk, ek⟩
        · rw [ek]; obtain ⟨j, j1, j2, e⟩ := grow_in hk (d := g 2 c); exact ⟨j, j2, e⟩
    · rw [if_pos (by rw [z]; decide)]; exact q.2.2.2.1 z
    · split
      · exact q.2.2.2.2.1 z
      · split
        · exact q.2.2.2.2.1 z
        · rw [ek]; obtain ⟨j, j1, j2, e⟩ := grow_in hk (d := g 2 c)
          rw [e, show (0 : Int32) = nI 0 from rfl, nI_iff (by omega) (by omega)]; omega
end RelJ
