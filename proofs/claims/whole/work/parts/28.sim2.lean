/-! CLASS AND REFERENCE: what is told -/
theorem imax_c (x y : Int32) : imax x y = imax y x := by
  unfold imax
  by_cases h : x < y
  · rw [if_pos h, if_neg (fun q => by rw [Int32.lt_iff_toInt_lt] at h q; omega)]
  · by_cases h2 : y < x
    · rw [if_neg h, if_pos h2]
    · rw [if_neg h, if_neg h2]
      apply Int32.toInt_inj.mp
      rw [Int32.lt_iff_toInt_lt] at h h2
      omega
theorem imin_c (x y : Int32) : imin x y = imin y x := by
  unfold imin
  by_cases h : x < y
  · rw [if_pos h, if_neg (fun q => by rw [Int32.lt_iff_toInt_lt] at h q; omega)]
  · by_cases h2 : y < x
    · rw [if_neg h, if_pos h2]
    · rw [if_neg h, if_neg h2]
      apply Int32.toInt_inj.mp
      rw [Int32.lt_iff_toInt_lt] at h h2
      omega
section RelW
variable {nc nw nm : Nat} {D g S : DD}
theorem worth_eq {i : Nat} (hi : i < 2147483648) (h3 : D i 3 = S 4 i) (h5 : D i 5 = S 6 i) (h7 : D i 7 = S 8 i) (h8 : D i 8 = S 9 i) (hm : ∃ m, m ≤ 3 ∧ S 8 i = nI m) : worth (D i) = sWorth S (nI i) := by
  obtain ⟨m, hm, e⟩ := hm
  rw [worth, sWorth, imax_c]
  simp only [ix_nI hi, worth0, h3, h5, h7, h8, e]
  rcases (show m = 0 ∨ m = 1 ∨ m = 2 ∨ m = 3 by omega) with rfl | rfl | rfl | rfl
  · simp only [show (nI 0 = (1 : Int32)) = False from eq_false (by decide), show (nI 0 = (2 : Int32)) = False from eq_false (by decide), show (nI 0 = (3 : Int32)) = False from eq_false (by decide), false_and, if_false]
  · simp only [show (nI 1 = (1 : Int32)) = True from eq_true (by decide), show (nI 1 = (2 : Int32)) = False from eq_false (by decide), show (nI 1 = (3 : Int32)) = False from eq_false (by decide), false_and, if_false, if_true]
  · simp only [show (nI 2 = (1 : Int32)) = False from eq_false (by decide), show (nI 2 = (2 : Int32)) = True from eq_true (by decide), show (nI 2 = (3 : Int32)) = False from eq_false (by decide), true_and, if_false, wthn, decide_eq_true_eq]
  · simp only [show (nI 3 = (1 : Int32)) = False from eq_false (by decide), show (nI 3 = (2 : Int32)) = False from eq_false (by decide), show (nI 3 = (3 : Int32)) = True from eq_true (by decide), false_and, if_false, if_true]
theorem worth_R (hn : nw ≤ 24) (h : ∀ i, i < nw → RW nc D S i) {i : Nat} (hi : i < nw) : worth (D i) = sWorth S (nI i) :=
  worth_eq (by omega) (h i hi).1.2.1 (h i hi).1.2.2.2.1 (h i hi).1.2.2.2.2.2.1 (h i hi).1.2.2.2.2.2.2.1 (h i hi).2.1
theorem div10 {c p : Nat} (hp : p < 10) (hc : c < 4) : nI (10 * c + p) / 10 = nI c := by
  rw [show (10 : Int32) = nI 10 from rfl, pk_div (by omega) (by decide) (by decide)]; congr 1; omega
theorem rem10 {c p : Nat} (hp : p < 10) (hc : c < 4) : irem (nI (10 * c + p)) 10 = nI p := by
  rw [show (10 : Int32) = nI 10 from rfl, irem_nI (by omega) (by decide) (by decide)]; congr 1; omega
/-- a wheel tells the same -/
theorem wFact_eq (h : Rel nc nw nm D g S) {i k : Nat} (hi : i < nw) (hk : k < 11) : wFact (D i) (nI k) = wTold S (nI i) (nI k) := by
  have hh := h.1.1
  have hw := h.2.2.2.2.1 i hi
  have e := ix_nI (i := i) (by omega)
  obtain ⟨⟨f0, f3, f4, f5, f6, f7, f8, f9⟩, -, -, -, -, hin, hout⟩ := hw
  rcases (show k = 0 ∨ k = 1 ∨ k = 2 ∨ k = 3 ∨ k = 4 ∨ k = 5 ∨ k = 6 ∨ k = 7 ∨ k = 8 ∨ k = 9 ∨ k = 10 by omega) with rfl | rfl | rfl | rfl | rfl | rfl | rfl | rfl | rfl | rfl | rfl
  · show D i 0 = S 2 (ix (nI i)); rw [e, f0]
  · show D i 1 = if S 2 (ix (nI i)) = 0 then S 3 (ix (nI i)) / 10 else -1
    rw [e]
    by_cases h0 : S 2 i = 0
    · obtain ⟨c, p, hc, hp, e1, e2, e3, e4⟩ := hin h0
      rw [if_pos h0, e1, e3, div10 hp (by omega)]
    · rw [if_neg h0, (hout h0).1]
  · show D i 2 = if S 2 (ix (nI i)) = 0 then irem (S 3 (ix (nI i))) 10 else -1
    rw [e]
    by_cases h0 : S 2 i = 0
    · obtain ⟨c, p, hc, hp, e1, e2, e3, e4⟩ := hin h0
      rw [if_pos h0, e2, e3, rem10 hp (by omega)]
    · rw [if_neg h0, (hout h0).2]
  · show D i 3 = S 4 (ix (nI i)); rw [e, f3]
  · show D i 4 = S 5 (ix (nI i)); rw [e, f4]
  · show D i 5 = S 6 (ix (nI i)); rw [e, f5]
  · show D i 6 = S 7 (ix (nI i)); rw [e, f6]
  · show D i 7 = S 8 (ix (nI i)); rw [e, f7]
  · show D i 8 = S 9 (ix (nI i)); rw [e, f8]
  · show D i 9 = S 10 (ix (nI i)); rw [e, f9]
  · show worth (D i) = sWorth S (nI i); exact worth_R hh.2.1 h.2.2.2.2.1 hi
theorem wthn_nat {x : Int32} {M : Int32} {n : Nat} (hN : (M + 1).toInt = (n : Int)) (hM : M < M + 1) (hn : n < 2147483648) (h : wthn x 0 M = true) : ∃ k, k < n ∧ x = nI k := by
  have h2 : ¬ x < 0 ∧ ¬ M < x := of_decide_eq_true h
  exact vp_nat (vp_c (M := M + 1) hN h2.1 (fun q => h2.2 (Int32.lt_of_lt_of_le hM q))) hn
theorem sim_wheel (h : Rel nc nw nm D g S) (h0 : g 0 0 = 0) (w x : Int32) : kWheel D w x = mWheel g w x 0 0 ∧ (kWheel D w x = 0 → wFact (D (ix w)) x = vWheelM g S w x) ∧ Rel nc nw nm D (mWheel g w x) S := by
  rw [kWheel, mWheel, vWheelM, inW_eq h.1]
  have hh := h.1.1
  by_cases h1 : wI g w = true
  · by_cases h2 : wthn x 0 10 = true
    · obtain ⟨i, hi, rfl⟩ := wI_nat h.1 h1
      obtain ⟨j, hj, rfl⟩ := wthn_nat (n := 11) (by decide) (by decide) (by decide) h2
      simp only [h1, h2, if_true]
      refine ⟨h0.symm, fun _ => ?_, h⟩
      rw [ix_nI (by omega)]
      exact wFact_eq h hi hj
    · simp only [h1, h2, if_true, if_false, Bool.false_eq_true]
      exact ⟨rfl, fun q => absurd q (by decide), h⟩
  · simp only [h1, if_false, Bool.false_eq_true]
    exact ⟨rfl, fun q => absurd q (by decide), h⟩
/-- a day of the week: the class's floorMod and the reference's % -/
theorem wOn_nat (r : WW) {x : Nat} (hx : x < 2147483648) : wOn r (nI x) = r (x % 7) := by
  have h7 := Nat.mod_lt x (show 0 < 7 by decide)
  have e : fmod (nI x) 7 = nI (x % 7) := by
    have e1 : irem (nI x) 7 = nI (x % 7) := irem_nI hx (by decide) (by decide)
    unfold fmod
    rw [e1]
    split
    · rfl
    · rename_i hneg
      exfalso
      apply hneg
      have h1 : (0 : Int32) ≤ nI x := Int32.not_lt.mp (nI_pos hx)
      rw [Int32.le_iff_toInt_le] at h1 ⊢
      have h2 : (nI x ^^^ 7).toInt = (((nI x).toBitVec ^^^ (7 : Int32).toBitVec).toInt) := by rw [← Int32.toBitVec_xor]; rfl
      rw [h2]
      have h3 : ((nI x).toBitVec ^^^ (7 : Int32).toBitVec).msb = false := by
        rw [BitVec.msb_xor]
        have h4 : (nI x).toBitVec.msb = false := by
          rw [BitVec.msb_eq_false_iff_two_mul_lt]
          have : (nI x).toBitVec.toNat = x := by
            show (BitVec.ofNat 32 x).toNat = x
            rw [BitVec.toNat_ofNat]; exact Nat.mod_eq_of_lt (by omega)
          omega
        rw [h4]; decide
      rw [BitVec.toInt_eq_toNat_of_msb h3]
      exact Int.natCast_nonneg _
  rw [wOn, e, if_neg (nI_pos (by omega)), if_neg (by rw [show (7 : Int32) = nI 7 from rfl, nI_le_iff (by decide) (by omega)]; omega), ix_nI (by omega)]
theorem mFact_eq (h : Rel nc nw nm D g S) {b : Nat} (hy : DY S b) (hb : b < 2147483648) {m : Nat} (hm : m < nm) (x : Int32) : mFact (D (32 + m)) (D (36 + m)) x (D 40 0) = mTold g S (nI m) x := by
  have hh := h.1.1
  obtain ⟨⟨c, hc, e0, e0'⟩, e1, e2, e3, -, -, e4⟩ := h.2.2.2.2.2.1 m hm
  obtain ⟨n, hn, ey⟩ := hy
  have e := ix_nI (i := m) (by omega)
  unfold mFact mTold
  rw [e, e0, e0', e1, e2, e3, h.2.1, ey, wOn_nat _ (by omega), show irem (nI n) 7 = nI (n % 7) from irem_nI (by omega) (by decide) (by decide), seven_nat, ix_nI (by have := Nat.mod_lt n (show 0 < 7 by decide); omega), e4 _ (Nat.mod_lt n (by decide))]
theorem sim_monk (h : Rel nc nw nm D g S) (h0 : g 0 0 = 0) {b : Nat} (hy : DY S b) (hb : b < 2147483648) (m x : Int32) : kMonk D m x = mMonk g m x 0 0 ∧ (kMonk D m x = 0 → mFact (D (32 + ix m)) (D (36 + ix m)) x (D 40 0) = vMonkM g S m x) ∧ Rel nc nw nm D (mMonk g m x) S := by
  rw [kMonk, mMonk, vMonkM, inM_eq h.1]
  have hh := h.1.1
  by_cases h1 : mI g m = true
  · by_cases h2 : wthn x 0 4 = true
    · obtain ⟨i, hi, rfl⟩ := mI_nat h.1 h1
      simp only [h1, h2, if_true]
      refine ⟨h0.symm, fun _ => ?_, h⟩
      rw [ix_nI (by omega)]
      exact mFact_eq h hy hb hi x
    · simp only [h1, h2, if_true, if_false, Bool.false_eq_true]
      exact ⟨rfl, fun q => absurd q (by decide), h⟩
  · simp only [h1, if_false, Bool.false_eq_true]
    exact ⟨rfl, fun q => absurd q (by decide), h⟩
end RelW
