/-! CLASS AND REFERENCE: what ties the class's rows D to the reference's g and S; nc, nw, nm: how many cellars, wheels, monks there are -/
def RW (nc : Nat) (D S : DD) (i : Nat) : Prop :=
  (D i 0 = S 2 i ∧ D i 3 = S 4 i ∧ D i 4 = S 5 i ∧ D i 5 = S 6 i ∧ D i 6 = S 7 i ∧ D i 7 = S 8 i ∧ D i 8 = S 9 i ∧ D i 9 = S 10 i) ∧
  (∃ m, m ≤ 3 ∧ S 8 i = nI m) ∧ (∃ k, k ≤ 9 ∧ S 9 i = nI k) ∧ (S 8 i = 0 → S 9 i = 0 ∧ S 10 i = -1) ∧ (¬ S 8 i = 0 → ¬ S 9 i = 0) ∧
  (S 2 i = 0 → ∃ c p, c < nc ∧ p < 10 ∧ D i 1 = nI c ∧ D i 2 = nI p ∧ S 3 i = nI (10 * c + p) ∧ S 1 (10 * c + p) = nI i) ∧
  (¬ S 2 i = 0 → D i 1 = -1 ∧ D i 2 = -1)
def RC (D g S : DD) (c : Nat) : Prop := D (24 + c) 0 = g 1 c ∧ D (24 + c) 1 = g 2 c ∧ ∀ p, p < 10 → D (28 + c) p = S 1 (10 * c + p)
def RB (nw : Nat) (D S : DD) (c p : Nat) : Prop := S 1 (10 * c + p) = -1 ∨ ∃ i, i < nw ∧ S 1 (10 * c + p) = nI i ∧ S 2 i = 0 ∧ D i 1 = nI c ∧ D i 2 = nI p
def RM (nc : Nat) (D g S : DD) (m : Nat) : Prop :=
  (∃ c, c < nc ∧ D (32 + m) 0 = nI c ∧ g 3 m = nI c) ∧ D (32 + m) 1 = g 4 m ∧ D (32 + m) 2 = S 11 m ∧ D (32 + m) 3 = S 12 m ∧
  (∃ k, k ≤ 3 ∧ S 11 m = nI k) ∧ (∃ j, j ≤ 10 ∧ S 12 m + 1 = nI j) ∧ ∀ k, k < 7 → D (36 + m) k = g 5 (7 * m + k)
def RN (nc nw nm : Nat) (D g : DD) : Prop := (nc ≤ 4 ∧ nw ≤ 24 ∧ nm ≤ 4) ∧ (D 40 2 = nI nc ∧ D 40 3 = nI nw ∧ D 40 4 = nI nm) ∧ g 0 1 = nI nc ∧ g 0 4 = nI nw ∧ g 0 5 = nI nm
def Rel (nc nw nm : Nat) (D g S : DD) : Prop :=
  RN nc nw nm D g ∧ D 40 0 = S 0 0 ∧ D 40 1 = g 0 9 ∧ (∀ c, c < nc → RC D g S c) ∧ (∀ i, i < nw → RW nc D S i) ∧ (∀ m, m < nm → RM nc D g S m) ∧ ∀ c p, c < nc → p < 10 → RB nw D S c p
theorem Rel_setT {nc nw nm : Nat} {D g S : DD} {k : Int32} (h : Rel nc nw nm D g S) : Rel nc nw nm D (setT g k) S := h
-- numbers
theorem nI_iff {i j : Nat} (hi : i < 2147483648) (hj : j < 2147483648) : nI i = nI j ↔ i = j := ⟨fun e => by
  have e1 : (nI i).toInt = (nI j).toInt := by rw [e]
  rw [nI_toInt hi, nI_toInt hj] at e1
  omega, fun e => by rw [e]⟩
theorem nI_m1 {i : Nat} (hi : i < 2147483648) : ¬ nI i = -1 := fun e => by
  have e1 : (nI i).toInt = -1 := by rw [e]; decide
  rw [nI_toInt hi] at e1
  omega
theorem nI_lt_iff {i j : Nat} (hi : i < 2147483648) (hj : j < 2147483648) : nI i < nI j ↔ i < j := by
  rw [Int32.lt_iff_toInt_lt, nI_toInt hi, nI_toInt hj]; omega
theorem nI_le_iff {i j : Nat} (hi : i < 2147483648) (hj : j < 2147483648) : nI i ≤ nI j ↔ i ≤ j := by
  rw [Int32.le_iff_toInt_le, nI_toInt hi, nI_toInt hj]; omega
theorem nIm1_lt {n j : Nat} (hn : n < 2147483648) (hj : j < 2147483648) : nI n - 1 < nI j ↔ n ≤ j := by
  rcases n with _ | n
  · rw [Int32.lt_iff_toInt_lt, nI_toInt hj, show (nI 0 - 1).toInt = -1 by decide]; omega
  · rw [nI_pred, nI_lt_iff (by omega) hj]; omega
theorem cnt_eq {x c : Int32} {n k : Nat} {K : Int32} (hK : K = nI k) (hk : k < 2147483648) (hn : n ≤ k) (hc : c = nI n) : decide (¬ x < 0 ∧ ¬ c ≤ x ∧ ¬ K ≤ x) = wthn x 0 (c - 1) := by
  subst hK; subst hc
  rw [wthn]
  apply decide_eq_decide.mpr
  by_cases h0 : x < 0
  · exact ⟨fun h => absurd h0 h.1, fun h => absurd h0 h.1⟩
  · obtain ⟨j, hj, rfl⟩ := nI_of h0
    rw [nI_le_iff (by omega) hj, nI_le_iff hk hj, nIm1_lt (by omega) hj]
    constructor
    · rintro ⟨a, b, c⟩; exact ⟨a, b⟩
    · rintro ⟨a, b⟩; exact ⟨a, b, by omega⟩
section RelL
variable {nc nw nm : Nat} {D g S : DD}
theorem inC_eq (h : RN nc nw nm D g) (x : Int32) : inC D x = cI g x := by
  rw [inC, cI, h.2.1.1, h.2.2.1]; exact cnt_eq (k := 4) rfl (by decide) h.1.1 rfl
theorem inW_eq (h : RN nc nw nm D g) (x : Int32) : inW D x = wI g x := by
  rw [inW, wI, h.2.1.2.1, h.2.2.2.1]; exact cnt_eq (k := 24) rfl (by decide) h.1.2.1 rfl
theorem inM_eq (h : RN nc nw nm D g) (x : Int32) : inM D x = mI g x := by
  rw [inM, mI, h.2.1.2.2, h.2.2.2.2]; exact cnt_eq (k := 4) rfl (by decide) h.1.2.2 rfl
theorem cI_nat (h : RN nc nw nm D g) {x : Int32} (hx : cI g x = true) : ∃ c, c < nc ∧ x = nI c := by
  have h2 : ¬ x < 0 ∧ ¬ g 0 1 - 1 < x := of_decide_eq_true hx
  obtain ⟨j, hj, rfl⟩ := nI_of h2.1
  have hh := h.1.1
  rw [h.2.2.1, nIm1_lt (by omega) hj] at h2
  exact ⟨j, by omega, rfl⟩
theorem wI_nat (h : RN nc nw nm D g) {x : Int32} (hx : wI g x = true) : ∃ c, c < nw ∧ x = nI c := by
  have h2 : ¬ x < 0 ∧ ¬ g 0 4 - 1 < x := of_decide_eq_true hx
  obtain ⟨j, hj, rfl⟩ := nI_of h2.1
  have hh := h.1.2.1
  rw [h.2.2.2.1, nIm1_lt (by omega) hj] at h2
  exact ⟨j, by omega, rfl⟩
theorem mI_nat (h : RN nc nw nm D g) {x : Int32} (hx : mI g x = true) : ∃ c, c < nm ∧ x = nI c := by
  have h2 : ¬ x < 0 ∧ ¬ g 0 5 - 1 < x := of_decide_eq_true hx
  obtain ⟨j, hj, rfl⟩ := nI_of h2.1
  have hh := h.1.2.2
  rw [h.2.2.2.2, nIm1_lt (by omega) hj] at h2
  exact ⟨j, by omega, rfl⟩
theorem pl_nat {x : Int32} (hx : isPl x = true) : ∃ p, p < 10 ∧ x = nI p := vp_nat (pl_in hx)
theorem wI_of (h : RN nc nw nm D g) {i : Nat} (hi : i < nw) : wI g (nI i) = true := by
  have hh := h.1.2.1
  refine decide_eq_true ⟨nI_pos (by omega), ?_⟩
  rw [h.2.2.2.1, nIm1_lt (by omega) (by omega)]; omega
theorem wI_ge (h : RN nc nw nm D g) {i : Nat} (hi : nw ≤ i) (hi2 : i < 2147483648) : wI g (nI i) = false := by
  have hh := h.1.2.1
  refine decide_eq_false fun q => q.2 ?_
  rw [h.2.2.2.1, nIm1_lt (by omega) hi2]; exact hi
theorem cI_of (h : RN nc nw nm D g) {i : Nat} (hi : i < nc) : cI g (nI i) = true := by
  have hh := h.1.1
  refine decide_eq_true ⟨nI_pos (by omega), ?_⟩
  rw [h.2.2.1, nIm1_lt (by omega) (by omega)]; omega
theorem mI_of (h : RN nc nw nm D g) {i : Nat} (hi : i < nm) : mI g (nI i) = true := by
  have hh := h.1.2.2
  refine decide_eq_true ⟨nI_pos (by omega), ?_⟩
  rw [h.2.2.2.2, nIm1_lt (by omega) (by omega)]; omega
/-- what lies on a place, read through the class's guard -/
theorem wAt_nat (b : WW) {p : Nat} (hp : p < 10) : wAt b (nI p) = b p := by
  rw [wAt, if_neg (nI_pos (by omega)), if_neg (by rw [show (10 : Int32) = nI 10 from rfl, nI_le_iff (by decide) (by omega)]; omega), ix_nI (by omega)]
theorem ten_nat {c p : Nat} : 10 * nI c + nI p = nI (10 * c + p) := by rw [show (10 : Int32) = nI 10 from rfl, pk_mul, nI_add]
theorem seven_nat {c p : Nat} : 7 * nI c + nI p = nI (7 * c + p) := by rw [show (7 : Int32) = nI 7 from rfl, pk_mul, nI_add]
-- at
theorem sim_at (h : Rel nc nw nm D g S) (h0 : g 0 0 = 0) (c p : Int32) : kAt D c p = mAt g c p 0 0 ∧ (kAt D c p = 0 → wAt (D (28 + ix c)) p = vAtM g S c p) ∧ Rel nc nw nm D (mAt g c p) S := by
  rw [kAt, mAt, vAtM, inC_eq h.1]
  by_cases h1 : cI g c = true
  · by_cases h2 : isPl p = true
    · obtain ⟨i, hi, rfl⟩ := cI_nat h.1 h1
      obtain ⟨j, hj, rfl⟩ := pl_nat h2
      have hh := h.1.1.1
      simp only [h1, h2, if_true]
      refine ⟨h0.symm, fun _ => ?_, h⟩
      rw [wAt_nat _ hj, ten_nat, ix_nI (by omega), ix_nI (by omega)]
      exact (h.2.2.2.1 i hi).2.2 j hj
    · simp only [h1, h2, if_true, if_false, Bool.false_eq_true]
      exact ⟨rfl, fun q => absurd q (by decide), h⟩
  · simp only [h1, if_false, Bool.false_eq_true]
    exact ⟨rfl, fun q => absurd q (by decide), h⟩
end RelL
