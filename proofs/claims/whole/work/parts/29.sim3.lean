/-! CLASS AND REFERENCE: what is counted -/
def sI (f : Nat → Int32) (n : Nat) : Int32 := rep (fun i a => a + f i) 0 n
theorem sI_s {f : Nat → Int32} {n : Nat} : sI f (n + 1) = sI f n + f n := rfl
theorem sI_congr {f f' : Nat → Int32} : ∀ {n : Nat}, (∀ i, i < n → f i = f' i) → sI f n = sI f' n
  | 0, _ => rfl
  | n + 1, h => by rw [sI_s, sI_s, sI_congr (fun i hi => h i (by omega)), h n (by omega)]
theorem sI_zero {f : Nat → Int32} : ∀ {n : Nat}, (∀ i, i < n → f i = 0) → sI f n = 0
  | 0, _ => rfl
  | n + 1, h => by rw [sI_s, sI_zero (fun i hi => h i (by omega)), h n (by omega)]; rfl
theorem sI_add {f g : Nat → Int32} : ∀ {n : Nat}, sI (fun i => f i + g i) n = sI f n + sI g n
  | 0 => rfl
  | n + 1 => by
    rw [sI_s, sI_s, sI_s, sI_add, Int32.add_assoc, Int32.add_assoc]
    congr 1
    rw [← Int32.add_assoc, Int32.add_comm (sI g n) (f n), Int32.add_assoc]
theorem sI_swap {f : Nat → Nat → Int32} {m : Nat} : ∀ {n : Nat}, sI (fun i => sI (fun j => f i j) m) n = sI (fun j => sI (fun i => f i j) n) m
  | 0 => (sI_zero (fun _ _ => rfl)).symm
  | n + 1 => by
    rw [sI_s, sI_swap, ← sI_add]
    rfl
theorem sI_ext {f : Nat → Int32} {n m : Nat} (hn : n ≤ m) (h : ∀ i, n ≤ i → i < m → f i = 0) : sI f m = sI f n := by
  obtain ⟨k, rfl⟩ : ∃ k, m = n + k := ⟨m - n, by omega⟩
  induction k with
  | zero => rfl
  | succ k ih =>
    rw [← Nat.add_assoc, sI_s, ih (by omega) (fun i h1 h2 => h i h1 (by omega)), h (n + k) (by omega) (by omega), Int32.add_zero]
theorem sI_one {f : Nat → Int32} {k : Nat} : ∀ {n : Nat}, k < n → (∀ i, i < n → i ≠ k → f i = 0) → sI f n = f k
  | 0, hk, _ => absurd hk (by omega)
  | n + 1, hk, h => by
    rw [sI_s]
    by_cases e : k = n
    · subst e
      rw [sI_zero (fun i hi => h i (by omega) (by omega)), Int32.zero_add]
    · rw [sI_one (k := k) (by omega) (fun i hi h2 => h i (by omega) h2), h n (by omega) (fun q => e q.symm), Int32.add_zero]
section RelN
variable {nc nw nm : Nat} {D g S : DD}
theorem inW_of (h : RN nc nw nm D g) {i : Nat} (hi : i < nw) : inW D (nI i) = true := by rw [inW_eq h]; exact wI_of h hi
theorem inW_ge (h : RN nc nw nm D g) {i : Nat} (hi : nw ≤ i) (h2 : i < 24) : inW D (nI i) = false := by rw [inW_eq h]; exact wI_ge h hi (by omega)
theorem lies_of (h : Rel nc nw nm D g S) {i : Nat} (hi : i < nw) : lies D (nI i) = decide (S 2 i = 0) := by
  have hh := h.1.1
  rw [lies, inW_of h.1 hi, ix_nI (by omega), (h.2.2.2.2.1 i hi).1.1, Bool.true_and]
theorem lies_ge (h : RN nc nw nm D g) {i : Nat} (hi : nw ≤ i) (h2 : i < 24) : lies D (nI i) = false := by
  rw [lies, inW_ge h hi h2, Bool.false_and]
theorem cntSt_sum (st : Int32) : ∀ n, cntSt D st n = sI (fun i => if inW D (nI i) = true ∧ D (ix (nI i)) 0 = st then 1 else 0) n
  | 0 => rfl
  | n + 1 => by
    rw [sI_s, ← cntSt_sum st n]
    show (if _ then cntSt D st n + 1 else cntSt D st n) = _
    split
    · rfl
    · rw [Int32.add_zero]
theorem manyS_sum (st : Int32) (n : Nat) : manyS g S st n = sI (fun i => if S 2 (ix (nI i)) = st then 1 else 0) n := rfl
theorem cntSt_eq (h : Rel nc nw nm D g S) (st : Int32) : cntSt D st 24 = manyS g S st nw := by
  have hh := h.1.1
  rw [cntSt_sum, manyS_sum, sI_ext (n := nw) hh.2.1]
  · refine sI_congr fun i hi => ?_
    rw [inW_of h.1 hi, ix_nI (by omega), (h.2.2.2.2.1 i hi).1.1]
    by_cases e : S 2 i = st
    · rw [if_pos ⟨rfl, e⟩, if_pos e]
    · rw [if_neg (fun q => e q.2), if_neg e]
  · intro i h1 h2
    rw [inW_ge h.1 h1 h2, if_neg (fun q => absurd q.1 (by decide))]
theorem worthAll_eq (h : Rel nc nw nm D g S) : worthAll D 24 = worthAS S nw := by
  have hh := h.1.1
  show sI (fun i => worthL D (nI i)) 24 = sI (fun i => if S 2 (ix (nI i)) = 0 then sWorth S (nI i) else 0) nw
  rw [sI_ext (n := nw) hh.2.1]
  · refine sI_congr fun i hi => ?_
    rw [worthL, lies_of h hi, ix_nI (by omega), worth_R hh.2.1 h.2.2.2.2.1 hi]
    by_cases e : S 2 i = 0
    · rw [if_pos (decide_eq_true e), if_pos e]
    · rw [if_neg (fun q => e (of_decide_eq_true q)), if_neg e]
  · intro i h1 h2
    rw [worthL, lies_ge h.1 h1 h2]; rfl
/-- over the wheels in a cellar, over its places -/
theorem board_sum (h : Rel nc nw nm D g S) (v : Nat → Int32) {c : Nat} (hc : c < nc) :
    sI (fun i => if S 2 i = 0 ∧ D i 1 = nI c then v i else 0) nw = sI (fun p => if S 1 (10 * c + p) = -1 then 0 else v (ix (S 1 (10 * c + p)))) 10 := by
  have hh := h.1.1
  have e1 : sI (fun i => if S 2 i = 0 ∧ D i 1 = nI c then v i else 0) nw = sI (fun i => sI (fun p => if S 2 i = 0 ∧ D i 1 = nI c ∧ D i 2 = nI p then v i else 0) 10) nw := by
    refine sI_congr fun i hi => ?_
    by_cases e : S 2 i = 0 ∧ D i 1 = nI c
    · obtain ⟨c', p, hc', hp, a1, a2, a3, a4⟩ := (h.2.2.2.2.1 i hi).2.2.2.2.2.1 e.1
      rw [if_pos e, sI_one (k := p) hp]
      · rw [if_pos ⟨e.1, e.2, a2⟩]
      · intro j hj hjp
        rw [if_neg]
        intro q
        have := q.2.2
        rw [a2, nI_iff (by omega) (by omega)] at this
        exact hjp this.symm
    · rw [if_neg e, sI_zero]
      intro j hj
      rw [if_neg (fun q => e ⟨q.1, q.2.1⟩)]
  rw [e1, sI_swap]
  refine sI_congr fun p hp => ?_
  have key : ∀ i, i < nw → S 2 i = 0 → D i 1 = nI c → D i 2 = nI p → S 1 (10 * c + p) = nI i := fun i hi a b d => by
    obtain ⟨c', p', hc', hp', a1, a2, a3, a4⟩ := (h.2.2.2.2.1 i hi).2.2.2.2.2.1 a
    rw [a1, nI_iff (by omega) (by omega)] at b
    rw [a2, nI_iff (by omega) (by omega)] at d
    rw [← b, ← d]; exact a4
  rcases h.2.2.2.2.2.2 c p hc hp with e | ⟨k, hk, a1, a2, a3, a4⟩
  · rw [if_pos e, sI_zero]
    intro i hi
    rw [if_neg]
    rintro ⟨q1, q2, q3⟩
    have e2 := key i hi q1 q2 q3
    rw [e] at e2
    exact nI_m1 (by omega) e2.symm
  · rw [if_neg (by rw [a1]; exact nI_m1 (by omega)), a1, ix_nI (by omega), sI_one (k := k) hk]
    · rw [if_pos ⟨a2, a3, a4⟩]
    · intro i hi hik
      rw [if_neg]
      rintro ⟨q1, q2, q3⟩
      have e2 := key i hi q1 q2 q3
      rw [a1, nI_iff (by omega) (by omega)] at e2
      exact hik e2.symm
def mo1 (S : DD) (i : Nat) : Int32 := if S 8 i ≤ 0 then 0 else 1
theorem mo1_eq (h : Rel nc nw nm D g S) {i : Nat} (hi : i < nw) : (¬ D i 7 = 0) ↔ ¬ S 8 i ≤ 0 := by
  obtain ⟨m, hm, e⟩ := (h.2.2.2.2.1 i hi).2.1
  rw [(h.2.2.2.2.1 i hi).1.2.2.2.2.2.1, e, show (0 : Int32) = nI 0 from rfl, nI_iff (by omega) (by omega), nI_le_iff (by omega) (by omega)]
  omega
theorem wheelsIn_sum (c : Int32) : ∀ n, wheelsIn D c n = sI (fun i => if lies D (nI i) = true ∧ D (ix (nI i)) 1 = c then 1 else 0) n
  | 0 => rfl
  | n + 1 => by
    rw [sI_s, ← wheelsIn_sum c n]
    show (if _ then wheelsIn D c n + 1 else wheelsIn D c n) = _
    split
    · rfl
    · rw [Int32.add_zero]
theorem mouldyIn_sum (c : Int32) : ∀ n, mouldyIn D c n = sI (fun i => if lies D (nI i) = true ∧ D (ix (nI i)) 1 = c ∧ ¬ D (ix (nI i)) 7 = 0 then 1 else 0) n
  | 0 => rfl
  | n + 1 => by
    rw [sI_s, ← mouldyIn_sum c n]
    show (if _ then mouldyIn D c n + 1 else mouldyIn D c n) = _
    split
    · rfl
    · rw [Int32.add_zero]
theorem wheelsIn_eq (h : Rel nc nw nm D g S) (c : Nat) : wheelsIn D (nI c) 24 = sI (fun i => if S 2 i = 0 ∧ D i 1 = nI c then 1 else 0) nw := by
  have hh := h.1.1
  rw [wheelsIn_sum, sI_ext (n := nw) hh.2.1]
  · refine sI_congr fun i hi => ?_
    simp only [lies_of h hi, decide_eq_true_eq, ix_nI (show i < 2147483648 by omega)]
  · intro i h1 h2
    rw [lies_ge h.1 h1 h2, if_neg (fun q => absurd q.1 (by decide))]
theorem mouldyIn_eq (h : Rel nc nw nm D g S) (c : Nat) : mouldyIn D (nI c) 24 = sI (fun i => if S 2 i = 0 ∧ D i 1 = nI c then mo1 S i else 0) nw := by
  have hh := h.1.1
  rw [mouldyIn_sum, sI_ext (n := nw) hh.2.1]
  · refine sI_congr fun i hi => ?_
    simp only [lies_of h hi, decide_eq_true_eq, ix_nI (show i < 2147483648 by omega), mo1]
    have e := mo1_eq h hi
    by_cases e1 : S 2 i = 0 ∧ D i 1 = nI c
    · rw [if_pos e1]
      by_cases e2 : S 8 i ≤ 0
      · rw [if_pos e2, if_neg (fun q => (e.mp q.2.2) e2)]
      · rw [if_neg e2, if_pos ⟨e1.1, e1.2, e.mpr e2⟩]
    · rw [if_neg e1, if_neg (fun q => e1 ⟨q.1, q.2.1⟩)]
  · intro i h1 h2
    rw [lies_ge h.1 h1 h2, if_neg (fun q => absurd q.1 (by decide))]
theorem mouldyAll_eq (h : Rel nc nw nm D g S) : mouldyAll D 4 = mouldyS g S nw := by
  have hh := h.1.1
  show sI (fun c => mouldyIn D (nI c) 24) 4 = sI (fun i => if S 2 (ix (nI i)) = 0 then (if S 8 (ix (nI i)) ≤ 0 then 0 else 1) else 0) nw
  rw [sI_congr (f' := fun c => sI (fun i => if S 2 i = 0 ∧ D i 1 = nI c then mo1 S i else 0) nw) (fun c _ => mouldyIn_eq h c), sI_swap]
  refine sI_congr fun i hi => ?_
  rw [ix_nI (by omega)]
  by_cases e : S 2 i = 0
  · obtain ⟨c, p, hc, hp, a1, a2, a3, a4⟩ := (h.2.2.2.2.1 i hi).2.2.2.2.2.1 e
    rw [if_pos e, sI_one (k := c) (by omega)]
    · rw [if_pos ⟨e, a1⟩, mo1]
    · intro j hj hjc
      rw [if_neg]
      rintro ⟨-, q⟩
      rw [a1, nI_iff (by omega) (by omega)] at q
      exact hjc q.symm
  · rw [if_neg e, sI_zero]
    intro j hj
    rw [if_neg (fun q => e q.1)]
theorem cT_sum (c : Nat) (hc : c < 4) (y : Int32) : cT S (nI c) y 10 = sI (fun p => if S 1 (10 * c + p) = -1 then 0 else if y = 2 then 1 else mo1 S (ix (S 1 (10 * c + p)))) 10 := by
  show sI (fun p => if S 1 (ix (10 * nI c + nI p)) = -1 then 0 else if y = 2 then 1 else if S 8 (ix (S 1 (ix (10 * nI c + nI p)))) ≤ 0 then 0 else 1) 10 = _
  refine sI_congr fun p hp => ?_
  rw [ten_nat, ix_nI (by omega)]
  rfl
theorem ceFact_eq (h : Rel nc nw nm D g S) {c k : Nat} (hc : c < nc) (hk : k < 4) : ceFact D (nI c) (nI k) = cTold g S (nI c) (nI k) := by
  have hh := h.1.1
  have e := ix_nI (i := c) (by omega)
  rw [ceFact, cTold, inC_eq h.1, if_pos (cI_of h.1 hc), e]
  rcases (show k = 0 ∨ k = 1 ∨ k = 2 ∨ k = 3 by omega) with rfl | rfl | rfl | rfl
  · rw [if_pos (by decide), if_neg (by decide), if_pos (by decide)]; exact (h.2.2.2.1 c hc).1
  · rw [if_neg (by decide), if_pos (by decide), if_neg (by decide), if_neg (by decide)]; exact (h.2.2.2.1 c hc).2.1
  · rw [if_neg (by decide), if_neg (by decide), if_pos (by decide), if_pos (by decide), wheelsIn_eq h, cT_sum c (by omega), board_sum h (fun _ => 1) hc]
    refine sI_congr fun p hp => ?_
    rw [if_pos (show nI 2 = 2 by decide)]
  · rw [if_neg (by decide), if_neg (by decide), if_neg (by decide), if_pos (by decide), mouldyIn_eq h, cT_sum c (by omega), board_sum h (mo1 S) hc]
    refine sI_congr fun p hp => ?_
    rw [if_neg (show ¬ nI 3 = 2 by decide)]
theorem sim_cellar (h : Rel nc nw nm D g S) (h0 : g 0 0 = 0) (c x : Int32) : kCellar D c x = mCellar g c x 0 0 ∧ (kCellar D c x = 0 → ceFact D c x = vCellarM g S c x) ∧ Rel nc nw nm D (mCellar g c x) S := by
  rw [kCellar, mCellar, vCellarM, inC_eq h.1]
  by_cases h1 : cI g c = true
  · by_cases h2 : wthn x 0 3 = true
    · obtain ⟨i, hi, rfl⟩ := cI_nat h.1 h1
      obtain ⟨j, hj, rfl⟩ := wthn_nat (n := 4) (by decide) (by decide) (by decide) h2
      simp only [h1, h2, if_true]
      exact ⟨h0.symm, fun _ => ceFact_eq h hi hj, h⟩
    · simp only [h1, h2, if_true, if_false, Bool.false_eq_true]
      exact ⟨rfl, fun q => absurd q (by decide), h⟩
  · simp only [h1, if_false, Bool.false_eq_true]
    exact ⟨rfl, fun q => absurd q (by decide), h⟩
theorem dFact_eq (h : Rel nc nw nm D g S) {k : Nat} (hk : k < 9) : dFact D (nI k) = nTold g S (nI k) := by
  have hh := h.1.1
  have e : ix (g 0 4) = nw := by rw [h.1.2.2.2.1, ix_nI (by omega)]
  rcases (show k = 0 ∨ k = 1 ∨ k = 2 ∨ k = 3 ∨ k = 4 ∨ k = 5 ∨ k = 6 ∨ k = 7 ∨ k = 8 by omega) with rfl | rfl | rfl | rfl | rfl | rfl | rfl | rfl | rfl
  · show D 40 0 = S 0 0; exact h.2.1
  · show D 40 2 = g 0 1; rw [h.1.2.1.1, h.1.2.2.1]
  · show D 40 3 = g 0 4; rw [h.1.2.1.2.1, h.1.2.2.2.1]
  · show cntSt D 0 24 = manyS g S 0 (ix (g 0 4)); rw [e]; exact cntSt_eq h 0
  · show cntSt D 1 24 = manyS g S 1 (ix (g 0 4)); rw [e]; exact cntSt_eq h 1
  · show cntSt D 2 24 = manyS g S 2 (ix (g 0 4)); rw [e]; exact cntSt_eq h 2
  · show mouldyAll D 4 = mouldyS g S (ix (g 0 4)); rw [e]; exact mouldyAll_eq h
  · show D 40 1 = g 0 9; exact h.2.2.1
  · show D 40 4 = g 0 5; rw [h.1.2.1.2.2, h.1.2.2.2.2]
theorem sim_count (h : Rel nc nw nm D g S) (h0 : g 0 0 = 0) (x : Int32) : kCount D x = mCount g x 0 0 ∧ (kCount D x = 0 → dFact D x = vCountM g S x) ∧ Rel nc nw nm D (mCount g x) S := by
  rw [kCount, mCount, vCountM]
  by_cases h2 : wthn x 0 8 = true
  · obtain ⟨j, hj, rfl⟩ := wthn_nat (n := 9) (by decide) (by decide) (by decide) h2
    simp only [h2, if_true]
    exact ⟨h0.symm, fun _ => dFact_eq h hj, h⟩
  · simp only [h2, if_false, Bool.false_eq_true]
    exact ⟨rfl, fun q => absurd q (by decide), h⟩
theorem sim_mean (h : Rel nc nw nm D g S) : vMeanC D = vMeanM g S := by
  have hh := h.1.1
  have e : ix (g 0 4) = nw := by rw [h.1.2.2.2.1, ix_nI (by omega)]
  rw [vMeanC, vMeanM, e, cntSt_eq h 0, worthAll_eq h]
end RelN
