/-! CLASS AND REFERENCE: a wheel changes; infect, setRota -/
section RelE
variable {nc nw nm : Nat} {D g S : DD}
/-- wheel i gets the row w', the reference's columns 4 to 10 with it -/
theorem Rel_wh (h : Rel nc nw nm D g S) {i : Nat} (hi : i < nw) {w' : WW} {S' : DD} (hr : ∀ r, ¬ (4 ≤ r ∧ r ≤ 10) → S' r = S r) (hj : ∀ r j, j ≠ i → S' r j = S r j)
    (hw : w' 0 = D i 0 ∧ w' 1 = D i 1 ∧ w' 2 = D i 2) (hf : w' 3 = S' 4 i ∧ w' 4 = S' 5 i ∧ w' 5 = S' 6 i ∧ w' 6 = S' 7 i ∧ w' 7 = S' 8 i ∧ w' 8 = S' 9 i ∧ w' 9 = S' 10 i)
    (hm : (∃ m, m ≤ 3 ∧ S' 8 i = nI m) ∧ (∃ k, k ≤ 9 ∧ S' 9 i = nI k) ∧ (S' 8 i = 0 → S' 9 i = 0 ∧ S' 10 i = -1) ∧ (¬ S' 8 i = 0 → ¬ S' 9 i = 0)) : Rel nc nw nm (va_up D i w') g S' := by
  have hh := h.1.1
  obtain ⟨hn, hd, hs, hc, hw0, hmk, hb⟩ := h
  have n1 : ∀ r, r ≠ i → va_up D i w' r = D r := fun r hr => va_up_ne _ _ hr
  have n2 : va_up D i w' i = w' := va_up_self _ _ _
  have s0 := hr 0 (by omega); have s1 := hr 1 (by omega); have s2 := hr 2 (by omega); have s3 := hr 3 (by omega); have s11 := hr 11 (by omega); have s12 := hr 12 (by omega)
  refine ⟨?_, ?_, ?_, fun c hc' => ?_, fun j hj' => ?_, fun m hm' => ?_, fun c p hc' hp => ?_⟩
  · unfold RN; rw [n1 40 (by omega)]; exact hn
  · rw [n1 40 (by omega), s0]; exact hd
  · rw [n1 40 (by omega)]; exact hs
  · unfold RC; rw [n1 (24 + c) (by omega), n1 (28 + c) (by omega), s1]; exact hc c hc'
  · by_cases e : j = i
    · subst e
      have q := hw0 j hj'
      unfold RW
      rw [n2, s1, s2, s3, hw.1, hw.2.1, hw.2.2]
      exact ⟨⟨q.1.1, hf⟩, hm.1, hm.2.1, hm.2.2.1, hm.2.2.2, q.2.2.2.2.2.1, q.2.2.2.2.2.2⟩
    · unfold RW
      rw [n1 j e, s1, s2, s3, hj 4 j e, hj 5 j e, hj 6 j e, hj 7 j e, hj 8 j e, hj 9 j e, hj 10 j e]
      exact hw0 j hj'
  · unfold RM; rw [n1 (32 + m) (by omega), n1 (36 + m) (by omega), s11, s12]; exact hmk m hm'
  · unfold RB
    rw [s1, s2]
    rcases hb c p hc' hp with e | ⟨k, hk, e1, e2, e3, e4⟩
    · exact Or.inl e
    · refine Or.inr ⟨k, hk, e1, e2, ?_, ?_⟩
      · by_cases e : k = i
        · rw [e, n2, hw.2.1, ← e]; exact e3
        · rw [n1 k e]; exact e3
      · by_cases e : k = i
        · rw [e, n2, hw.2.2, ← e]; exact e4
        · rw [n1 k e]; exact e4
theorem Fr_wh (h : Rel nc nw nm D g S) (hf : Fr nc nw nm D g S) {i : Nat} (hi : i < nw) {w' : WW} {S' : DD} (hr : ∀ r, ¬ (4 ≤ r ∧ r ≤ 10) → S' r = S r) (hj : ∀ r j, j ≠ i → S' r j = S r j) : Fr nc nw nm (va_up D i w') g S' := by
  have hh := h.1.1
  have n1 : ∀ r, r ≠ i → va_up D i w' r = D r := fun r hr => va_up_ne _ _ hr
  obtain ⟨f1, f2, f3⟩ := hf
  refine ⟨fun c hc1 hc2 p hp => ?_, fun j hj1 hj2 => ?_, fun m hm1 hm2 => ?_⟩
  · rw [n1 (28 + c) (by omega), hr 1 (by omega)]; exact f1 c hc1 hc2 p hp
  · have e : j ≠ i := by omega
    rw [n1 j e, hj 2 j e, hj 4 j e, hj 5 j e, hj 7 j e, hj 8 j e, hj 9 j e]; exact f2 j hj1 hj2
  · rw [n1 (32 + m) (by omega), n1 (36 + m) (by omega), hr 11 (by omega)]; exact f3 m hm1 hm2
theorem haveS_o {S : DD} {x m gr f : Int32} : ∀ r, ¬ (4 ≤ r ∧ r ≤ 10) → haveS S x m gr f r = S r := fun r hr => haveS_row ⟨by omega, by omega, by omega⟩
theorem haveS_j {S : DD} {i : Nat} (hi : i < 2147483648) {m gr f : Int32} : ∀ r j, j ≠ i → haveS S (nI i) m gr f r j = S r j := fun r j hj => by
  unfold haveS
  rw [ix_nI hi]
  by_cases h10 : r = 10
  · subst h10; rw [va_up_self, va_up_ne _ _ hj]
  · rw [va_up_ne _ _ h10]
    by_cases h9 : r = 9
    · subst h9; rw [va_up_self, va_up_ne _ _ hj]
    · rw [va_up_ne _ _ h9]
      by_cases h8 : r = 8
      · subst h8; rw [va_up_self, va_up_ne _ _ hj]
      · rw [va_up_ne _ _ h8]
theorem haveS_i {S : DD} {i : Nat} (hi : i < 2147483648) {m gr f : Int32} : haveS S (nI i) m gr f 8 i = m ∧ haveS S (nI i) m gr f 9 i = gr ∧ haveS S (nI i) m gr f 10 i = f := by
  unfold haveS
  rw [ix_nI hi]
  refine ⟨?_, ?_, ?_⟩ <;> simp [va_up]
theorem haveS_k {S : DD} {x m gr f : Int32} {r : Nat} (h : r ≠ 8 ∧ r ≠ 9 ∧ r ≠ 10) (j : Nat) : haveS S x m gr f r j = S r j := by rw [haveS_row h]
/-- a mould is taken on -/
theorem Rel_have (h : Rel nc nw nm D g S) {i k : Nat} (hi : i < nw) (hk : k ≤ 3) {f : Int32} (hf : k = 0 → f = -1) : Rel nc nw nm (va_up D i (takeM (D i) (nI k) f)) g (haveS S (nI i) (nI k) (if nI k = 0 then 0 else 1) f) := by
  have hh := h.1.1
  have q := (h.2.2.2.2.1 i hi).1
  have e := haveS_i (S := S) (i := i) (by omega) (m := nI k) (gr := if nI k = 0 then 0 else 1) (f := f)
  refine Rel_wh h hi haveS_o (haveS_j (by omega)) ⟨rfl, rfl, rfl⟩ ?_ ?_
  · rw [haveS_k (by decide), haveS_k (by decide), haveS_k (by decide), haveS_k (by decide), e.1, e.2.1, e.2.2]
    exact ⟨q.2.1, q.2.2.1, q.2.2.2.1, q.2.2.2.2.1, rfl, rfl, rfl⟩
  · rw [e.1, e.2.1, e.2.2]
    refine ⟨⟨k, hk, rfl⟩, ?_, fun z => ?_, fun z => ?_⟩
    · by_cases z : nI k = 0
      · rw [if_pos z]; exact ⟨0, by omega, rfl⟩
      · rw [if_neg z]; exact ⟨1, by omega, rfl⟩
    · rw [if_pos z]
      rw [show (0 : Int32) = nI 0 from rfl, nI_iff (by omega) (by omega)] at z
      exact ⟨rfl, hf z⟩
    · rw [if_neg z]; decide
theorem le0 {k : Nat} (hk : k < 2147483648) : nI k ≤ 0 ↔ nI k = 0 := by
  rw [show (0 : Int32) = nI 0 from rfl, nI_iff hk (by omega), nI_le_iff hk (by omega)]; omega
theorem sim_infect (h : Rel nc nw nm D g S) (hf : Fr nc nw nm D g S) (h0 : g 0 0 = 0) (w m : Int32) :
    kInfect D w m = mInf g S w m 0 0 ∧ (kInfect D w m = 0 → D (ix w) 7 = vInfM g S w m) ∧ Rel nc nw nm (if kInfect D w m = 0 then dInfect D w m else D) (mInf g S w m) (sInf g S w m) ∧ Fr nc nw nm (if kInfect D w m = 0 then dInfect D w m else D) (mInf g S w m) (sInf g S w m) := by
  rw [kInfect, mInf, sInf, vInfM, inW_eq h.1]
  have hh := h.1.1
  by_cases h1 : wI g w = true
  · by_cases h2 : wthn m 0 3 = true
    · obtain ⟨i, hi, rfl⟩ := wI_nat h.1 h1
      obtain ⟨k, hk, rfl⟩ := wthn_nat (n := 4) (by decide) (by decide) (by decide) h2
      rw [lies_of h hi]
      by_cases h3 : S 2 i = 0
      · simp only [h1, h2, h3, decide_true, if_true, dInfect, ix_nI (show i < 2147483648 by omega), le0 (show k < 2147483648 by omega)]
        refine ⟨h0.symm, fun _ => (h.2.2.2.2.1 i hi).1.2.2.2.2.2.1, Rel_have h hi (by omega) (fun _ => rfl), Fr_wh h hf hi haveS_o (haveS_j (by omega))⟩
      · simp only [h1, h2, h3, decide_false, if_true, if_false, Bool.false_eq_true, ix_nI (show i < 2147483648 by omega)]
        exact ⟨rfl, fun q => absurd q (by decide), h, hf⟩
    · simp only [h1, h2, if_true, if_false, Bool.false_eq_true]
      exact ⟨rfl, fun q => absurd q (by decide), h, hf⟩
  · simp only [h1, if_false, Bool.false_eq_true]
    exact ⟨rfl, fun q => absurd q (by decide), h, hf⟩
theorem pWk_nat (r : WW) {j : Nat} (hj : j < 7) (k : Int32) : pWk r (nI j) k = va_up r j k := by
  rw [pWk, if_neg (nI_pos (by omega)), if_neg (by rw [show (7 : Int32) = nI 7 from rfl, nI_le_iff (by decide) (by omega)]; omega), ix_nI (by omega)]
theorem sim_rota (h : Rel nc nw nm D g S) (hf : Fr nc nw nm D g S) (h0 : g 0 0 = 0) (m y k : Int32) :
    kRota D m y k = mRota g m y k 0 0 ∧ (kRota D m y k = 0 → wOn (D (36 + ix m)) y = vRotaM g m y k) ∧ Rel nc nw nm (if kRota D m y k = 0 then dRota D m y k else D) (mRota g m y k) S ∧ Fr nc nw nm (if kRota D m y k = 0 then dRota D m y k else D) (mRota g m y k) S := by
  rw [kRota, mRota, vRotaM, inM_eq h.1]
  have hh := h.1.1
  by_cases h1 : mI g m = true
  · by_cases h2 : wthn y 0 6 = true
    · by_cases h3 : wthn k 0 3 = true
      · obtain ⟨i, hi, rfl⟩ := mI_nat h.1 h1
        obtain ⟨j, hj, rfl⟩ := wthn_nat (n := 7) (by decide) (by decide) (by decide) h2
        simp only [h1, h2, h3, if_true, dRota, ix_nI (show i < 2147483648 by omega), seven_nat, pWk_nat _ hj, ix_nI (show 7 * i + j < 2147483648 by omega)]
        obtain ⟨hn, hd, hs, hc, hw, hm, hb⟩ := h
        have n1 : ∀ r, r ≠ 36 + i → va_up D (36 + i) (va_up (D (36 + i)) j k) r = D r := fun r hr => va_up_ne _ _ hr
        have n2 : va_up D (36 + i) (va_up (D (36 + i)) j k) (36 + i) = va_up (D (36 + i)) j k := va_up_self _ _ _
        have g5 : va_up g 5 (va_up (g 5) (7 * i + j) k) 5 = va_up (g 5) (7 * i + j) k := rfl
        refine ⟨h0.symm, fun _ => ?_, ⟨?_, ?_, ?_, fun c hc' => ?_, fun q hq => ?_, fun q hq => ?_, fun c p hc' hp => ?_⟩, ⟨fun c hc1 hc2 p hp => ?_, fun q hq1 hq2 => ?_, fun q hq1 hq2 => ?_⟩⟩
        · rw [wOn_nat _ (by omega), Nat.mod_eq_of_lt hj]; exact (hm i hi).2.2.2.2.2.2 j hj
        · unfold RN; rw [n1 40 (by omega)]; exact hn
        · rw [n1 40 (by omega)]; exact hd
        · rw [n1 40 (by omega)]; exact hs
        · unfold RC; rw [n1 (24 + c) (by omega), n1 (28 + c) (by omega)]; exact hc c hc'
        · unfold RW; rw [n1 q (by omega)]; exact hw q hq
        · have hq0 := hm q hq
          unfold RM
          rw [n1 (32 + q) (by omega)]
          refine ⟨hq0.1, hq0.2.1, hq0.2.2.1, hq0.2.2.2.1, hq0.2.2.2.2.1, hq0.2.2.2.2.2.1, fun t ht => ?_⟩
          rw [g5]
          by_cases e : q = i
          · subst e
            rw [n2]
            by_cases e2 : t = j
            · subst e2; rw [va_up_self, va_up_self]
            · rw [va_up_ne _ _ e2, va_up_ne _ _ (by omega)]; exact hq0.2.2.2.2.2.2 t ht
          · rw [n1 (36 + q) (by omega), va_up_ne _ _ (by omega)]; exact hq0.2.2.2.2.2.2 t ht
        · rcases hb c p hc' hp with e | ⟨t, ht, e⟩
          · exact Or.inl e
          · exact Or.inr ⟨t, ht, by rw [n1 t (by omega)]; exact e⟩
        · rw [n1 (28 + c) (by omega)]; exact hf.1 c hc1 hc2 p hp
        · rw [n1 q (by omega)]; exact hf.2.1 q hq1 hq2
        · rw [n1 (32 + q) (by omega), n1 (36 + q) (by omega), g5]
          have z := hf.2.2 q hq1 hq2
          refine ⟨z.1, z.2.1, z.2.2.1, fun t ht => ?_⟩
          rw [va_up_ne _ _ (by omega)]; exact z.2.2.2 t ht
      · simp only [h1, h2, h3, if_true, if_false, Bool.false_eq_true]
        exact ⟨rfl, fun q => absurd q (by decide), h, hf⟩
    · simp only [h1, h2, if_true, if_false, Bool.false_eq_true]
      exact ⟨rfl, fun q => absurd q (by decide), h, hf⟩
  · simp only [h1, if_false, Bool.false_eq_true]
    exact ⟨rfl, fun q => absurd q (by decide), h, hf⟩
end RelE
