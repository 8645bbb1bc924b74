/-! CLASS AND REFERENCE: all wheels grow older, the last part of a day; fr: whether what is not there yet counts too -/
def RF (fr : Prop) (nc nw nm : Nat) (D g S : DD) : Prop := Rel nc nw nm D g S ∧ (fr → Fr nc nw nm D g S)
section RelK
variable {nc nw nm : Nat} {D g S : DD} {fr : Prop}
theorem RF_age (h : RF fr nc nw nm D g S) {i : Nat} (hi : i < nw) (h0 : S 2 i = 0) : RF fr nc nw nm (ageD D (nI i)) g (rpN g S (nI i)) := by
  have hh := h.1.1.1
  refine ⟨Rel_age h.1 hi h0, fun f => ?_⟩
  have e : ageD D (nI i) = va_up D i (ageD D (nI i) i) := by
    unfold ageD
    rw [ix_nI (show i < 2147483648 by omega), va_up_self]
  rw [e]
  exact Fr_wh h.1 (h.2 f) hi (fun r hr => rpN_row ⟨by omega, by omega, by omega, by omega⟩) (fun r j hj => rpN_j (by omega) r hj)
theorem RF_leave (h : RF fr nc nw nm D g S) {i : Nat} (hi : i < nw) (h0 : S 2 i = 0) {st : Int32} (hst : ¬ st = 0) : RF fr nc nw nm (takeA D (nI i) st) g (sLeave S (nI i) st) :=
  ⟨Rel_leave h.1 hi h0 hst, fun f => Fr_leave h.1 (h.2 f) hi h0⟩
theorem RF_rip (h : RF fr nc nw nm D g S) {i : Nat} (hi : i < nw) : RF fr nc nw nm (ageW D (nI i)) g (if S 2 (ix (nI i)) = 0 then sRip g S (nI i) else S) := by
  have hh := h.1.1.1
  have hx : ix (nI i) = i := ix_nI (by omega)
  rw [ageW, lies_of h.1 hi, hx]
  by_cases h0 : S 2 i = 0
  · obtain ⟨c, p, hc, hp, e1, e2, e3, e4⟩ := (h.1.2.2.2.2.1 i hi).2.2.2.2.2.1 h0
    have ic : inC D (D i 1) = true := by rw [e1, inC_eq h.1.1]; exact cI_of h.1.1 hc
    have ha := RF_age h hi h0
    have q := (ha.1.2.2.2.2.1 i hi).1
    have h0' : rpN g S (nI i) 2 i = 0 := by rw [rpN_row (by decide)]; exact h0
    rw [if_pos (decide_eq_true h0), if_pos ic, if_pos h0, sRip, hx]
    have es : spoiled (ageD D (nI i) i) = true ↔ ((rpN g S (nI i) 8 i = 3 ∧ rpN g S (nI i) 9 i = 9) ∨ rpN g S (nI i) 6 i = 0) := by
      rw [spoiled, decide_eq_true_eq, q.2.2.2.2.2.1, q.2.2.2.2.2.2.1, q.2.2.2.1]
    by_cases z : spoiled (ageD D (nI i) i) = true
    · rw [if_pos z, if_pos (es.mp z)]
      exact RF_leave ha hi h0' (by decide)
    · rw [if_neg z, if_neg (fun y => z (es.mpr y))]
      exact ha
  · rw [if_neg (fun y => h0 (of_decide_eq_true y)), if_neg h0]
    exact h
theorem RF_ripAll (h : RF fr nc nw nm D g S) : ∀ n, n ≤ nw → RF fr nc nw nm (ageAll D n) g (ripAll g S n)
  | 0, _ => h
  | n + 1, hn => RF_rip (RF_ripAll h n (by omega)) (by omega)
theorem ageAll_ge (h : RF fr nc nw nm D g S) : ∀ n, nw ≤ n → n ≤ 24 → RF fr nc nw nm (ageAll D n) g (ripAll g S nw)
  | 0, h1, h2 => by
    obtain rfl : nw = 0 := by omega
    exact h
  | n + 1, h1, h2 => by
    by_cases e : nw = n + 1
    · subst e; exact RF_ripAll h _ (Nat.le_refl _)
    · have ih := ageAll_ge h n (by omega) (by omega)
      show RF fr nc nw nm (ageW (ageAll D n) (nI n)) g _
      rw [ageW, lies_ge ih.1.1 (show nw ≤ n by omega) (by omega), if_neg (by decide)]
      exact ih
theorem RF_dayUp (h : RF fr nc nw nm D g S) : RF fr nc nw nm (dayUp D) g (sDay S) := by
  have hh := h.1.1.1
  obtain ⟨⟨hn, hd, hs, hc, hw, hm, hb⟩, hf⟩ := h
  have n1 : ∀ r, r ≠ 40 → dayUp D r = D r := fun r hr => by rw [dayUp, va_up_ne _ _ hr]
  have n40 : dayUp D 40 = va_up (D 40) 0 (D 40 0 + 1) := by rw [dayUp, va_up_self]
  have s1 : ∀ r, r ≠ 0 → sDay S r = S r := fun r hr => by rw [sDay, va_up_ne _ _ hr]
  refine ⟨⟨?_, ?_, ?_, fun c hc' => ?_, fun j hj => ?_, fun m hm' => ?_, fun c p hc' hp => ?_⟩, fun f => ⟨fun c hc1 hc2 p hp => ?_, fun j hj1 hj2 => ?_, fun m hm1 hm2 => ?_⟩⟩
  · unfold RN; rw [n40]; exact hn
  · rw [n40]; show D 40 0 + 1 = S 0 0 + 1; rw [hd]
  · rw [n40]; exact hs
  · have z := hc c hc'
    unfold RC at z ⊢; rw [n1 (24 + c) (by omega), n1 (28 + c) (by omega), s1 1 (by decide)]; exact z
  · have z := hw j hj
    unfold RW at z ⊢; rw [n1 j (by omega), s1 1 (by decide), s1 2 (by decide), s1 3 (by decide), s1 4 (by decide), s1 5 (by decide), s1 6 (by decide), s1 7 (by decide), s1 8 (by decide), s1 9 (by decide), s1 10 (by decide)]; exact z
  · have z := hm m hm'
    unfold RM at z ⊢; rw [n1 (32 + m) (by omega), n1 (36 + m) (by omega), s1 11 (by decide), s1 12 (by decide)]; exact z
  · unfold RB
    rw [s1 1 (by decide), s1 2 (by decide)]
    rcases hb c p hc' hp with e | ⟨t, ht, e⟩
    · exact Or.inl e
    · exact Or.inr ⟨t, ht, by rw [n1 t (by omega)]; exact e⟩
  · rw [n1 (28 + c) (by omega), s1 1 (by decide)]; exact (hf f).1 c hc1 hc2 p hp
  · rw [n1 j (by omega), s1 2 (by decide), s1 4 (by decide), s1 5 (by decide), s1 7 (by decide), s1 8 (by decide), s1 9 (by decide)]; exact (hf f).2.1 j hj1 hj2
  · rw [n1 (32 + m) (by omega), n1 (36 + m) (by omega), s1 11 (by decide)]; exact (hf f).2.2 m hm1 hm2
end RelK
