/-! CLASS AND REFERENCE: the checksum; what is not yet there -/
theorem rep_congr {α : Type} {f f' : Nat → α → α} {a : α} : ∀ {n : Nat}, (∀ i, i < n → ∀ x, f i x = f' i x) → rep f a n = rep f' a n
  | 0, _ => rfl
  | n + 1, h => by
    show f n (rep f a n) = f' n (rep f' a n)
    rw [rep_congr (fun i hi => h i (by omega)), h n (by omega)]
/-- what there is not yet is as a new one -/
def Fr (nc nw nm : Nat) (D g S : DD) : Prop :=
  (∀ c, nc ≤ c → c < 4 → ∀ p, p < 10 → D (28 + c) p = -1 ∧ S 1 (10 * c + p) = -1) ∧
  (∀ i, nw ≤ i → i < 24 → (D i 0 = 0 ∧ D i 3 = 0 ∧ D i 4 = 0 ∧ D i 5 = 80 ∧ D i 6 = 0 ∧ D i 7 = 0 ∧ D i 8 = 0 ∧ D i 9 = -1) ∧ S 2 i = 0 ∧ S 4 i = 0 ∧ S 5 i = 0 ∧ S 7 i = 0 ∧ S 8 i = 0 ∧ S 9 i = 0) ∧
  (∀ m, nm ≤ m → m < 4 → D (32 + m) 2 = 0 ∧ D (32 + m) 3 = -1 ∧ S 11 m = 0 ∧ ∀ k, k < 7 → D (36 + m) k = 0 ∧ g 5 (7 * m + k) = 0)
theorem Fr_setT {nc nw nm : Nat} {D g S : DD} {k : Int32} (h : Fr nc nw nm D g S) : Fr nc nw nm D (setT g k) S := h
section RelD
variable {nc nw nm : Nat} {D g S : DD}
theorem sim_digest (h : Rel nc nw nm D g S) {b : Nat} (hy : DY S b) (hb : b < 2147483648) : digC D = digS g S := by
  have hh := h.1.1
  have ec : ix (g 0 1) = nc := by rw [h.1.2.2.1, ix_nI (by omega)]
  have ew : ix (g 0 4) = nw := by rw [h.1.2.2.2.1, ix_nI (by omega)]
  have em : ix (g 0 5) = nm := by rw [h.1.2.2.2.2, ix_nI (by omega)]
  rw [digC, digS, h.1.2.1.1, h.1.2.1.2.1, h.1.2.1.2.2, ix_nI (by omega), ix_nI (by omega), ix_nI (by omega), ec, ew, em]
  have e1 : digCounts D 9 = dgN g S 9 := rep_congr (fun k hk d => by rw [dFact_eq h hk])
  have e2 : digCells D nc = dgC g S (dgN g S 9) nc := by
    rw [digCells, e1]
    refine rep_congr (fun c hc d => rep_congr (fun k hk d => ?_))
    rw [ceFact_eq h hc hk]
  have e3 : ∀ d, digWheels D d nw = dgW S d nw := fun d => by
    refine rep_congr (fun i hi d => ?_)
    rw [inW_of h.1 hi, if_pos rfl, ix_nI (by omega)]
    refine rep_congr (fun k hk d => ?_)
    rw [wFact_eq h hi hk]
  have e4 : ∀ d, digMonks D d nm = dgM g S d nm := fun d => by
    refine rep_congr (fun m hm d => ?_)
    rw [inM_eq h.1, mI_of h.1 hm, if_pos rfl, ix_nI (by omega)]
    have a1 : ∀ d, digMonk1 (D (32 + m)) (D (36 + m)) (D 40 0) d 5 = dgM1 g S m d 5 := fun d => rep_congr (fun k hk d => by rw [mFact_eq h hy hb hm])
    rw [digMonk, a1]
    refine rep_congr (fun k hk d => ?_)
    rw [wOn_nat _ (by omega), Nat.mod_eq_of_lt hk, seven_nat, ix_nI (by omega), (h.2.2.2.2.2.1 m hm).2.2.2.2.2.2 k hk]
  rw [e2, e3, e4]
theorem wthn_and {a b : Int32} : airOk a b = true ↔ wthn a 0 9 = true ∧ wthn b 0 9 = true := by rw [airOk, Bool.and_eq_true]
theorem sim_air (h : Rel nc nw nm D g S) (hf : Fr nc nw nm D g S) (h0 : g 0 0 = 0) (c a b : Int32) :
    kAir D c a b = mAir g c a b 0 0 ∧ (kAir D c a b = 0 → vAir D c = vAirM g c a b) ∧ Rel nc nw nm (if kAir D c a b = 0 then dAir D c a b else D) (mAir g c a b) S ∧ Fr nc nw nm (if kAir D c a b = 0 then dAir D c a b else D) (mAir g c a b) S := by
  rw [kAir, mAir, vAirM, inC_eq h.1]
  have hh := h.1.1
  by_cases h1 : cI g c = true
  · by_cases h2 : wthn a 0 9 = true
    · by_cases h3 : wthn b 0 9 = true
      · have h4 : airOk a b = true := wthn_and.mpr ⟨h2, h3⟩
        obtain ⟨i, hi, rfl⟩ := cI_nat h.1 h1
        simp only [h1, h2, h3, h4, if_true, vAir, dAir, ix_nI (show i < 2147483648 by omega)]
        refine ⟨h0.symm, fun _ => ?_, ?_, ?_⟩
        · rw [(h.2.2.2.1 i hi).1, (h.2.2.2.1 i hi).2.1]
        · obtain ⟨hn, hd, hs, hc, hw, hm, hb⟩ := h
          have n1 : ∀ r, r ≠ 24 + i → va_up D (24 + i) (va_up (va_up (D (24 + i)) 0 a) 1 b) r = D r := fun r hr => va_up_ne _ _ hr
          refine ⟨?_, ?_, ?_, fun c' hc' => ?_, fun j hj => ?_, fun m hm' => ?_, fun c' p hc' hp => ?_⟩
          · unfold RN; rw [n1 40 (by omega)]; exact hn
          · rw [n1 40 (by omega)]; exact hd
          · rw [n1 40 (by omega)]; exact hs
          · unfold RC
            rw [n1 (28 + c') (by omega)]
            by_cases e : c' = i
            · subst e
              refine ⟨?_, ?_, (hc c' hc').2.2⟩ <;> simp [va_up]
            · rw [n1 (24 + c') (by omega)]
              refine ⟨(hc c' hc').1.trans ?_, (hc c' hc').2.1.trans ?_, (hc c' hc').2.2⟩ <;> simp [va_up, e]
          · unfold RW; rw [n1 j (by omega)]; exact hw j hj
          · unfold RM; rw [n1 (32 + m) (by omega), n1 (36 + m) (by omega)]; exact hm m hm'
          · rcases hb c' p hc' hp with e | ⟨k, hk, e⟩
            · exact Or.inl e
            · exact Or.inr ⟨k, hk, by rw [n1 k (by omega)]; exact e⟩
        · obtain ⟨f1, f2, f3⟩ := hf
          have n1 : ∀ r, r ≠ 24 + i → va_up D (24 + i) (va_up (va_up (D (24 + i)) 0 a) 1 b) r = D r := fun r hr => va_up_ne _ _ hr
          refine ⟨fun c' hc1 hc2 p hp => ?_, fun j hj1 hj2 => ?_, fun m hm1 hm2 => ?_⟩
          · rw [n1 (28 + c') (by omega)]; exact f1 c' hc1 hc2 p hp
          · rw [n1 j (by omega)]; exact f2 j hj1 hj2
          · rw [n1 (32 + m) (by omega), n1 (36 + m) (by omega)]; exact f3 m hm1 hm2
      · have h4 : ¬ airOk a b = true := fun q => h3 (wthn_and.mp q).2
        simp only [h1, h2, h3, h4, if_true, if_false, Bool.false_eq_true]
        exact ⟨rfl, fun q => absurd q (by decide), h, hf⟩
    · have h4 : ¬ airOk a b = true := fun q => h2 (wthn_and.mp q).1
      simp only [h1, h2, h4, if_true, if_false, Bool.false_eq_true]
      exact ⟨rfl, fun q => absurd q (by decide), h, hf⟩
  · simp only [h1, if_false, Bool.false_eq_true]
    exact ⟨rfl, fun q => absurd q (by decide), h, hf⟩
end RelD
