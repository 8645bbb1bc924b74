/-! CLASS AND REFERENCE: the copies ahead -/
section RelT
variable {nc nw nm : Nat} {D g S : DD}
theorem Rel_ext (h : Rel nc nw nm D g S) {D' S' : DD} (d40 : ∀ k, k < 5 → D' 40 k = D 40 k) (dc : ∀ c, c < nc → D' (24 + c) 0 = D (24 + c) 0 ∧ D' (24 + c) 1 = D (24 + c) 1 ∧ ∀ p, p < 10 → D' (28 + c) p = D (28 + c) p)
    (dw : ∀ i, i < nw → ∀ k, k < 10 → D' i k = D i k) (dm : ∀ m, m < nm → (∀ k, k < 4 → D' (32 + m) k = D (32 + m) k) ∧ ∀ k, k < 7 → D' (36 + m) k = D (36 + m) k)
    (s0 : S' 0 0 = S 0 0) (s1 : ∀ q, q < 40 → S' 1 q = S 1 q) (sw : ∀ r, 2 ≤ r → r ≤ 10 → ∀ i, i < 24 → S' r i = S r i) (sm : ∀ m, m < 4 → S' 11 m = S 11 m ∧ S' 12 m = S 12 m) : Rel nc nw nm D' g S' := by
  have hh := h.1.1
  obtain ⟨hn, hd, hs, hc, hw, hm, hb⟩ := h
  refine ⟨?_, ?_, ?_, fun c hc' => ?_, fun i hi => ?_, fun m hm' => ?_, fun c p hc' hp => ?_⟩
  · unfold RN; rw [d40 2 (by omega), d40 3 (by omega), d40 4 (by omega)]; exact hn
  · rw [d40 0 (by omega), s0]; exact hd
  · rw [d40 1 (by omega)]; exact hs
  · have z := hc c hc'
    refine ⟨(dc c hc').1.trans z.1, (dc c hc').2.1.trans z.2.1, fun p hp => ?_⟩
    rw [(dc c hc').2.2 p hp, s1 _ (by omega)]; exact z.2.2 p hp
  · have z := hw i hi
    have y : ∀ r, 2 ≤ r → r ≤ 10 → S' r i = S r i := fun r a b => sw r a b i (by omega)
    unfold RW at z ⊢
    rw [dw i hi 0 (by omega), dw i hi 1 (by omega), dw i hi 2 (by omega), dw i hi 3 (by omega), dw i hi 4 (by omega), dw i hi 5 (by omega), dw i hi 6 (by omega), dw i hi 7 (by omega), dw i hi 8 (by omega), dw i hi 9 (by omega),
      y 2 (by omega) (by omega), y 3 (by omega) (by omega), y 4 (by omega) (by omega), y 5 (by omega) (by omega), y 6 (by omega) (by omega), y 7 (by omega) (by omega), y 8 (by omega) (by omega), y 9 (by omega) (by omega), y 10 (by omega) (by omega)]
    refine ⟨z.1, z.2.1, z.2.2.1, z.2.2.2.1, z.2.2.2.2.1, fun e => ?_, z.2.2.2.2.2.2⟩
    obtain ⟨c, p, a1, a2, a3, a4, a5, a6⟩ := z.2.2.2.2.2.1 e
    exact ⟨c, p, a1, a2, a3, a4, a5, by rw [s1 _ (by omega)]; exact a6⟩
  · have z := hm m hm'
    have y := dm m hm'
    have x := sm m (by omega)
    unfold RM at z ⊢
    rw [y.1 0 (by omega), y.1 1 (by omega), y.1 2 (by omega), y.1 3 (by omega), x.1, x.2]
    exact ⟨z.1, z.2.1, z.2.2.1, z.2.2.2.1, z.2.2.2.2.1, z.2.2.2.2.2.1, fun k hk => (y.2 k hk).trans (z.2.2.2.2.2.2 k hk)⟩
  · unfold RB
    rw [s1 _ (by omega)]
    rcases hb c p hc' hp with e | ⟨t, ht, b1, b2, b3, b4⟩
    · exact Or.inl e
    · exact Or.inr ⟨t, ht, b1, by rw [sw 2 (by omega) (by omega) t (by omega)]; exact b2, by rw [dw t ht 1 (by omega)]; exact b3, by rw [dw t ht 2 (by omega)]; exact b4⟩
theorem cpB_at (b s : WW) : ∀ n, n ≤ 10 → ∀ p, p < n → cpB b s n p = s p
  | 0, _, _, hp => absurd hp (by omega)
  | n + 1, hn, p, hp => by
    show va_up (cpB b s n) (ix (nI n)) (wAt s (nI n)) p = s p
    rw [ix_nI (by omega), wAt_nat _ (by omega)]
    by_cases e : p = n
    · subst e; rw [va_up_self]
    · rw [va_up_ne _ _ e]; exact cpB_at b s n (by omega) p (by omega)
theorem cpR_at (b s : WW) : ∀ n, n ≤ 7 → ∀ p, p < n → cpR b s n p = s p
  | 0, _, _, hp => absurd hp (by omega)
  | n + 1, hn, p, hp => by
    show va_up (cpR b s n) (ix (nI n)) (wOn s (nI n)) p = s p
    rw [ix_nI (by omega), wOn_nat _ (by omega), Nat.mod_eq_of_lt (by omega)]
    by_cases e : p = n
    · subst e; rw [va_up_self]
    · rw [va_up_ne _ _ e]; exact cpR_at b s n (by omega) p (by omega)
theorem cpW_at (w s : WW) {k : Nat} (hk : k < 10) : cpW w s k = s k := by
  rcases (show k = 0 ∨ k = 1 ∨ k = 2 ∨ k = 3 ∨ k = 4 ∨ k = 5 ∨ k = 6 ∨ k = 7 ∨ k = 8 ∨ k = 9 by omega) with rfl | rfl | rfl | rfl | rfl | rfl | rfl | rfl | rfl | rfl <;> rfl
theorem cpM4_at (w s : WW) {k : Nat} (hk : k < 4) : cpM4 w s k = s k := by
  rcases (show k = 0 ∨ k = 1 ∨ k = 2 ∨ k = 3 by omega) with rfl | rfl | rfl | rfl <;> rfl
theorem cpC_o {E D : DD} {q r : Nat} {x : Nat} (h1 : x ≠ 24 + q) (h2 : x ≠ 28 + q) : cpC E D q r x = E x := by
  unfold cpC cpC1
  rw [va_up_ne _ _ h2, va_up_ne _ _ h1]
theorem cpC_c {E D : DD} {q : Nat} (hq : q < 4) : cpC E D q q (24 + q) 0 = D (24 + q) 0 ∧ cpC E D q q (24 + q) 1 = D (24 + q) 1 ∧ ∀ p, p < 10 → cpC E D q q (28 + q) p = D (28 + q) p := by
  unfold cpC
  refine ⟨?_, ?_, fun p hp => ?_⟩
  · rw [va_up_ne _ _ (by omega), cpC1, va_up_self]; rfl
  · rw [va_up_ne _ _ (by omega), cpC1, va_up_self]; rfl
  · rw [va_up_self]; exact cpB_at _ _ 10 (by omega) p hp
theorem cpM_o {E D : DD} {q r : Nat} {x : Nat} (h1 : x ≠ 32 + q) (h2 : x ≠ 36 + q) : cpM E D q r x = E x := by
  unfold cpM cpM1
  rw [va_up_ne _ _ h2, va_up_ne _ _ h1]
theorem cpM_c {E D : DD} {q : Nat} (hq : q < 4) : (∀ k, k < 4 → cpM E D q q (32 + q) k = D (32 + q) k) ∧ ∀ p, p < 7 → cpM E D q q (36 + q) p = D (36 + q) p := by
  unfold cpM
  refine ⟨fun k hk => ?_, fun p hp => ?_⟩
  · rw [va_up_ne _ _ (by omega), cpM1, va_up_self]; exact cpM4_at _ _ hk
  · rw [va_up_self]; exact cpR_at _ _ 7 (by omega) p hp
theorem cpD1_at {E : DD} (h : RN nc nw nm D g) : ∀ n, n ≤ 4 → (∀ r, r < 24 ∨ 32 ≤ r → cpD1 E D n r = E r) ∧ ∀ c, c < n → c < nc → cpD1 E D n (24 + c) 0 = D (24 + c) 0 ∧ cpD1 E D n (24 + c) 1 = D (24 + c) 1 ∧ ∀ p, p < 10 → cpD1 E D n (28 + c) p = D (28 + c) p
  | 0, _ => ⟨fun _ _ => rfl, fun _ hc _ => absurd hc (by omega)⟩
  | n + 1, hn => by
    obtain ⟨i1, i2⟩ := cpD1_at h (E := E) n (by omega)
    have e : cpD1 E D (n + 1) = if inC D (nI n) then cpC (cpD1 E D n) D (ix (nI n)) (ix (nI n)) else cpD1 E D n := rfl
    rw [e, ix_nI (by omega)]
    generalize cpD1 E D n = F at i1 i2
    refine ⟨fun r hr => ?_, fun c hc hc2 => ?_⟩
    · split
      · rw [cpC_o (by omega) (by omega)]; exact i1 r hr
      · exact i1 r hr
    · by_cases q : c = n
      · subst q
        rw [if_pos (show inC D (nI c) = true by rw [inC_eq h]; exact cI_of h hc2)]
        exact cpC_c (by omega)
      · have z := i2 c (by omega) hc2
        split
        · rw [cpC_o (by omega) (by omega), cpC_o (by omega) (by omega)]; exact z
        · exact z
theorem cpD2_at {E : DD} (h : RN nc nw nm D g) : ∀ n, n ≤ 24 → (∀ r, 24 ≤ r → cpD2 E D n r = E r) ∧ ∀ i, i < n → i < nw → ∀ k, k < 10 → cpD2 E D n i k = D i k
  | 0, _ => ⟨fun _ _ => rfl, fun _ hc _ => absurd hc (by omega)⟩
  | n + 1, hn => by
    obtain ⟨i1, i2⟩ := cpD2_at h (E := E) n (by omega)
    have e : cpD2 E D (n + 1) = if inW D (nI n) then va_up (cpD2 E D n) (ix (nI n)) (cpW (cpD2 E D n (ix (nI n))) (D (ix (nI n)))) else cpD2 E D n := rfl
    rw [e, ix_nI (by omega)]
    generalize cpD2 E D n = F at i1 i2
    refine ⟨fun r hr => ?_, fun i hi hi2 k hk => ?_⟩
    · split
      · rw [va_up_ne _ _ (by omega)]; exact i1 r hr
      · exact i1 r hr
    · by_cases q : i = n
      · subst q
        rw [if_pos (inW_of h hi2), va_up_self]
        exact cpW_at _ _ hk
      · have z := i2 i (by omega) hi2 k hk
        split
        · rw [va_up_ne _ _ q]; exact z
        · exact z
theorem cpD3_at {E : DD} (h : RN nc nw nm D g) : ∀ n, n ≤ 4 → (∀ r, r < 32 ∨ 40 ≤ r → cpD3 E D n r = E r) ∧ ∀ m, m < n → m < nm → (∀ k, k < 4 → cpD3 E D n (32 + m) k = D (32 + m) k) ∧ ∀ p, p < 7 → cpD3 E D n (36 + m) p = D (36 + m) p
  | 0, _ => ⟨fun _ _ => rfl, fun _ hc _ => absurd hc (by omega)⟩
  | n + 1, hn => by
    obtain ⟨i1, i2⟩ := cpD3_at h (E := E) n (by omega)
    have e : cpD3 E D (n + 1) = if inM D (nI n) then cpM (cpD3 E D n) D (ix (nI n)) (ix (nI n)) else cpD3 E D n := rfl
    rw [e, ix_nI (by omega)]
    generalize cpD3 E D n = F at i1 i2
    refine ⟨fun r hr => ?_, fun c hc hc2 => ?_⟩
    · split
      · rw [cpM_o (by omega) (by omega)]; exact i1 r hr
      · exact i1 r hr
    · by_cases q : c = n
      · subst q
        rw [if_pos (show inM D (nI c) = true by rw [inM_eq h]; exact mI_of h hc2)]
        exact cpM_c (by omega)
      · have z := i2 c (by omega) hc2
        split
        · rw [cpM_o (by omega) (by omega), cpM_o (by omega) (by omega)]; exact z
        · exact z
theorem cpD0_o {E : DD} {r : Nat} (hr : r ≠ 40) : cpD0 E D r = E r := by rw [cpD0, va_up_ne _ _ hr]
theorem cpD0_40 {E : DD} {k : Nat} (hk : k < 5) : cpD0 E D 40 k = D 40 k := by
  rw [cpD0, va_up_self]
  rcases (show k = 0 ∨ k = 1 ∨ k = 2 ∨ k = 3 ∨ k = 4 by omega) with rfl | rfl | rfl | rfl | rfl <;> rfl
theorem become_at {A S : DD} : becomeS A S 0 0 = S 0 0 ∧ (∀ q, q < 40 → becomeS A S 1 q = S 1 q) ∧ (∀ r, 2 ≤ r → r ≤ 10 → ∀ i, i < 24 → becomeS A S r i = S r i) ∧ ∀ m, m < 4 → becomeS A S 11 m = S 11 m ∧ becomeS A S 12 m = S 12 m := by
  refine ⟨rfl, fun q hq => ?_, fun r h1 h2 i hi => ?_, fun m hm => ⟨?_, ?_⟩⟩
  · show va_cpy (S 1) (A 1) 0 0 40 q = _; exact cpy_lo hq
  · rcases (show r = 2 ∨ r = 3 ∨ r = 4 ∨ r = 5 ∨ r = 6 ∨ r = 7 ∨ r = 8 ∨ r = 9 ∨ r = 10 by omega) with rfl | rfl | rfl | rfl | rfl | rfl | rfl | rfl | rfl
    · show va_cpy (S 2) (A 2) 0 0 24 i = _; exact cpy_lo hi
    · show va_cpy (S 3) (A 3) 0 0 24 i = _; exact cpy_lo hi
    · show va_cpy (S 4) (A 4) 0 0 24 i = _; exact cpy_lo hi
    · show va_cpy (S 5) (A 5) 0 0 24 i = _; exact cpy_lo hi
    · show va_cpy (S 6) (A 6) 0 0 24 i = _; exact cpy_lo hi
    · show va_cpy (S 7) (A 7) 0 0 24 i = _; exact cpy_lo hi
    · show va_cpy (S 8) (A 8) 0 0 24 i = _; exact cpy_lo hi
    · show va_cpy (S 9) (A 9) 0 0 24 i = _; exact cpy_lo hi
    · show va_cpy (S 10) (A 10) 0 0 24 i = _; exact cpy_lo hi
  · show va_cpy (S 11) (A 11) 0 0 4 m = _; exact cpy_lo hm
  · show va_cpy (S 12) (A 12) 0 0 4 m = _; exact cpy_lo hm
theorem Rel_copy (h : Rel nc nw nm D g S) (E A : DD) : Rel nc nw nm (cpD E D) g (becomeS A S) := by
  have hh := h.1.1
  have c1 := cpD1_at h.1 (E := cpD0 E D) 4 (by omega)
  have c2 := cpD2_at h.1 (E := cpD1 (cpD0 E D) D 4) 24 (by omega)
  have c3 := cpD3_at h.1 (E := cpD2 (cpD1 (cpD0 E D) D 4) D 24) 4 (by omega)
  have hs := become_at (A := A) (S := S)
  refine Rel_ext h (fun k hk => ?_) (fun c hc => ⟨?_, ?_, fun p hp => ?_⟩) (fun i hi k hk => ?_) (fun m hm => c3.2 m (by omega) hm) hs.1 hs.2.1 hs.2.2.1 hs.2.2.2
  · rw [cpD, c3.1 40 (by omega), c2.1 40 (by omega), c1.1 40 (by omega)]; exact cpD0_40 hk
  · rw [cpD, c3.1 _ (by omega), c2.1 _ (by omega)]; exact (c1.2 c (by omega) hc).1
  · rw [cpD, c3.1 _ (by omega), c2.1 _ (by omega)]; exact (c1.2 c (by omega) hc).2.1
  · rw [cpD, c3.1 _ (by omega), c2.1 _ (by omega)]; exact (c1.2 c (by omega) hc).2.2 p hp
  · rw [cpD, c3.1 _ (by omega)]; exact c2.2 i (by omega) hi k hk
end RelT
