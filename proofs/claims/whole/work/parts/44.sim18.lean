/-! CLASS AND REFERENCE: all moulds of a day leap -/
theorem Rel_rows {nc nw nm : Nat} {D g S S' : DD} (h : Rel nc nw nm D g S) (e : ∀ r, r ≠ 13 → S' r = S r) : Rel nc nw nm D g S' := by
  obtain ⟨hn, hd, hs, hc, hw, hm, hb⟩ := h
  refine ⟨hn, ?_, hs, fun c hc' => ?_, fun j hj => ?_, fun m hm' => ?_, fun c p hc' hp => ?_⟩
  · rw [e 0 (by decide)]; exact hd
  · have z := hc c hc'
    unfold RC at z ⊢; rw [e 1 (by decide)]; exact z
  · have z := hw j hj
    unfold RW at z ⊢; rw [e 1 (by decide), e 2 (by decide), e 3 (by decide), e 4 (by decide), e 5 (by decide), e 6 (by decide), e 7 (by decide), e 8 (by decide), e 9 (by decide), e 10 (by decide)]; exact z
  · have z := hm m hm'
    unfold RM at z ⊢; rw [e 11 (by decide), e 12 (by decide)]; exact z
  · have z := hb c p hc' hp
    unfold RB at z ⊢; rw [e 1 (by decide), e 2 (by decide)]; exact z
theorem Fr_rows {nc nw nm : Nat} {D g S S' : DD} (h : Fr nc nw nm D g S) (e : ∀ r, r ≠ 13 → S' r = S r) : Fr nc nw nm D g S' := by
  obtain ⟨f1, f2, f3⟩ := h
  refine ⟨fun c hc1 hc2 p hp => ?_, fun j hj1 hj2 => ?_, fun m hm1 hm2 => ?_⟩
  · rw [e 1 (by decide)]; exact f1 c hc1 hc2 p hp
  · rw [e 2 (by decide), e 4 (by decide), e 5 (by decide), e 7 (by decide), e 8 (by decide), e 9 (by decide)]; exact f2 j hj1 hj2
  · rw [e 11 (by decide)]; exact f3 m hm1 hm2
section RelS2
variable {nc nw nm : Nat} {D g S : DD} {fr : Prop}
theorem RF_rows {S' : DD} (h : RF fr nc nw nm D g S) (e : ∀ r, r ≠ 13 → S' r = S r) : RF fr nc nw nm D g S' := ⟨Rel_rows h.1 e, fun f => Fr_rows (h.2 f) e⟩
theorem gtl_3 {c : WW} {x : Int32} (h : ¬ x < gtl c) : ¬ x < 3 := by
  unfold gtl at h
  split at h
  · rw [Int32.lt_iff_toInt_lt, show (5 : Int32).toInt = 5 by decide] at h
    rw [Int32.lt_iff_toInt_lt, show (3 : Int32).toInt = 3 by decide]
    omega
  · exact h
/-- a wheel whose mould leaps -/
def Lpr (nw : Nat) (S : DD) (x : Int32) : Prop := ∃ t m, t < nw ∧ m ≤ 3 ∧ x = nI t ∧ S 2 t = 0 ∧ S 8 t = nI m ∧ m ≠ 0 ∧ ¬ S 9 t < 3
theorem leapAt_s (h : Rel nc nw nm D g S) {c : Nat} {x : Int32} (hn : ¬ leapAt D c x = -1) : Lpr nw S (leapAt D c x) := by
  have hh := h.1.1
  unfold leapAt at hn ⊢
  by_cases a : lies D (wAt (D (28 + c)) x) = true
  · rw [if_pos a] at hn ⊢
    by_cases b : D (ix (wAt (D (28 + c)) x)) 8 < gtl (D (24 + c))
    · rw [if_pos b] at hn; exact absurd rfl hn
    · rw [if_neg b]
      have hw := lies_w a
      rw [inW_eq h.1] at hw
      obtain ⟨t, ht, et⟩ := wI_nat h.1 hw
      rw [et] at a b ⊢
      rw [lies_of h ht] at a
      have a0 := of_decide_eq_true a
      have q := h.2.2.2.2.1 t ht
      obtain ⟨m, hm, em⟩ := q.2.1
      rw [ix_nI (show t < 2147483648 by omega), q.1.2.2.2.2.2.2.1] at b
      have b3 := gtl_3 b
      refine ⟨t, m, ht, hm, rfl, a0, em, fun z => ?_, b3⟩
      subst z
      have := (q.2.2.2.1 em).1
      rw [this] at b3
      exact b3 (by decide)
  · rw [if_neg a] at hn; exact absurd rfl hn
theorem leapS_s (h : Rel nc nw nm D g S) {c : Nat} {x : Int32} (hn : ¬ leapS D c x = -1) : Lpr nw S (leapS D c x) := by
  unfold leapS at hn ⊢
  by_cases a : leapAt D c (x - 1) = -1
  · rw [if_pos a] at hn ⊢; exact leapAt_s h hn
  · rw [if_neg a]; exact leapAt_s h a
/-- what the leaping has changed so far: just such as had no mould, and to a growth of 1 -/
def Lps (S T : DD) (n : Nat) : Prop := (∀ r, r ≠ 8 → r ≠ 9 → r ≠ 10 → T r = S r) ∧ (∀ j, (T 8 j = S 8 j ∧ T 9 j = S 9 j ∧ T 10 j = S 10 j) ∨ (S 8 j = 0 ∧ T 9 j = 1)) ∧ ∀ j, n ≤ j → T 8 j = S 8 j ∧ T 9 j = S 9 j ∧ T 10 j = S 10 j
theorem leapr_Lps {T : DD} {n : Nat} (h : Lps S T n) (dm : WW) (x y : Int32) : leapr (T 1) (T 3) (T 8) (T 9) dm x y = leapr (S 1) (S 3) (S 8) (S 9) dm x y := by
  unfold leapr
  rw [h.1 1 (by decide) (by decide) (by decide), h.1 3 (by decide) (by decide) (by decide)]
  generalize (if wthn (irem (S 3 (ix x)) 10 + y) 0 9 = true then S 1 (ix (S 3 (ix x) + y)) else -1) = o
  simp only []
  split
  · rfl
  · rcases h.2.1 (ix o) with ⟨a, b, -⟩ | ⟨a, b⟩
    · rw [a, b]
    · rw [if_pos (show S 8 (ix o) ≤ 0 by rw [a]; decide), b, if_pos (show (1 : Int32) < _ by split <;> decide)]
      split <;> rfl
theorem lpB_Lps {T : DD} {n : Nat} (h : Lps S T n) (i : Nat) : lpB g T i = lpB g S i := by
  rw [lpB, lpB, lpA, lpA, leapr_Lps h, leapr_Lps h]
theorem lpV_row {T : DD} (h : ∀ r, r ≠ 13 → T r = S r) (i : Nat) : lpV g T i = lpV g S i := by
  unfold lpV sCatch lpB lpA
  rw [h 1 (by decide), h 2 (by decide), h 3 (by decide), h 5 (by decide), h 8 (by decide), h 9 (by decide)]
theorem lpp1_13 : ∀ n, n ≤ 24 → ∀ i, i < n → lpp1 g S n 13 i = lpV g S i
  | 0, _, _, hi => absurd hi (by omega)
  | n + 1, hn, i, hi => by
    show va_up (lpp1 g S n) 13 (va_up (lpp1 g S n 13) (ix (nI n)) (lpV g (lpp1 g S n) n)) 13 i = _
    rw [va_up_self, ix_nI (by omega)]
    by_cases e : i = n
    · subst e; rw [va_up_self, lpV_row (fun r hr => lpp1_row hr)]
    · rw [va_up_ne _ _ e]; exact lpp1_13 n (by omega) i (by omega)
theorem div24 {t m : Nat} (ht : t < 24) (hm : m ≤ 3) : (nI t + 24 * nI m) / 24 = nI m ∧ irem (nI t + 24 * nI m) 24 = nI t ∧ ¬ nI t + 24 * nI m = -1 := by
  have e : nI t + 24 * nI m = nI (t + 24 * m) := by rw [show (24 : Int32) = nI 24 from rfl, pk_mul, nI_add]
  rw [e]
  refine ⟨?_, ?_, nI_m1 (by omega)⟩
  · rw [show (24 : Int32) = nI 24 from rfl, pk_div (by omega) (by decide) (by decide)]; congr 1; omega
  · rw [show (24 : Int32) = nI 24 from rfl, irem_nI (by omega) (by decide) (by decide)]; congr 1; omega
theorem Lps_s {T : DD} {n : Nat} (hn : n < 24) (h : Lps S T n) (h0 : S 8 n = 0) {m f : Int32} : Lps S (haveS T (nI n) m 1 f) (n + 1) := by
  have e := haveS_i (S := T) (i := n) (by omega) (m := m) (gr := 1) (f := f)
  refine ⟨fun r a b c => (haveS_row ⟨a, b, c⟩).trans (h.1 r a b c), fun j => ?_, fun j hj => ?_⟩
  · by_cases q : j = n
    · subst q; exact Or.inr ⟨h0, e.2.1⟩
    · rw [haveS_j (by omega) 8 j q, haveS_j (by omega) 9 j q, haveS_j (by omega) 10 j q]; exact h.2.1 j
  · rw [haveS_j (by omega) 8 j (by omega), haveS_j (by omega) 9 j (by omega), haveS_j (by omega) 10 j (by omega)]; exact h.2.2 j (by omega)
theorem Lps_0 {T : DD} {n : Nat} (h : Lps S T n) : Lps S T (n + 1) := ⟨h.1, h.2.1, fun j hj => h.2.2 j (by omega)⟩
theorem RF_leap1 {T D' : DD} {n : Nat} (h : RF fr nc nw nm D' g T) (hn : n < nw) (hl : Lps S T n) (h13 : S 13 n = lpV g S n) :
    RF fr nc nw nm (leapW D' (nI n)) g (if T 13 (ix (nI n)) = -1 then T else haveS T (nI n) (T 13 (ix (nI n)) / 24) 1 (irem (T 13 (ix (nI n))) 24)) ∧
    Lps S (if T 13 (ix (nI n)) = -1 then T else haveS T (nI n) (T 13 (ix (nI n)) / 24) 1 (irem (T 13 (ix (nI n))) 24)) (n + 1) := by
  have hh := h.1.1.1
  have hx : ix (nI n) = n := ix_nI (by omega)
  have q := h.1.2.2.2.2.1 n hn
  have u := hl.2.2 n (Nat.le_refl _)
  have t2 : T 2 = S 2 := hl.1 2 (by decide) (by decide) (by decide)
  have t5 : T 5 = S 5 := hl.1 5 (by decide) (by decide) (by decide)
  have t13 : T 13 = S 13 := hl.1 13 (by decide) (by decide) (by decide)
  rw [hx, t13, h13, leapW, lies_of h.1 hn, hx]
  unfold lpV
  rw [hx, ← t2]
  by_cases h0 : T 2 n = 0
  · obtain ⟨c, p, hc, hp, e1, e2, e3, e4⟩ := q.2.2.2.2.2.1 h0
    have ic : inC D' (nI c) = true := by rw [inC_eq h.1.1]; exact cI_of h.1.1 hc
    have es : sCatch S (nI n) = cCatch (D' n) := by
      rw [sCatch, cCatch, hx, q.1.2.2.2.2.2.1, q.1.2.2.1, u.1, t5]
    rw [if_pos (decide_eq_true h0), if_pos h0, e1, if_pos ic, es]
    by_cases k : cCatch (D' n) = true
    · have k0 : S 8 n = 0 := by
        have k2 := of_decide_eq_true k
        rw [q.1.2.2.2.2.2.1, u.1] at k2
        exact k2.1
      rw [if_pos k, if_pos k, e2, ix_nI (show c < 2147483648 by omega), leapS_eq h.1 hn hc hp e3, lpB_Lps hl]
      by_cases z : lpB g S n = -1
      · rw [z, if_pos rfl, if_pos rfl, lies_m1, if_neg (by decide)]
        exact ⟨h, Lps_0 hl⟩
      · have y := leapS_s h.1 (c := c) (x := nI p) (by rw [leapS_eq h.1 hn hc hp e3, lpB_Lps hl]; exact z)
        rw [leapS_eq h.1 hn hc hp e3, lpB_Lps hl] at y
        obtain ⟨t, m, ht, hm, et, a2, a8, hm0, a9⟩ := y
        have s8 : S 8 t = nI m := by
          rcases hl.2.1 t with b | b
          · rw [← b.1]; exact a8
          · exfalso; rw [b.2] at a9; exact a9 (by decide)
        have d := div24 (t := t) (m := m) (by omega) hm
        rw [if_neg z, et, ix_nI (show t < 2147483648 by omega), s8, if_neg d.2.2, d.1, d.2.1, lies_of h.1 ht, if_pos (decide_eq_true a2), (h.1.2.2.2.2.1 t ht).1.2.2.2.2.2.1, a8]
        have r := Rel_have h.1 hn hm (f := nI t) (fun a => absurd a hm0)
        rw [if_neg (by rw [show (0 : Int32) = nI 0 from rfl, nI_iff (by omega) (by omega)]; exact hm0)] at r
        exact ⟨⟨r, fun f => Fr_wh h.1 (h.2 f) hn haveS_o (haveS_j (by omega))⟩, Lps_s (by omega) hl k0⟩
    · rw [if_neg k, if_neg k, if_pos rfl]
      exact ⟨h, Lps_0 hl⟩
  · rw [if_neg (fun y => h0 (of_decide_eq_true y)), if_neg h0, if_pos rfl]
    exact ⟨h, Lps_0 hl⟩
theorem RF_leaps (h : RF fr nc nw nm D g S) (h13 : ∀ i, i < nw → S 13 i = lpV g S i) : ∀ n, n ≤ nw → RF fr nc nw nm (leapAll D n) g (lpp2 S n) ∧ Lps S (lpp2 S n) n
  | 0, _ => ⟨h, fun _ _ _ _ => rfl, fun _ => Or.inl ⟨rfl, rfl, rfl⟩, fun _ _ => ⟨rfl, rfl, rfl⟩⟩
  | n + 1, hn => by
    have ih := RF_leaps h h13 n (by omega)
    exact RF_leap1 ih.1 (by omega) ih.2 (h13 n (by omega))
theorem leapAll_ge (h : RF fr nc nw nm D g S) {S' : DD} : ∀ n, RF fr nc nw nm (leapAll D nw) g S' → nw ≤ n → n ≤ 24 → RF fr nc nw nm (leapAll D n) g S'
  | 0, q, h1, h2 => by
    obtain rfl : nw = 0 := by omega
    exact q
  | n + 1, q, h1, h2 => by
    by_cases e : nw = n + 1
    · subst e; exact q
    · have ih := leapAll_ge h n q (by omega) (by omega)
      show RF fr nc nw nm (leapW (leapAll D n) (nI n)) g _
      rw [leapW, lies_ge ih.1.1 (show nw ≤ n by omega) (by omega), if_neg (by decide)]
      exact ih
theorem RF_leapM (h : RF fr nc nw nm D g S) : RF fr nc nw nm (leapAll D 24) g (leapM g S) := by
  have hh := h.1.1.1
  have ew : ix (g 0 4) = nw := by rw [h.1.1.2.2.2.1, ix_nI (by omega)]
  rw [leapM, ew]
  have h1 : RF fr nc nw nm D g (lpp1 g S nw) := RF_rows h (fun r hr => lpp1_row hr)
  refine leapAll_ge h 24 (RF_leaps h1 (fun i hi => ?_) nw (Nat.le_refl _)).1 hh.2.1 (by omega)
  rw [lpp1_13 nw hh.2.1 i hi, lpV_row (fun r hr => lpp1_row hr)]
/-- a whole day, and days -/
theorem RF_day (h : RF fr nc nw nm D g S) (hgr : GR g) {b : Nat} (hy : DY S b) (hb : b < 2147483648) : RF fr nc nw nm (oneDay D) g (passM g S) := by
  have hh := h.1.1.1
  have ew : ix (g 0 4) = nw := by rw [h.1.1.2.2.2.1, ix_nI (by omega)]
  have em : ix (g 0 5) = nm := by rw [h.1.1.2.2.2.2, ix_nI (by omega)]
  rw [oneDay, passM, ew, em]
  exact RF_dayUp (ageAll_ge (RF_leapM (monksW_ge h hgr hy hb 4 hh.2.2 (by omega))) 24 hh.2.1 (by omega))
theorem RF_days (h : RF fr nc nw nm D g S) (hgr : GR g) {b : Nat} (hy : DY S b) : ∀ n, b + n < 2147483648 → RF fr nc nw nm (days D n) g (passN g S n)
  | 0, _ => h
  | n + 1, hb => RF_day (RF_days h hgr hy n (by omega)) hgr (DY_passN hy n) (by omega)
end RelS2
