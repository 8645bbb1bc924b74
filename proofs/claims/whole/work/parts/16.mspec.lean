/-! THE REFERENCE: a state's rows: 0 day, 1 board, 2 how, 3 at, 4 ripe, 5 salt, 6 water, 7 idle, 8 mould, 9 growth, 10 from, 11 onHands, 12 last, 13 leaps; the object's rows g: 0 thrown, cellars, .., 1 warmth, 2 damp, 3 monkCellar, 4 hands, 5 rota -/
theorem ne2 {d : Nat} (hd : d = 3 ∨ d = 4) : 2 ≠ d := by rcases hd with rfl | rfl <;> decide
-- numbers
theorem vp_nat {x : Int32} {n : Nat} (h : vp_in x n) (hn : n < 2147483648 := by decide) : ∃ j, j < n ∧ x = nI j := vp_in_of h hn
theorem vp_lst1 {x : Int32} (h1 : ¬ x < -1) (h2 : ¬ 9 < x) : ∃ j, j ≤ 10 ∧ x + 1 = nI j := by
  have a1 := Int32.not_lt.mp h1
  have a2 := Int32.not_lt.mp h2
  rw [Int32.le_iff_toInt_le] at a1 a2
  have b1 : (-1 : Int32).toInt = -1 := by decide
  have b2 : (9 : Int32).toInt = 9 := by decide
  have b3 : (1 : Int32).toInt = 1 := by decide
  rw [b1] at a1
  rw [b2] at a2
  refine ⟨(x.toInt + 1).toNat, by omega, ?_⟩
  apply Int32.toInt_inj.mp
  rw [nI_toInt (by omega), Jvm.Kit.i32_add (by omega) (by omega), b3]
  omega
theorem irem_nI {a : Nat} (ha : a < 2147483648) {d : Nat} (h0 : 0 < d) (hd : d < 2147483648) : irem (nI a) (nI d) = nI (a % d) := pk_rem ha h0 hd
theorem vp_pl {x : Int32} {i : Nat} (h1 : ¬ x < -1) (h2 : ¬ 9 < x) (hi : i ≤ 10) : vp_in (irem (x + 1 + nI i) 10) 10 := by
  obtain ⟨j, hj, e⟩ := vp_lst1 h1 h2
  rw [e, nI_add, show (10 : Int32) = nI 10 from rfl, irem_nI (by omega) (by decide) (by decide)]
  exact vp_nI (Nat.mod_lt _ (by decide))
theorem vp_bd {c p : Int32} (hc : vp_in c 4) (hp : vp_in p 10) : vp_in (10 * c + p) 40 := by
  obtain ⟨a, ha, rfl⟩ := vp_nat hc
  obtain ⟨b, hb, rfl⟩ := vp_nat hp
  rw [show (10 : Int32) = nI 10 from rfl, pk_mul, nI_add]
  exact vp_nI (by omega)
theorem vp_ro {m x : Int32} (hm : vp_in m 4) (hx : ¬ x < 0) : vp_in (7 * m + irem x 7) 28 := by
  obtain ⟨a, ha, rfl⟩ := vp_nat hm
  obtain ⟨b, hb, rfl⟩ := nI_of hx
  rw [show (7 : Int32) = nI 7 from rfl, irem_nI hb (by decide) (by decide), pk_mul, nI_add]
  have := Nat.mod_lt b (show 0 < 7 by decide)
  exact vp_nI (by omega)
theorem vp_ca {x : Int32} (h : vp_in x 40) : vp_in (x / 10) 4 := by
  obtain ⟨a, ha, rfl⟩ := vp_nat h
  rw [show (10 : Int32) = nI 10 from rfl, pk_div (by omega) (by decide) (by decide)]
  exact vp_nI (by omega)
/-- a neighbour's place on the same board -/
theorem vp_by {x y : Int32} (h : vp_in x 40) (hy : y = 1 ∨ y = -1) (hw : wthn (irem x 10 + y) 0 9 = true) : vp_in (x + y) 40 := by
  obtain ⟨a, ha, rfl⟩ := vp_nat h
  have hw2 : ¬ irem (nI a) 10 + y < 0 ∧ ¬ 9 < irem (nI a) 10 + y := of_decide_eq_true hw
  rw [show (10 : Int32) = nI 10 from rfl, irem_nI (by omega) (by decide) (by decide)] at hw2
  rcases hy with rfl | rfl
  · rw [show (1 : Int32) = nI 1 from rfl, nI_add] at hw2 ⊢
    have h3 : a % 10 + 1 ≤ 9 := by
      rcases Nat.lt_or_ge 9 (a % 10 + 1) with h | h
      · exact absurd (show (9 : Int32) < nI (a % 10 + 1) from nI_lt h (by omega)) hw2.2
      · exact h
    exact vp_nI (by omega)
  · by_cases h0 : a % 10 = 0
    · rw [h0] at hw2
      exact absurd (by decide) hw2.1
    · obtain ⟨k, rfl⟩ : ∃ k, a = k + 1 := ⟨a - 1, by omega⟩
      rw [pk_m1]
      exact vp_nI (by omega)
-- what is so at every time
def SI (S : DD) : Prop := (∀ w, w < 24 → vp_in (S 3 w) 40) ∧ (∀ q, q < 40 → S 1 q = -1 ∨ vp_in (S 1 q) 24) ∧ ∀ m, m < 4 → ¬ S 12 m < -1 ∧ ¬ 9 < S 12 m
def GG2 (g : DD) : Prop := (∀ m, m < 4 → vp_in (g 3 m) 4) ∧ (∃ n, n ≤ 24 ∧ g 0 4 = nI n) ∧ (∃ n, n ≤ 4 ∧ g 0 5 = nI n) ∧ ∃ n, n ≤ 4 ∧ g 0 1 = nI n
theorem ix_le_of {x : Int32} {k : Nat} (hk : k < 2147483648) (h : ∃ n, n ≤ k ∧ x = nI n) : ix x ≤ k := by
  obtain ⟨n, hn, rfl⟩ := h
  rw [ix_nI (by omega)]; exact hn
theorem g2w {g : DD} (h : GG2 g) : ix (g 0 4) ≤ 24 := ix_le_of (by decide) h.2.1
theorem g2m {g : DD} (h : GG2 g) : ix (g 0 5) ≤ 4 := ix_le_of (by decide) h.2.2.1
theorem g2c {g : DD} (h : GG2 g) : ix (g 0 1) ≤ 4 := ix_le_of (by decide) h.2.2.2
theorem cnt_in {x c : Int32} {k : Nat} (hk : k < 2147483648) (hc : ∃ n, n ≤ k ∧ c = nI n) (h : wthn x 0 (c - 1) = true) : vp_in x k := by
  obtain ⟨n, hn, rfl⟩ := hc
  have h2 : ¬ x < 0 ∧ ¬ nI n - 1 < x := of_decide_eq_true h
  obtain ⟨j, hj, rfl⟩ := nI_of h2.1
  by_cases h0 : n = 0
  · subst h0
    exfalso
    apply h2.2
    rw [Int32.lt_iff_toInt_lt, nI_toInt hj, show (nI 0 - 1).toInt = -1 by decide]
    omega
  · obtain ⟨m, rfl⟩ : ∃ m, n = m + 1 := ⟨n - 1, by omega⟩
    rw [nI_pred] at h2
    rcases Nat.lt_or_ge m j with q | q
    · exact absurd (nI_lt q hj) h2.2
    · exact vp_in_nI (by omega) (by omega)
theorem pl_in {x : Int32} (h : isPl x = true) : vp_in x 10 := by
  have h2 : ¬ x < 0 ∧ ¬ 9 < x := of_decide_eq_true h
  exact vp_c (M := 10) (by decide) h2.1 (fun q => h2.2 (Int32.lt_of_lt_of_le (by decide) q))
theorem wt_in {x M N : Int32} {n : Nat} (hN : N.toInt = n) (hM : M < N) (h : wthn x 0 M = true) : vp_in x n := by
  have h2 : ¬ x < 0 ∧ ¬ M < x := of_decide_eq_true h
  exact vp_c (M := N) hN h2.1 (fun q => h2.2 (Int32.lt_of_lt_of_le hM q))
theorem full_in {c : Int32} {k : Nat} {M : Int32} (hk : k < 2147483648) (hM : M = nI k) (hc : ∃ n, n ≤ k ∧ c = nI n) (h : ¬ c = M) : vp_in c k := by
  obtain ⟨n, hn, rfl⟩ := hc
  have : n ≠ k := fun e => h (by rw [hM, e])
  exact vp_in_nI (by omega) hk
theorem cpy_lo {f g : Nat → Int32} {n k : Nat} (h : k < n) : va_cpy f g 0 0 n k = f k := by rw [pk_cpy_in (by omega) (by omega)]; congr 1; omega

theorem SI_rows {S S' : DD} (h : SI S) (h1 : S' 1 = S 1) (h3 : S' 3 = S 3) (h12 : S' 12 = S 12) : SI S' := by
  unfold SI; rw [h1, h3, h12]; exact h
theorem SI_bd {S : DD} (h : SI S) {x : Int32} (hx : vp_in x 40) (hn : ¬ S 1 (ix x) = -1) : vp_in (S 1 (ix x)) 24 := (h.2.1 _ (vp_lt hx)).resolve_left hn
-- a wheel
def sWorth (S : DD) (x : Int32) : Int32 :=
  let t0 := S 4 (ix x) - iabs (S 6 (ix x) - 40)
  let t1 := if S 8 (ix x) = 2 ∧ wthn (S 9 (ix x)) 3 6 then t0 + 30 else t0
  let t2 := if S 8 (ix x) = 1 then t1 + 10 else t1
  let t3 := if S 8 (ix x) = 3 then t2 + -40 else t2
  imax 0 t3
def sCatch (S : DD) (x : Int32) : Bool := decide (S 8 (ix x) = 0 ∧ S 5 (ix x) < 8)
def haveS (S : DD) (x m gr f : Int32) : DD := va_up (va_up (va_up S 8 (va_up (S 8) (ix x) m)) 9 (va_up (S 9) (ix x) gr)) 10 (va_up (S 10) (ix x) f)
def sLeave (S : DD) (x st : Int32) : DD := va_up (va_up S 1 (va_up (S 1) (ix (S 3 (ix x))) (-1))) 2 (va_up (S 2) (ix x) st)
def sPut (S : DD) (w p : Int32) : DD := va_up (va_up S 1 (va_up (S 1) (ix p) w)) 3 (va_up (S 3) (ix w) p)
def sWork1 (S : DD) (x what : Int32) : DD :=
  if what = 1 then va_up S 7 (va_up (S 7) (ix x) 0) else if what = 2 then va_up S 5 (va_up (S 5) (ix x) (imin 20 (S 5 (ix x) + 2)))
  else if S 9 (ix x) ≤ 3 then haveS S x 0 0 (-1) else va_up S 9 (va_up (S 9) (ix x) (S 9 (ix x) - 3))
def sWork2 (S : DD) (m x : Int32) : DD :=
  if S 9 (ix x) < 4 then (if S 11 (ix m) ≤ 0 then S else if sCatch S x then haveS S x (S 11 (ix m)) 1 (100 + m) else S)
  else va_up S 11 (va_up (S 11) (ix m) (S 8 (ix x)))
def sWork (S : DD) (m x what : Int32) : DD := sWork2 (sWork1 S x what) m x
theorem haveS_row {S : DD} {x m gr f : Int32} {r : Nat} (h : r ≠ 8 ∧ r ≠ 9 ∧ r ≠ 10) : haveS S x m gr f r = S r := by
  simp [haveS, va_up, h.1, h.2.1, h.2.2]
theorem sWork1_row {S : DD} {x what : Int32} {r : Nat} (h : r ≠ 7 ∧ r ≠ 5 ∧ r ≠ 8 ∧ r ≠ 9 ∧ r ≠ 10) : sWork1 S x what r = S r := by
  unfold sWork1
  split
  · simp [va_up, h.1]
  · split
    · simp [va_up, h.2.1]
    · split
      · exact haveS_row ⟨h.2.2.1, h.2.2.2.1, h.2.2.2.2⟩
      · simp [va_up, h.2.2.2.1]
theorem sWork2_row {S : DD} {m x : Int32} {r : Nat} (h : r ≠ 8 ∧ r ≠ 9 ∧ r ≠ 10 ∧ r ≠ 11) : sWork2 S m x r = S r := by
  unfold sWork2
  split
  · split
    · rfl
    · split
      · exact haveS_row ⟨h.1, h.2.1, h.2.2.1⟩
      · rfl
  · simp [va_up, h.2.2.2]
theorem sWork_row {S : DD} {m x what : Int32} {r : Nat} (h : r ≠ 7 ∧ r ≠ 5 ∧ r ≠ 8 ∧ r ≠ 9 ∧ r ≠ 10 ∧ r ≠ 11) : sWork S m x what r = S r := by
  rw [sWork, sWork2_row ⟨h.2.2.1, h.2.2.2.1, h.2.2.2.2.1, h.2.2.2.2.2⟩, sWork1_row ⟨h.1, h.2.1, h.2.2.1, h.2.2.2.1, h.2.2.2.2.1⟩]
theorem SI_work {S : DD} {m x what : Int32} (h : SI S) : SI (sWork S m x what) := SI_rows h (sWork_row (by decide)) (sWork_row (by decide)) (sWork_row (by decide))
-- a monk's day
def gaPl (S : DD) (m : Int32) (i : Nat) : Int32 := irem (S 12 (ix m) + 1 + nI i) 10
def gaStep (g : DD) (m first what : Int32) (i : Nat) (s : DD × Int32) : DD × Int32 :=
  if g 4 (ix m) ≤ s.2 then s
  else if s.1 1 (ix (10 * g 3 (ix m) + irem (first + nI i) 10)) = -1 then s
  else (let S1 := sWork s.1 m (s.1 1 (ix (10 * g 3 (ix m) + irem (first + nI i) 10))) what
        va_up S1 12 (va_up (S1 12) (ix m) (irem (first + nI i) 10)), s.2 + 1)
def gaLoop (g S : DD) (m first what : Int32) (i : Nat) : DD × Int32 := rep (gaStep g m first what) (S, 0) i
def gaWhat (g S : DD) (m : Int32) : Int32 := g 5 (ix (7 * m + irem (S 0 0) 7))
def goAl (g S : DD) (m : Int32) : DD := if gaWhat g S m = 0 then va_up S 11 (va_up (S 11) (ix m) 0) else (gaLoop g S m (S 12 (ix m) + 1) (gaWhat g S m) 10).1
theorem ga_stop {g S : DD} {m f w : Int32} {i : Nat} (h : g 4 (ix m) ≤ (gaLoop g S m f w i).2) (hi : i ≤ 10) : gaLoop g S m f w 10 = gaLoop g S m f w i := by
  refine rep_stop (fun j => ?_) hi
  show gaStep g m f w j (gaLoop g S m f w i) = gaLoop g S m f w i
  rw [gaStep, if_pos h]
theorem ga_step0 {g S : DD} {m f w : Int32} {i : Nat} (h : ¬ g 4 (ix m) ≤ (gaLoop g S m f w i).2) (h2 : (gaLoop g S m f w i).1 1 (ix (10 * g 3 (ix m) + irem (f + nI i) 10)) = -1) : gaLoop g S m f w (i + 1) = gaLoop g S m f w i := by
  show gaStep g m f w i (gaLoop g S m f w i) = _
  rw [gaStep, if_neg h, if_pos h2]
theorem ga_step1 {g S : DD} {m f w : Int32} {i : Nat} (h : ¬ g 4 (ix m) ≤ (gaLoop g S m f w i).2) (h2 : ¬ (gaLoop g S m f w i).1 1 (ix (10 * g 3 (ix m) + irem (f + nI i) 10)) = -1) : gaLoop g S m f w (i + 1) =
    (va_up (sWork (gaLoop g S m f w i).1 m ((gaLoop g S m f w i).1 1 (ix (10 * g 3 (ix m) + irem (f + nI i) 10))) w) 12 (va_up (sWork (gaLoop g S m f w i).1 m ((gaLoop g S m f w i).1 1 (ix (10 * g 3 (ix m) + irem (f + nI i) 10))) w 12) (ix m) (irem (f + nI i) 10)), (gaLoop g S m f w i).2 + 1) := by
  show gaStep g m f w i (gaLoop g S m f w i) = _
  rw [gaStep, if_neg h, if_neg h2]
theorem SI_last {S : DD} {m x : Int32} (h : SI S) (hx : vp_in x 10) : SI (va_up S 12 (va_up (S 12) (ix m) x)) := by
  refine ⟨h.1, h.2.1, fun k hk => ?_⟩
  by_cases e : k = ix m
  · obtain ⟨j, hj, rfl⟩ := vp_nat hx
    simp only [va_up, e, if_true]
    exact ⟨fun q => by rw [Int32.lt_iff_toInt_lt, nI_toInt (by omega), show (-1 : Int32).toInt = -1 by decide] at q; omega,
      fun q => by rw [Int32.lt_iff_toInt_lt, nI_toInt (by omega), show (9 : Int32).toInt = 9 by decide] at q; omega⟩
  · have : va_up S 12 (va_up (S 12) (ix m) x) 12 k = S 12 k := by simp [va_up, e]
    rw [this]; exact h.2.2 k hk
theorem SI_gaLoop {g S : DD} {m w : Int32} (h : SI S) (hm : vp_in m 4) : ∀ i, i ≤ 10 → SI (gaLoop g S m (S 12 (ix m) + 1) w i).1
  | 0, _ => h
  | i + 1, hi => by
    have ih := SI_gaLoop h hm i (by omega) (g := g) (w := w)
    show SI (gaStep g m _ w i (gaLoop g S m _ w i)).1
    unfold gaStep
    split
    · exact ih
    · split
      · exact ih
      · exact SI_last (SI_work ih) (vp_pl (h.2.2 _ (vp_lt hm)).1 (h.2.2 _ (vp_lt hm)).2 (by omega))
theorem SI_goAl {g S : DD} {m : Int32} (h : SI S) (hm : vp_in m 4) : SI (goAl g S m) := by
  unfold goAl; split
  · exact h
  · exact SI_gaLoop h hm 10 (by omega)
-- leaping
def leapr (bd at_ mo gr dm : WW) (x y : Int32) : Int32 :=
  let o := if wthn (irem (at_ (ix x)) 10 + y) 0 9 then bd (ix (at_ (ix x) + y)) else -1
  if o = -1 then -1 else if mo (ix o) ≤ 0 then -1 else if gr (ix o) < (if dm (ix (at_ (ix x) / 10)) < 6 then 5 else 3) then -1 else o
theorem leapr_in {S : DD} {dm : WW} {x y : Int32} (h : SI S) (hx : vp_in x 24) (hy : y = 1 ∨ y = -1) (hn : ¬ leapr (S 1) (S 3) (S 8) (S 9) dm x y = -1) : vp_in (leapr (S 1) (S 3) (S 8) (S 9) dm x y) 24 := by
  unfold leapr at hn ⊢
  by_cases hw : wthn (irem (S 3 (ix x)) 10 + y) 0 9 = true
  · simp only [hw, if_true] at hn ⊢
    by_cases h1 : S 1 (ix (S 3 (ix x) + y)) = -1
    · rw [if_pos h1] at hn; exact absurd rfl hn
    · rw [if_neg h1] at hn ⊢
      by_cases h2 : S 8 (ix (S 1 (ix (S 3 (ix x) + y)))) ≤ 0
      · rw [if_pos h2] at hn; exact absurd rfl hn
      · rw [if_neg h2] at hn ⊢
        by_cases h3 : S 9 (ix (S 1 (ix (S 3 (ix x) + y)))) < (if dm (ix (S 3 (ix x) / 10)) < 6 then 5 else 3)
        · rw [if_pos h3] at hn; exact absurd rfl hn
        · rw [if_neg h3]
          exact SI_bd h (vp_by (h.1 _ (vp_lt hx)) hy hw) h1
  · simp only [hw, if_false, Bool.false_eq_true, if_true] at hn
    exact absurd trivial hn
def lpA (g S : DD) (i : Nat) : Int32 := leapr (S 1) (S 3) (S 8) (S 9) (g 2) (nI i) (-1)
def lpB (g S : DD) (i : Nat) : Int32 := if lpA g S i = -1 then leapr (S 1) (S 3) (S 8) (S 9) (g 2) (nI i) 1 else lpA g S i
def lpV (g S : DD) (i : Nat) : Int32 :=
  if S 2 (ix (nI i)) = 0 then (if sCatch S (nI i) then (if lpB g S i = -1 then -1 else lpB g S i + 24 * S 8 (ix (lpB g S i))) else -1) else -1
def lpp1 (g S : DD) (n : Nat) : DD := rep (fun i S => va_up S 13 (va_up (S 13) (ix (nI i)) (lpV g S i))) S n
def lpp2 (S : DD) (n : Nat) : DD := rep (fun i S => if S 13 (ix (nI i)) = -1 then S else haveS S (nI i) (S 13 (ix (nI i)) / 24) 1 (irem (S 13 (ix (nI i))) 24)) S n
def leapM (g S : DD) : DD := lpp2 (lpp1 g S (ix (g 0 4))) (ix (g 0 4))
theorem lpp1_row {g S : DD} {n r : Nat} (h : r ≠ 13) : lpp1 g S n r = S r := by
  induction n with
  | zero => rfl
  | succ n ih => show va_up (lpp1 g S n) 13 _ r = S r; rw [va_up_ne _ _ h, ih]
theorem lpp2_row {S : DD} {n r : Nat} (h : r ≠ 8 ∧ r ≠ 9 ∧ r ≠ 10) : lpp2 S n r = S r := by
  induction n with
  | zero => rfl
  | succ n ih =>
    show (if lpp2 S n 13 (ix (nI n)) = -1 then lpp2 S n else haveS (lpp2 S n) _ _ _ _) r = S r
    split
    · exact ih
    · rw [haveS_row h, ih]
theorem leapM_row {g S : DD} {r : Nat} (h : r ≠ 8 ∧ r ≠ 9 ∧ r ≠ 10 ∧ r ≠ 13) : leapM g S r = S r := by
  rw [leapM, lpp2_row ⟨h.1, h.2.1, h.2.2.1⟩, lpp1_row h.2.2.2]
theorem SI_leap {g S : DD} (h : SI S) : SI (leapM g S) := SI_rows h (leapM_row (by decide)) (leapM_row (by decide)) (leapM_row (by decide))
theorem SI_lpp1 {g S : DD} {n : Nat} (h : SI S) : SI (lpp1 g S n) := SI_rows h (lpp1_row (by decide)) (lpp1_row (by decide)) (lpp1_row (by decide))
-- ripening
def rp1_ (g S : DD) (x c : Int32) : DD := if S 8 (ix x) ≤ 0 then S else if 12 ≤ S 5 (ix x) then S else va_up S 9 (va_up (S 9) (ix x) (imin 9 (S 9 (ix x) + (if g 2 (ix c) < 6 then 1 else 2))))
def rp2_ (g S : DD) (x c : Int32) : DD := va_up S 4 (va_up (S 4) (ix x) (imin 100 (S 4 (ix x) + (if S 7 (ix x) < 7 then g 1 (ix c) else g 1 (ix c) / 2))))
def rp3_ (g S : DD) (x c : Int32) : DD := va_up S 6 (va_up (S 6) (ix x) (imax 0 (S 6 (ix x) - (10 - g 2 (ix c)) / 2)))
def rp4_ (S : DD) (x : Int32) : DD := va_up S 7 (va_up (S 7) (ix x) (S 7 (ix x) + 1))
def rpN (g S : DD) (x : Int32) : DD := rp4_ (rp3_ g (rp2_ g (rp1_ g S x (S 3 (ix x) / 10)) x (S 3 (ix x) / 10)) x (S 3 (ix x) / 10)) x
def sRip (g S : DD) (x : Int32) : DD := if (rpN g S x 8 (ix x) = 3 ∧ rpN g S x 9 (ix x) = 9) ∨ rpN g S x 6 (ix x) = 0 then sLeave (rpN g S x) x 2 else rpN g S x
theorem rpN_row {g S : DD} {x : Int32} {r : Nat} (h : r ≠ 4 ∧ r ≠ 6 ∧ r ≠ 7 ∧ r ≠ 9) : rpN g S x r = S r := by
  unfold rpN rp4_ rp3_ rp2_ rp1_
  rw [va_up_ne _ _ h.2.2.1, va_up_ne _ _ h.2.1, va_up_ne _ _ h.1]
  split
  · rfl
  · split
    · rfl
    · rw [va_up_ne _ _ h.2.2.2]
theorem SI_leave {S : DD} {x st : Int32} (h : SI S) : SI (sLeave S x st) := by
  refine ⟨h.1, fun q hq => ?_, h.2.2⟩
  have e : sLeave S x st 1 q = if q = ix (S 3 (ix x)) then -1 else S 1 q := rfl
  rw [e]
  split
  · exact Or.inl rfl
  · exact h.2.1 q hq
theorem sLeave_row {S : DD} {x st : Int32} {r : Nat} (h : r ≠ 1 ∧ r ≠ 2) : sLeave S x st r = S r := by
  unfold sLeave; rw [va_up_ne _ _ h.2, va_up_ne _ _ h.1]
theorem SI_rip {g S : DD} {x : Int32} (h : SI S) : SI (sRip g S x) := by
  have h2 : SI (rpN g S x) := SI_rows h (rpN_row (by decide)) (rpN_row (by decide)) (rpN_row (by decide))
  unfold sRip; split
  · exact SI_leave h2
  · exact h2
-- a day, days
def gaAll (g S : DD) (n : Nat) : DD := rep (fun m S => goAl g S (nI m)) S n
def ripAll (g S : DD) (n : Nat) : DD := rep (fun w S => if S 2 (ix (nI w)) = 0 then sRip g S (nI w) else S) S n
def sDay (S : DD) : DD := va_up S 0 (va_up (S 0) 0 (S 0 0 + 1))
def passM (g S : DD) : DD := sDay (ripAll g (leapM g (gaAll g S (ix (g 0 5)))) (ix (g 0 4)))
def passN (g S : DD) (n : Nat) : DD := rep (fun _ S => passM g S) S n
theorem SI_gaAll {g S : DD} (h : SI S) : ∀ n, n ≤ 4 → SI (gaAll g S n)
  | 0, _ => h
  | n + 1, hn => SI_goAl (SI_gaAll h n (by omega)) (vp_nI (by omega))
theorem SI_ripAll {g S : DD} (h : SI S) : ∀ n, SI (ripAll g S n)
  | 0 => h
  | n + 1 => by
    have ih := SI_ripAll (g := g) h n
    show SI (if ripAll g S n 2 (ix (nI n)) = 0 then sRip g (ripAll g S n) (nI n) else ripAll g S n)
    split
    · exact SI_rip ih
    · exact ih
theorem SI_pass {g S : DD} (hg : GG2 g) (h : SI S) : SI (passM g S) := SI_rows (S := ripAll g (leapM g (gaAll g S (ix (g 0 5)))) (ix (g 0 4))) (SI_ripAll (SI_leap (SI_gaAll h _ (g2m hg))) _) rfl rfl rfl
theorem SI_passN {g S : DD} (hg : GG2 g) (h : SI S) : ∀ n, SI (passN g S n)
  | 0 => h
  | n + 1 => SI_pass hg (SI_passN hg h n)
-- the day itself
theorem gaLoop_row0 {g S : DD} {m f w : Int32} : ∀ i, (gaLoop g S m f w i).1 0 = S 0
  | 0 => rfl
  | i + 1 => by
    have ih := gaLoop_row0 (g := g) (S := S) (m := m) (f := f) (w := w) i
    show (gaStep g m f w i (gaLoop g S m f w i)).1 0 = S 0
    unfold gaStep
    split
    · exact ih
    · split
      · exact ih
      · show sWork (gaLoop g S m f w i).1 m ((gaLoop g S m f w i).1 1 (ix (10 * g 3 (ix m) + irem (f + nI i) 10))) w 0 = S 0
        rw [sWork_row (by decide), ih]
theorem goAl_row0 {g S : DD} {m : Int32} : goAl g S m 0 = S 0 := by
  unfold goAl; split
  · rfl
  · exact gaLoop_row0 10
theorem gaAll_row0 {g S : DD} : ∀ n, gaAll g S n 0 = S 0
  | 0 => rfl
  | n + 1 => by show goAl g (gaAll g S n) (nI n) 0 = S 0; rw [goAl_row0, gaAll_row0 n]
theorem sRip_row0 {g S : DD} {x : Int32} : sRip g S x 0 = S 0 := by
  unfold sRip; split
  · rw [sLeave_row (by decide)]; exact rpN_row (by decide)
  · exact rpN_row (by decide)
theorem ripAll_row0 {g S : DD} : ∀ n, ripAll g S n 0 = S 0
  | 0 => rfl
  | n + 1 => by
    show (if ripAll g S n 2 (ix (nI n)) = 0 then sRip g (ripAll g S n) (nI n) else ripAll g S n) 0 = S 0
    split
    · rw [sRip_row0, ripAll_row0 n]
    · exact ripAll_row0 n
theorem passM_day {g S : DD} : passM g S 0 0 = S 0 0 + 1 := by
  show ripAll g _ _ 0 0 + 1 = _
  rw [ripAll_row0, leapM_row (by decide), gaAll_row0]
/-- the day is known, and has room above it -/
def DY (S : DD) (b : Nat) : Prop := ∃ n, n ≤ b ∧ S 0 0 = nI n
theorem DY_nn {S : DD} {b : Nat} (h : DY S b) (hb : b < 2147483648) : ¬ S 0 0 < 0 := by
  obtain ⟨n, hn, e⟩ := h
  rw [e]; exact nI_pos (by omega)
theorem DY_row {S S' : DD} {b : Nat} (h : DY S b) (e : S' 0 = S 0) : DY S' b := by unfold DY; rw [e]; exact h
theorem DY_pass {g S : DD} {b : Nat} (h : DY S b) : DY (passM g S) (b + 1) := by
  obtain ⟨n, hn, e⟩ := h
  exact ⟨n + 1, by omega, by rw [passM_day, e, nI_1]⟩
theorem DY_passN {g S : DD} {b : Nat} (h : DY S b) : ∀ n, DY (passN g S n) (b + n)
  | 0 => h
  | n + 1 => DY_pass (DY_passN h n)
-- counts
def manyS (g S : DD) (st : Int32) (i : Nat) : Int32 := rep (fun i a => a + (if S 2 (ix (nI i)) = st then 1 else 0)) 0 i
def mouldyS (g S : DD) (i : Nat) : Int32 := rep (fun i a => a + (if S 2 (ix (nI i)) = 0 then (if S 8 (ix (nI i)) ≤ 0 then 0 else 1) else 0)) 0 i
def worthAS (S : DD) (i : Nat) : Int32 := rep (fun i a => a + (if S 2 (ix (nI i)) = 0 then sWorth S (nI i) else 0)) 0 i
def worthNowS (S : DD) (x : Int32) : Int32 := if S 2 (ix x) = 0 then sWorth S x else 0
theorem rp_at {S S' : DD} {x : Int32} (h : SI S) (hx : vp_in x 24) (e : S' 3 = S 3 := by rfl) : vp_in (S' 3 (ix x)) 40 := by rw [e]; exact h.1 _ (vp_lt hx)
theorem cpyS1 {G : GG} {X : XX} {o : OO} {D : DD} {a b c : Nat} (h : a = 0 ∧ b = 0 ∧ c = 40) : (sysW G (va_up X 4 D) o).set (cn 4 1) (gA G (cn 4 1), eI G 40 (va_cpy ((va_up X 4 D) 3 1) ((va_up X 4 D) 4 1) a b c)) = sysW G (va_up X 4 (va_up D 1 (va_cpy (X 3 1) (D 1) 0 0 40))) o := by
  obtain ⟨rfl, rfl, rfl⟩ := h
  rw [show (va_up X 4 D) 3 = X 3 from va_up_ne _ _ (by decide), show (va_up X 4 D) 4 = D from va_up_self _ _ _]
  exact (set_si (i := 1) (Or.inr rfl) (by omega) (by omega)).trans (by rw [uF])
theorem cpyS2 {G : GG} {X : XX} {o : OO} {D : DD} {a b c : Nat} (h : a = 0 ∧ b = 0 ∧ c = 24) : (sysW G (va_up X 4 D) o).set (cn 4 2) (gA G (cn 4 2), eI G 24 (va_cpy ((va_up X 4 D) 3 2) ((va_up X 4 D) 4 2) a b c)) = sysW G (va_up X 4 (va_up D 2 (va_cpy (X 3 2) (D 2) 0 0 24))) o := by
  obtain ⟨rfl, rfl, rfl⟩ := h
  rw [show (va_up X 4 D) 3 = X 3 from va_up_ne _ _ (by decide), show (va_up X 4 D) 4 = D from va_up_self _ _ _]
  exact (set_si (i := 2) (Or.inr rfl) (by omega) (by omega)).trans (by rw [uF])
theorem cpyS3 {G : GG} {X : XX} {o : OO} {D : DD} {a b c : Nat} (h : a = 0 ∧ b = 0 ∧ c = 24) : (sysW G (va_up X 4 D) o).set (cn 4 3) (gA G (cn 4 3), eI G 24 (va_cpy ((va_up X 4 D) 3 3) ((va_up X 4 D) 4 3) a b c)) = sysW G (va_up X 4 (va_up D 3 (va_cpy (X 3 3) (D 3) 0 0 24))) o := by
  obtain ⟨rfl, rfl, rfl⟩ := h
  rw [show (va_up X 4 D) 3 = X 3 from va_up_ne _ _ (by decide), show (va_up X 4 D) 4 = D from va_up_self _ _ _]
  exact (set_si (i := 3) (Or.inr rfl) (by omega) (by omega)).trans (by rw [uF])
theorem cpyS4 {G : GG} {X : XX} {o : OO} {D : DD} {a b c : Nat} (h : a = 0 ∧ b = 0 ∧ c = 24) : (sysW G (va_up X 4 D) o).set (cn 4 4) (gA G (cn 4 4), eI G 24 (va_cpy ((va_up X 4 D) 3 4) ((va_up X 4 D) 4 4) a b c)) = sysW G (va_up X 4 (va_up D 4 (va_cpy (X 3 4) (D 4) 0 0 24))) o := by
  obtain ⟨rfl, rfl, rfl⟩ := h
  rw [show (va_up X 4 D) 3 = X 3 from va_up_ne _ _ (by decide), show (va_up X 4 D) 4 = D from va_up_self _ _ _]
  exact (set_si (i := 4) (Or.inr rfl) (by omega) (by omega)).trans (by rw [uF])
theorem cpyS5 {G : GG} {X : XX} {o : OO} {D : DD} {a b c : Nat} (h : a = 0 ∧ b = 0 ∧ c = 24) : (sysW G (va_up X 4 D) o).set (cn 4 5) (gA G (cn 4 5), eI G 24 (va_cpy ((va_up X 4 D) 3 5) ((va_up X 4 D) 4 5) a b c)) = sysW G (va_up X 4 (va_up D 5 (va_cpy (X 3 5) (D 5) 0 0 24))) o := by
  obtain ⟨rfl, rfl, rfl⟩ := h
  rw [show (va_up X 4 D) 3 = X 3 from va_up_ne _ _ (by decide), show (va_up X 4 D) 4 = D from va_up_self _ _ _]
  exact (set_si (i := 5) (Or.inr rfl) (by omega) (by omega)).trans (by rw [uF])
theorem cpyS6 {G : GG} {X : XX} {o : OO} {D : DD} {a b c : Nat} (h : a = 0 ∧ b = 0 ∧ c = 24) : (sysW G (va_up X 4 D) o).set (cn 4 6) (gA G (cn 4 6), eI G 24 (va_cpy ((va_up X 4 D) 3 6) ((va_up X 4 D) 4 6) a b c)) = sysW G (va_up X 4 (va_up D 6 (va_cpy (X 3 6) (D 6) 0 0 24))) o := by
  obtain ⟨rfl, rfl, rfl⟩ := h
  rw [show (va_up X 4 D) 3 = X 3 from va_up_ne _ _ (by decide), show (va_up X 4 D) 4 = D from va_up_self _ _ _]
  exact (set_si (i := 6) (Or.inr rfl) (by omega) (by omega)).trans (by rw [uF])
theorem cpyS7 {G : GG} {X : XX} {o : OO} {D : DD} {a b c : Nat} (h : a = 0 ∧ b = 0 ∧ c = 24) : (sysW G (va_up X 4 D) o).set (cn 4 7) (gA G (cn 4 7), eI G 24 (va_cpy ((va_up X 4 D) 3 7) ((va_up X 4 D) 4 7) a b c)) = sysW G (va_up X 4 (va_up D 7 (va_cpy (X 3 7) (D 7) 0 0 24))) o := by
  obtain ⟨rfl, rfl, rfl⟩ := h
  rw [show (va_up X 4 D) 3 = X 3 from va_up_ne _ _ (by decide), show (va_up X 4 D) 4 = D from va_up_self _ _ _]
  exact (set_si (i := 7) (Or.inr rfl) (by omega) (by omega)).trans (by rw [uF])
theorem cpyS8 {G : GG} {X : XX} {o : OO} {D : DD} {a b c : Nat} (h : a = 0 ∧ b = 0 ∧ c = 24) : (sysW G (va_up X 4 D) o).set (cn 4 8) (gA G (cn 4 8), eI G 24 (va_cpy ((va_up X 4 D) 3 8) ((va_up X 4 D) 4 8) a b c)) = sysW G (va_up X 4 (va_up D 8 (va_cpy (X 3 8) (D 8) 0 0 24))) o := by
  obtain ⟨rfl, rfl, rfl⟩ := h
  rw [show (va_up X 4 D) 3 = X 3 from va_up_ne _ _ (by decide), show (va_up X 4 D) 4 = D from va_up_self _ _ _]
  exact (set_si (i := 8) (Or.inr rfl) (by omega) (by omega)).trans (by rw [uF])
theorem cpyS9 {G : GG} {X : XX} {o : OO} {D : DD} {a b c : Nat} (h : a = 0 ∧ b = 0 ∧ c = 24) : (sysW G (va_up X 4 D) o).set (cn 4 9) (gA G (cn 4 9), eI G 24 (va_cpy ((va_up X 4 D) 3 9) ((va_up X 4 D) 4 9) a b c)) = sysW G (va_up X 4 (va_up D 9 (va_cpy (X 3 9) (D 9) 0 0 24))) o := by
  obtain ⟨rfl, rfl, rfl⟩ := h
  rw [show (va_up X 4 D) 3 = X 3 from va_up_ne _ _ (by decide), show (va_up X 4 D) 4 = D from va_up_self _ _ _]
  exact (set_si (i := 9) (Or.inr rfl) (by omega) (by omega)).trans (by rw [uF])
theorem cpyS10 {G : GG} {X : XX} {o : OO} {D : DD} {a b c : Nat} (h : a = 0 ∧ b = 0 ∧ c = 24) : (sysW G (va_up X 4 D) o).set (cn 4 10) (gA G (cn 4 10), eI G 24 (va_cpy ((va_up X 4 D) 3 10) ((va_up X 4 D) 4 10) a b c)) = sysW G (va_up X 4 (va_up D 10 (va_cpy (X 3 10) (D 10) 0 0 24))) o := by
  obtain ⟨rfl, rfl, rfl⟩ := h
  rw [show (va_up X 4 D) 3 = X 3 from va_up_ne _ _ (by decide), show (va_up X 4 D) 4 = D from va_up_self _ _ _]
  exact (set_si (i := 10) (Or.inr rfl) (by omega) (by omega)).trans (by rw [uF])
theorem cpyS11 {G : GG} {X : XX} {o : OO} {D : DD} {a b c : Nat} (h : a = 0 ∧ b = 0 ∧ c = 4) : (sysW G (va_up X 4 D) o).set (cn 4 11) (gA G (cn 4 11), eI G 4 (va_cpy ((va_up X 4 D) 3 11) ((va_up X 4 D) 4 11) a b c)) = sysW G (va_up X 4 (va_up D 11 (va_cpy (X 3 11) (D 11) 0 0 4))) o := by
  obtain ⟨rfl, rfl, rfl⟩ := h
  rw [show (va_up X 4 D) 3 = X 3 from va_up_ne _ _ (by decide), show (va_up X 4 D) 4 = D from va_up_self _ _ _]
  exact (set_si (i := 11) (Or.inr rfl) (by omega) (by omega)).trans (by rw [uF])
theorem cpyS12 {G : GG} {X : XX} {o : OO} {D : DD} {a b c : Nat} (h : a = 0 ∧ b = 0 ∧ c = 4) : (sysW G (va_up X 4 D) o).set (cn 4 12) (gA G (cn 4 12), eI G 4 (va_cpy ((va_up X 4 D) 3 12) ((va_up X 4 D) 4 12) a b c)) = sysW G (va_up X 4 (va_up D 12 (va_cpy (X 3 12) (D 12) 0 0 4))) o := by
  obtain ⟨rfl, rfl, rfl⟩ := h
  rw [show (va_up X 4 D) 3 = X 3 from va_up_ne _ _ (by decide), show (va_up X 4 D) 4 = D from va_up_self _ _ _]
  exact (set_si (i := 12) (Or.inr rfl) (by omega) (by omega)).trans (by rw [uF])
/-- what the state ahead is behind become -/
def becomeS (A S : DD) : DD :=
  (va_up (va_up (va_up (va_up (va_up (va_up (va_up (va_up (va_up (va_up (va_up (va_up (va_up A 0 (va_up (A 0) 0 (S 0 0))) 1 (va_cpy (S 1) (A 1) 0 0 40)) 2 (va_cpy (S 2) (A 2) 0 0 24)) 3 (va_cpy (S 3) (A 3) 0 0 24)) 4 (va_cpy (S 4) (A 4) 0 0 24)) 5 (va_cpy (S 5) (A 5) 0 0 24)) 6 (va_cpy (S 6) (A 6) 0 0 24)) 7 (va_cpy (S 7) (A 7) 0 0 24)) 8 (va_cpy (S 8) (A 8) 0 0 24)) 9 (va_cpy (S 9) (A 9) 0 0 24)) 10 (va_cpy (S 10) (A 10) 0 0 24)) 11 (va_cpy (S 11) (A 11) 0 0 4)) 12 (va_cpy (S 12) (A 12) 0 0 4))
theorem become_row {A S : DD} {k : Nat} : becomeS A S 1 k = va_cpy (S 1) (A 1) 0 0 40 k ∧ becomeS A S 3 k = va_cpy (S 3) (A 3) 0 0 24 k ∧ becomeS A S 12 k = va_cpy (S 12) (A 12) 0 0 4 k ∧ becomeS A S 0 0 = S 0 0 := ⟨rfl, rfl, rfl, rfl⟩
theorem SI_become {A S : DD} (h : SI S) : SI (becomeS A S) :=
  ⟨fun w hw => by rw [become_row.2.1, cpy_lo hw]; exact h.1 w hw, fun q hq => by rw [become_row.1, cpy_lo hq]; exact h.2.1 q hq, fun m hm => by rw [(become_row (k := m)).2.2.1, cpy_lo hm]; exact h.2.2 m hm⟩
theorem DY_become {A S : DD} {b : Nat} (h : DY S b) : DY (becomeS A S) b := by
  obtain ⟨n, hn, e⟩ := h
  exact ⟨n, hn, by rw [(become_row (k := 0)).2.2.2]; exact e⟩
-- the reference itself
def setT (g : DD) (x : Int32) : DD := va_up g 0 (va_up (g 0) 0 x)
def airOk (a b : Int32) : Bool := wthn a 0 9 && wthn b 0 9
def mBuild (g : DD) (a b : Int32) : DD :=
  if airOk a b then (if g 0 1 = 4 then setT g 2 else
    va_up (va_up (va_up (setT g 0) 1 (va_up (g 1) (ix (g 0 1)) a)) 2 (va_up (g 2) (ix (g 0 1)) b)) 0 (va_up (setT g 0 0) 1 (g 0 1 + 1))) else setT g 1
def vBuildM (g : DD) (a b : Int32) : Int32 := if airOk a b then (if g 0 1 = 4 then 0 else g 0 1 + 1 - 1) else 0
theorem setT_setT {g : DD} {x y : Int32} : va_up (setT g x) 0 (va_up (va_up (g 0) 0 x) 0 y) = setT g y := by
  unfold setT; rw [va_up_up, va_up_up]
