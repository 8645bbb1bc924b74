/-! CLASS AND REFERENCE: all monks of a day -/
section RelO
variable {nc nw nm : Nat} {D g S : DD} {fr : Prop}
/-- what the rota can say -/
def GR (g : DD) : Prop := ∀ q, q < 28 → ∃ k, k ≤ 3 ∧ g 5 q = nI k
theorem RF_monk (h : RF fr nc nw nm D g S) (hgr : GR g) {b : Nat} (hy : DY S b) (hb : b < 2147483648) {m : Nat} (hm : m < nm) : RF fr nc nw nm (monkW D (nI m)) g (goAl g S (nI m)) := by
  have hh := h.1.1.1
  have z := h.1.2.2.2.2.2.1 m hm
  obtain ⟨c, hc, e0, e0'⟩ := z.1
  obtain ⟨j, hj, e12⟩ := z.2.2.2.2.2.1
  obtain ⟨n, hn, ey⟩ := hy
  have h7 := Nat.mod_lt n (show 0 < 7 by decide)
  have hx : ix (nI m) = m := ix_nI (by omega)
  have ew : gaWhat g S (nI m) = g 5 (7 * m + n % 7) := by
    rw [gaWhat, ey, show irem (nI n) 7 = nI (n % 7) from irem_nI (by omega) (by decide) (by decide), seven_nat, ix_nI (by omega)]
  have ed : wOn (D (36 + m)) (D 40 0) = g 5 (7 * m + n % 7) := by
    rw [h.1.2.1, ey, wOn_nat _ (by omega)]; exact z.2.2.2.2.2.2 _ h7
  obtain ⟨t, ht, et⟩ := hgr (7 * m + n % 7) (by omega)
  have im : inM D (nI m) = true := by rw [inM_eq h.1.1]; exact mI_of h.1.1 hm
  have ic : inC D (nI c) = true := by rw [inC_eq h.1.1]; exact cI_of h.1.1 hc
  rw [monkW, if_pos im, hx, ed, goAl, ew, et, hx]
  by_cases k : nI t = 0
  · rw [if_pos k, if_pos k]
    refine RF_mk h hm (fun r hr _ => va_up_ne _ _ hr) (fun r q hq => colj r hq) ⟨rfl, rfl, ?_, z.2.2.2.1⟩ ⟨0, by omega, coli⟩ z.2.2.2.2.2.1
    rw [coli]; rfl
  · rw [if_neg k, if_neg k, e0, if_pos ic, ix_nI (show c < 2147483648 by omega), z.2.2.2.1, e12]
    refine (RF_mwLoop h hm hc e0' ?_ hj 10 (Nat.le_refl _)).1
    rcases (show t = 0 ∨ t = 1 ∨ t = 2 ∨ t = 3 by omega) with q | q | q | q
    · subst q; exact absurd rfl k
    · exact Or.inl q
    · exact Or.inr (Or.inl q)
    · exact Or.inr (Or.inr q)
theorem RF_monks (h : RF fr nc nw nm D g S) (hgr : GR g) {b : Nat} (hy : DY S b) (hb : b < 2147483648) : ∀ n, n ≤ nm → RF fr nc nw nm (monksW D n) g (gaAll g S n)
  | 0, _ => h
  | n + 1, hn => RF_monk (RF_monks h hgr hy hb n (by omega)) hgr (DY_row hy (gaAll_row0 n)) hb (by omega)
theorem monksW_ge (h : RF fr nc nw nm D g S) (hgr : GR g) {b : Nat} (hy : DY S b) (hb : b < 2147483648) : ∀ n, nm ≤ n → n ≤ 4 → RF fr nc nw nm (monksW D n) g (gaAll g S nm)
  | 0, h1, _ => by
    obtain rfl : nm = 0 := by omega
    exact h
  | n + 1, h1, h2 => by
    by_cases e : nm = n + 1
    · subst e; exact RF_monks h hgr hy hb _ (Nat.le_refl _)
    · have ih := monksW_ge h hgr hy hb n (by omega) (by omega)
      show RF fr nc nw nm (monkW (monksW D n) (nI n)) g _
      have hh := ih.1.1.1
      have im : inM (monksW D n) (nI n) = false := by
        rw [inM_eq ih.1.1]
        refine decide_eq_false fun q => q.2 ?_
        rw [ih.1.1.2.2.2.2, nIm1_lt (by omega) (by omega)]; omega
      rw [monkW, im, if_neg (by decide)]
      exact ih
end RelO
