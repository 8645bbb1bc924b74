/-! WHAT HOLDS AT EVERY CALL: class and reference are tied, and the reference's contracts have what they want; a call of each name -/
def J3 (g : DD) : Prop := ∀ m, m < 4 → vp_in (g 3 m) 4
def JJ (b : Nat) (D g S : DD) : Prop := Both D g S ∧ SI S ∧ J3 g ∧ GR g ∧ DY S b
section JJs
variable {b : Nat} {D g S : DD}
theorem JJ_g2 (h : JJ b D g S) : GG2 g := by
  obtain ⟨⟨nc, nw, nm, hr, hf⟩, hs, h3, hgr, hy⟩ := h
  have hn := hr.1
  exact ⟨h3, ⟨nw, hn.1.2.1, hn.2.2.2.1⟩, ⟨nm, hn.1.2.2, hn.2.2.2.2⟩, nc, hn.1.1, hn.2.2.1⟩
theorem JJ_set (h : JJ b D g S) (k : Int32) : JJ b D (setT g k) S := by
  obtain ⟨⟨nc, nw, nm, hr, hf⟩, hs, h3, hgr, hy⟩ := h
  exact ⟨⟨nc, nw, nm, Rel_setT hr, Fr_setT hf⟩, hs, h3, hgr, hy⟩
theorem DY_mono {b' : Nat} (h : DY S b) (hb : b ≤ b') : DY S b' := by
  obtain ⟨n, hn, e⟩ := h
  exact ⟨n, by omega, e⟩
theorem JJ_mono {b' : Nat} (h : JJ b D g S) (hb : b ≤ b') : JJ b' D g S := ⟨h.1, h.2.1, h.2.2.1, h.2.2.2.1, DY_mono h.2.2.2.2 hb⟩
/-- what becomes of J3, GR where the rows 3 and 5 stay -/
theorem J3_row {g' : DD} (h : J3 g) (e : g' 3 = g 3) : J3 g' := by unfold J3; rw [e]; exact h
theorem GR_row {g' : DD} (h : GR g) (e : g' 5 = g 5) : GR g' := by unfold GR; rw [e]; exact h
theorem go_build (h : JJ b D g S) (h0 : g 0 0 = 0) (p q : Int32) : kBuild D p q = mBuild2 g p q 0 0 ∧ (kBuild D p q = 0 → D 40 2 = vBuildM g p q) ∧ JJ (b + 100) (if kBuild D p q = 0 then addC D p q else D) (mBuild2 g p q) S := by
  obtain ⟨⟨nc, nw, nm, hr, hf⟩, hs, h3, hgr, hy⟩ := h
  obtain ⟨x, y, z⟩ := sim_build hr hf h0 p q
  exact ⟨x, y, z, hs, J3_row h3 (by unfold mBuild2; (repeat' split) <;> rfl), GR_row hgr (by unfold mBuild2; (repeat' split) <;> rfl), DY_mono hy (by omega)⟩
theorem go_air (h : JJ b D g S) (h0 : g 0 0 = 0) (c p q : Int32) : kAir D c p q = mAir g c p q 0 0 ∧ (kAir D c p q = 0 → vAir D c = vAirM g c p q) ∧ JJ (b + 100) (if kAir D c p q = 0 then dAir D c p q else D) (mAir g c p q) S := by
  obtain ⟨⟨nc, nw, nm, hr, hf⟩, hs, h3, hgr, hy⟩ := h
  obtain ⟨x, y, z, w⟩ := sim_air hr hf h0 c p q
  exact ⟨x, y, ⟨nc, nw, nm, z, w⟩, hs, J3_row h3 (by unfold mAir; (repeat' split) <;> rfl), GR_row hgr (by unfold mAir; (repeat' split) <;> rfl), DY_mono hy (by omega)⟩
theorem sMake1_row {w p : Int32} {r : Nat} (h : r ≠ 6 ∧ r ≠ 10) : sMake1 S w p r = sPut S w p r := by
  unfold sMake1 sMk1
  rw [va_up_ne _ _ h.2, va_up_ne _ _ h.1]
theorem sPut_row {w p : Int32} {r : Nat} (h : r ≠ 1 ∧ r ≠ 3) : sPut S w p r = S r := by
  unfold sPut
  rw [va_up_ne _ _ h.2, va_up_ne _ _ h.1]
theorem sMake_row0 {c p : Int32} : sMake g S c p 0 = S 0 := by
  unfold sMake
  split
  · split
    · split
      · rfl
      · split
        · rw [sMake1_row (by decide), sPut_row (by decide)]
        · rfl
    · rfl
  · rfl
theorem go_make (h : JJ b D g S) (h0 : g 0 0 = 0) (c p : Int32) : kMake D c p = mMake g S c p 0 0 ∧ (kMake D c p = 0 → D 40 3 = vMakeM g S c p) ∧ JJ (b + 100) (if kMake D c p = 0 then addW D c p else D) (mMake g S c p) (sMake g S c p) := by
  have hg := JJ_g2 h
  obtain ⟨⟨nc, nw, nm, hr, hf⟩, hs, h3, hgr, hy⟩ := h
  obtain ⟨x, y, z⟩ := sim_make hr hf h0 c p
  refine ⟨x, y, z, ?_, J3_row h3 (by unfold mMake; (repeat' split) <;> rfl), GR_row hgr (by unfold mMake; (repeat' split) <;> rfl), DY_mono (DY_row hy sMake_row0) (by omega)⟩
  unfold sMake
  by_cases h1 : cI g c = true
  · rw [if_pos h1]
    by_cases h2 : isPl p = true
    · rw [if_pos h2]
      by_cases h4 : g 0 4 = 24
      · rw [if_pos h4]; exact hs
      · rw [if_neg h4]
        split
        · exact SI_rows (S := sPut S (g 0 4) (10 * c + p)) (SI_put hs (full_in (k := 24) (by decide) rfl hg.2.1 h4) (vp_bd (cI_in hg h1) (pl_in h2))) (sMake1_row (by decide)) (sMake1_row (by decide)) (sMake1_row (by decide))
        · exact hs
    · rw [if_neg h2]; exact hs
  · rw [if_neg h1]; exact hs
theorem go_carry (h : JJ b D g S) (h0 : g 0 0 = 0) (w c p : Int32) : kCarry D w c p = mCarry g S w c p 0 0 ∧ (kCarry D w c p = 0 → vCarry D w = vCarryM g S w c p) ∧ JJ (b + 100) (if kCarry D w c p = 0 then moveW D w c p else D) (mCarry g S w c p) (sCarry g S w c p) := by
  have hg := JJ_g2 h
  obtain ⟨⟨nc, nw, nm, hr, hf⟩, hs, h3, hgr, hy⟩ := h
  obtain ⟨x, y, z, z2⟩ := sim_carry hr hf h0 w c p
  refine ⟨x, y, ⟨nc, nw, nm, z, z2⟩, ?_, J3_row h3 (by unfold mCarry; (repeat' split) <;> rfl), GR_row hgr (by unfold mCarry; (repeat' split) <;> rfl), DY_mono (DY_row hy (by unfold sCarry; (repeat' split) <;> rfl)) (by omega)⟩
  unfold sCarry
  by_cases h1 : cOk g w c p = true
  · rw [if_pos h1]
    simp only [cOk, Bool.and_eq_true] at h1
    split
    · split
      · exact SI_put (SI_free hs) (wI_in hg h1.1) (vp_bd (cI_in hg h1.2.1) (pl_in h1.2.2))
      · exact hs
    · exact hs
  · rw [if_neg h1]; exact hs
theorem go_infect (h : JJ b D g S) (h0 : g 0 0 = 0) (w m : Int32) : kInfect D w m = mInf g S w m 0 0 ∧ (kInfect D w m = 0 → D (ix w) 7 = vInfM g S w m) ∧ JJ (b + 100) (if kInfect D w m = 0 then dInfect D w m else D) (mInf g S w m) (sInf g S w m) := by
  obtain ⟨⟨nc, nw, nm, hr, hf⟩, hs, h3, hgr, hy⟩ := h
  obtain ⟨x, y, z, z2⟩ := sim_infect hr hf h0 w m
  refine ⟨x, y, ⟨nc, nw, nm, z, z2⟩, ?_, J3_row h3 (by unfold mInf; (repeat' split) <;> rfl), GR_row hgr (by unfold mInf; (repeat' split) <;> rfl), DY_mono (DY_row hy (by unfold sInf; (repeat' split) <;> rfl)) (by omega)⟩
  unfold sInf
  repeat' split
  all_goals first | exact hs | exact SI_rows hs (haveS_row (by decide)) (haveS_row (by decide)) (haveS_row (by decide))
theorem go_sell (h : JJ b D g S) (h0 : g 0 0 = 0) (w : Int32) : kSell D w = mSell g S w 0 0 ∧ (kSell D w = 0 → worth (D (ix w)) = vSellM g S w) ∧ JJ (b + 100) (if kSell D w = 0 then dSell D w else D) (mSell g S w) (sSell g S w) := by
  obtain ⟨⟨nc, nw, nm, hr, hf⟩, hs, h3, hgr, hy⟩ := h
  obtain ⟨x, y, z, z2⟩ := sim_sell hr hf h0 w
  refine ⟨x, y, ⟨nc, nw, nm, z, z2⟩, ?_, J3_row h3 (by unfold mSell; (repeat' split) <;> rfl), GR_row hgr (by unfold mSell; (repeat' split) <;> rfl), DY_mono (DY_row hy (by unfold sSell; (repeat' split) <;> rfl)) (by omega)⟩
  unfold sSell
  repeat' split
  all_goals first | exact hs | exact SI_leave hs
theorem go_hire (h : JJ b D g S) (h0 : g 0 0 = 0) (c k : Int32) : kHire D c k = mHire g c k 0 0 ∧ (kHire D c k = 0 → D 40 4 = vHireM g c k) ∧ JJ (b + 100) (if kHire D c k = 0 then addM D c k else D) (mHire g c k) (sHire g S c k) := by
  have hg := JJ_g2 h
  obtain ⟨⟨nc, nw, nm, hr, hf⟩, hs, h3, hgr, hy⟩ := h
  obtain ⟨x, y, z⟩ := sim_hire hr hf h0 c k
  refine ⟨x, y, z, ?_, ?_, GR_row hgr (by unfold mHire; (repeat' split) <;> rfl), DY_mono (DY_row hy (by unfold sHire; (repeat' split) <;> rfl)) (by omega)⟩
  · unfold sHire
    repeat' split
    all_goals first
      | exact hs
      | (refine ⟨hs.1, hs.2.1, fun m hm => ?_⟩
         show ¬ (if m = ix (g 0 5) then (-1 : Int32) else S 12 m) < -1 ∧ ¬ 9 < (if m = ix (g 0 5) then (-1 : Int32) else S 12 m)
         split
         · exact ⟨by decide, by decide⟩
         · exact hs.2.2 m hm)
  · unfold mHire
    by_cases h1 : cI g c = true
    · rw [if_pos h1]
      repeat' split
      all_goals first
        | exact J3_row h3 rfl
        | (intro m hm
           show vp_in (if m = ix (g 0 5) then c else g 3 m) 4
           split
           · exact cI_in hg h1
           · exact h3 m hm)
    · rw [if_neg h1]; exact J3_row h3 rfl
theorem go_setRota (h : JJ b D g S) (h0 : g 0 0 = 0) (m y k : Int32) : kRota D m y k = mRota g m y k 0 0 ∧ (kRota D m y k = 0 → wOn (D (36 + ix m)) y = vRotaM g m y k) ∧ JJ (b + 100) (if kRota D m y k = 0 then dRota D m y k else D) (mRota g m y k) S := by
  obtain ⟨⟨nc, nw, nm, hr, hf⟩, hs, h3, hgr, hy⟩ := h
  obtain ⟨x, e, z, z2⟩ := sim_rota hr hf h0 m y k
  refine ⟨x, e, ⟨nc, nw, nm, z, z2⟩, hs, J3_row h3 (by unfold mRota; (repeat' split) <;> rfl), ?_, DY_mono hy (by omega)⟩
  unfold mRota
  by_cases hk : wthn k 0 3 = true
  · rw [if_pos hk]
    repeat' split
    all_goals first
      | exact GR_row hgr rfl
      | (intro q hq
         show ∃ j, j ≤ 3 ∧ (if q = ix (7 * m + y) then k else g 5 q) = nI j
         split
         · obtain ⟨j, hj, ej⟩ := wthn_nat (n := 4) (by decide) (by decide) (by decide) hk
           exact ⟨j, by omega, ej⟩
         · exact hgr q hq)
  · rw [if_neg hk]
    repeat' split
    all_goals exact GR_row hgr rfl
theorem go_wheel (h : JJ b D g S) (h0 : g 0 0 = 0) (w x : Int32) : kWheel D w x = mWheel g w x 0 0 ∧ (kWheel D w x = 0 → wFact (D (ix w)) x = vWheelM g S w x) ∧ JJ (b + 100) D (mWheel g w x) S := by
  obtain ⟨⟨nc, nw, nm, hr, hf⟩, hs, h3, hgr, hy⟩ := h
  obtain ⟨x1, y, z⟩ := sim_wheel hr h0 w x
  exact ⟨x1, y, ⟨nc, nw, nm, z, by unfold mWheel; (repeat' split) <;> exact hf⟩, hs, J3_row h3 (by unfold mWheel; (repeat' split) <;> rfl), GR_row hgr (by unfold mWheel; (repeat' split) <;> rfl), DY_mono hy (by omega)⟩
theorem go_cellar (h : JJ b D g S) (h0 : g 0 0 = 0) (c x : Int32) : kCellar D c x = mCellar g c x 0 0 ∧ (kCellar D c x = 0 → ceFact D c x = vCellarM g S c x) ∧ JJ (b + 100) D (mCellar g c x) S := by
  obtain ⟨⟨nc, nw, nm, hr, hf⟩, hs, h3, hgr, hy⟩ := h
  obtain ⟨x1, y, z⟩ := sim_cellar hr h0 c x
  exact ⟨x1, y, ⟨nc, nw, nm, z, by unfold mCellar; (repeat' split) <;> exact hf⟩, hs, J3_row h3 (by unfold mCellar; (repeat' split) <;> rfl), GR_row hgr (by unfold mCellar; (repeat' split) <;> rfl), DY_mono hy (by omega)⟩
theorem go_at (h : JJ b D g S) (h0 : g 0 0 = 0) (c p : Int32) : kAt D c p = mAt g c p 0 0 ∧ (kAt D c p = 0 → wAt (D (28 + ix c)) p = vAtM g S c p) ∧ JJ (b + 100) D (mAt g c p) S := by
  obtain ⟨⟨nc, nw, nm, hr, hf⟩, hs, h3, hgr, hy⟩ := h
  obtain ⟨x1, y, z⟩ := sim_at hr h0 c p
  exact ⟨x1, y, ⟨nc, nw, nm, z, by unfold mAt; (repeat' split) <;> exact hf⟩, hs, J3_row h3 (by unfold mAt; (repeat' split) <;> rfl), GR_row hgr (by unfold mAt; (repeat' split) <;> rfl), DY_mono hy (by omega)⟩
theorem go_monk (h : JJ b D g S) (h0 : g 0 0 = 0) (hb : b < 2147483648) (m x : Int32) : kMonk D m x = mMonk g m x 0 0 ∧ (kMonk D m x = 0 → mFact (D (32 + ix m)) (D (36 + ix m)) x (D 40 0) = vMonkM g S m x) ∧ JJ (b + 100) D (mMonk g m x) S := by
  obtain ⟨⟨nc, nw, nm, hr, hf⟩, hs, h3, hgr, hy⟩ := h
  obtain ⟨x1, y, z⟩ := sim_monk hr h0 hy hb m x
  exact ⟨x1, y, ⟨nc, nw, nm, z, by unfold mMonk; (repeat' split) <;> exact hf⟩, hs, J3_row h3 (by unfold mMonk; (repeat' split) <;> rfl), GR_row hgr (by unfold mMonk; (repeat' split) <;> rfl), DY_mono hy (by omega)⟩
theorem go_count (h : JJ b D g S) (h0 : g 0 0 = 0) (x : Int32) : kCount D x = mCount g x 0 0 ∧ (kCount D x = 0 → dFact D x = vCountM g S x) ∧ JJ (b + 100) D (mCount g x) S := by
  obtain ⟨⟨nc, nw, nm, hr, hf⟩, hs, h3, hgr, hy⟩ := h
  obtain ⟨x1, y, z⟩ := sim_count hr h0 x
  exact ⟨x1, y, ⟨nc, nw, nm, z, by unfold mCount; (repeat' split) <;> exact hf⟩, hs, J3_row h3 (by unfold mCount; (repeat' split) <;> rfl), GR_row hgr (by unfold mCount; (repeat' split) <;> rfl), DY_mono hy (by omega)⟩
theorem go_pass (h : JJ b D g S) (h0 : g 0 0 = 0) (hb : b + 200 < 2147483648) (p : Int32) : kPass D p = mPass g p 0 0 ∧ (kPass D p = 0 → cntSt (days D (ix p)) 2 24 - cntSt D 2 24 = vPassM g S p) ∧ JJ (b + 100) (if kPass D p = 0 then days D (ix p) else D) (mPass g p) (sPass g S p) := by
  have hg := JJ_g2 h
  obtain ⟨⟨nc, nw, nm, hr, hf⟩, hs, h3, hgr, hy⟩ := h
  obtain ⟨x, y, z, z2⟩ := sim_pass hr hf h0 hgr hy hb p
  refine ⟨x, y, ⟨nc, nw, nm, z, z2⟩, ?_, J3_row h3 (by unfold mPass; (repeat' split) <;> rfl), GR_row hgr (by unfold mPass; (repeat' split) <;> rfl), ?_⟩
  · unfold sPass
    split
    · exact SI_passN hg hs _
    · exact hs
  · unfold sPass
    by_cases h1 : wthn p 1 100 = true
    · rw [if_pos h1]
      have hn : ix p ≤ 100 := wt_ix (n := 100) (by decide) h1
      exact DY_mono (DY_passN hy (ix p)) (by omega)
    · rw [if_neg h1]; exact DY_mono hy (by omega)
theorem go_best (h : JJ b D g S) (h0 : g 0 0 = 0) (hb : b + 200 < 2147483648) (E A : DD) (w : Int32) : kBest D w = mBest g w 0 0 ∧ (kBest D w = 0 → vBest D E w = vBestM g S A w) ∧ JJ (b + 100) D (mBest g w) S := by
  obtain ⟨⟨nc, nw, nm, hr, hf⟩, hs, h3, hgr, hy⟩ := h
  obtain ⟨x1, y, z⟩ := sim_best hr h0 hgr hy hb E A w
  exact ⟨x1, y, ⟨nc, nw, nm, z, by unfold mBest; (repeat' split) <;> exact hf⟩, hs, J3_row h3 (by unfold mBest; (repeat' split) <;> rfl), GR_row hgr (by unfold mBest; (repeat' split) <;> rfl), DY_mono hy (by omega)⟩
theorem go_foresee (h : JJ b D g S) (h0 : g 0 0 = 0) (hb : b + 200 < 2147483648) (E A : DD) (p q : Int32) : kForesee D p q = mFore g p q 0 0 ∧ (kForesee D p q = 0 → vForesee (days (cpD E D) (ix p)) q = vForeM g S A p q) ∧ JJ (b + 100) D (mFore g p q) S := by
  obtain ⟨⟨nc, nw, nm, hr, hf⟩, hs, h3, hgr, hy⟩ := h
  obtain ⟨x1, y, z⟩ := sim_foresee hr h0 hgr hy hb E A p q
  exact ⟨x1, y, ⟨nc, nw, nm, z, by unfold mFore; (repeat' split) <;> exact hf⟩, hs, J3_row h3 (by unfold mFore; (repeat' split) <;> rfl), GR_row hgr (by unfold mFore; (repeat' split) <;> rfl), DY_mono hy (by omega)⟩
theorem go_advise (h : JJ b D g S) (h0 : g 0 0 = 0) (hb : b + 200 < 2147483648) (E A : DD) (w k : Int32) : kAdvise D w k = mAdv g w k 0 0 ∧ (kAdvise D w k = 0 → (advL D E w k 4).2.2 = vAdvM g S A w k) ∧ JJ (b + 100) D (mAdv g w k) S := by
  obtain ⟨⟨nc, nw, nm, hr, hf⟩, hs, h3, hgr, hy⟩ := h
  obtain ⟨x1, y, z⟩ := sim_advise hr h0 hgr hy hb E A w k
  exact ⟨x1, y, ⟨nc, nw, nm, z, by unfold mAdv; (repeat' split) <;> exact hf⟩, hs, J3_row h3 (by unfold mAdv; (repeat' split) <;> rfl), GR_row hgr (by unfold mAdv; (repeat' split) <;> rfl), DY_mono hy (by omega)⟩
theorem go_mean (h : JJ b D g S) : vMeanC D = vMeanM g S := by
  obtain ⟨⟨nc, nw, nm, hr, hf⟩, hs, h3, hgr, hy⟩ := h
  exact sim_mean hr
theorem go_digest (h : JJ b D g S) (hb : b < 2147483648) : digC D = digS g S := by
  obtain ⟨⟨nc, nw, nm, hr, hf⟩, hs, h3, hgr, hy⟩ := h
  exact sim_digest hr hy hb
end JJs
