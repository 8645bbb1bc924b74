/-! WHAT THE CONSTRUCTORS LEAVE -/
def wh0 : WW := fun k => if k = 1 ∨ k = 2 ∨ k = 9 then -1 else if k = 5 then 80 else 0
def mk0 : WW := fun k => if k = 0 ∨ k = 3 then -1 else 0
def brD (n i : Nat) : WW := fun j => if j < i then -1 else 0
abbrev brd (i : Nat) : WW := brD 10 i
abbrev bd0 : WW := brD 10 10
abbrev bd40 : WW := brD 40 40
theorem brD_s {n i : Nat} (h : i < 100) : va_up (brD n i) (ix (nI i)) (-1) = brD n (i + 1) := by
  funext j
  rw [ix_nI (by omega)]
  unfold va_up brD
  by_cases e : j = i
  · rw [if_pos e, if_pos (by omega)]
  · rw [if_neg e]
    by_cases h2 : j < i
    · rw [if_pos h2, if_pos (by omega)]
    · rw [if_neg h2, if_neg (by omega)]
theorem brd_s {i : Nat} (h : i < 100) : va_up (brd i) (ix (nI i)) (-1) = brd (i + 1) := brD_s h
def cfr (a : Nat → Nat) (i : Nat) : Nat → Option Nat := fun j => if j < i then some (a j) else none
theorem cfr_s {a : Nat → Nat} {i q : Nat} (h : i < 100) : va_up (cfr a i) (ix (nI i)) (some q) = cfr (va_up a i q) (i + 1) := by
  funext j
  rw [ix_nI (by omega)]
  unfold va_up cfr
  by_cases e : j = i
  · simp only [e, if_true, show i < i + 1 by omega]
  · simp only [e, if_false]
    by_cases h2 : j < i
    · rw [if_pos h2, if_pos (by omega)]
    · rw [if_neg h2, if_neg (by omega)]
theorem cfr_0 {a : Nat → Nat} : cfr a 0 = fun _ => none := by
  funext j
  unfold cfr
  rw [if_neg (by omega)]
/-- the two-cell pieces: n of them, the object's address a j, its row's x j -/
def PLd (en : Nat → va_E) (er : va_E) (a x : Nat → Nat) (i : Nat) (L : va_W) : Prop := L.length = 2 * i ∧ ∀ j, j < i → L[2 * j]? = some (a j, en (x j)) ∧ L[2 * j + 1]? = some (x j, er)
theorem PLd_s {en : Nat → va_E} {er : va_E} {a x : Nat → Nat} {i q b : Nat} {L : va_W} (h : PLd en er a x i L) : PLd en er (va_up a i q) (va_up x i b) (i + 1) (L ++ [(q, en b), (b, er)]) := by
  refine ⟨by rw [List.length_append, h.1]; show 2 * i + 2 = _; omega, fun j hj => ?_⟩
  have hl := h.1
  by_cases e : j = i
  · subst e
    rw [va_up_self, va_up_self, ← hl, show L.length = L.length + 0 from rfl, app_r]
    refine ⟨rfl, ?_⟩
    rw [Nat.add_zero, app_r]; rfl
  · rw [va_up_ne _ _ e, va_up_ne _ _ e, List.getElem?_append_left (by omega), List.getElem?_append_left (by omega)]
    exact h.2 j (by omega)
theorem PLd_0 {en : Nat → va_E} {er : va_E} {a x : Nat → Nat} : PLd en er a x 0 [] := ⟨rfl, fun j hj => absurd hj (by omega)⟩
abbrev CLd (tc : Nat → ClassId) (a x : Nat → Nat) (i : Nat) (L : va_W) : Prop := PLd (fun b => .inr (0, fC (fun _ => 0) b)) (eK tc 10 bd0) a x i L
abbrev MLd (tc : Nat → ClassId) (a x : Nat → Nat) (i : Nat) (L : va_W) : Prop := PLd (fun b => .inr (2, fM mk0 b)) (eK tc 7 (fun _ => 0)) a x i L
theorem CLd_s {tc : Nat → ClassId} {a x : Nat → Nat} {i q b : Nat} {L : va_W} (h : CLd tc a x i L) : CLd tc (va_up a i q) (va_up x i b) (i + 1) (L ++ [(q, .inr (0, fC (fun _ => 0) b)), (b, eK tc 10 bd0)]) := PLd_s h
theorem MLd_s {tc : Nat → ClassId} {a x : Nat → Nat} {i q b : Nat} {L : va_W} (h : MLd tc a x i L) : MLd tc (va_up a i q) (va_up x i b) (i + 1) (L ++ [(q, .inr (2, fM mk0 b)), (b, eK tc 7 (fun _ => 0))]) := PLd_s h
theorem CLd_0 {tc : Nat → ClassId} {a x : Nat → Nat} : CLd tc a x 0 [] := PLd_0
theorem MLd_0 {tc : Nat → ClassId} {a x : Nat → Nat} : MLd tc a x 0 [] := PLd_0
def WLd (_ : Nat → ClassId) (a _ : Nat → Nat) (i : Nat) (L : va_W) : Prop := L.length = i ∧ ∀ j, j < i → L[j]? = some (a j, .inr (3, fW wh0))
theorem WLd_s {tc : Nat → ClassId} {a x x' : Nat → Nat} {i q : Nat} {L : va_W} (h : WLd tc a x i L) : WLd tc (va_up a i q) x' (i + 1) (L ++ [(q, .inr (3, fW wh0))]) := by
  refine ⟨by rw [List.length_append, h.1]; rfl, fun j hj => ?_⟩
  have hl := h.1
  by_cases e : j = i
  · subst e
    rw [va_up_self, ← hl, show L.length = L.length + 0 from rfl, app_r]; rfl
  · rw [va_up_ne _ _ e, List.getElem?_append_left (by omega)]
    exact h.2 j (by omega)
theorem WLd_0 {tc : Nat → ClassId} {a x : Nat → Nat} : WLd tc a x 0 [] := ⟨rfl, fun j hj => absurd hj (by omega)⟩
theorem WLd_x {tc : Nat → ClassId} {a x x' : Nat → Nat} {i : Nat} {L : va_W} (h : WLd tc a x i L) : WLd tc a x' i L := h
/-- a dairy's forty-four cells, at the addresses a -/
def dyE (tc : Nat → ClassId) (a : Nat → Nat) (k : Nat) : va_E :=
  if k < 24 then .inr (3, fW wh0) else if k < 28 then .inr (0, fC (fun _ => 0) (a (k + 4))) else if k < 32 then eK tc 10 bd0 else if k < 36 then .inr (2, fM mk0 (a (k + 4))) else if k < 40 then eK tc 7 (fun _ => 0)
  else if k = 40 then .inr (1, fD (fun _ => 0) (a 41) (a 42) (a 43)) else if k = 41 then eQ (tc 1) 4 (fun j => some (a (24 + j))) else if k = 42 then eQ (tc 2) 24 (fun j => some (a j)) else eQ (tc 3) 4 (fun j => some (a (32 + j)))
def dyW (tc : Nat → ClassId) (a : Nat → Nat) : va_W := (List.range 44).map (fun k => (a k, dyE tc a k))
/-- a state's fourteen cells; the reference's own six -/
def stW (tc : Nat → ClassId) (a : Nat → Nat) (mm : Nat) (f : WW) : va_W :=
  [(a 0, .inr (5, fS (fun _ => 0) a mm)), (a 1, eK tc 40 f), (a 2, eK tc 24 (fun _ => 0)), (a 3, eK tc 24 (fun _ => 0)), (a 4, eK tc 24 (fun _ => 0)), (a 5, eK tc 24 (fun _ => 0)), (a 6, eK tc 24 (fun _ => 0)), (a 7, eK tc 24 (fun _ => 0)), (a 8, eK tc 24 (fun _ => 0)), (a 9, eK tc 24 (fun _ => 0)), (a 10, eK tc 24 (fun _ => 0)), (a 11, eK tc 4 (fun _ => 0)), (a 12, eK tc 4 (fun _ => 0)), (a 13, eK tc 24 (fun _ => 0))]
def moW (tc : Nat → ClassId) (b : Nat → Nat) (s1 s2 : Nat) : va_W :=
  [(b 0, .inr (6, [.int 0, .int 0, .ref (b 1), .ref (b 2), .int 0, .int 0, .ref (b 3), .ref (b 4), .ref (b 5), .int 0, .ref s1, .ref s2])), (b 1, eK tc 4 (fun _ => 0)), (b 2, eK tc 4 (fun _ => 0)), (b 3, eK tc 4 (fun _ => 0)), (b 4, eK tc 4 (fun _ => 0)), (b 5, eK tc 28 (fun _ => 0))]
/-- another order of a world's cells, and rows of references that are the same as far as they are read -/
theorem va_at_q {Dg : va_G} {cl : List vw_C} {a n : Nat} {c : ClassId} {f f' : Nat → Option Nat} {H : Heap} (h : ∀ j, j < n → f j = f' j) (q : va_at Dg cl (a, eQ c n f) H) : va_at Dg cl (a, eQ c n f') H := by
  have e : vp_cell c (n, .inr (.inr (.inr (.inr f)))) = vp_cell c (n, .inr (.inr (.inr (.inr f')))) := by
    rw [vp_cell_q, vp_cell_q]
    unfold arrV
    congr 1
    apply Array.ext
    · simp
    · intro i h1 h2
      simp only [Array.getElem_ofFn]
      rw [h i (by simpa using h1)]
  show H[a]? = some (vp_cell c (n, .inr (.inr (.inr (.inr f')))))
  rw [← e]; exact q
theorem w_by {Dg : va_G} {ws : va_W} {N : Nat} {ad : Nat → Nat} {en : Nat → va_E} (g : Nat → Nat) (hg : ∀ k, k < N → ∃ e, ws[g k]? = some (ad k, e) ∧ ∀ H, va_at Dg vwCl (ad k, e) H → va_at Dg vwCl (ad k, en k) H) (hi : ∀ i j, i < N → j < N → g i = g j → i = j) :
    (∀ H, va_P Dg vwCl ws H → va_P Dg vwCl ((List.range N).map (fun k => (ad k, en k))) H) ∧ ∀ A, va_D A ws → va_D A ((List.range N).map (fun k => (ad k, en k))) := by
  have inv : ∀ (k : Nat) (q : Nat × va_E), ((List.range N).map (fun k => (ad k, en k)))[k]? = some q → k < N ∧ q = (ad k, en k) := fun k q hk => by
    have hl : k < N := by have := (List.getElem?_eq_some_iff.mp hk).1; simpa using this
    rw [List.getElem?_map, List.getElem?_range hl] at hk
    exact ⟨hl, (Option.some.inj hk).symm⟩
  refine ⟨fun H hP k q hk => ?_, fun A hD => ⟨fun i j p q h1 h2 e => ?_, fun k q hk => ?_⟩⟩
  · obtain ⟨hl, rfl⟩ := inv k q hk
    obtain ⟨e, h1, h2⟩ := hg k hl
    exact h2 H (hP _ _ h1)
  · obtain ⟨l1, rfl⟩ := inv i p h1
    obtain ⟨l2, rfl⟩ := inv j q h2
    obtain ⟨e1, g1, -⟩ := hg i l1
    obtain ⟨e2, g2, -⟩ := hg j l2
    exact hi i j l1 l2 (hD.1 _ _ _ _ g1 g2 e)
  · obtain ⟨hl, rfl⟩ := inv k q hk
    obtain ⟨e, h1, -⟩ := hg k hl
    exact hD.2 (g k) (ad k, e) h1
/-- where a dairy's cells lie -/
def adD (h qc qw qm : Nat) (a1 x1 a2 a3 x3 : Nat → Nat) : Nat → Nat := fun k => if k < 24 then a2 k else if k < 28 then a1 (k - 24) else if k < 32 then x1 (k - 28) else if k < 36 then a3 (k - 32) else if k < 40 then x3 (k - 36) else if k = 40 then h else if k = 41 then qc else if k = 42 then qw else qm
def ordD (k : Nat) : Nat := if k < 24 then 12 + k else if k < 28 then 4 + 2 * (k - 24) else if k < 32 then 5 + 2 * (k - 28) else if k < 36 then 36 + 2 * (k - 32) else if k < 40 then 37 + 2 * (k - 36) else k - 40
theorem dy_to {Dg : va_G} {tc : Nat → ClassId} {h qc qw qm : Nat} {a1 x1 a2 x2 a3 x3 : Nat → Nat} {L1 L2 L3 : va_W} (h1 : CLd tc a1 x1 4 L1) (h2 : WLd tc a2 x2 24 L2) (h3 : MLd tc a3 x3 4 L3) :
    (∀ H, va_P Dg vwCl ([(h, .inr (1, [.int 0, .int 0, .int 0, .int 0, .int 0, .ref qc, .ref qw, .ref qm])), (qc, eQ (tc 1) 4 (cfr a1 4)), (qw, eQ (tc 2) 24 (cfr a2 24)), (qm, eQ (tc 3) 4 (cfr a3 4))] ++ ((L1 ++ L2) ++ L3)) H → va_P Dg vwCl (dyW tc (adD h qc qw qm a1 x1 a2 a3 x3)) H) ∧
    ∀ A, va_D A ([(h, .inr (1, [.int 0, .int 0, .int 0, .int 0, .int 0, .ref qc, .ref qw, .ref qm])), (qc, eQ (tc 1) 4 (cfr a1 4)), (qw, eQ (tc 2) 24 (cfr a2 24)), (qm, eQ (tc 3) 4 (cfr a3 4))] ++ ((L1 ++ L2) ++ L3)) → va_D A (dyW tc (adD h qc qw qm a1 x1 a2 a3 x3)) := by
  have l1 := h1.1
  have l2 := h2.1
  have l3 := h3.1
  generalize hb : ([(h, .inr (1, [.int 0, .int 0, .int 0, .int 0, .int 0, .ref qc, .ref qw, .ref qm])), (qc, eQ (tc 1) 4 (cfr a1 4)), (qw, eQ (tc 2) 24 (cfr a2 24)), (qm, eQ (tc 3) 4 (cfr a3 4))] : va_W) = B
  have lB : B.length = 4 := by rw [← hb]; rfl
  have z1 : ∀ t, t < 8 → (B ++ ((L1 ++ L2) ++ L3))[4 + t]? = L1[t]? := fun t ht => by
    rw [← lB, app_r, List.getElem?_append_left (by rw [List.length_append]; omega), List.getElem?_append_left (by omega)]
  have z2 : ∀ t, t < 24 → (B ++ ((L1 ++ L2) ++ L3))[12 + t]? = L2[t]? := fun t ht => by
    rw [show 12 + t = B.length + (L1.length + t) by omega, app_r, List.getElem?_append_left (by rw [List.length_append]; omega), app_r]
  have z3 : ∀ t, (B ++ ((L1 ++ L2) ++ L3))[36 + t]? = L3[t]? := fun t => by
    rw [show 36 + t = B.length + ((L1 ++ L2).length + t) by rw [List.length_append]; omega, app_r, app_r]
  refine w_by ordD (fun k hk => ?_) (fun i j hi hj e => ?_)
  · by_cases c1 : k < 24
    · refine ⟨.inr (3, fW wh0), ?_, fun H q => ?_⟩
      · simp only [ordD, adD, c1, if_true]; rw [z2 k c1]; exact h2.2 k c1
      · simp only [dyE, c1, if_true]; exact q
    by_cases c2 : k < 28
    · obtain ⟨y1, y2⟩ := h1.2 (k - 24) (by omega)
      refine ⟨.inr (0, fC (fun _ => 0) (x1 (k - 24))), ?_, fun H q => ?_⟩
      · simp only [ordD, adD, c1, c2, if_true, if_false]; rw [z1 _ (by omega)]; exact y1
      · have e : adD h qc qw qm a1 x1 a2 a3 x3 (k + 4) = x1 (k - 24) := by
          simp only [adD, show ¬ k + 4 < 24 by omega, show ¬ k + 4 < 28 by omega, show k + 4 < 32 by omega, if_true, if_false]
          congr 1
        simp only [dyE, c1, c2, if_true, if_false, e]; exact q
    by_cases c3 : k < 32
    · obtain ⟨y1, y2⟩ := h1.2 (k - 28) (by omega)
      refine ⟨eK tc 10 bd0, ?_, fun H q => ?_⟩
      · simp only [ordD, adD, c1, c2, c3, if_true, if_false]; rw [show 5 + 2 * (k - 28) = 4 + (2 * (k - 28) + 1) by omega, z1 _ (by omega)]; exact y2
      · simp only [dyE, c1, c2, c3, if_true, if_false]; exact q
    by_cases c4 : k < 36
    · obtain ⟨y1, y2⟩ := h3.2 (k - 32) (by omega)
      refine ⟨.inr (2, fM mk0 (x3 (k - 32))), ?_, fun H q => ?_⟩
      · simp only [ordD, adD, c1, c2, c3, c4, if_true, if_false]; rw [z3]; exact y1
      · have e : adD h qc qw qm a1 x1 a2 a3 x3 (k + 4) = x3 (k - 32) := by
          simp only [adD, show ¬ k + 4 < 24 by omega, show ¬ k + 4 < 28 by omega, show ¬ k + 4 < 32 by omega, show ¬ k + 4 < 36 by omega, show k + 4 < 40 by omega, if_true, if_false]
          congr 1
        simp only [dyE, c1, c2, c3, c4, if_true, if_false, e]; exact q
    by_cases c5 : k < 40
    · obtain ⟨y1, y2⟩ := h3.2 (k - 36) (by omega)
      refine ⟨eK tc 7 (fun _ => 0), ?_, fun H q => ?_⟩
      · simp only [ordD, adD, c1, c2, c3, c4, c5, if_true, if_false]; rw [show 37 + 2 * (k - 36) = 36 + (2 * (k - 36) + 1) by omega, z3]; exact y2
      · simp only [dyE, c1, c2, c3, c4, c5, if_true, if_false]; exact q
    rcases (show k = 40 ∨ k = 41 ∨ k = 42 ∨ k = 43 by omega) with rfl | rfl | rfl | rfl
    · exact ⟨_, by rw [← hb]; rfl, fun H q => q⟩
    · refine ⟨eQ (tc 1) 4 (cfr a1 4), by rw [← hb]; rfl, fun H q => va_at_q (fun j hj => ?_) q⟩
      simp only [cfr, hj, if_true, adD, show ¬ 24 + j < 24 by omega, show 24 + j < 28 by omega, if_false]
      congr 2; omega
    · refine ⟨eQ (tc 2) 24 (cfr a2 24), by rw [← hb]; rfl, fun H q => va_at_q (fun j hj => ?_) q⟩
      simp only [cfr, hj, if_true, adD]
    · refine ⟨eQ (tc 3) 4 (cfr a3 4), by rw [← hb]; rfl, fun H q => va_at_q (fun j hj => ?_) q⟩
      simp only [cfr, hj, if_true, adD, show ¬ 32 + j < 24 by omega, show ¬ 32 + j < 28 by omega, show ¬ 32 + j < 32 by omega, show 32 + j < 36 by omega, if_false]
      congr 2; omega
  · unfold ordD at e
    repeat' split at e
    all_goals omega
