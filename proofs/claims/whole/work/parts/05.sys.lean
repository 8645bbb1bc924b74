/-! THE SYSTEM: all cells of class and reference behind their making; what they hold is X (component, row, place); G: what the launch has chosen -/
def lw_all : List Cond := lw_tbl.filter goodWord
theorem lw_all_tbl {w : Cond} (h : w ∈ lw_all) : w ∈ lw_tbl := (List.mem_filter.mp h).1
theorem lw_all_good {w : Cond} (h : w ∈ lw_all) : goodWord w = true := (List.mem_filter.mp h).2
theorem lw_all_in {i : Nat} {w : Cond} (h : lw_tbl[i]? = some w) (g : goodWord w = true) : w ∈ lw_all := List.mem_filter.mpr ⟨List.mem_of_getElem? h, g⟩
abbrev ws_ (y : MethodName) (c : ByteArray) (n : Nat) (r : Option FieldType) : List Cond := .code y c n r :: lw_all
theorem lw_GoodIn : GoodIn lw_all lw_all := fun _ h => ⟨h, good_of_word (lw_all_good h)⟩
theorem ws_good {y : MethodName} {c : ByteArray} {n : Nat} {r : Option FieldType} (h : Cond.code y c n r ∈ lw_all) : GoodIn lw_all (ws_ y c n r) := fun w hw => (List.mem_cons.mp hw).elim (fun e => e ▸ lw_GoodIn _ h) (fun h => lw_GoodIn _ h)
abbrev GG : Type := va_G × (Nat → ClassId) × (Nat → Nat) × (Nat → Prop)
/-- the law's long, and cells beside the system's own -/
abbrev OO : Type := Int64 × va_W
abbrev XX : Type := Nat → Nat → Nat → Int32
abbrev gA (G : GG) (n : Nat) : Nat := G.2.2.1 n
abbrev gB (G : GG) : Nat → Prop := G.2.2.2
abbrev gI (G : GG) : ClassId := G.2.1 0
abbrev tysG (G : GG) : List (ClassId × FieldType) := [(G.2.1 0, .int), (G.2.1 1, .object "CheeseRota$Cellar"), (G.2.1 2, .object "CheeseRota$Wheel"), (G.2.1 3, .object "CheeseRota$Monk"), (G.2.1 4, .long)]
-- what an object of each class holds
abbrev fW (w : Nat → Int32) : List Value := [.int (w 0), .int (w 1), .int (w 2), .int (w 3), .int (w 4), .int (w 5), .int (w 6), .int (w 7), .int (w 8), .int (w 9)]
abbrev fC (w : Nat → Int32) (b : Nat) : List Value := [.int (w 0), .int (w 1), .ref b]
abbrev fM (w : Nat → Int32) (b : Nat) : List Value := [.int (w 0), .int (w 1), .int (w 2), .int (w 3), .ref b]
abbrev fD (w : Nat → Int32) (a b c : Nat) : List Value := [.int (w 0), .int (w 1), .int (w 2), .int (w 3), .int (w 4), .ref a, .ref b, .ref c]
abbrev fS (w : Nat → Int32) (g : Nat → Nat) (t : Nat) : List Value := [.int (w 0), .ref (g 1), .ref (g 2), .ref (g 3), .ref (g 4), .ref (g 5), .ref (g 6), .ref (g 7), .ref (g 8), .ref (g 9), .ref (g 10), .ref (g 11), .ref (g 12), .ref (g 13), .ref t]
abbrev fR (w : Nat → Int32) (g : Nat → Nat) : List Value := [.int (w 0), .int (w 1), .ref (g 90), .ref (g 91), .int (w 4), .int (w 5), .ref (g 92), .ref (g 93), .ref (g 94), .int (w 9), .ref (g 95), .ref (g 109)]
abbrev eI (G : GG) (n : Nat) (w : Nat → Int32) : va_E := .inl (G.2.1 0, n, .inl w)
abbrev eQ (c : ClassId) (n : Nat) (f : Nat → Option Nat) : va_E := .inl (c, n, .inr (.inr (.inr (.inr f))))
def eDy (G : GG) (b k : Nat) (w : Nat → Int32) : va_E :=
  if k < 24 then .inr (3, fW w)
  else if k < 28 then .inr (0, fC w (gA G (b + (k + 4))))
  else if k < 32 then eI G 10 w
  else if k < 36 then .inr (2, fM w (gA G (b + (k + 4))))
  else if k < 40 then eI G 7 w
  else if k = 40 then .inr (1, fD w (gA G (b + 41)) (gA G (b + 42)) (gA G (b + 43)))
  else if k = 41 then eQ (G.2.1 1) 4 (fun j => some (gA G (b + (24 + j))))
  else if k = 42 then eQ (G.2.1 2) 24 (fun j => some (gA G (b + j)))
  else eQ (G.2.1 3) 4 (fun j => some (gA G (b + (32 + j))))
def sLen (j : Nat) : Nat := if j = 1 then 40 else if j = 11 then 4 else if j = 12 then 4 else 24
def eSt (G : GG) (b j : Nat) (w : Nat → Int32) : va_E := if j = 0 then .inr (5, fS w (fun i => gA G (b + i)) (gA G 89)) else eI G (sLen j) w
def eMo (G : GG) (j : Nat) (w : Nat → Int32) : va_E := if j = 0 then .inr (6, fR w (gA G)) else eI G (if j = 5 then 28 else 4) w
def outF (o : Int64) : Nat → Int64 := fun j => if j = 0 then o else 0
def rowX (X : XX) (n : Nat) : Nat → Int32 := if n < 44 then X 0 n else if n < 88 then X 1 (n - 44) else if n < 95 then X 2 (n - 89) else if n < 109 then X 3 (n - 95) else X 4 (n - 109)
def entC (G : GG) (o : Int64) (n : Nat) (w : Nat → Int32) : va_E :=
  if n < 44 then eDy G 0 n w else if n < 88 then eDy G 44 (n - 44) w else if n = 88 then .inr (4, [.ref (gA G 40), .ref (gA G 84)])
  else if n < 95 then eMo G (n - 89) w else if n < 109 then eSt G 95 (n - 95) w else if n < 123 then eSt G 109 (n - 109) w else .inl (G.2.1 4, 1, .inr (.inl (outF o)))
def ent (G : GG) (X : XX) (o : Int64) (n : Nat) : va_E := entC G o n (rowX X n)
def sys0 (G : GG) (X : XX) (o : Int64) : va_W := (List.range 124).map (fun n => (gA G n, ent G X o n))
def sysW (G : GG) (X : XX) (o : OO) : va_W := sys0 G X o.1 ++ o.2
/-- one row of one component anew -/
abbrev uX (X : XX) (d k : Nat) (w : Nat → Int32) : XX := va_up X d (va_up (X d) k w)
theorem va_up_eq {α : Type} (f : Nat → α) (k : Nat) : va_up f k (f k) = f := by
  funext j; unfold va_up; split
  · next h => rw [h]
  · rfl
theorem va_up_up {α : Type} (f : Nat → α) (k : Nat) (v w : α) : va_up (va_up f k v) k w = va_up f k w := by
  funext j; simp only [va_up]; split <;> rfl
theorem sys0_get {G : GG} {X : XX} {o : Int64} {n : Nat} (h : n < 124) : (sys0 G X o)[n]? = some (gA G n, ent G X o n) := by
  simp [sys0, List.getElem?_map, List.getElem?_range h]
theorem sys0_len {G : GG} {X : XX} {o : Int64} : (sys0 G X o).length = 124 := by simp [sys0]
theorem sysW_get {G : GG} {X : XX} {o : OO} {n : Nat} (h : n < 124) : (sysW G X o)[n]? = some (gA G n, ent G X o.1 n) := by
  rw [sysW, List.getElem?_append_left (by rw [sys0_len]; exact h), sys0_get h]
theorem sys0_of {G : GG} {X : XX} {o : Int64} {k : Nat} {q : Nat × va_E} (h : (sys0 G X o)[k]? = some q) : k < 124 ∧ q = (gA G k, ent G X o k) := by
  have hk : k < 124 := by have := (List.getElem?_eq_some_iff.mp h).1; rwa [sys0_len] at this
  exact ⟨hk, by rw [sys0_get hk] at h; exact (Option.some.inj h).symm⟩
theorem sys0_set {G : GG} {X X' : XX} {o o' : Int64} {n : Nat} {e : va_E} (hn : n < 124) (h : ent G X' o' n = e) (ho : ∀ k, k < 124 → k ≠ n → ent G X' o' k = ent G X o k) : (sys0 G X o).set n (gA G n, e) = sys0 G X' o' := by
  apply List.ext_getElem?
  intro k
  by_cases hk : k < 124
  · by_cases e1 : k = n
    · subst e1
      rw [List.getElem?_set_self (by rw [sys0_len]; exact hk), sys0_get hk, h]
    · rw [List.getElem?_set_ne (Ne.symm e1), sys0_get hk, sys0_get hk, ho k hk e1]
  · rw [List.getElem?_eq_none (by simp [sys0_len]; omega), List.getElem?_eq_none (by simp [sys0_len]; omega)]
theorem sysW_set {G : GG} {X X' : XX} {o : OO} {o1 : Int64} {n : Nat} {e : va_E} (hn : n < 124) (h : ent G X' o1 n = e) (ho : ∀ k, k < 124 → k ≠ n → ent G X' o1 k = ent G X o.1 k) : (sysW G X o).set n (gA G n, e) = sysW G X' (o1, o.2) := by
  rw [sysW, List.set_append_left _ _ (by rw [sys0_len]; exact hn), sys0_set hn h ho, sysW]
/-- the number of a row's cell -/
def cn (d k : Nat) : Nat := if d = 0 then k else if d = 1 then 44 + k else if d = 2 then 89 + k else if d = 3 then 95 + k else 109 + k
def inX (d k : Nat) : Prop := (d < 2 ∧ k < 41) ∨ (d = 2 ∧ k < 6) ∨ ((d = 3 ∨ d = 4) ∧ k < 14)
theorem rowX_up {X : XX} {d k : Nat} {w : Nat → Int32} (h : inX d k) : rowX (uX X d k w) (cn d k) = w := by
  rcases h with ⟨h1, h2⟩ | ⟨rfl, h2⟩ | ⟨rfl | rfl, h2⟩
  · rcases (show d = 0 ∨ d = 1 by omega) with rfl | rfl
    · simp [rowX, cn, va_up, show k < 44 by omega]
    · simp [rowX, cn, va_up, show ¬ 44 + k < 44 by omega, show 44 + k < 88 by omega, show 44 + k - 44 = k by omega]
  · simp [rowX, cn, va_up, show ¬ 89 + k < 44 by omega, show ¬ 89 + k < 88 by omega, show 89 + k < 95 by omega, show 89 + k - 89 = k by omega]
  · simp [rowX, cn, va_up, show ¬ 95 + k < 44 by omega, show ¬ 95 + k < 88 by omega, show ¬ 95 + k < 95 by omega, show 95 + k < 109 by omega, show 95 + k - 95 = k by omega]
  · simp [rowX, cn, va_up, show ¬ 109 + k < 44 by omega, show ¬ 109 + k < 88 by omega, show ¬ 109 + k < 95 by omega, show ¬ 109 + k < 109 by omega, show 109 + k - 109 = k by omega]
theorem up2_ne {X : XX} {d k d' k' : Nat} {w : Nat → Int32} (h : ¬ (d' = d ∧ k' = k)) : uX X d k w d' k' = X d' k' := by
  by_cases e : d' = d
  · subst e
    have hk : k' ≠ k := fun e => h ⟨rfl, e⟩
    simp [va_up, hk]
  · simp [va_up, e]
theorem ent_up_ne {G : GG} {X : XX} {o : Int64} {d k n : Nat} {w : Nat → Int32} (h : inX d k) (hn : n ≠ cn d k) : ent G (uX X d k w) o n = ent G X o n := by
  unfold ent
  by_cases h88 : n = 88
  · subst h88; simp [entC]
  · by_cases h123 : 123 ≤ n
    · simp only [entC, show ¬ n < 44 by omega, show ¬ n < 88 by omega, h88, show ¬ n < 95 by omega, show ¬ n < 109 by omega, show ¬ n < 123 by omega, if_false]
    · have : rowX (uX X d k w) n = rowX X n := by
        unfold rowX
        unfold inX at h
        unfold cn at hn
        split
        · exact up2_ne (fun ⟨e1, e2⟩ => by subst e1; subst e2; simp at hn)
        · split
          · exact up2_ne (fun ⟨e1, e2⟩ => by subst e1; simp at hn; omega)
          · split
            · exact up2_ne (fun ⟨e1, e2⟩ => by subst e1; simp at hn; omega)
            · split
              · exact up2_ne (fun ⟨e1, e2⟩ => by subst e1; simp at hn; omega)
              · exact up2_ne (fun ⟨e1, e2⟩ => by subst e1; simp at hn; omega)
      rw [this]
theorem sysW_up {G : GG} {X : XX} {o : OO} {d k : Nat} {w : Nat → Int32} {e : va_E} (h : inX d k) (he : entC G o.1 (cn d k) w = e) : (sysW G X o).set (cn d k) (gA G (cn d k), e) = sysW G (uX X d k w) o := by
  refine sysW_set ?_ ?_ (fun k _ hk => ent_up_ne h hk)
  · unfold inX at h; unfold cn; split
    · omega
    · split
      · omega
      · split
        · omega
        · split <;> omega
  · unfold ent; rw [rowX_up h]; exact he
theorem sysW_upO {G : GG} {X : XX} {o : OO} {o' : Int64} : (sysW G X o).set 123 (gA G 123, .inl (G.2.1 4, 1, .inr (.inl (outF o')))) = sysW G X (o', o.2) := by
  refine sysW_set (by omega) rfl (fun k h2 hk => ?_)
  unfold ent entC
  have h : k < 123 := by omega
  split
  · rfl
  · split
    · rfl
    · split
      · rfl
      · split
        · rfl
        · split
          · rfl
          · rfl
/-- the address of row k of component d -/
abbrev aX (G : GG) (d k : Nat) : Nat := gA G (cn d k)
theorem cn_lt {d k : Nat} (hd : d < 2) (hk : k < 44) : cn d k < 124 := by
  unfold cn; split
  · omega
  · split <;> omega
theorem cn_lt5 {d k : Nat} (hd : d = 3 ∨ d = 4) (hk : k < 14) : cn d k < 124 := by
  rcases hd with rfl | rfl <;> simp [cn] <;> omega
theorem cn_ltX {d k : Nat} (h : inX d k) : cn d k < 124 := by
  rcases h with ⟨h1, h2⟩ | ⟨rfl, h2⟩ | ⟨h1, h2⟩
  · exact cn_lt h1 (by omega)
  · simp [cn]; omega
  · exact cn_lt5 h1 h2
theorem ent_dy {G : GG} {X : XX} {o : Int64} {d k : Nat} (hd : d < 2) (hk : k < 44) : ent G X o (cn d k) = eDy G (cn d 0) k (X d k) := by
  rcases (show d = 0 ∨ d = 1 by omega) with rfl | rfl
  · simp [ent, entC, rowX, cn, hk]
  · simp [ent, entC, rowX, cn, show ¬ 44 + k < 44 by omega, show 44 + k < 88 by omega]
theorem cn_add {d k j : Nat} (hd : d < 2) : cn d 0 + (k + j) = cn d (k + j) := by
  rcases (show d = 0 ∨ d = 1 by omega) with rfl | rfl <;> simp [cn]
theorem cn_addk {d k : Nat} (hd : d < 2) : cn d 0 + k = cn d k := by
  rcases (show d = 0 ∨ d = 1 by omega) with rfl | rfl <;> simp [cn]
section ENT
variable {G : GG} {X : XX} {o : Int64} {d i : Nat}
theorem ent_wh (hd : d < 2) (hi : i < 24) : ent G X o (cn d i) = .inr (3, fW (X d i)) := by
  rw [ent_dy hd (by omega), eDy, if_pos hi]
theorem ent_ce (hd : d < 2) (hi : i < 4) : ent G X o (cn d (24 + i)) = .inr (0, fC (X d (24 + i)) (aX G d (28 + i))) := by
  rw [ent_dy hd (by omega), eDy, if_neg (by omega), if_pos (by omega), cn_add hd, show 24 + i + 4 = 28 + i by omega]
theorem ent_bo (hd : d < 2) (hi : i < 4) : ent G X o (cn d (28 + i)) = eI G 10 (X d (28 + i)) := by
  rw [ent_dy hd (by omega), eDy, if_neg (by omega), if_neg (by omega), if_pos (by omega)]
theorem ent_mk (hd : d < 2) (hi : i < 4) : ent G X o (cn d (32 + i)) = .inr (2, fM (X d (32 + i)) (aX G d (36 + i))) := by
  rw [ent_dy hd (by omega), eDy, if_neg (by omega), if_neg (by omega), if_neg (by omega), if_pos (by omega), cn_add hd, show 32 + i + 4 = 36 + i by omega]
theorem ent_ro (hd : d < 2) (hi : i < 4) : ent G X o (cn d (36 + i)) = eI G 7 (X d (36 + i)) := by
  rw [ent_dy hd (by omega), eDy, if_neg (by omega), if_neg (by omega), if_neg (by omega), if_neg (by omega), if_pos (by omega)]
theorem ent_da (hd : d < 2) : ent G X o (cn d 40) = .inr (1, fD (X d 40) (aX G d 41) (aX G d 42) (aX G d 43)) := by
  rw [ent_dy hd (by omega), eDy]; simp [cn_addk hd]
theorem ent_ca (hd : d < 2) : ent G X o (cn d 41) = eQ (G.2.1 1) 4 (fun j => some (aX G d (24 + j))) := by
  rw [ent_dy hd (by omega), eDy]; simp [cn_addk hd]
theorem ent_wa (hd : d < 2) : ent G X o (cn d 42) = eQ (G.2.1 2) 24 (fun j => some (aX G d j)) := by
  rw [ent_dy hd (by omega), eDy]; simp [cn_addk hd]
theorem ent_ma (hd : d < 2) : ent G X o (cn d 43) = eQ (G.2.1 3) 4 (fun j => some (aX G d (32 + j))) := by
  rw [ent_dy hd (by omega), eDy]; simp [cn_addk hd]
theorem ent_rt : ent G X o 88 = .inr (4, [.ref (aX G 0 40), .ref (aX G 1 40)]) := rfl
theorem ent_mo (hi : i < 6) : ent G X o (cn 2 i) = eMo G i (X 2 i) := by
  simp [ent, entC, rowX, cn, show ¬ 89 + i < 44 by omega, show ¬ 89 + i < 88 by omega, show ¬ 89 + i = 88 by omega, show 89 + i < 95 by omega]
theorem ent_m0 : ent G X o (cn 2 0) = .inr (6, fR (X 2 0) (gA G)) := by rw [ent_mo (by omega)]; rfl
theorem ent_mi (h0 : 0 < i) (hi : i < 6) : ent G X o (cn 2 i) = eI G (if i = 5 then 28 else 4) (X 2 i) := by
  rw [ent_mo hi, eMo, if_neg (by omega)]
theorem ent_st (hd : d = 3 ∨ d = 4) (hi : i < 14) : ent G X o (cn d i) = eSt G (cn d 0) i (X d i) := by
  rcases hd with rfl | rfl
  · simp [ent, entC, rowX, cn, show ¬ 95 + i < 44 by omega, show ¬ 95 + i < 88 by omega, show ¬ 95 + i = 88 by omega, show ¬ 95 + i < 95 by omega, show 95 + i < 109 by omega]
  · simp [ent, entC, rowX, cn, show ¬ 109 + i < 44 by omega, show ¬ 109 + i < 88 by omega, show ¬ 109 + i = 88 by omega, show ¬ 109 + i < 95 by omega, show ¬ 109 + i < 109 by omega, show 109 + i < 123 by omega]
theorem cn_add5 {k : Nat} (hd : d = 3 ∨ d = 4) : cn d 0 + k = cn d k := by rcases hd with rfl | rfl <;> simp [cn]
theorem ent_s0 (hd : d = 3 ∨ d = 4) : ent G X o (cn d 0) = .inr (5, fS (X d 0) (fun i => aX G d i) (aX G 2 0)) := by
  rw [ent_st hd (by omega), eSt, if_pos rfl]
  rcases hd with rfl | rfl <;> rfl
theorem ent_si (hd : d = 3 ∨ d = 4) (h0 : 0 < i) (hi : i < 14) : ent G X o (cn d i) = eI G (sLen i) (X d i) := by
  rw [ent_st hd hi, eSt, if_neg (by omega)]
theorem ent_ou : ent G X o 123 = .inl (G.2.1 4, 1, .inr (.inl (outF o))) := rfl
end ENT
section ENS
variable {G : GG} {X : XX} {o : OO} {d i : Nat}
-- and a row anew
theorem set_dy {w : Nat → Int32} {e : va_E} (hd : d < 2) (hi : i < 41) (he : eDy G (cn d 0) i w = e) : (sysW G X o).set (cn d i) (aX G d i, e) = sysW G (uX X d i w) o := by
  refine sysW_up (Or.inl ⟨hd, hi⟩) ?_
  rw [← he]
  rcases (show d = 0 ∨ d = 1 by omega) with rfl | rfl
  · simp [entC, cn, show i < 44 by omega]
  · simp [entC, cn, show ¬ 44 + i < 44 by omega, show 44 + i < 88 by omega]
theorem set_wh {w : Nat → Int32} (hd : d < 2) (hi : i < 24) : (sysW G X o).set (cn d i) (aX G d i, .inr (3, fW w)) = sysW G (uX X d i w) o :=
  set_dy hd (by omega) (by rw [eDy, if_pos hi])
theorem set_ce {w : Nat → Int32} (hd : d < 2) (hi : i < 4) : (sysW G X o).set (cn d (24 + i)) (aX G d (24 + i), .inr (0, fC w (aX G d (28 + i)))) = sysW G (uX X d (24 + i) w) o :=
  set_dy hd (by omega) (by rw [eDy, if_neg (by omega), if_pos (by omega), cn_add hd, show 24 + i + 4 = 28 + i by omega])
theorem set_bo {w : Nat → Int32} (hd : d < 2) (hi : i < 4) : (sysW G X o).set (cn d (28 + i)) (aX G d (28 + i), eI G 10 w) = sysW G (uX X d (28 + i) w) o :=
  set_dy hd (by omega) (by rw [eDy, if_neg (by omega), if_neg (by omega), if_pos (by omega)])
theorem set_mk {w : Nat → Int32} (hd : d < 2) (hi : i < 4) : (sysW G X o).set (cn d (32 + i)) (aX G d (32 + i), .inr (2, fM w (aX G d (36 + i)))) = sysW G (uX X d (32 + i) w) o :=
  set_dy hd (by omega) (by rw [eDy, if_neg (by omega), if_neg (by omega), if_neg (by omega), if_pos (by omega), cn_add hd, show 32 + i + 4 = 36 + i by omega])
theorem set_ro {w : Nat → Int32} (hd : d < 2) (hi : i < 4) : (sysW G X o).set (cn d (36 + i)) (aX G d (36 + i), eI G 7 w) = sysW G (uX X d (36 + i) w) o :=
  set_dy hd (by omega) (by rw [eDy, if_neg (by omega), if_neg (by omega), if_neg (by omega), if_neg (by omega), if_pos (by omega)])
theorem set_da {w : Nat → Int32} (hd : d < 2) : (sysW G X o).set (cn d 40) (aX G d 40, .inr (1, fD w (aX G d 41) (aX G d 42) (aX G d 43))) = sysW G (uX X d 40 w) o :=
  set_dy hd (by omega) (by rw [eDy]; simp [cn_addk hd])
theorem set_mo {w : Nat → Int32} {e : va_E} (hi : i < 6) (he : eMo G i w = e) : (sysW G X o).set (cn 2 i) (aX G 2 i, e) = sysW G (uX X 2 i w) o := by
  refine sysW_up (Or.inr (Or.inl ⟨rfl, hi⟩)) ?_
  rw [← he]
  simp [entC, cn, show ¬ 89 + i < 44 by omega, show ¬ 89 + i < 88 by omega, show ¬ 89 + i = 88 by omega, show 89 + i < 95 by omega]
theorem set_m0 {w : Nat → Int32} : (sysW G X o).set (cn 2 0) (aX G 2 0, .inr (6, fR w (gA G))) = sysW G (uX X 2 0 w) o := set_mo (by omega) rfl
theorem set_mi {w : Nat → Int32} (h0 : 0 < i) (hi : i < 6) : (sysW G X o).set (cn 2 i) (aX G 2 i, eI G (if i = 5 then 28 else 4) w) = sysW G (uX X 2 i w) o := set_mo hi (by rw [eMo, if_neg (by omega)])
theorem set_st {w : Nat → Int32} {e : va_E} (hd : d = 3 ∨ d = 4) (hi : i < 14) (he : eSt G (cn d 0) i w = e) : (sysW G X o).set (cn d i) (aX G d i, e) = sysW G (uX X d i w) o := by
  refine sysW_up (Or.inr (Or.inr ⟨hd, hi⟩)) ?_
  rw [← he]
  rcases hd with rfl | rfl
  · simp [entC, cn, show ¬ 95 + i < 44 by omega, show ¬ 95 + i < 88 by omega, show ¬ 95 + i = 88 by omega, show ¬ 95 + i < 95 by omega, show 95 + i < 109 by omega]
  · simp [entC, cn, show ¬ 109 + i < 44 by omega, show ¬ 109 + i < 88 by omega, show ¬ 109 + i = 88 by omega, show ¬ 109 + i < 95 by omega, show ¬ 109 + i < 109 by omega, show 109 + i < 123 by omega]
theorem set_s0 {w : Nat → Int32} (hd : d = 3 ∨ d = 4) : (sysW G X o).set (cn d 0) (aX G d 0, .inr (5, fS w (fun i => aX G d i) (aX G 2 0))) = sysW G (uX X d 0 w) o :=
  set_st hd (by omega) (by rw [eSt, if_pos rfl]; rcases hd with rfl | rfl <;> rfl)
theorem set_si {w : Nat → Int32} (hd : d = 3 ∨ d = 4) (h0 : 0 < i) (hi : i < 14) : (sysW G X o).set (cn d i) (aX G d i, eI G (sLen i) w) = sysW G (uX X d i w) o :=
  set_st hd hi (by rw [eSt, if_neg (by omega)])
end ENS
/-- the addresses are apart, and above the floor -/
def GI (G : GG) : Prop := (∀ n, n < 124 → gB G (gA G n)) ∧ ∀ n k, n < 124 → k < 124 → gA G n = gA G k → n = k
theorem sysW_D {G : GG} {X : XX} {o : Int64} (h : GI G) : va_D (gB G) (sysW G X (o, [])) := by
  rw [sysW, List.append_nil]
  refine ⟨fun i j p q hi hj e => ?_, fun k q hk => ?_⟩
  · obtain ⟨h1, rfl⟩ := sys0_of hi
    obtain ⟨h2, rfl⟩ := sys0_of hj
    exact h.2 i j h1 h2 e
  · obtain ⟨h1, rfl⟩ := sys0_of hk
    exact h.1 k h1
/-- what a heap holds: the system and the cells beside it, all apart -/
def HP (G : GG) (X : XX) (o : OO) (H : Heap) : Prop := va_P G.1 vwCl (sysW G X o) H ∧ va_D (gB G) (sysW G X o)
