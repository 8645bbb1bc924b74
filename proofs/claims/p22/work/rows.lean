section
/-! EVIDENCE, no hand-in: what the Statement's lists say of the law's own entry, against the entry's class file. The entry has an exception table of six rows, the lists say that it has none: so no launch at all meets the lists, and the owed statement is empty. -/
/-- the printed word 'PinnedClaimed' is false -/
theorem ev_pinned : ¬ PinnedClaimed := by
  show ¬ (classFile.hasCode x code maxLocals ret = true)
  decide +kernel
/-- the class file's own: the entry's exception table has six rows, all to 483 -/
theorem ev_table : ((textOf? x.name).bind fun n => (textOf? x.desc).bind fun d => (classFile.handlers? n d).map fun h => h.map fun q => (q.1, q.2.1, q.2.2.1)) = some [(86, 175, 483), (176, 243, 483), (244, 314, 483), (315, 363, 483), (364, 431, 483), (432, 480, 483)] := by decide +kernel
set_option maxRecDepth 100000 in
/-- no launch meets the lists -/
theorem ev_lists (l : Launch) : ¬ Jvm.D.Lists l classFile x code maxLocals ret tables_1 room_1 := by
  rintro ⟨-, h2, ⟨h3, -⟩, -⟩
  have h := h3 (x, code, maxLocals, ret) (List.mem_append_left _ (by
    show _ ∈ (Jvm.Cond.and (Jvm.Cond.code x code maxLocals ret) (Jvm.D.allAtoms tables_1)).codes
    exact List.mem_append_left _ (List.mem_singleton.mpr rfl)))
  simp only [h2, Option.any_some] at h
  exact ev_pinned h
/-- so no start meets the premises: the witness that the claim wants isn't there -/
theorem ev_witness : ¬ WitnessClaimed_1 := by
  rintro ⟨p, e, s, m, args, below, h, -⟩
  exact ev_lists _ h
/-- and what is owed holds for want of any start: EMPTY, it says nothing of the law or of the class (so this row is no proof of the property, and bears another name than the owed one) -/
theorem ev_empty : Claimed_1_1 ∧ Claimed_1_2 := ⟨fun l _ hL _ => absurd hL (ev_lists l), fun l _ hL _ => absurd hL (ev_lists l)⟩
end
