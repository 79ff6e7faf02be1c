def ip_h_r {β : Type} (d : β) (P : Nat → β) : List ip_V → β
  | [.inr (.inl (some v0))] => P v0
  | _ => d
theorem ip_e_r {P : Nat → ip_S → Prop} {as : List ip_V} {S : ip_S} (h : ip_h_r (fun _ => False) P as S) : ∃ (v0 : Nat), as = [.inr (.inl (some v0))] ∧ P v0 S := by
  unfold ip_h_r at h
  split at h
  · exact ⟨_, rfl, h⟩
  · exact h.elim
def ip_h_ri {β : Type} (d : β) (P : Nat → Int32 → β) : List ip_V → β
  | [.inr (.inl (some v0)), .inl v1] => P v0 v1
  | _ => d
theorem ip_e_ri {P : Nat → Int32 → ip_S → Prop} {as : List ip_V} {S : ip_S} (h : ip_h_ri (fun _ => False) P as S) : ∃ (v0 : Nat) (v1 : Int32), as = [.inr (.inl (some v0)), .inl v1] ∧ P v0 v1 S := by
  unfold ip_h_ri at h
  split at h
  · exact ⟨_, _, rfl, h⟩
  · exact h.elim
def ip_h_rii {β : Type} (d : β) (P : Nat → Int32 → Int32 → β) : List ip_V → β
  | [.inr (.inl (some v0)), .inl v1, .inl v2] => P v0 v1 v2
  | _ => d
theorem ip_e_rii {P : Nat → Int32 → Int32 → ip_S → Prop} {as : List ip_V} {S : ip_S} (h : ip_h_rii (fun _ => False) P as S) : ∃ (v0 : Nat) (v1 : Int32) (v2 : Int32), as = [.inr (.inl (some v0)), .inl v1, .inl v2] ∧ P v0 v1 v2 S := by
  unfold ip_h_rii at h
  split at h
  · exact ⟨_, _, _, rfl, h⟩
  · exact h.elim
def ip_h_riii {β : Type} (d : β) (P : Nat → Int32 → Int32 → Int32 → β) : List ip_V → β
  | [.inr (.inl (some v0)), .inl v1, .inl v2, .inl v3] => P v0 v1 v2 v3
  | _ => d
theorem ip_e_riii {P : Nat → Int32 → Int32 → Int32 → ip_S → Prop} {as : List ip_V} {S : ip_S} (h : ip_h_riii (fun _ => False) P as S) : ∃ (v0 : Nat) (v1 : Int32) (v2 : Int32) (v3 : Int32), as = [.inr (.inl (some v0)), .inl v1, .inl v2, .inl v3] ∧ P v0 v1 v2 v3 S := by
  unfold ip_h_riii at h
  split at h
  · exact ⟨_, _, _, _, rfl, h⟩
  · exact h.elim
def ip_h_riiii {β : Type} (d : β) (P : Nat → Int32 → Int32 → Int32 → Int32 → β) : List ip_V → β
  | [.inr (.inl (some v0)), .inl v1, .inl v2, .inl v3, .inl v4] => P v0 v1 v2 v3 v4
  | _ => d
theorem ip_e_riiii {P : Nat → Int32 → Int32 → Int32 → Int32 → ip_S → Prop} {as : List ip_V} {S : ip_S} (h : ip_h_riiii (fun _ => False) P as S) : ∃ (v0 : Nat) (v1 : Int32) (v2 : Int32) (v3 : Int32) (v4 : Int32), as = [.inr (.inl (some v0)), .inl v1, .inl v2, .inl v3, .inl v4] ∧ P v0 v1 v2 v3 v4 S := by
  unfold ip_h_riiii at h
  split at h
  · exact ⟨_, _, _, _, _, rfl, h⟩
  · exact h.elim
def ip_h_riiiiiiii {β : Type} (d : β) (P : Nat → Int32 → Int32 → Int32 → Int32 → Int32 → Int32 → Int32 → Int32 → β) : List ip_V → β
  | [.inr (.inl (some v0)), .inl v1, .inl v2, .inl v3, .inl v4, .inl v5, .inl v6, .inl v7, .inl v8] => P v0 v1 v2 v3 v4 v5 v6 v7 v8
  | _ => d
theorem ip_e_riiiiiiii {P : Nat → Int32 → Int32 → Int32 → Int32 → Int32 → Int32 → Int32 → Int32 → ip_S → Prop} {as : List ip_V} {S : ip_S} (h : ip_h_riiiiiiii (fun _ => False) P as S) : ∃ (v0 : Nat) (v1 : Int32) (v2 : Int32) (v3 : Int32) (v4 : Int32) (v5 : Int32) (v6 : Int32) (v7 : Int32) (v8 : Int32), as = [.inr (.inl (some v0)), .inl v1, .inl v2, .inl v3, .inl v4, .inl v5, .inl v6, .inl v7, .inl v8] ∧ P v0 v1 v2 v3 v4 v5 v6 v7 v8 S := by
  unfold ip_h_riiiiiiii at h
  split at h
  · exact ⟨_, _, _, _, _, _, _, _, _, rfl, h⟩
  · exact h.elim
def ip_h_i {β : Type} (d : β) (P : Int32 → β) : List ip_V → β
  | [.inl v0] => P v0
  | _ => d
theorem ip_e_i {P : Int32 → ip_S → Prop} {as : List ip_V} {S : ip_S} (h : ip_h_i (fun _ => False) P as S) : ∃ (v0 : Int32), as = [.inl v0] ∧ P v0 S := by
  unfold ip_h_i at h
  split at h
  · exact ⟨_, rfl, h⟩
  · exact h.elim
def ip_h_iii {β : Type} (d : β) (P : Int32 → Int32 → Int32 → β) : List ip_V → β
  | [.inl v0, .inl v1, .inl v2] => P v0 v1 v2
  | _ => d
theorem ip_e_iii {P : Int32 → Int32 → Int32 → ip_S → Prop} {as : List ip_V} {S : ip_S} (h : ip_h_iii (fun _ => False) P as S) : ∃ (v0 : Int32) (v1 : Int32) (v2 : Int32), as = [.inl v0, .inl v1, .inl v2] ∧ P v0 v1 v2 S := by
  unfold ip_h_iii at h
  split at h
  · exact ⟨_, _, _, rfl, h⟩
  · exact h.elim
def ip_h_iiii {β : Type} (d : β) (P : Int32 → Int32 → Int32 → Int32 → β) : List ip_V → β
  | [.inl v0, .inl v1, .inl v2, .inl v3] => P v0 v1 v2 v3
  | _ => d
theorem ip_e_iiii {P : Int32 → Int32 → Int32 → Int32 → ip_S → Prop} {as : List ip_V} {S : ip_S} (h : ip_h_iiii (fun _ => False) P as S) : ∃ (v0 : Int32) (v1 : Int32) (v2 : Int32) (v3 : Int32), as = [.inl v0, .inl v1, .inl v2, .inl v3] ∧ P v0 v1 v2 v3 S := by
  unfold ip_h_iiii at h
  split at h
  · exact ⟨_, _, _, _, rfl, h⟩
  · exact h.elim
def ip_h_rri {β : Type} (d : β) (P : Nat → Nat → Int32 → β) : List ip_V → β
  | [.inr (.inl (some v0)), .inr (.inl (some v1)), .inl v2] => P v0 v1 v2
  | _ => d
theorem ip_e_rri {P : Nat → Nat → Int32 → ip_S → Prop} {as : List ip_V} {S : ip_S} (h : ip_h_rri (fun _ => False) P as S) : ∃ (v0 : Nat) (v1 : Nat) (v2 : Int32), as = [.inr (.inl (some v0)), .inr (.inl (some v1)), .inl v2] ∧ P v0 v1 v2 S := by
  unfold ip_h_rri at h
  split at h
  · exact ⟨_, _, _, rfl, h⟩
  · exact h.elim
def ip_h_rr {β : Type} (d : β) (P : Nat → Nat → β) : List ip_V → β
  | [.inr (.inl (some v0)), .inr (.inl (some v1))] => P v0 v1
  | _ => d
theorem ip_e_rr {P : Nat → Nat → ip_S → Prop} {as : List ip_V} {S : ip_S} (h : ip_h_rr (fun _ => False) P as S) : ∃ (v0 : Nat) (v1 : Nat), as = [.inr (.inl (some v0)), .inr (.inl (some v1))] ∧ P v0 v1 S := by
  unfold ip_h_rr at h
  split at h
  · exact ⟨_, _, rfl, h⟩
  · exact h.elim
def ip_h_riiiir {β : Type} (d : β) (P : Nat → Int32 → Int32 → Int32 → Int32 → Nat → β) : List ip_V → β
  | [.inr (.inl (some v0)), .inl v1, .inl v2, .inl v3, .inl v4, .inr (.inl (some v5))] => P v0 v1 v2 v3 v4 v5
  | _ => d
theorem ip_e_riiiir {P : Nat → Int32 → Int32 → Int32 → Int32 → Nat → ip_S → Prop} {as : List ip_V} {S : ip_S} (h : ip_h_riiiir (fun _ => False) P as S) : ∃ (v0 : Nat) (v1 : Int32) (v2 : Int32) (v3 : Int32) (v4 : Int32) (v5 : Nat), as = [.inr (.inl (some v0)), .inl v1, .inl v2, .inl v3, .inl v4, .inr (.inl (some v5))] ∧ P v0 v1 v2 v3 v4 v5 S := by
  unfold ip_h_riiiir at h
  split at h
  · exact ⟨_, _, _, _, _, _, rfl, h⟩
  · exact h.elim
def ip_h_ririii {β : Type} (d : β) (P : Nat → Int32 → Nat → Int32 → Int32 → Int32 → β) : List ip_V → β
  | [.inr (.inl (some v0)), .inl v1, .inr (.inl (some v2)), .inl v3, .inl v4, .inl v5] => P v0 v1 v2 v3 v4 v5
  | _ => d
theorem ip_e_ririii {P : Nat → Int32 → Nat → Int32 → Int32 → Int32 → ip_S → Prop} {as : List ip_V} {S : ip_S} (h : ip_h_ririii (fun _ => False) P as S) : ∃ (v0 : Nat) (v1 : Int32) (v2 : Nat) (v3 : Int32) (v4 : Int32) (v5 : Int32), as = [.inr (.inl (some v0)), .inl v1, .inr (.inl (some v2)), .inl v3, .inl v4, .inl v5] ∧ P v0 v1 v2 v3 v4 v5 S := by
  unfold ip_h_ririii at h
  split at h
  · exact ⟨_, _, _, _, _, _, rfl, h⟩
  · exact h.elim
theorem ip_df0 : ∀ j, j < 5 → defaultValue (tyX0 j) = vp_V ((ip_ty 0).map (fun t => match t with | 0 => .int 0 | 1 => .null | _ => .long 0)) j := by
  intro j hj
  rcases (show j = 0 ∨ j = 1 ∨ j = 2 ∨ j = 3 ∨ j = 4 by omega) with rfl | rfl | rfl | rfl | rfl <;> rfl
theorem ip_df1 : ∀ j, j < 11 → defaultValue (tyX1 j) = vp_V ((ip_ty 1).map (fun t => match t with | 0 => .int 0 | 1 => .null | _ => .long 0)) j := by
  intro j hj
  rcases (show j = 0 ∨ j = 1 ∨ j = 2 ∨ j = 3 ∨ j = 4 ∨ j = 5 ∨ j = 6 ∨ j = 7 ∨ j = 8 ∨ j = 9 ∨ j = 10 by omega) with rfl | rfl | rfl | rfl | rfl | rfl | rfl | rfl | rfl | rfl | rfl <;> rfl
theorem ip_df2 : ∀ j, j < 6 → defaultValue (tyX2 j) = vp_V ((ip_ty 2).map (fun t => match t with | 0 => .int 0 | 1 => .null | _ => .long 0)) j := by
  intro j hj
  rcases (show j = 0 ∨ j = 1 ∨ j = 2 ∨ j = 3 ∨ j = 4 ∨ j = 5 by omega) with rfl | rfl | rfl | rfl | rfl | rfl <;> rfl
theorem ip_df3 : ∀ j, j < 3 → defaultValue (tyX3 j) = vp_V ((ip_ty 3).map (fun t => match t with | 0 => .int 0 | 1 => .null | _ => .long 0)) j := by
  intro j hj
  rcases (show j = 0 ∨ j = 1 ∨ j = 2 by omega) with rfl | rfl | rfl <;> rfl
theorem ip_df4 : ∀ j, j < 14 → defaultValue (tyX4 j) = vp_V ((ip_ty 4).map (fun t => match t with | 0 => .int 0 | 1 => .null | _ => .long 0)) j := by
  intro j hj
  rcases (show j = 0 ∨ j = 1 ∨ j = 2 ∨ j = 3 ∨ j = 4 ∨ j = 5 ∨ j = 6 ∨ j = 7 ∨ j = 8 ∨ j = 9 ∨ j = 10 ∨ j = 11 ∨ j = 12 ∨ j = 13 by omega) with rfl | rfl | rfl | rfl | rfl | rfl | rfl | rfl | rfl | rfl | rfl | rfl | rfl | rfl <;> rfl
theorem ip_df5 : ∀ j, j < 32 → defaultValue (tyX5 j) = vp_V ((ip_ty 5).map (fun t => match t with | 0 => .int 0 | 1 => .null | _ => .long 0)) j := by
  intro j hj
  rcases (show j = 0 ∨ j = 1 ∨ j = 2 ∨ j = 3 ∨ j = 4 ∨ j = 5 ∨ j = 6 ∨ j = 7 ∨ j = 8 ∨ j = 9 ∨ j = 10 ∨ j = 11 ∨ j = 12 ∨ j = 13 ∨ j = 14 ∨ j = 15 ∨ j = 16 ∨ j = 17 ∨ j = 18 ∨ j = 19 ∨ j = 20 ∨ j = 21 ∨ j = 22 ∨ j = 23 ∨ j = 24 ∨ j = 25 ∨ j = 26 ∨ j = 27 ∨ j = 28 ∨ j = 29 ∨ j = 30 ∨ j = 31 by omega) with rfl | rfl | rfl | rfl | rfl | rfl | rfl | rfl | rfl | rfl | rfl | rfl | rfl | rfl | rfl | rfl | rfl | rfl | rfl | rfl | rfl | rfl | rfl | rfl | rfl | rfl | rfl | rfl | rfl | rfl | rfl | rfl <;> rfl
