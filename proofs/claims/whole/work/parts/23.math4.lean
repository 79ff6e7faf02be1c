/-! how a minute goes, in the picture -/
def g_lv1 (M : ip_M) (p : Nat) : ip_M :=
  if M 64 p = 0 then M
  else if M 72 ((M 64 p).toNatClampNeg - 1) + 2 * M 66 ((M 64 p).toNatClampNeg - 1) = M 50 0 then
    (if M 50 0 + M 69 ((M 64 p).toNatClampNeg - 1) - M 72 ((M 64 p).toNatClampNeg - 1) ≤ M 73 ((M 64 p).toNatClampNeg - 1)
      then ip_u (ip_u (ip_u M 64 p 0) 71 ((M 64 p).toNatClampNeg - 1) 2) 75 ((M 64 p).toNatClampNeg - 1) (M 50 0 + M 69 ((M 64 p).toNatClampNeg - 1))
      else ip_u (ip_u (ip_u (ip_u M 64 p 0) 71 ((M 64 p).toNatClampNeg - 1) 0) 68 ((M 64 p).toNatClampNeg - 1) (M 50 0 + M 69 ((M 64 p).toNatClampNeg - 1))) 74 ((M 64 p).toNatClampNeg - 1) (M 74 ((M 64 p).toNatClampNeg - 1) + 1))
  else M
theorem g_lv1_0 {M : ip_M} {p : Nat} (h : M 64 p = 0) : g_lv1 M p = M := by unfold g_lv1; rw [if_pos h]
theorem g_lv1_j {M : ip_M} {p j : Nat} (h : M 64 p = nI (j + 1)) (hj : j < 12) : g_lv1 M p = if M 72 j + 2 * M 66 j = M 50 0 then (if M 50 0 + M 69 j - M 72 j ≤ M 73 j then ip_u (ip_u (ip_u M 64 p 0) 71 j 2) 75 j (M 50 0 + M 69 j) else ip_u (ip_u (ip_u (ip_u M 64 p 0) 71 j 0) 68 j (M 50 0 + M 69 j)) 74 j (M 74 j + 1)) else M := by
  have h1 : (M 64 p).toNatClampNeg - 1 = j := by rw [h, nI_clamp (by omega)]; omega
  unfold g_lv1
  rw [if_neg (by rw [h]; exact nI_ne0 (by omega) (by omega)), h1]
abbrev g_may (M : ip_M) (j : Nat) : Prop := M 71 j = 0 ∧ M 68 j ≤ M 50 0 ∧ 10 * M 66 j ≤ M 59 (M 70 j).toNatClampNeg ∧ M 50 13 + 8 * M 66 j ≤ M 50 11
def g_pick (M : ip_M) : Nat → Option Nat
  | 0 => none
  | j + 1 => match g_pick M j with
    | none => if g_may M j then some j else none
    | some b => if g_may M j ∧ M 68 j < M 68 b then some j else some b
theorem g_pick_lt {M : ip_M} : ∀ {n b : Nat}, g_pick M n = some b → b < n ∧ g_may M b
  | 0, b, h => by simp [g_pick] at h
  | n + 1, b, h => by
    rw [g_pick] at h
    cases ho : g_pick M n with
    | none =>
      rw [ho] at h
      simp only at h
      split at h
      · cases h; exact ⟨by omega, by assumption⟩
      · cases h
    | some c =>
      rw [ho] at h
      simp only at h
      have h2 := g_pick_lt ho
      split at h
      · rename_i hc
        cases h; exact ⟨by omega, hc.1⟩
      · cases h; exact ⟨by omega, h2.2⟩
def g_bg1 (M : ip_M) (p : Nat) : ip_M :=
  if M 64 p = 0 then (match g_pick M (M 50 15).toNatClampNeg with
    | none => M
    | some b => ip_u (ip_u (ip_u (ip_u (ip_u (ip_u (ip_u M 64 p (nI b + 1)) 71 b 1) 72 b (M 50 0)) 73 b (g_hold M (M 70 b).toNatClampNeg (M 50 0).toNatClampNeg)) 59 (M 70 b).toNatClampNeg (M 59 (M 70 b).toNatClampNeg - 10 * M 66 b)) 50 13 (M 50 13 + 8 * M 66 b)) 50 26 (M 50 26 + 1))
  else M
theorem ip_vp_at {M : ip_M} {nf nj np : Nat} (hv : ip_vv M nf nj np) {p : Nat} (hp : p < 3) : M 64 p = 0 ∨ ∃ j, j < 12 ∧ j < nj ∧ p < np ∧ M 64 p = nI (j + 1) ∧ M 71 j = 1 := by
  rcases hv.2.2.2.2.2.1 p hp with h | ⟨h1, j, h2, h3, h4⟩
  · exact Or.inl h
  · exact Or.inr ⟨j, Nat.lt_of_lt_of_le h2 hv.1.2.2.2.1, h2, h1, h3, h4⟩
