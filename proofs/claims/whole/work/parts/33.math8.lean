/-! THE CLASS'S CELLS PICTURE M -/
def ip_cS (M : ip_M) (S : ip_S) : Prop := S.1 0 8 = M 50 0 ∧ S.1 0 2 = M 50 4 ∧ S.1 0 4 = M 50 15 ∧ S.1 0 6 = M 50 10 ∧ S.1 0 9 = M 50 11 ∧ S.1 0 10 = M 50 12 ∧ S.1 0 11 = M 50 13 ∧ S.1 0 12 = M 50 26 ∧ S.1 4 = M 51 ∧ S.1 2 = M 52 ∧ S.1 3 = M 53
def ip_cF (M : ip_M) (S : ip_S) (nf : Nat) : Prop := (∀ i, i < nf → S.2.1 5 i = some (20 + i) ∧ (S.2.2.2 (20 + i)).1 = 0 ∧ S.2.1 (20 + i) 1 = some (20 + i + 4) ∧ S.2.2.2 (20 + i + 4) = (6, 4) ∧ S.1 (20 + i) 0 = M 55 i ∧ S.1 (20 + i) 2 = M 57 i ∧ S.1 (20 + i) 3 = M 58 i ∧ S.1 (20 + i) 4 = M 59 i ∧ ∀ j, j < 4 → S.1 (20 + i + 4) j = M 56 (4 * i + j)) ∧ ∀ i, nf ≤ i → i < 4 → S.2.1 5 i = none ∧ 10 ≤ (S.2.2.2 (20 + i)).1 ∧ 10 ≤ (S.2.2.2 (20 + i + 4)).1
def ip_cJ (M : ip_M) (S : ip_S) (nj np : Nat) : Prop := (∀ j, j < nj → S.2.1 6 j = some (30 + j) ∧ (S.2.2.2 (30 + j)).1 = 1 ∧ S.1 (30 + j) 0 = nI j ∧ S.1 (30 + j) 1 = M 67 j ∧ S.2.1 (30 + j) 2 = some (20 + (M 70 j).toNatClampNeg) ∧ S.1 (30 + j) 3 = M 66 j ∧ S.1 (30 + j) 4 = M 69 j ∧ S.1 (30 + j) 5 = M 68 j ∧ S.1 (30 + j) 7 = M 72 j ∧ S.1 (30 + j) 8 = M 75 j ∧ S.1 (30 + j) 9 = M 74 j ∧ (M 71 j = 1 → S.1 (30 + j) 10 = M 72 j + M 73 j ∧ ∃ p, p < np ∧ M 64 p = nI (j + 1) ∧ S.1 (30 + j) 6 = nI p) ∧ (¬ M 71 j = 1 → S.1 (30 + j) 6 = -900)) ∧ ∀ j, nj ≤ j → j < 12 → S.2.1 6 j = none ∧ 10 ≤ (S.2.2.2 (30 + j)).1
def ip_cP (M : ip_M) (S : ip_S) : Prop := ∀ p, p < 3 → S.2.1 7 p = if M 64 p = 0 then none else some (29 + (M 64 p).toNatClampNeg)
def ip_cR (M : ip_M) (S : ip_S) : Prop := ∃ nf nj np, ip_vv M nf nj np ∧ ip_cS M S ∧ ip_cF M S nf ∧ ip_cJ M S nj np ∧ ip_cP M S
/-- only the class's cells changed, and not its long -/
def ip_fC (S S' : ip_S) : Prop := (∀ p, 50 ≤ p ∨ p = 10 → S'.1 p = S.1 p) ∧ ∀ p, p = 0 ∨ p = 50 → S'.2.2.1 p = S.2.2.1 p
theorem ip_fC.rf {S : ip_S} : ip_fC S S := ⟨fun _ _ => rfl, fun _ _ => rfl⟩
theorem ip_fC.tr {S S1 S2 : ip_S} (h : ip_fC S S1) (h2 : ip_fC S1 S2) : ip_fC S S2 := ⟨fun p hp => (h2.1 p hp).trans (h.1 p hp), fun p hp => (h2.2 p hp).trans (h.2 p hp)⟩
theorem ip_fC.sI {S S1 : ip_S} (h : ip_fC S S1) {p : Nat} (hp : p < 50 ∧ p ≠ 10) (k : Nat) (v : Int32) : ip_fC S (ip_sI S1 p k v) := ⟨fun q hq => (funext (fun j => ip_sI_p (by omega))).trans (h.1 q hq), h.2⟩
theorem ip_fC.sR {S S1 : ip_S} (h : ip_fC S S1) (p k : Nat) (v : Option Nat) : ip_fC S (ip_sR S1 p k v) := ⟨h.1, h.2⟩
theorem ip_fC.nw {S S1 : ip_S} (h : ip_fC S S1) {p : Nat} (hp : p < 50 ∧ p ≠ 10 ∧ p ≠ 0) (kd : Nat × Nat) : ip_fC S (ip_nw S1 p kd) := ⟨fun q hq => (funext (fun j => if_neg (by omega))).trans (h.1 q hq), fun q hq => (funext (fun j => if_neg (by omega))).trans (h.2 q hq)⟩
theorem ip_fC.eM {M : ip_M} {S S1 : ip_S} (h : ip_fC S S1) (hE : ip_eM M S) : ip_eM M S1 := fun p hp => (h.1 p (Or.inl hp)).trans (hE p hp)
/-- what the reference does leaves the class's cells -/
theorem ip_cR.fM {M : ip_M} {S S1 : ip_S} (h : ip_cR M S) (hf : ip_fM S S1) : ip_cR M S1 := by
  obtain ⟨nf, nj, np, hv, h1, h2, h3, h4⟩ := h
  have e1 : ∀ p, p < 50 → S1.1 p = S.1 p := hf.1
  have e2 : S1.2.1 = S.2.1 := by rw [hf.2]
  have e3 : S1.2.2.2 = S.2.2.2 := by rw [hf.2]
  have hnf := hv.1.2.1
  have hnj := hv.1.2.2.2.1
  refine ⟨nf, nj, np, hv, ?_, ⟨fun i hi => ?_, ?_⟩, ⟨fun j hj => ?_, ?_⟩, ?_⟩
  · unfold ip_cS
    rw [e1 0 (by decide), e1 4 (by decide), e1 2 (by decide), e1 3 (by decide)]
    exact h1
  · rw [e2, e3, e1 (20 + i) (by omega), e1 (20 + i + 4) (by omega)]
    exact h2.1 i hi
  · rw [e2, e3]; exact h2.2
  · rw [e2, e3, e1 (30 + j) (by omega)]
    exact h3.1 j hj
  · rw [e2, e3]; exact h3.2
  · unfold ip_cP
    rw [e2]; exact h4
/-- what a hold is read from -/
def ip_hS (M : ip_M) (S : ip_S) : Prop := S.1 4 = M 51 ∧ S.1 2 = M 52 ∧ S.1 3 = M 53
def ip_hF (M : ip_M) (S : ip_S) (i : Nat) : Prop := (S.2.2.2 (20 + i)).1 = 0 ∧ S.2.1 (20 + i) 1 = some (20 + i + 4) ∧ S.2.2.2 (20 + i + 4) = (6, 4) ∧ S.1 (20 + i) 0 = M 55 i ∧ S.1 (20 + i) 2 = M 57 i ∧ S.1 (20 + i) 3 = M 58 i ∧ ∀ j, j < 4 → S.1 (20 + i + 4) j = M 56 (4 * i + j)
theorem ip_cF.hF {M : ip_M} {S : ip_S} {nf i : Nat} (h : ip_cF M S nf) (hi : i < nf) : ip_hF M S i := by
  obtain ⟨f1, f2, f3, f4, f5, f6, f7, f8, f9⟩ := h.1 i hi
  exact ⟨f2, f3, f4, f5, f6, f7, f9⟩
theorem ip_cS.hS {M : ip_M} {S : ip_S} (h : ip_cS M S) : ip_hS M S := by
  obtain ⟨-, -, -, -, -, -, -, -, s4, s2, s3⟩ := h
  exact ⟨s4, s2, s3⟩
