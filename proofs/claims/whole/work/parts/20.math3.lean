/-! what the answers are, and what becomes of the picture -/
def ip_VV (M : ip_M) : Prop := ∃ nf nj np, ip_vv M nf nj np
abbrev ip_isF (M : ip_M) (f : Int32) : Prop := 0 ≤ f ∧ f ≤ M 50 4 - 1
theorem ip_isF_of {M : ip_M} {nf : Nat} (h : M 50 4 = nI nf) (hn : nf ≤ 4) (f : Int32) : ip_isF M f ↔ ∃ i, i < nf ∧ f = nI i := by
  have h1 : (M 50 4).toInt = nf := by rw [h]; exact nI_toInt (by omega)
  have h2 : (1 : Int32).toInt = 1 := rfl
  have h0 : (0 : Int32).toInt = 0 := rfl
  have h3 : (M 50 4 - 1).toInt = (nf : Int) - 1 := by rw [ip_subI (by omega) (by omega)]; omega
  unfold ip_isF
  rw [ip_leI, ip_leI, h3, h0]
  constructor
  · rintro ⟨a, b⟩
    exact ⟨f.toInt.toNat, by omega, ip_ofI (by omega)⟩
  · rintro ⟨i, hi, rfl⟩
    have : (nI i).toInt = i := nI_toInt (by omega)
    omega
theorem ip_isF_vv {M : ip_M} {nf nj np : Nat} (h : ip_vv M nf nj np) (f : Int32) : ip_isF M f ↔ ∃ i, i < nf ∧ f = nI i := ip_isF_of h.1.1 h.1.2.1 f
def g_known (M : ip_M) (m w : Int32) : Int32 := if 0 ≤ m ∧ m ≤ 299 then (if w = 0 then ip_cold (M 51) (M 52) m.toNatClampNeg else if w = 1 then ip_fall (M 51) (M 53) m.toNatClampNeg else if w = 2 then (if M 51 m.toNatClampNeg = 0 then 0 else 1) else -100) else -100
def g_hold (M : ip_M) (f n : Nat) : Int32 := ip_hold (M 55 f) (M 57 f) (M 58 f) (M 56 (4 * f + (ip_fall (M 51) (M 53) n).toNatClampNeg)) (ip_cold (M 51) (M 52) n)
def g_tb (M : ip_M) (f : Nat) : Int64 := if M 55 f = 0 then 1 else if M 55 f = 1 then 11 else 111
theorem ip_w2 {w : Int32} : (0 ≤ w ∧ w ≤ 2) ↔ (w = 0 ∨ w = 1 ∨ w = 2) := by
  rw [ip_leI, ip_leI, ip_eqI, ip_eqI, ip_eqI]
  have h0 : (0 : Int32).toInt = 0 := rfl
  have h1 : (1 : Int32).toInt = 1 := rfl
  have h2 : (2 : Int32).toInt = 2 := rfl
  omega
theorem ip_fallN {M : ip_M} (hw : ip_vw M) (n : Nat) : ∃ j, j < 4 ∧ ip_fall (M 51) (M 53) n = nI j ∧ (ip_fall (M 51) (M 53) n).toNatClampNeg = j := by
  have h := ip_fall_rng (T := M 51) (F := M 53) (n := n) (fun i h => ⟨(hw i h).2.2.1, (hw i h).2.2.2⟩)
  have h1 : ip_fall (M 51) (M 53) n = nI (ip_fall (M 51) (M 53) n).toInt.toNat := ip_ofI (by omega)
  refine ⟨_, by omega, h1, ?_⟩
  have h2 := nI_clamp (n := (ip_fall (M 51) (M 53) n).toInt.toNat) (by omega)
  rw [← h1] at h2
  exact h2
/-- the reference's way to a hold -/
theorem ip_holdM {k t p sp c : Int32} (hk : k = 0 ∨ k = 1 ∨ k = 2) : (if k = 2 then (if 0 < k then (if c < -10 then sp / 2 else sp) * t else (if c < -10 then sp / 2 else sp)) * p / 10 else (if 0 < k then (if c < -10 then sp / 2 else sp) * t else (if c < -10 then sp / 2 else sp))) = ip_hold k t p sp c := by
  rcases hk with rfl | rfl | rfl <;> simp [ip_hold, ip_thin]
def g_fill (M : ip_M) (f n : Int32) : Int32 × ip_M := if ip_isF M f ∧ 0 ≤ n ∧ n ≤ 2000 then (M 59 f.toNatClampNeg, ip_u M 59 f.toNatClampNeg n) else (-100, M)
def g_litres (M : ip_M) (f : Int32) : Int32 := if ip_isF M f then M 59 f.toNatClampNeg else -100
def g_set (M : ip_M) (w v : Int32) : Int32 × ip_M := if w = 0 ∧ 1 ≤ v ∧ v ≤ 3 then (if 0 < M 64 0 + M 64 1 + M 64 2 then (-200, M) else (M 50 10, ip_u M 50 10 v)) else if w = 1 ∧ 10 ≤ v ∧ v ≤ 1000 then (M 50 11, ip_u M 50 11 v) else if w = 2 ∧ 0 ≤ v ∧ v ≤ 50 then (M 50 12, ip_u M 50 12 v) else (-100, M)
theorem ip_inN {i n N : Nat} (h : i < n) (hn : n ≤ N) (hN : N < 1000) : vp_in (nI i) N ∧ (nI i).toNatClampNeg = i := ⟨vp_in_nI (by omega) (by omega), nI_clamp (by omega)⟩
