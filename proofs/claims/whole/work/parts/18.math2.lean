/-! numbers of 32 bits as integers -/
theorem ip_addI {a b : Int32} (h1 : -2147483648 ≤ a.toInt + b.toInt) (h2 : a.toInt + b.toInt < 2147483648) : (a + b).toInt = a.toInt + b.toInt := by
  rw [Int32.toInt_add]
  exact Int.bmod_eq_of_le (by omega) (by omega)
theorem ip_subI {a b : Int32} (h1 : -2147483648 ≤ a.toInt - b.toInt) (h2 : a.toInt - b.toInt < 2147483648) : (a - b).toInt = a.toInt - b.toInt := by
  rw [Int32.toInt_sub]
  exact Int.bmod_eq_of_le (by omega) (by omega)
theorem ip_mulI {a b : Int32} (h1 : -2147483648 ≤ a.toInt * b.toInt) (h2 : a.toInt * b.toInt < 2147483648) : (a * b).toInt = a.toInt * b.toInt := by
  rw [Int32.toInt_mul]
  exact Int.bmod_eq_of_le (by omega) (by omega)
theorem ip_ofI {x : Int32} {k : Nat} (h : x.toInt = k) : x = nI k := by
  have h1 : x.toInt < 2147483648 := Int32.toInt_lt x
  exact Int32.toInt_inj.mp (by rw [h, nI_toInt (by omega)])
theorem ip_ltI {a b : Int32} : a < b ↔ a.toInt < b.toInt := Int32.lt_iff_toInt_lt
theorem ip_leI {a b : Int32} : a ≤ b ↔ a.toInt ≤ b.toInt := Int32.le_iff_toInt_le
theorem ip_eqI {a b : Int32} : a = b ↔ a.toInt = b.toInt := Int32.toInt_inj.symm
theorem ip_cL_stop {T C : Nat → Int32} {n : Nat} : ∀ (d b : Nat), n ≤ b → ip_cL T C n (b + d) = ip_cL T C n b
  | 0, b, h => rfl
  | d + 1, b, h => by
    rw [show b + (d + 1) = b + d + 1 by omega, ip_cL, if_neg (fun z => by omega)]
    exact ip_cL_stop d b h
theorem ip_fL_stop {T C : Nat → Int32} {n : Nat} : ∀ (d b : Nat), n ≤ b → ip_fL T C n (b + d) = ip_fL T C n b
  | 0, b, h => rfl
  | d + 1, b, h => by
    rw [show b + (d + 1) = b + d + 1 by omega, ip_fL, if_neg (fun z => by omega)]
    exact ip_fL_stop d b h
theorem ip_cL_rng {T C : Nat → Int32} {n : Nat} (hv : ∀ i, ¬ T i = 0 → -30 ≤ (C i).toInt ∧ (C i).toInt ≤ 5) : ∀ (b : Nat) (c : Int32), ip_cL T C n b = some c → -30 ≤ c.toInt ∧ c.toInt ≤ 5
  | 0, c, h => by simp [ip_cL] at h
  | b + 1, c, h => by
    rw [ip_cL] at h
    split at h
    · rename_i hc
      have h1 := hv _ hc.2
      cases ho : ip_cL T C n b with
      | none => rw [ho] at h; cases h; exact h1
      | some v =>
        rw [ho] at h
        have h2 := ip_cL_rng hv b v ho
        simp only [Option.some.injEq] at h
        split at h
        · rw [← h]; exact h1
        · rw [← h]; exact h2
    · exact ip_cL_rng hv b c h
theorem ip_fL_rng {T F : Nat → Int32} {n : Nat} (hv : ∀ i, ¬ T i = 0 → 0 ≤ (F i).toInt ∧ (F i).toInt ≤ 3) : ∀ (b : Nat), 0 ≤ (ip_fL T F n b).toInt ∧ (ip_fL T F n b).toInt ≤ 3
  | 0 => by
    have : (ip_fL T F n 0).toInt = 0 := rfl
    omega
  | b + 1 => by
    rw [ip_fL]
    split
    · rename_i hc
      have h1 := hv _ hc.2
      have h2 := ip_fL_rng (n := n) hv b
      split
      · exact h1
      · exact h2
    · exact ip_fL_rng hv b
theorem ip_fall_rng {T F : Nat → Int32} {n : Nat} (hv : ∀ i, ¬ T i = 0 → 0 ≤ (F i).toInt ∧ (F i).toInt ≤ 3) : 0 ≤ (ip_fall T F n).toInt ∧ (ip_fall T F n).toInt ≤ 3 := by
  unfold ip_fall
  split
  · exact ip_fL_rng hv 30
  · exact hv n ‹_›
