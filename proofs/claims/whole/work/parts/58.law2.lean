/-! THE BEGINNING: nothing is made yet; then both are made -/
def ip_S00 : ip_S := (fun _ _ => 0, fun _ _ => none, fun _ _ => 0, fun _ => (99, 0))
def ip_S1 : ip_S := ip_cX5 (ip_nw (ip_cX4 (ip_nw ip_S00 0 (4, 0))) 50 (5, 0))
theorem ip_kt_lt {q : Nat} (h : (ip_kt q).1 < 10) : q < 100 := by
  unfold ip_kt at h
  split at h <;> first | omega | exact absurd h (by decide)
theorem ip_S1_k : ∀ q, q < 100 → (ip_kt q).1 < 10 → ip_S1.2.2.2 q = ip_kt q := by decide +kernel
theorem ip_S1_r : ∀ q ∈ ip_rt, ip_S1.2.1 q.1 q.2.1 = some q.2.2 := by decide +kernel
theorem ip_S1_Sta : ip_Sta ip_S1 := ⟨fun q h => ip_S1_k q (ip_kt_lt h) h, ip_S1_r⟩
theorem ip_S1_u1 : ∀ q, 1 ≤ q → q ≤ 12 → 10 ≤ ((ip_nw ip_S00 0 (4, 0)).2.2.2 q).1 := by
  intro q h1 h2
  show 10 ≤ (if q = 0 then (4, 0) else (99, 0)).1
  rw [if_neg (by omega)]
  decide
theorem ip_S1_u2 : ∀ q, 82 ≤ q ∨ q < 50 ∨ 10 ≤ ((ip_nw (ip_cX4 (ip_nw ip_S00 0 (4, 0))) 50 (5, 0)).2.2.2 q).1 ∨ q = 50 := by
  intro q
  by_cases h : 82 ≤ q
  · exact Or.inl h
  by_cases h2 : q < 50
  · exact Or.inr (Or.inl h2)
  · have : ∀ q, q < 82 → 50 < q → 10 ≤ ((ip_nw (ip_cX4 (ip_nw ip_S00 0 (4, 0))) 50 (5, 0)).2.2.2 q).1 := by decide +kernel
    by_cases h3 : q = 50
    · exact Or.inr (Or.inr (Or.inr h3))
    · exact Or.inr (Or.inr (Or.inl (this q (by omega) (by omega))))
theorem ip_S1_z {q : Nat} (h : q = 2 ∨ q = 3 ∨ q = 4 ∨ q = 10 ∨ q = 51 ∨ q = 52 ∨ q = 53 ∨ q = 64) (k : Nat) : ip_S1.1 q k = 0 := by
  rcases h with rfl | rfl | rfl | rfl | rfl | rfl | rfl | rfl <;> rfl
theorem ip_S1_vv : ip_vv ip_S1.1 0 0 1 := by
  refine ⟨⟨by decide +kernel, by decide, by decide +kernel, by decide, by decide +kernel, by decide, by decide⟩, fun i h => absurd (ip_S1_z (by omega) i) h, ⟨⟨by decide +kernel, by decide +kernel⟩, ⟨by decide +kernel, by decide +kernel⟩, ⟨by decide +kernel, by decide +kernel⟩, ⟨by decide +kernel, by decide +kernel⟩⟩, fun i h => absurd h (by omega), fun j h => absurd h (by omega), fun p hp => Or.inl (ip_S1_z (by omega) p), fun j h => absurd h (by omega), fun p q _ _ _ h => absurd (ip_S1_z (by omega) p) h⟩
theorem ip_S1_cR : ip_cR ip_S1.1 ip_S1 := by
  refine ⟨0, 0, 1, ip_S1_vv, ⟨by decide +kernel, by decide +kernel, by decide +kernel, by decide +kernel, by decide +kernel, by decide +kernel, by decide +kernel, by decide +kernel, ?_, ?_, ?_⟩, ⟨fun i h => absurd h (by omega), ?_⟩, ⟨fun j h => absurd h (by omega), ?_⟩, ?_⟩
  · funext i
    rw [ip_S1_z (by omega), ip_S1_z (by omega)]
  · funext i
    rw [ip_S1_z (by omega), ip_S1_z (by omega)]
  · funext i
    rw [ip_S1_z (by omega), ip_S1_z (by omega)]
  · have : ∀ i, i < 4 → ip_S1.2.1 5 i = none ∧ 10 ≤ (ip_S1.2.2.2 (20 + i)).1 ∧ 10 ≤ (ip_S1.2.2.2 (20 + i + 4)).1 := by decide +kernel
    exact fun i _ h => this i h
  · have : ∀ j, j < 12 → ip_S1.2.1 6 j = none ∧ 10 ≤ (ip_S1.2.2.2 (30 + j)).1 := by decide +kernel
    exact fun j _ h => this j h
  · intro p hp
    have : ∀ p, p < 3 → ip_S1.2.1 7 p = none := by decide +kernel
    rw [if_pos (ip_S1_z (by omega) p)]
    exact this p hp
theorem ip_S1_J : ip_J ip_S1 := ⟨ip_S1.1, ip_S1_cR, fun _ _ => rfl, by decide +kernel, fun x _ => ip_S1_z (by omega) x⟩
/-! the counters -/
def ip_cB (a b : Nat) (pc : Nat) : Nat × Nat := bif Nat.ble pc 253 then (a, b) else bif Nat.ble pc 305 then (a + 2, b + 9) else bif Nat.ble pc 428 then (a, b) else bif Nat.ble pc 457 then (a + 1, b + 11) else bif Nat.ble pc 629 then (a, b) else bif Nat.ble pc 635 then (a + 2, b + 11) else (a, b)
theorem ip_cB_le {a b : Nat} (h1 : a ≤ 500000) (h2 : b ≤ 7000000) (pc : Nat) : (ip_cB a b pc).1 ≤ 590000 ∧ (ip_cB a b pc).2 ≤ 7200000 := by
  unfold ip_cB
  cases Nat.ble pc 253 <;> cases Nat.ble pc 305 <;> cases Nat.ble pc 428 <;> cases Nat.ble pc 457 <;> cases Nat.ble pc 629 <;> cases Nat.ble pc 635 <;> (simp only [cond]; omega)
theorem ip_cB_up {a b : Nat} (pc : Nat) : (ip_cB a b pc).1 ≤ (ip_cB a b 630).1 ∧ (ip_cB a b pc).2 ≤ (ip_cB a b 630).2 := by
  have e : ip_cB a b 630 = (a + 2, b + 11) := rfl
  rw [e]
  unfold ip_cB
  cases Nat.ble pc 253 <;> cases Nat.ble pc 305 <;> cases Nat.ble pc 428 <;> cases Nat.ble pc 457 <;> cases Nat.ble pc 629 <;> cases Nat.ble pc 635 <;> (simp only [cond]; omega)
theorem ip_in8 {i L k : Nat} (hi : i + 9 ≤ L) (hk : k ≤ 8) (hL : L ≤ 4608) : vp_in (nI i + nI k) L := by
  rw [nI_add]
  exact vp_in_nI (by omega) (by omega)
/-- what the tables say of the classes and the arrays -/
theorem ip_start {s : State} {b : Nat} (hts : ∀ w ∈ lw_tbl, w.before #[Value.ref b] s = true) : ∃ (D : va_G) (cA : Nat → ClassId), va_K D vwCl (ip_tys cA) s ∧ ip_Nx s := by
  obtain ⟨c0, i0, k0⟩ := u_known (C := RX0) (T := TX0) (N := 5) hts inX0 (hts (.instantiable RX0 5) (by decide +kernel))
  obtain ⟨c1, i1, k1⟩ := u_known (C := RX1) (T := TX1) (N := 11) hts inX1 (hts (.instantiable RX1 11) (by decide +kernel))
  obtain ⟨c2, i2, k2⟩ := u_known (C := RX2) (T := TX2) (N := 6) hts inX2 (hts (.instantiable RX2 6) (by decide +kernel))
  obtain ⟨c3, i3, k3⟩ := u_known (C := RX3) (T := TX3) (N := 3) hts inX3 (hts (.instantiable RX3 3) (by decide +kernel))
  obtain ⟨c4, i4, k4⟩ := u_known (C := RX4) (T := TX4) (N := 14) hts inX4 (hts (.instantiable RX4 14) (by decide +kernel))
  obtain ⟨c5, i5, k5⟩ := u_known (C := RX5) (T := TX5) (N := 32) hts inX5 (hts (.instantiable RX5 32) (by decide +kernel))
  have ao0 := hts (.arrayOver (.object RX0)) (by decide +kernel)
  have ao1 := hts (.arrayOver (.object RX1)) (by decide +kernel)
  obtain ⟨a6, q6, p6, f6, g6, h6⟩ := Cond.arrayClass_spec (hts (.arrayClass .int) (by decide +kernel))
  obtain ⟨a7, q7, p7, f7, g7, h7⟩ := Cond.arrayClass_spec (hts (.arrayClass .boolean) (by decide +kernel))
  obtain ⟨p8, a8, q8, f8, g8, h8, j8, n8⟩ := Cond.arrayOver_spec ao0
  obtain ⟨p9, a9, q9, f9, g9, h9, j9, n9⟩ := Cond.arrayOver_spec ao1
  refine ⟨(fun k => match k with | 0 => c0 | 1 => c1 | 2 => c2 | 3 => c3 | 4 => c4 | _ => c5, fun k => match k with | 0 => i0 | 1 => i1 | 2 => i2 | 3 => i3 | 4 => i4 | _ => i5), fun k => match k with | 6 => a6 | 7 => a7 | 8 => a8 | _ => a9, ⟨fun c q hq => ?_, fun k q hq => ?_⟩, ?_⟩
  · have hc : c < 6 := (List.getElem?_eq_some_iff.mp hq).1
    rcases (show c = 0 ∨ c = 1 ∨ c = 2 ∨ c = 3 ∨ c = 4 ∨ c = 5 by omega) with rfl | rfl | rfl | rfl | rfl | rfl <;> cases hq
    · exact k0
    · exact k1
    · exact k2
    · exact k3
    · exact k4
    · exact k5
  · have hk : k < 4 := (List.getElem?_eq_some_iff.mp hq).1
    rcases (show k = 0 ∨ k = 1 ∨ k = 2 ∨ k = 3 by omega) with rfl | rfl | rfl | rfl <;> cases hq
    · exact ⟨fun n z => ⟨fun k h => (by cases h), q6, g6, p6, h6⟩, f6⟩
    · exact ⟨fun n z => ⟨fun k h => (by cases h), q7, g7, p7, h7⟩, f7⟩
    · exact ⟨fun n z => ⟨fun k h => (by cases h), q8, h8, p8, j8⟩, q8, p8, h8, j8, f8, n8⟩
    · exact ⟨fun n z => ⟨fun k h => (by cases h), q9, h9, p9, j9⟩, q9, p9, h9, j9, f9, n9⟩
  · exact ⟨va_Nw.of rfl (hts (.methodLinkNest RX4 33 yX2_init "IcePads") (by decide +kernel)), va_Nw.of rfl (hts (.methodLinkNest RX4 9 yX3_init "IcePads") (by decide +kernel)), va_Nw.of rfl (hts (.methodLinkNest RX2 46 yX4_within "IcePads") (by decide +kernel)), va_Nw.of rfl (hts (.methodLinkNest RX3 22 yX4_isMinute "IcePads") (by decide +kernel)), va_AO.of ao0, va_AO.of ao1⟩
