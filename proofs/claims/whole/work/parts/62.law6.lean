theorem law_loop {p : Program} {l : Launch} {e : Env} {s : State} {m : MethodId} {below : List Frame} {meth : Method} {c : Code} {D : va_G} {cA : Nat → ClassId} {b L : Nat} {xs : Nat → Int32} (hL : L ≤ 4608) (C0 : lw_At p s m meth c b L xs) (hNx : ip_Nx s) : ∀ (n t : Nat) (S : ip_S), L + 9 ≤ 9 * t + n → 9 * t ≤ L → ip_J S → ip_K p l e room_1 s m #[Value.ref b] below meth c D cA (fun q => s.heap.size ≤ q) (lw_Z below #[Value.ref b] s) 4 (ip_cB (36 + 2 * t) (2064 + 11 * t)) ip_Sta (fun _ => b) ip_S00 18 [some (.inr (.inl (some 99))), some (.inr (.inl (some 0))), some (.inr (.inl (some 50))), some (.inl (nI (9 * t)))] [] S := by
  intro n
  induction n with
  | zero =>
    intro t S h1 h2 hJ
    exact absurd h1 (by omega)
  | succ n ih =>
    intro t S h1 h2 hJ
    have ha : 36 + 2 * t ≤ 500000 := by omega
    have hb2 : 2064 + 11 * t ≤ 7000000 := by omega
    have K630 : ∀ S2, 9 * t + 9 ≤ L → ip_J S2 → ip_K p l e room_1 s m #[Value.ref b] below meth c D cA (fun q => s.heap.size ≤ q) (lw_Z below #[Value.ref b] s) 4 (ip_cB (36 + 2 * t) (2064 + 11 * t)) ip_Sta (fun _ => b) ip_S00 630 [some (.inr (.inl (some 99))), some (.inr (.inl (some 0))), some (.inr (.inl (some 50))), some (.inl (nI (9 * t)))] [] S2 := by
      intro S2 hi hJ2
      have kn := ih (t + 1) S2 (by omega) (by omega) hJ2
      have kT : ip_K p l e room_1 s m #[Value.ref b] below meth c D cA (fun q => s.heap.size ≤ q) (lw_Z below #[Value.ref b] s) 4 (fun _ => (36 + 2 * t + 2, 2064 + 11 * t + 11)) ip_Sta (fun _ => b) ip_S00 630 [some (.inr (.inl (some 99))), some (.inr (.inl (some 0))), some (.inr (.inl (some 50))), some (.inl (nI (9 * t)))] [] S2 := by
        refine ip_run_ok (tL_T C0 hNx) (stop := fun pc => Nat.beq pc 18) (fun pc loc st S3 hz => ?_) 10 630 _ _ S2 (vL_T S2)
        obtain ⟨rfl, rfl, rfl, rfl⟩ := hz
        rw [show 9 * t + 9 = 9 * (t + 1) by omega]
        refine ip_K_cnt ?_ kn
        show (36 + 2 * (t + 1), 2064 + 11 * (t + 1)) = (36 + 2 * t + 2, 2064 + 11 * t + 11)
        rw [show 36 + 2 * (t + 1) = 36 + 2 * t + 2 by omega, show 2064 + 11 * (t + 1) = 2064 + 11 * t + 11 by omega]
      exact ip_K_cnt rfl kT
    refine ip_run_ok (tL_H C0 hNx ha hb2) (stop := fun pc => Nat.beq pc 108 || Nat.beq pc 151 || Nat.beq pc 174 || Nat.beq pc 207 || Nat.beq pc 306 || Nat.beq pc 339 || Nat.beq pc 372 || Nat.beq pc 405 || Nat.beq pc 458 || Nat.beq pc 481 || Nat.beq pc 514 || Nat.beq pc 537 || Nat.beq pc 560 || Nat.beq pc 593 || Nat.beq pc 616 || Nat.beq pc 630) (fun pc loc st S2 hz => ?_) 40 18 _ _ S (vL_H hL h2 S)
    obtain ⟨hpc, rfl, rfl, rfl, hi⟩ := hz
    rcases hpc with rfl | rfl | rfl | rfl | rfl | rfl | rfl | rfl | rfl | rfl | rfl | rfl | rfl | rfl | rfl | rfl
    · refine ip_run_ok (tL_c0 C0 hNx ha hb2) (stop := fun pc => Nat.beq pc 630) (fun pc loc st S3 hz => ?_) 100 108 _ _ S2 (vL_c0 hL hi S2 hJ)
      obtain ⟨rfl, rfl, rfl, hJ3⟩ := hz
      exact K630 S3 hi hJ3
    · refine ip_run_ok (tL_c1 C0 hNx ha hb2) (stop := fun pc => Nat.beq pc 630) (fun pc loc st S3 hz => ?_) 100 151 _ _ S2 (vL_c1 hL hi S2 hJ)
      obtain ⟨rfl, rfl, rfl, hJ3⟩ := hz
      exact K630 S3 hi hJ3
    · refine ip_run_ok (tL_c2 C0 hNx ha hb2) (stop := fun pc => Nat.beq pc 630) (fun pc loc st S3 hz => ?_) 100 174 _ _ S2 (vL_c2 hL hi S2 hJ)
      obtain ⟨rfl, rfl, rfl, hJ3⟩ := hz
      exact K630 S3 hi hJ3
    · refine ip_run_ok (tL_c3 C0 hNx ha hb2) (stop := fun pc => Nat.beq pc 630) (fun pc loc st S3 hz => ?_) 100 207 _ _ S2 (vL_c3 hL hi S2 hJ)
      obtain ⟨rfl, rfl, rfl, hJ3⟩ := hz
      exact K630 S3 hi hJ3
    · refine ip_run_ok (tL_c4 C0 hNx ha hb2) (stop := fun pc => Nat.beq pc 630) (fun pc loc st S3 hz => ?_) 100 306 _ _ S2 (vL_c4 hL hi S2 hJ)
      obtain ⟨rfl, rfl, rfl, hJ3⟩ := hz
      exact K630 S3 hi hJ3
    · refine ip_run_ok (tL_c5 C0 hNx ha hb2) (stop := fun pc => Nat.beq pc 630) (fun pc loc st S3 hz => ?_) 100 339 _ _ S2 (vL_c5 hL hi S2 hJ)
      obtain ⟨rfl, rfl, rfl, hJ3⟩ := hz
      exact K630 S3 hi hJ3
    · refine ip_run_ok (tL_c6 C0 hNx ha hb2) (stop := fun pc => Nat.beq pc 630) (fun pc loc st S3 hz => ?_) 100 372 _ _ S2 (vL_c6 hL hi S2 hJ)
      obtain ⟨rfl, rfl, rfl, hJ3⟩ := hz
      exact K630 S3 hi hJ3
    · refine ip_run_ok (tL_c7 C0 hNx ha hb2) (stop := fun pc => Nat.beq pc 630) (fun pc loc st S3 hz => ?_) 100 405 _ _ S2 (vL_c7 hL hi S2 hJ)
      obtain ⟨rfl, rfl, rfl, hJ3⟩ := hz
      exact K630 S3 hi hJ3
    · refine ip_run_ok (tL_c8 C0 hNx ha hb2) (stop := fun pc => Nat.beq pc 630) (fun pc loc st S3 hz => ?_) 100 458 _ _ S2 (vL_c8 hL hi S2 hJ)
      obtain ⟨rfl, rfl, rfl, hJ3⟩ := hz
      exact K630 S3 hi hJ3
    · refine ip_run_ok (tL_c9 C0 hNx ha hb2) (stop := fun pc => Nat.beq pc 630) (fun pc loc st S3 hz => ?_) 100 481 _ _ S2 (vL_c9 hL hi S2 hJ)
      obtain ⟨rfl, rfl, rfl, hJ3⟩ := hz
      exact K630 S3 hi hJ3
    · refine ip_run_ok (tL_c10 C0 hNx ha hb2) (stop := fun pc => Nat.beq pc 630) (fun pc loc st S3 hz => ?_) 100 514 _ _ S2 (vL_c10 hL hi S2 hJ)
      obtain ⟨rfl, rfl, rfl, hJ3⟩ := hz
      exact K630 S3 hi hJ3
    · refine ip_run_ok (tL_c11 C0 hNx ha hb2) (stop := fun pc => Nat.beq pc 630) (fun pc loc st S3 hz => ?_) 100 537 _ _ S2 (vL_c11 hL hi S2 hJ)
      obtain ⟨rfl, rfl, rfl, hJ3⟩ := hz
      exact K630 S3 hi hJ3
    · refine ip_run_ok (tL_c12 C0 hNx ha hb2) (stop := fun pc => Nat.beq pc 630) (fun pc loc st S3 hz => ?_) 100 560 _ _ S2 (vL_c12 hL hi S2 hJ)
      obtain ⟨rfl, rfl, rfl, hJ3⟩ := hz
      exact K630 S3 hi hJ3
    · refine ip_run_ok (tL_c13 C0 hNx ha hb2) (stop := fun pc => Nat.beq pc 630) (fun pc loc st S3 hz => ?_) 100 593 _ _ S2 (vL_c13 hL hi S2 hJ)
      obtain ⟨rfl, rfl, rfl, hJ3⟩ := hz
      exact K630 S3 hi hJ3
    · refine ip_run_ok (tL_c14 C0 hNx ha hb2) (stop := fun pc => Nat.beq pc 630) (fun pc loc st S3 hz => ?_) 100 616 _ _ S2 (vL_c14 hL hi S2 hJ)
      obtain ⟨rfl, rfl, rfl, hJ3⟩ := hz
      exact K630 S3 hi hJ3
    · exact K630 S2 hi hJ
/-- YOUR PART: from the entry, for every script of at most 4608 ints, the law comes to its end with true -/
theorem whole_start {p : Program} {e : Env} {s : State} {m : MethodId} {below : List Frame} {meth : Method} {c : Code} (l : Launch) {b L : Nat} {xs : Nat → Int32} (hL : L ≤ 4608) (C0 : lw_At p s m meth c b L xs) : W p l e room_1 s m #[Value.ref b] below meth c s.heap [] 0 0 (lw_Z below #[Value.ref b] s) (entryFrame m ([Value.ref b] : List Value).toArray 4) := by
  obtain ⟨D, cA, hK, hNx⟩ := ip_start C0.2.2.2.2.2.1
  have kA : ip_K p l e room_1 s m #[Value.ref b] below meth c D cA (fun q => s.heap.size ≤ q) (lw_Z below #[Value.ref b] s) 4 (fun pc => bif Nat.ble pc 0 then (0, 0) else bif Nat.ble pc 4 then (1, 14) else bif Nat.ble pc 8 then (13, 962) else bif Nat.ble pc 12 then (14, 994) else (36, 2064)) ip_Tr (fun _ => b) ip_S00 0 [some (.inr (.inl (some 99))), none, none, none] [] ip_S00 := by
    refine ip_run_ok (tL_A C0 hNx) (stop := fun pc => Nat.beq pc 18) (fun pc loc st S hz => ?_) 30 0 _ _ ip_S00 (vL_A L xs)
    obtain ⟨rfl, rfl, rfl, rfl⟩ := hz
    exact ip_K_I ip_S1_Sta (ip_K_cnt rfl (law_loop hL C0 hNx (L + 9) 0 ip_S1 (by omega) (by omega) ip_S1_J))
  have hc1 : ∀ v ∈ ([Value.ref b] : List Value), v.category = 1 := by
    intro v hv
    rw [List.mem_singleton.mp hv]
    rfl
  have hl := lv_entry [Value.ref b] (n := 4) (by rw [ip_lg_len _ hc1]; exact Nat.le_of_ble_eq_true rfl)
  rw [lg_entry_eq]
  refine kA (fun _ => b) [] s.heap [] _ trivial ⟨rfl, _, hl, fun i v hi => ?_⟩ (fun v hv => absurd hv List.not_mem_nil) (fun v hv => ?_) (fun q hq => ⟨hq, rfl⟩) ⟨fun q => ⟨fun h => absurd h List.not_mem_nil, fun h => ?_⟩, fun q k o h => (by cases h), hK, fun k q h => (by cases h), ⟨fun i j q1 q2 h => (by cases h), fun k q h => (by cases h)⟩, va_S.rf⟩
  · match i, hi with
    | 0, hi =>
      have hv : v = .inr (.inl (some 99)) := (Option.some.inj (Option.some.inj hi)).symm
      subst hv
      exact ⟨ip_lv_args [Value.ref b] 0 0 (Value.ref b) hc1 rfl, rfl⟩
    | 1, hi => cases hi
    | 2, hi => cases hi
    | 3, hi => cases hi
    | k + 4, hi => cases hi
  · have hv : v = .inr (.inl (some 99)) := by
      rcases List.mem_cons.mp hv with h | h
      · exact Option.some.inj h
      · rcases List.mem_cons.mp h with h | h
        · cases h
        · rcases List.mem_cons.mp h with h | h
          · cases h
          · rcases List.mem_cons.mp h with h | h
            · cases h
            · cases h
    subst hv
    exact ip_ok_r (Or.inr rfl)
  · exact absurd h (show ¬ (99 < 10) by decide)
