def pL_A (L : Nat) (xs : Nat → Int32) : List (Nat × ip_T) := [(0, ip_t_new 4 3), (3, ip_t_dup 4), (4, ip_t_call 1 preX4_init postX4_init 7), (7, ip_t_as 1 8), (8, ip_t_new 5 11), (11, ip_t_dup 12), (12, ip_t_call 1 preX5_init postX5_init 15), (15, ip_t_as 2 16), (16, ip_t_ci 0 17), (17, ip_t_is 3 18)]
set_option maxRecDepth 100000 in
set_option maxHeartbeats 4000000 in
theorem tL_A {p : Program} {l : Launch} {e : Env} {s : State} {m : MethodId} {below : List Frame} {meth : Method} {c : Code} {D : va_G} {cA : Nat → ClassId} {b L : Nat} {xs : Nat → Int32} (C0 : lw_At p s m meth c b L xs) (hNx : ip_Nx s) : ∀ q ∈ pL_A L xs, ip_snd p l e room_1 s m #[Value.ref b] below meth c D cA (fun q => s.heap.size ≤ q) (lw_Z below #[Value.ref b] s) 4 (fun pc => bif Nat.ble pc 0 then (0, 0) else bif Nat.ble pc 4 then (1, 14) else bif Nat.ble pc 8 then (13, 962) else bif Nat.ble pc 12 then (14, 994) else (36, 2064)) ip_Tr (fun _ => b) ip_S00 q.1 q.2 := by
  obtain ⟨hx, hb, hr, hml, hown, hts0, hX, hbl, hlocks, -⟩ := C0
  have hb : c.code = cL_law := hb
  have hts : ∀ w ∈ wsL_law, w.before #[Value.ref b] s = true := fun w h => hts0 w (wsL_law_in w h)
  have hS9 : CallFix p m c cL_law 4 s #[Value.ref b] wsL_law RL := ⟨hx, hb, hml, hown, hts⟩
  have hbA : ¬ (fun q : Nat => s.heap.size ≤ q) b := Nat.not_le.mpr hbl
  have hA : ∀ q : Nat, s.heap.size ≤ q → (fun q : Nat => s.heap.size ≤ q) q := fun _ h => h
  have hIn := ip_In_Tr
  have hin4 : ∀ w ∈ u_ws RX4 TX4 14, w ∈ wsL_law := inlX4
  have hin5 : ∀ w ∈ u_ws RX5 TX5 32, w ∈ wsL_law := inlX5
  refine List.forall_mem_cons.mpr ⟨ip_s_new hx hb hts hin4 tyX4 tyX4_ok hown (hts (.classLink RL 7 RX4) (by decide +kernel)) (hts (.instantiable RX4 14) (by decide +kernel)) (hts (.initialized RX4) (by decide +kernel)) hA hIn rfl (by decide) ip_df4 (Nat.le_of_ble_eq_true rfl) (Nat.le_of_ble_eq_true rfl) dL_law_0 rfl, ?_⟩
  refine List.forall_mem_cons.mpr ⟨ip_s_dup hx hb dL_law_3 rfl, ?_⟩
  refine List.forall_mem_cons.mpr ⟨ip_s_callI hNx hS9 (ctX4_init l) (cwI 0 hts gL_law_X4_init rfl rfl rfl (hts (.initialized RX4) (by decide +kernel)) (hts (.methodLink RL 9 yX4_init) (by decide +kernel)) (hts (.instanceMethod yX4_init) (by decide +kernel)) rfl (by decide +kernel) ⟨Nat.le_of_ble_eq_true rfl, Nat.le_of_ble_eq_true rfl⟩) (fun as S hI h => shX4_init as S hI h) hA dL_law_4 ⟨Nat.le_of_ble_eq_true rfl, Nat.le_of_ble_eq_true rfl⟩ rfl, ?_⟩
  refine List.forall_mem_cons.mpr ⟨ip_s_astore_n hx hb dL_law_7 rfl (by decide) rfl, ?_⟩
  refine List.forall_mem_cons.mpr ⟨ip_s_new hx hb hts hin5 tyX5 tyX5_ok hown (hts (.classLink RL 10 RX5) (by decide +kernel)) (hts (.instantiable RX5 32) (by decide +kernel)) (hts (.initialized RX5) (by decide +kernel)) hA hIn rfl (by decide) ip_df5 (Nat.le_of_ble_eq_true rfl) (Nat.le_of_ble_eq_true rfl) dL_law_8 rfl, ?_⟩
  refine List.forall_mem_cons.mpr ⟨ip_s_dup hx hb dL_law_11 rfl, ?_⟩
  refine List.forall_mem_cons.mpr ⟨ip_s_callI hNx hS9 (ctX5_init l) (cwI 0 hts gL_law_X5_init rfl rfl rfl (hts (.initialized RX5) (by decide +kernel)) (hts (.methodLink RL 12 yX5_init) (by decide +kernel)) (hts (.instanceMethod yX5_init) (by decide +kernel)) rfl (by decide +kernel) ⟨Nat.le_of_ble_eq_true rfl, Nat.le_of_ble_eq_true rfl⟩) (fun as S hI h => shX5_init as S hI h) hA dL_law_12 ⟨Nat.le_of_ble_eq_true rfl, Nat.le_of_ble_eq_true rfl⟩ rfl, ?_⟩
  refine List.forall_mem_cons.mpr ⟨ip_s_astore_n hx hb dL_law_15 rfl (by decide) rfl, ?_⟩
  refine List.forall_mem_cons.mpr ⟨ip_s_iconst hx hb dL_law_16 rfl rfl, ?_⟩
  refine List.forall_mem_cons.mpr ⟨ip_s_istore_n hx hb dL_law_17 rfl (by decide) rfl, ?_⟩
  exact fun _ h => absurd h List.not_mem_nil
set_option maxRecDepth 100000 in
set_option maxHeartbeats 4000000 in
theorem vL_A (L : Nat) (xs : Nat → Int32) : ip_run (pL_A L xs) (fun pc => Nat.beq pc 18) (fun pc loc st S => pc = 18 ∧ st = [] ∧ loc = [some (.inr (.inl (some 99))), some (.inr (.inl (some 0))), some (.inr (.inl (some 50))), some (.inl 0)] ∧ S = ip_S1) 30 0 [some (.inr (.inl (some 99))), none, none, none] [] ip_S00 := by
  refine Exists.intro 0 (And.intro (by decide) (And.intro (by decide) ?_))
  refine And.intro (And.intro rfl (And.intro rfl ip_S1_u1)) ?_
  rintro r S' ⟨rfl, rfl⟩
  refine Exists.intro 50 (And.intro (by decide +kernel) (And.intro (by decide) ?_))
  refine And.intro (And.intro rfl (And.intro rfl (fun q h1 h2 => ?_))) ?_
  · rcases ip_S1_u2 q with h | h | h | h
    · omega
    · omega
    · exact h
    · omega
  rintro r S' ⟨rfl, rfl⟩
  exact ⟨rfl, rfl, rfl, rfl⟩
def pL_H (L : Nat) (xs : Nat → Int32) : List (Nat × ip_T) := [(18, ip_t_il 3 19), (19, ip_t_ar 0 20), (20, ip_t_sln L 21), (21, ip_t_ci 9 23), (23, ip_t_isub 24), (24, ip_t_icgt 636 27), (27, ip_t_ar 0 28), (28, ip_t_il 3 29), (29, ip_t_sld L xs 30), (30, ip_t_ci 15 32), (32, ip_t_iand 33), (33, ip_t_sw [(0, 108), (1, 151), (2, 174), (3, 207), (4, 306), (5, 339), (6, 372), (7, 405), (8, 458), (9, 481), (10, 514), (11, 537), (12, 560), (13, 593), (14, 616)] 630), (636, ip_t_ci 1 637), (637, ip_t_lend)]
set_option maxRecDepth 100000 in
set_option maxHeartbeats 4000000 in
theorem tL_H {p : Program} {l : Launch} {e : Env} {s : State} {m : MethodId} {below : List Frame} {meth : Method} {c : Code} {D : va_G} {cA : Nat → ClassId} {b L : Nat} {xs : Nat → Int32} (C0 : lw_At p s m meth c b L xs) (hNx : ip_Nx s) {a1 a2 : Nat} (h1 : a1 ≤ 500000) (h2 : a2 ≤ 7000000) : ∀ q ∈ pL_H L xs, ip_snd p l e room_1 s m #[Value.ref b] below meth c D cA (fun q => s.heap.size ≤ q) (lw_Z below #[Value.ref b] s) 4 (ip_cB a1 a2) ip_Sta (fun _ => b) ip_S00 q.1 q.2 := by
  obtain ⟨hx, hb, hr, hml, hown, hts0, hX, hbl, hlocks, -⟩ := C0
  have hb : c.code = cL_law := hb
  have hts : ∀ w ∈ wsL_law, w.before #[Value.ref b] s = true := fun w h => hts0 w (wsL_law_in w h)
  have hS9 : CallFix p m c cL_law 4 s #[Value.ref b] wsL_law RL := ⟨hx, hb, hml, hown, hts⟩
  have hbA : ¬ (fun q : Nat => s.heap.size ≤ q) b := Nat.not_le.mpr hbl
  have hA : ∀ q : Nat, s.heap.size ≤ q → (fun q : Nat => s.heap.size ≤ q) q := fun _ h => h
  have hcn := ip_cB_le h1 h2
  have hIs : ∀ S, ip_Sta S → ip_Sta S := fun _ h => h
  have hIn := ip_In_Sta
  refine List.forall_mem_cons.mpr ⟨ip_s_iload_n hx hb dL_law_18 rfl rfl, ?_⟩
  refine List.forall_mem_cons.mpr ⟨ip_s_aload_n hx hb dL_law_19 rfl rfl, ?_⟩
  refine List.forall_mem_cons.mpr ⟨ip_s_sln hx hb hX hbl hbA rfl dL_law_20 rfl, ?_⟩
  refine List.forall_mem_cons.mpr ⟨ip_s_bipush hx hb dL_law_21 rfl rfl, ?_⟩
  refine List.forall_mem_cons.mpr ⟨ip_s_isub hx hb dL_law_23 rfl, ?_⟩
  refine List.forall_mem_cons.mpr ⟨ip_s_icgt (t := 636) hx hb dL_law_24 (by decide) rfl rfl, ?_⟩
  refine List.forall_mem_cons.mpr ⟨ip_s_aload_n hx hb dL_law_27 rfl rfl, ?_⟩
  refine List.forall_mem_cons.mpr ⟨ip_s_iload_n hx hb dL_law_28 rfl rfl, ?_⟩
  refine List.forall_mem_cons.mpr ⟨ip_s_sld hx hb hX hbl hbA rfl dL_law_29 rfl, ?_⟩
  refine List.forall_mem_cons.mpr ⟨ip_s_bipush hx hb dL_law_30 rfl rfl, ?_⟩
  refine List.forall_mem_cons.mpr ⟨ip_s_iand hx hb dL_law_32 rfl, ?_⟩
  refine List.forall_mem_cons.mpr ⟨ip_s_swW (ts := [(0, 108), (1, 151), (2, 174), (3, 207), (4, 306), (5, 339), (6, 372), (7, 405), (8, 458), (9, 481), (10, 514), (11, 537), (12, 560), (13, 593), (14, 616)]) (d := 630) hx hb 15 dL_law_33 (by decide) (by decide +kernel) (by decide +kernel) (by decide) (ip_cB_up _).1 (ip_cB_up _).2 (by
    intro q hq
    simp only [List.mem_cons, List.not_mem_nil, or_false] at hq
    rcases hq with rfl | rfl | rfl | rfl | rfl | rfl | rfl | rfl | rfl | rfl | rfl | rfl | rfl | rfl | rfl <;> rfl), ?_⟩
  refine List.forall_mem_cons.mpr ⟨ip_s_iconst hx hb dL_law_636 rfl rfl, ?_⟩
  refine List.forall_mem_cons.mpr ⟨ip_s_lend hx hb hr hlocks (fun q h => h) (Nat.le_trans (hcn _).1 (Nat.le_of_ble_eq_true rfl)) (Nat.le_trans (hcn _).2 (Nat.le_of_ble_eq_true rfl)) dL_law_637, ?_⟩
  exact fun _ h => absurd h List.not_mem_nil
set_option maxRecDepth 100000 in
set_option maxHeartbeats 4000000 in
theorem vL_H {L i : Nat} {xs : Nat → Int32} (hL : L ≤ 4608) (hi0 : i ≤ L) (S : ip_S) : ip_run (pL_H L xs) (fun pc => Nat.beq pc 108 || Nat.beq pc 151 || Nat.beq pc 174 || Nat.beq pc 207 || Nat.beq pc 306 || Nat.beq pc 339 || Nat.beq pc 372 || Nat.beq pc 405 || Nat.beq pc 458 || Nat.beq pc 481 || Nat.beq pc 514 || Nat.beq pc 537 || Nat.beq pc 560 || Nat.beq pc 593 || Nat.beq pc 616 || Nat.beq pc 630) (fun pc loc st S2 => (pc = 108 ∨ pc = 151 ∨ pc = 174 ∨ pc = 207 ∨ pc = 306 ∨ pc = 339 ∨ pc = 372 ∨ pc = 405 ∨ pc = 458 ∨ pc = 481 ∨ pc = 514 ∨ pc = 537 ∨ pc = 560 ∨ pc = 593 ∨ pc = 616 ∨ pc = 630) ∧ st = [] ∧ loc = [some (.inr (.inl (some 99))), some (.inr (.inl (some 0))), some (.inr (.inl (some 50))), some (.inl (nI i))] ∧ S2 = S ∧ i + 9 ≤ L) 40 18 [some (.inr (.inl (some 99))), some (.inr (.inl (some 0))), some (.inr (.inl (some 50))), some (.inl (nI i))] [] S := by
  refine And.intro (fun q => ?_) (fun q => ?_)
  · rfl
  · have hi : i + 9 ≤ L := by
      have q := Int32.not_lt.mp q
      have b9 : (9 : Int32).toInt = 9 := rfl
      rw [ip_leI, nI_toInt (by omega), ip_subI (by rw [nI_toInt (by omega), b9]; omega) (by rw [nI_toInt (by omega), b9]; omega), nI_toInt (by omega), b9] at q
      omega
    refine And.intro (vp_in_nI (by omega) (by omega)) ?_
    refine And.intro (fun _ => ⟨by decide, rfl, rfl, rfl, hi⟩) (fun _ => ?_)
    refine And.intro (fun _ => ⟨by decide, rfl, rfl, rfl, hi⟩) (fun _ => ?_)
    refine And.intro (fun _ => ⟨by decide, rfl, rfl, rfl, hi⟩) (fun _ => ?_)
    refine And.intro (fun _ => ⟨by decide, rfl, rfl, rfl, hi⟩) (fun _ => ?_)
    refine And.intro (fun _ => ⟨by decide, rfl, rfl, rfl, hi⟩) (fun _ => ?_)
    refine And.intro (fun _ => ⟨by decide, rfl, rfl, rfl, hi⟩) (fun _ => ?_)
    refine And.intro (fun _ => ⟨by decide, rfl, rfl, rfl, hi⟩) (fun _ => ?_)
    refine And.intro (fun _ => ⟨by decide, rfl, rfl, rfl, hi⟩) (fun _ => ?_)
    refine And.intro (fun _ => ⟨by decide, rfl, rfl, rfl, hi⟩) (fun _ => ?_)
    refine And.intro (fun _ => ⟨by decide, rfl, rfl, rfl, hi⟩) (fun _ => ?_)
    refine And.intro (fun _ => ⟨by decide, rfl, rfl, rfl, hi⟩) (fun _ => ?_)
    refine And.intro (fun _ => ⟨by decide, rfl, rfl, rfl, hi⟩) (fun _ => ?_)
    refine And.intro (fun _ => ⟨by decide, rfl, rfl, rfl, hi⟩) (fun _ => ?_)
    refine And.intro (fun _ => ⟨by decide, rfl, rfl, rfl, hi⟩) (fun _ => ?_)
    refine And.intro (fun _ => ⟨by decide, rfl, rfl, rfl, hi⟩) (fun _ => ?_)
    exact ⟨by decide, rfl, rfl, rfl, hi⟩
