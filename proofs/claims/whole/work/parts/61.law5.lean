def pL_c7 (L : Nat) (xs : Nat → Int32) : List (Nat × ip_T) := [(405, ip_t_ar 1 406), (406, ip_t_ar 0 407), (407, ip_t_il 3 408), (408, ip_t_ci 1 409), (409, ip_t_iadd 410), (410, ip_t_sld L xs 411), (411, ip_t_ar 0 412), (412, ip_t_il 3 413), (413, ip_t_ci 2 414), (414, ip_t_iadd 415), (415, ip_t_sld L xs 416), (416, ip_t_ar 0 417), (417, ip_t_il 3 418), (418, ip_t_ci 3 419), (419, ip_t_iadd 420), (420, ip_t_sld L xs 421), (421, ip_t_ar 0 422), (422, ip_t_il 3 423), (423, ip_t_ci 4 424), (424, ip_t_iadd 425), (425, ip_t_sld L xs 426), (426, ip_t_callG 5 preX4_jet postX4_jet 429), (429, ip_t_ar 2 430), (430, ip_t_ar 0 431), (431, ip_t_il 3 432), (432, ip_t_ci 1 433), (433, ip_t_iadd 434), (434, ip_t_sld L xs 435), (435, ip_t_ar 0 436), (436, ip_t_il 3 437), (437, ip_t_ci 2 438), (438, ip_t_iadd 439), (439, ip_t_sld L xs 440), (440, ip_t_ar 0 441), (441, ip_t_il 3 442), (442, ip_t_ci 3 443), (443, ip_t_iadd 444), (444, ip_t_sld L xs 445), (445, ip_t_ar 0 446), (446, ip_t_il 3 447), (447, ip_t_ci 4 448), (448, ip_t_iadd 449), (449, ip_t_sld L xs 450), (450, ip_t_callG 5 preX5_jet postX5_jet 453), (453, ip_t_iceq 630 456)]
set_option maxRecDepth 100000 in
set_option maxHeartbeats 4000000 in
theorem tL_c7 {p : Program} {l : Launch} {e : Env} {s : State} {m : MethodId} {below : List Frame} {meth : Method} {c : Code} {D : va_G} {cA : Nat → ClassId} {b L : Nat} {xs : Nat → Int32} (C0 : lw_At p s m meth c b L xs) (hNx : ip_Nx s) {a1 a2 : Nat} (h1 : a1 ≤ 500000) (h2 : a2 ≤ 7000000) : ∀ q ∈ pL_c7 L xs, ip_snd p l e room_1 s m #[Value.ref b] below meth c D cA (fun q => s.heap.size ≤ q) (lw_Z below #[Value.ref b] s) 4 (ip_cB a1 a2) ip_Sta (fun _ => b) ip_S00 q.1 q.2 := by
  obtain ⟨hx, hb, hr, hml, hown, hts0, hX, hbl, hlocks, -⟩ := C0
  have hb : c.code = cL_law := hb
  have hts : ∀ w ∈ wsL_law, w.before #[Value.ref b] s = true := fun w h => hts0 w (wsL_law_in w h)
  have hS9 : CallFix p m c cL_law 4 s #[Value.ref b] wsL_law RL := ⟨hx, hb, hml, hown, hts⟩
  have hbA : ¬ (fun q : Nat => s.heap.size ≤ q) b := Nat.not_le.mpr hbl
  have hA : ∀ q : Nat, s.heap.size ≤ q → (fun q : Nat => s.heap.size ≤ q) q := fun _ h => h
  have hcn := ip_cB_le h1 h2
  have hIs : ∀ S, ip_Sta S → ip_Sta S := fun _ h => h
  have hIn := ip_In_Sta
  refine List.forall_mem_cons.mpr ⟨ip_s_aload_n hx hb dL_law_405 rfl rfl, ?_⟩
  refine List.forall_mem_cons.mpr ⟨ip_s_aload_n hx hb dL_law_406 rfl rfl, ?_⟩
  refine List.forall_mem_cons.mpr ⟨ip_s_iload_n hx hb dL_law_407 rfl rfl, ?_⟩
  refine List.forall_mem_cons.mpr ⟨ip_s_iconst hx hb dL_law_408 rfl rfl, ?_⟩
  refine List.forall_mem_cons.mpr ⟨ip_s_iadd hx hb dL_law_409 rfl, ?_⟩
  refine List.forall_mem_cons.mpr ⟨ip_s_sld hx hb hX hbl hbA rfl dL_law_410 rfl, ?_⟩
  refine List.forall_mem_cons.mpr ⟨ip_s_aload_n hx hb dL_law_411 rfl rfl, ?_⟩
  refine List.forall_mem_cons.mpr ⟨ip_s_iload_n hx hb dL_law_412 rfl rfl, ?_⟩
  refine List.forall_mem_cons.mpr ⟨ip_s_iconst hx hb dL_law_413 rfl rfl, ?_⟩
  refine List.forall_mem_cons.mpr ⟨ip_s_iadd hx hb dL_law_414 rfl, ?_⟩
  refine List.forall_mem_cons.mpr ⟨ip_s_sld hx hb hX hbl hbA rfl dL_law_415 rfl, ?_⟩
  refine List.forall_mem_cons.mpr ⟨ip_s_aload_n hx hb dL_law_416 rfl rfl, ?_⟩
  refine List.forall_mem_cons.mpr ⟨ip_s_iload_n hx hb dL_law_417 rfl rfl, ?_⟩
  refine List.forall_mem_cons.mpr ⟨ip_s_iconst hx hb dL_law_418 rfl rfl, ?_⟩
  refine List.forall_mem_cons.mpr ⟨ip_s_iadd hx hb dL_law_419 rfl, ?_⟩
  refine List.forall_mem_cons.mpr ⟨ip_s_sld hx hb hX hbl hbA rfl dL_law_420 rfl, ?_⟩
  refine List.forall_mem_cons.mpr ⟨ip_s_aload_n hx hb dL_law_421 rfl rfl, ?_⟩
  refine List.forall_mem_cons.mpr ⟨ip_s_iload_n hx hb dL_law_422 rfl rfl, ?_⟩
  refine List.forall_mem_cons.mpr ⟨ip_s_iconst hx hb dL_law_423 rfl rfl, ?_⟩
  refine List.forall_mem_cons.mpr ⟨ip_s_iadd hx hb dL_law_424 rfl, ?_⟩
  refine List.forall_mem_cons.mpr ⟨ip_s_sld hx hb hX hbl hbA rfl dL_law_425 rfl, ?_⟩
  refine List.forall_mem_cons.mpr ⟨ip_s_G (fun M => ip_s_callV hNx hS9 (ctX4_jet l M) (cwV 4 hts gL_law_X4_jet rfl rfl rfl (by decide +kernel) ⟨Nat.le_of_ble_eq_true rfl, Nat.le_of_ble_eq_true rfl⟩) (ci := 4) rfl rfl (by decide) (fun as S hI h => shX4_jet M as S hI h) hA dL_law_426 ⟨Nat.le_trans (Nat.add_le_add_right (hcn _).1 _) (Nat.le_of_ble_eq_true rfl), Nat.le_trans (Nat.add_le_add_right (hcn _).2 _) (Nat.le_of_ble_eq_true rfl)⟩ rfl), ?_⟩
  refine List.forall_mem_cons.mpr ⟨ip_s_aload_n hx hb dL_law_429 rfl rfl, ?_⟩
  refine List.forall_mem_cons.mpr ⟨ip_s_aload_n hx hb dL_law_430 rfl rfl, ?_⟩
  refine List.forall_mem_cons.mpr ⟨ip_s_iload_n hx hb dL_law_431 rfl rfl, ?_⟩
  refine List.forall_mem_cons.mpr ⟨ip_s_iconst hx hb dL_law_432 rfl rfl, ?_⟩
  refine List.forall_mem_cons.mpr ⟨ip_s_iadd hx hb dL_law_433 rfl, ?_⟩
  refine List.forall_mem_cons.mpr ⟨ip_s_sld hx hb hX hbl hbA rfl dL_law_434 rfl, ?_⟩
  refine List.forall_mem_cons.mpr ⟨ip_s_aload_n hx hb dL_law_435 rfl rfl, ?_⟩
  refine List.forall_mem_cons.mpr ⟨ip_s_iload_n hx hb dL_law_436 rfl rfl, ?_⟩
  refine List.forall_mem_cons.mpr ⟨ip_s_iconst hx hb dL_law_437 rfl rfl, ?_⟩
  refine List.forall_mem_cons.mpr ⟨ip_s_iadd hx hb dL_law_438 rfl, ?_⟩
  refine List.forall_mem_cons.mpr ⟨ip_s_sld hx hb hX hbl hbA rfl dL_law_439 rfl, ?_⟩
  refine List.forall_mem_cons.mpr ⟨ip_s_aload_n hx hb dL_law_440 rfl rfl, ?_⟩
  refine List.forall_mem_cons.mpr ⟨ip_s_iload_n hx hb dL_law_441 rfl rfl, ?_⟩
  refine List.forall_mem_cons.mpr ⟨ip_s_iconst hx hb dL_law_442 rfl rfl, ?_⟩
  refine List.forall_mem_cons.mpr ⟨ip_s_iadd hx hb dL_law_443 rfl, ?_⟩
  refine List.forall_mem_cons.mpr ⟨ip_s_sld hx hb hX hbl hbA rfl dL_law_444 rfl, ?_⟩
  refine List.forall_mem_cons.mpr ⟨ip_s_aload_n hx hb dL_law_445 rfl rfl, ?_⟩
  refine List.forall_mem_cons.mpr ⟨ip_s_iload_n hx hb dL_law_446 rfl rfl, ?_⟩
  refine List.forall_mem_cons.mpr ⟨ip_s_iconst hx hb dL_law_447 rfl rfl, ?_⟩
  refine List.forall_mem_cons.mpr ⟨ip_s_iadd hx hb dL_law_448 rfl, ?_⟩
  refine List.forall_mem_cons.mpr ⟨ip_s_sld hx hb hX hbl hbA rfl dL_law_449 rfl, ?_⟩
  refine List.forall_mem_cons.mpr ⟨ip_s_G (fun M => ip_s_callV hNx hS9 (ctX5_jet l M) (cwV 4 hts gL_law_X5_jet rfl rfl rfl (by decide +kernel) ⟨Nat.le_of_ble_eq_true rfl, Nat.le_of_ble_eq_true rfl⟩) (ci := 5) rfl rfl (by decide) (fun as S hI h => shX5_jet M as S hI h) hA dL_law_450 ⟨Nat.le_trans (Nat.add_le_add_right (hcn _).1 _) (Nat.le_of_ble_eq_true rfl), Nat.le_trans (Nat.add_le_add_right (hcn _).2 _) (Nat.le_of_ble_eq_true rfl)⟩ rfl), ?_⟩
  refine List.forall_mem_cons.mpr ⟨ip_s_iceqW (t := 630) hx hb dL_law_453 (by decide) rfl (ip_cB_up _).1 (ip_cB_up _).2, ?_⟩
  exact fun _ h => absurd h List.not_mem_nil
set_option maxRecDepth 100000 in
set_option maxHeartbeats 4000000 in
theorem vL_c7 {L i : Nat} {xs : Nat → Int32} (hL : L ≤ 4608) (hi : i + 9 ≤ L) (S : ip_S) (hJ : ip_J S) : ip_run (pL_c7 L xs) (fun pc => Nat.beq pc 630) (fun pc loc st S2 => pc = 630 ∧ st = [] ∧ loc = [some (.inr (.inl (some 99))), some (.inr (.inl (some 0))), some (.inr (.inl (some 50))), some (.inl (nI i))] ∧ ip_J S2) 100 405 [some (.inr (.inl (some 99))), some (.inr (.inl (some 0))), some (.inr (.inl (some 50))), some (.inl (nI i))] [] S := by
  obtain ⟨M, hR, hE, hT, h10⟩ := hJ
  have hVV : ip_VV M := by
    obtain ⟨nf, nj, np, hv, -⟩ := hR
    exact ⟨nf, nj, np, hv⟩
  refine And.intro (ip_in8 (k := 1) hi (by decide) hL) (And.intro (ip_in8 (k := 2) hi (by decide) hL) (And.intro (ip_in8 (k := 3) hi (by decide) hL) (And.intro (ip_in8 (k := 4) hi (by decide) hL) (?_))))
  refine Exists.intro M (And.intro (And.intro rfl hR) ?_)
  rintro r S1 ⟨rfl, hR1, hf1⟩
  refine And.intro (ip_in8 (k := 1) hi (by decide) hL) (And.intro (ip_in8 (k := 2) hi (by decide) hL) (And.intro (ip_in8 (k := 3) hi (by decide) hL) (And.intro (ip_in8 (k := 4) hi (by decide) hL) (?_))))
  refine Exists.intro M (And.intro (And.intro rfl (And.intro (hf1.eM hE) hVV)) ?_)
  rintro r S2 ⟨rfl, hE2⟩
  refine And.intro (fun _ => ?_) (fun z => absurd rfl z)
  exact ⟨rfl, rfl, rfl, ip_J_mv hT h10 hR1 hf1 hE2 (fun h => h)⟩

def pL_c8 (L : Nat) (xs : Nat → Int32) : List (Nat × ip_T) := [(458, ip_t_ar 1 459), (459, ip_t_ar 0 460), (460, ip_t_il 3 461), (461, ip_t_ci 1 462), (462, ip_t_iadd 463), (463, ip_t_sld L xs 464), (464, ip_t_callG 2 preX4_minutes postX4_minutes 467), (467, ip_t_ar 2 468), (468, ip_t_ar 0 469), (469, ip_t_il 3 470), (470, ip_t_ci 1 471), (471, ip_t_iadd 472), (472, ip_t_sld L xs 473), (473, ip_t_callG 2 preX5_minutes postX5_minutes 476), (476, ip_t_iceq 630 479)]
set_option maxRecDepth 100000 in
set_option maxHeartbeats 4000000 in
theorem tL_c8 {p : Program} {l : Launch} {e : Env} {s : State} {m : MethodId} {below : List Frame} {meth : Method} {c : Code} {D : va_G} {cA : Nat → ClassId} {b L : Nat} {xs : Nat → Int32} (C0 : lw_At p s m meth c b L xs) (hNx : ip_Nx s) {a1 a2 : Nat} (h1 : a1 ≤ 500000) (h2 : a2 ≤ 7000000) : ∀ q ∈ pL_c8 L xs, ip_snd p l e room_1 s m #[Value.ref b] below meth c D cA (fun q => s.heap.size ≤ q) (lw_Z below #[Value.ref b] s) 4 (ip_cB a1 a2) ip_Sta (fun _ => b) ip_S00 q.1 q.2 := by
  obtain ⟨hx, hb, hr, hml, hown, hts0, hX, hbl, hlocks, -⟩ := C0
  have hb : c.code = cL_law := hb
  have hts : ∀ w ∈ wsL_law, w.before #[Value.ref b] s = true := fun w h => hts0 w (wsL_law_in w h)
  have hS9 : CallFix p m c cL_law 4 s #[Value.ref b] wsL_law RL := ⟨hx, hb, hml, hown, hts⟩
  have hbA : ¬ (fun q : Nat => s.heap.size ≤ q) b := Nat.not_le.mpr hbl
  have hA : ∀ q : Nat, s.heap.size ≤ q → (fun q : Nat => s.heap.size ≤ q) q := fun _ h => h
  have hcn := ip_cB_le h1 h2
  have hIs : ∀ S, ip_Sta S → ip_Sta S := fun _ h => h
  have hIn := ip_In_Sta
  refine List.forall_mem_cons.mpr ⟨ip_s_aload_n hx hb dL_law_458 rfl rfl, ?_⟩
  refine List.forall_mem_cons.mpr ⟨ip_s_aload_n hx hb dL_law_459 rfl rfl, ?_⟩
  refine List.forall_mem_cons.mpr ⟨ip_s_iload_n hx hb dL_law_460 rfl rfl, ?_⟩
  refine List.forall_mem_cons.mpr ⟨ip_s_iconst hx hb dL_law_461 rfl rfl, ?_⟩
  refine List.forall_mem_cons.mpr ⟨ip_s_iadd hx hb dL_law_462 rfl, ?_⟩
  refine List.forall_mem_cons.mpr ⟨ip_s_sld hx hb hX hbl hbA rfl dL_law_463 rfl, ?_⟩
  refine List.forall_mem_cons.mpr ⟨ip_s_G (fun M => ip_s_callV hNx hS9 (ctX4_minutes l M) (cwV 1 hts gL_law_X4_minutes rfl rfl rfl (by decide +kernel) ⟨Nat.le_of_ble_eq_true rfl, Nat.le_of_ble_eq_true rfl⟩) (ci := 4) rfl rfl (by decide) (fun as S hI h => shX4_minutes M as S hI h) hA dL_law_464 ⟨Nat.le_trans (Nat.add_le_add_right (hcn _).1 _) (Nat.le_of_ble_eq_true rfl), Nat.le_trans (Nat.add_le_add_right (hcn _).2 _) (Nat.le_of_ble_eq_true rfl)⟩ rfl), ?_⟩
  refine List.forall_mem_cons.mpr ⟨ip_s_aload_n hx hb dL_law_467 rfl rfl, ?_⟩
  refine List.forall_mem_cons.mpr ⟨ip_s_aload_n hx hb dL_law_468 rfl rfl, ?_⟩
  refine List.forall_mem_cons.mpr ⟨ip_s_iload_n hx hb dL_law_469 rfl rfl, ?_⟩
  refine List.forall_mem_cons.mpr ⟨ip_s_iconst hx hb dL_law_470 rfl rfl, ?_⟩
  refine List.forall_mem_cons.mpr ⟨ip_s_iadd hx hb dL_law_471 rfl, ?_⟩
  refine List.forall_mem_cons.mpr ⟨ip_s_sld hx hb hX hbl hbA rfl dL_law_472 rfl, ?_⟩
  refine List.forall_mem_cons.mpr ⟨ip_s_G (fun M => ip_s_callV hNx hS9 (ctX5_minutes l M) (cwV 1 hts gL_law_X5_minutes rfl rfl rfl (by decide +kernel) ⟨Nat.le_of_ble_eq_true rfl, Nat.le_of_ble_eq_true rfl⟩) (ci := 5) rfl rfl (by decide) (fun as S hI h => shX5_minutes M as S hI h) hA dL_law_473 ⟨Nat.le_trans (Nat.add_le_add_right (hcn _).1 _) (Nat.le_of_ble_eq_true rfl), Nat.le_trans (Nat.add_le_add_right (hcn _).2 _) (Nat.le_of_ble_eq_true rfl)⟩ rfl), ?_⟩
  refine List.forall_mem_cons.mpr ⟨ip_s_iceqW (t := 630) hx hb dL_law_476 (by decide) rfl (ip_cB_up _).1 (ip_cB_up _).2, ?_⟩
  exact fun _ h => absurd h List.not_mem_nil
set_option maxRecDepth 100000 in
set_option maxHeartbeats 4000000 in
theorem vL_c8 {L i : Nat} {xs : Nat → Int32} (hL : L ≤ 4608) (hi : i + 9 ≤ L) (S : ip_S) (hJ : ip_J S) : ip_run (pL_c8 L xs) (fun pc => Nat.beq pc 630) (fun pc loc st S2 => pc = 630 ∧ st = [] ∧ loc = [some (.inr (.inl (some 99))), some (.inr (.inl (some 0))), some (.inr (.inl (some 50))), some (.inl (nI i))] ∧ ip_J S2) 100 458 [some (.inr (.inl (some 99))), some (.inr (.inl (some 0))), some (.inr (.inl (some 50))), some (.inl (nI i))] [] S := by
  obtain ⟨M, hR, hE, hT, h10⟩ := hJ
  have hVV : ip_VV M := by
    obtain ⟨nf, nj, np, hv, -⟩ := hR
    exact ⟨nf, nj, np, hv⟩
  refine And.intro (ip_in8 (k := 1) hi (by decide) hL) (?_)
  refine Exists.intro M (And.intro (And.intro rfl hR) ?_)
  rintro r S1 ⟨rfl, hR1, hf1⟩
  refine And.intro (ip_in8 (k := 1) hi (by decide) hL) (?_)
  refine Exists.intro M (And.intro (And.intro rfl (And.intro (hf1.eM hE) hVV)) ?_)
  rintro r S2 ⟨rfl, hE2⟩
  refine And.intro (fun _ => ?_) (fun z => absurd rfl z)
  exact ⟨rfl, rfl, rfl, ip_J_mv hT h10 hR1 hf1 hE2 (fun h => h)⟩

def pL_c9 (L : Nat) (xs : Nat → Int32) : List (Nat × ip_T) := [(481, ip_t_ar 1 482), (482, ip_t_ar 0 483), (483, ip_t_il 3 484), (484, ip_t_ci 1 485), (485, ip_t_iadd 486), (486, ip_t_sld L xs 487), (487, ip_t_ar 0 488), (488, ip_t_il 3 489), (489, ip_t_ci 2 490), (490, ip_t_iadd 491), (491, ip_t_sld L xs 492), (492, ip_t_callG 3 preX4_about postX4_about 495), (495, ip_t_ar 2 496), (496, ip_t_ar 0 497), (497, ip_t_il 3 498), (498, ip_t_ci 1 499), (499, ip_t_iadd 500), (500, ip_t_sld L xs 501), (501, ip_t_ar 0 502), (502, ip_t_il 3 503), (503, ip_t_ci 2 504), (504, ip_t_iadd 505), (505, ip_t_sld L xs 506), (506, ip_t_callG 3 preX5_about postX5_about 509), (509, ip_t_iceq 630 512)]
set_option maxRecDepth 100000 in
set_option maxHeartbeats 4000000 in
theorem tL_c9 {p : Program} {l : Launch} {e : Env} {s : State} {m : MethodId} {below : List Frame} {meth : Method} {c : Code} {D : va_G} {cA : Nat → ClassId} {b L : Nat} {xs : Nat → Int32} (C0 : lw_At p s m meth c b L xs) (hNx : ip_Nx s) {a1 a2 : Nat} (h1 : a1 ≤ 500000) (h2 : a2 ≤ 7000000) : ∀ q ∈ pL_c9 L xs, ip_snd p l e room_1 s m #[Value.ref b] below meth c D cA (fun q => s.heap.size ≤ q) (lw_Z below #[Value.ref b] s) 4 (ip_cB a1 a2) ip_Sta (fun _ => b) ip_S00 q.1 q.2 := by
  obtain ⟨hx, hb, hr, hml, hown, hts0, hX, hbl, hlocks, -⟩ := C0
  have hb : c.code = cL_law := hb
  have hts : ∀ w ∈ wsL_law, w.before #[Value.ref b] s = true := fun w h => hts0 w (wsL_law_in w h)
  have hS9 : CallFix p m c cL_law 4 s #[Value.ref b] wsL_law RL := ⟨hx, hb, hml, hown, hts⟩
  have hbA : ¬ (fun q : Nat => s.heap.size ≤ q) b := Nat.not_le.mpr hbl
  have hA : ∀ q : Nat, s.heap.size ≤ q → (fun q : Nat => s.heap.size ≤ q) q := fun _ h => h
  have hcn := ip_cB_le h1 h2
  have hIs : ∀ S, ip_Sta S → ip_Sta S := fun _ h => h
  have hIn := ip_In_Sta
  refine List.forall_mem_cons.mpr ⟨ip_s_aload_n hx hb dL_law_481 rfl rfl, ?_⟩
  refine List.forall_mem_cons.mpr ⟨ip_s_aload_n hx hb dL_law_482 rfl rfl, ?_⟩
  refine List.forall_mem_cons.mpr ⟨ip_s_iload_n hx hb dL_law_483 rfl rfl, ?_⟩
  refine List.forall_mem_cons.mpr ⟨ip_s_iconst hx hb dL_law_484 rfl rfl, ?_⟩
  refine List.forall_mem_cons.mpr ⟨ip_s_iadd hx hb dL_law_485 rfl, ?_⟩
  refine List.forall_mem_cons.mpr ⟨ip_s_sld hx hb hX hbl hbA rfl dL_law_486 rfl, ?_⟩
  refine List.forall_mem_cons.mpr ⟨ip_s_aload_n hx hb dL_law_487 rfl rfl, ?_⟩
  refine List.forall_mem_cons.mpr ⟨ip_s_iload_n hx hb dL_law_488 rfl rfl, ?_⟩
  refine List.forall_mem_cons.mpr ⟨ip_s_iconst hx hb dL_law_489 rfl rfl, ?_⟩
  refine List.forall_mem_cons.mpr ⟨ip_s_iadd hx hb dL_law_490 rfl, ?_⟩
  refine List.forall_mem_cons.mpr ⟨ip_s_sld hx hb hX hbl hbA rfl dL_law_491 rfl, ?_⟩
  refine List.forall_mem_cons.mpr ⟨ip_s_G (fun M => ip_s_callV hNx hS9 (ctX4_about l M) (cwV 2 hts gL_law_X4_about rfl rfl rfl (by decide +kernel) ⟨Nat.le_of_ble_eq_true rfl, Nat.le_of_ble_eq_true rfl⟩) (ci := 4) rfl rfl (by decide) (fun as S hI h => shX4_about M as S hI h) hA dL_law_492 ⟨Nat.le_trans (Nat.add_le_add_right (hcn _).1 _) (Nat.le_of_ble_eq_true rfl), Nat.le_trans (Nat.add_le_add_right (hcn _).2 _) (Nat.le_of_ble_eq_true rfl)⟩ rfl), ?_⟩
  refine List.forall_mem_cons.mpr ⟨ip_s_aload_n hx hb dL_law_495 rfl rfl, ?_⟩
  refine List.forall_mem_cons.mpr ⟨ip_s_aload_n hx hb dL_law_496 rfl rfl, ?_⟩
  refine List.forall_mem_cons.mpr ⟨ip_s_iload_n hx hb dL_law_497 rfl rfl, ?_⟩
  refine List.forall_mem_cons.mpr ⟨ip_s_iconst hx hb dL_law_498 rfl rfl, ?_⟩
  refine List.forall_mem_cons.mpr ⟨ip_s_iadd hx hb dL_law_499 rfl, ?_⟩
  refine List.forall_mem_cons.mpr ⟨ip_s_sld hx hb hX hbl hbA rfl dL_law_500 rfl, ?_⟩
  refine List.forall_mem_cons.mpr ⟨ip_s_aload_n hx hb dL_law_501 rfl rfl, ?_⟩
  refine List.forall_mem_cons.mpr ⟨ip_s_iload_n hx hb dL_law_502 rfl rfl, ?_⟩
  refine List.forall_mem_cons.mpr ⟨ip_s_iconst hx hb dL_law_503 rfl rfl, ?_⟩
  refine List.forall_mem_cons.mpr ⟨ip_s_iadd hx hb dL_law_504 rfl, ?_⟩
  refine List.forall_mem_cons.mpr ⟨ip_s_sld hx hb hX hbl hbA rfl dL_law_505 rfl, ?_⟩
  refine List.forall_mem_cons.mpr ⟨ip_s_G (fun M => ip_s_callV hNx hS9 (ctX5_about l M) (cwV 2 hts gL_law_X5_about rfl rfl rfl (by decide +kernel) ⟨Nat.le_of_ble_eq_true rfl, Nat.le_of_ble_eq_true rfl⟩) (ci := 5) rfl rfl (by decide) (fun as S hI h => shX5_about M as S hI h) hA dL_law_506 ⟨Nat.le_trans (Nat.add_le_add_right (hcn _).1 _) (Nat.le_of_ble_eq_true rfl), Nat.le_trans (Nat.add_le_add_right (hcn _).2 _) (Nat.le_of_ble_eq_true rfl)⟩ rfl), ?_⟩
  refine List.forall_mem_cons.mpr ⟨ip_s_iceqW (t := 630) hx hb dL_law_509 (by decide) rfl (ip_cB_up _).1 (ip_cB_up _).2, ?_⟩
  exact fun _ h => absurd h List.not_mem_nil
set_option maxRecDepth 100000 in
set_option maxHeartbeats 4000000 in
theorem vL_c9 {L i : Nat} {xs : Nat → Int32} (hL : L ≤ 4608) (hi : i + 9 ≤ L) (S : ip_S) (hJ : ip_J S) : ip_run (pL_c9 L xs) (fun pc => Nat.beq pc 630) (fun pc loc st S2 => pc = 630 ∧ st = [] ∧ loc = [some (.inr (.inl (some 99))), some (.inr (.inl (some 0))), some (.inr (.inl (some 50))), some (.inl (nI i))] ∧ ip_J S2) 100 481 [some (.inr (.inl (some 99))), some (.inr (.inl (some 0))), some (.inr (.inl (some 50))), some (.inl (nI i))] [] S := by
  obtain ⟨M, hR, hE, hT, h10⟩ := hJ
  have hVV : ip_VV M := by
    obtain ⟨nf, nj, np, hv, -⟩ := hR
    exact ⟨nf, nj, np, hv⟩
  refine And.intro (ip_in8 (k := 1) hi (by decide) hL) (And.intro (ip_in8 (k := 2) hi (by decide) hL) (?_))
  refine Exists.intro M (And.intro (And.intro rfl hR) ?_)
  rintro r S1 ⟨rfl, rfl⟩
  refine And.intro (ip_in8 (k := 1) hi (by decide) hL) (And.intro (ip_in8 (k := 2) hi (by decide) hL) (?_))
  refine Exists.intro M (And.intro (And.intro rfl (And.intro hE hVV)) ?_)
  rintro r S2 ⟨rfl, rfl⟩
  refine And.intro (fun _ => ?_) (fun z => absurd rfl z)
  exact ⟨rfl, rfl, rfl, M, hR, hE, hT, h10⟩

def pL_c10 (L : Nat) (xs : Nat → Int32) : List (Nat × ip_T) := [(514, ip_t_ar 1 515), (515, ip_t_ar 0 516), (516, ip_t_il 3 517), (517, ip_t_ci 1 518), (518, ip_t_iadd 519), (519, ip_t_sld L xs 520), (520, ip_t_callG 2 preX4_on postX4_on 523), (523, ip_t_ar 2 524), (524, ip_t_ar 0 525), (525, ip_t_il 3 526), (526, ip_t_ci 1 527), (527, ip_t_iadd 528), (528, ip_t_sld L xs 529), (529, ip_t_callG 2 preX5_on postX5_on 532), (532, ip_t_iceq 630 535)]
set_option maxRecDepth 100000 in
set_option maxHeartbeats 4000000 in
theorem tL_c10 {p : Program} {l : Launch} {e : Env} {s : State} {m : MethodId} {below : List Frame} {meth : Method} {c : Code} {D : va_G} {cA : Nat → ClassId} {b L : Nat} {xs : Nat → Int32} (C0 : lw_At p s m meth c b L xs) (hNx : ip_Nx s) {a1 a2 : Nat} (h1 : a1 ≤ 500000) (h2 : a2 ≤ 7000000) : ∀ q ∈ pL_c10 L xs, ip_snd p l e room_1 s m #[Value.ref b] below meth c D cA (fun q => s.heap.size ≤ q) (lw_Z below #[Value.ref b] s) 4 (ip_cB a1 a2) ip_Sta (fun _ => b) ip_S00 q.1 q.2 := by
  obtain ⟨hx, hb, hr, hml, hown, hts0, hX, hbl, hlocks, -⟩ := C0
  have hb : c.code = cL_law := hb
  have hts : ∀ w ∈ wsL_law, w.before #[Value.ref b] s = true := fun w h => hts0 w (wsL_law_in w h)
  have hS9 : CallFix p m c cL_law 4 s #[Value.ref b] wsL_law RL := ⟨hx, hb, hml, hown, hts⟩
  have hbA : ¬ (fun q : Nat => s.heap.size ≤ q) b := Nat.not_le.mpr hbl
  have hA : ∀ q : Nat, s.heap.size ≤ q → (fun q : Nat => s.heap.size ≤ q) q := fun _ h => h
  have hcn := ip_cB_le h1 h2
  have hIs : ∀ S, ip_Sta S → ip_Sta S := fun _ h => h
  have hIn := ip_In_Sta
  refine List.forall_mem_cons.mpr ⟨ip_s_aload_n hx hb dL_law_514 rfl rfl, ?_⟩
  refine List.forall_mem_cons.mpr ⟨ip_s_aload_n hx hb dL_law_515 rfl rfl, ?_⟩
  refine List.forall_mem_cons.mpr ⟨ip_s_iload_n hx hb dL_law_516 rfl rfl, ?_⟩
  refine List.forall_mem_cons.mpr ⟨ip_s_iconst hx hb dL_law_517 rfl rfl, ?_⟩
  refine List.forall_mem_cons.mpr ⟨ip_s_iadd hx hb dL_law_518 rfl, ?_⟩
  refine List.forall_mem_cons.mpr ⟨ip_s_sld hx hb hX hbl hbA rfl dL_law_519 rfl, ?_⟩
  refine List.forall_mem_cons.mpr ⟨ip_s_G (fun M => ip_s_callV hNx hS9 (ctX4_on l M) (cwV 1 hts gL_law_X4_on rfl rfl rfl (by decide +kernel) ⟨Nat.le_of_ble_eq_true rfl, Nat.le_of_ble_eq_true rfl⟩) (ci := 4) rfl rfl (by decide) (fun as S hI h => shX4_on M as S hI h) hA dL_law_520 ⟨Nat.le_trans (Nat.add_le_add_right (hcn _).1 _) (Nat.le_of_ble_eq_true rfl), Nat.le_trans (Nat.add_le_add_right (hcn _).2 _) (Nat.le_of_ble_eq_true rfl)⟩ rfl), ?_⟩
  refine List.forall_mem_cons.mpr ⟨ip_s_aload_n hx hb dL_law_523 rfl rfl, ?_⟩
  refine List.forall_mem_cons.mpr ⟨ip_s_aload_n hx hb dL_law_524 rfl rfl, ?_⟩
  refine List.forall_mem_cons.mpr ⟨ip_s_iload_n hx hb dL_law_525 rfl rfl, ?_⟩
  refine List.forall_mem_cons.mpr ⟨ip_s_iconst hx hb dL_law_526 rfl rfl, ?_⟩
  refine List.forall_mem_cons.mpr ⟨ip_s_iadd hx hb dL_law_527 rfl, ?_⟩
  refine List.forall_mem_cons.mpr ⟨ip_s_sld hx hb hX hbl hbA rfl dL_law_528 rfl, ?_⟩
  refine List.forall_mem_cons.mpr ⟨ip_s_G (fun M => ip_s_callV hNx hS9 (ctX5_on l M) (cwV 1 hts gL_law_X5_on rfl rfl rfl (by decide +kernel) ⟨Nat.le_of_ble_eq_true rfl, Nat.le_of_ble_eq_true rfl⟩) (ci := 5) rfl rfl (by decide) (fun as S hI h => shX5_on M as S hI h) hA dL_law_529 ⟨Nat.le_trans (Nat.add_le_add_right (hcn _).1 _) (Nat.le_of_ble_eq_true rfl), Nat.le_trans (Nat.add_le_add_right (hcn _).2 _) (Nat.le_of_ble_eq_true rfl)⟩ rfl), ?_⟩
  refine List.forall_mem_cons.mpr ⟨ip_s_iceqW (t := 630) hx hb dL_law_532 (by decide) rfl (ip_cB_up _).1 (ip_cB_up _).2, ?_⟩
  exact fun _ h => absurd h List.not_mem_nil
set_option maxRecDepth 100000 in
set_option maxHeartbeats 4000000 in
theorem vL_c10 {L i : Nat} {xs : Nat → Int32} (hL : L ≤ 4608) (hi : i + 9 ≤ L) (S : ip_S) (hJ : ip_J S) : ip_run (pL_c10 L xs) (fun pc => Nat.beq pc 630) (fun pc loc st S2 => pc = 630 ∧ st = [] ∧ loc = [some (.inr (.inl (some 99))), some (.inr (.inl (some 0))), some (.inr (.inl (some 50))), some (.inl (nI i))] ∧ ip_J S2) 100 514 [some (.inr (.inl (some 99))), some (.inr (.inl (some 0))), some (.inr (.inl (some 50))), some (.inl (nI i))] [] S := by
  obtain ⟨M, hR, hE, hT, h10⟩ := hJ
  have hVV : ip_VV M := by
    obtain ⟨nf, nj, np, hv, -⟩ := hR
    exact ⟨nf, nj, np, hv⟩
  refine And.intro (ip_in8 (k := 1) hi (by decide) hL) (?_)
  refine Exists.intro M (And.intro (And.intro rfl hR) ?_)
  rintro r S1 ⟨rfl, rfl⟩
  refine And.intro (ip_in8 (k := 1) hi (by decide) hL) (?_)
  refine Exists.intro M (And.intro (And.intro rfl (And.intro hE hVV)) ?_)
  rintro r S2 ⟨rfl, rfl⟩
  refine And.intro (fun _ => ?_) (fun z => absurd rfl z)
  exact ⟨rfl, rfl, rfl, M, hR, hE, hT, h10⟩

def pL_c11 (L : Nat) (xs : Nat → Int32) : List (Nat × ip_T) := [(537, ip_t_ar 1 538), (538, ip_t_ar 0 539), (539, ip_t_il 3 540), (540, ip_t_ci 1 541), (541, ip_t_iadd 542), (542, ip_t_sld L xs 543), (543, ip_t_callG 2 preX4_litres postX4_litres 546), (546, ip_t_ar 2 547), (547, ip_t_ar 0 548), (548, ip_t_il 3 549), (549, ip_t_ci 1 550), (550, ip_t_iadd 551), (551, ip_t_sld L xs 552), (552, ip_t_callG 2 preX5_litres postX5_litres 555), (555, ip_t_iceq 630 558)]
set_option maxRecDepth 100000 in
set_option maxHeartbeats 4000000 in
theorem tL_c11 {p : Program} {l : Launch} {e : Env} {s : State} {m : MethodId} {below : List Frame} {meth : Method} {c : Code} {D : va_G} {cA : Nat → ClassId} {b L : Nat} {xs : Nat → Int32} (C0 : lw_At p s m meth c b L xs) (hNx : ip_Nx s) {a1 a2 : Nat} (h1 : a1 ≤ 500000) (h2 : a2 ≤ 7000000) : ∀ q ∈ pL_c11 L xs, ip_snd p l e room_1 s m #[Value.ref b] below meth c D cA (fun q => s.heap.size ≤ q) (lw_Z below #[Value.ref b] s) 4 (ip_cB a1 a2) ip_Sta (fun _ => b) ip_S00 q.1 q.2 := by
  obtain ⟨hx, hb, hr, hml, hown, hts0, hX, hbl, hlocks, -⟩ := C0
  have hb : c.code = cL_law := hb
  have hts : ∀ w ∈ wsL_law, w.before #[Value.ref b] s = true := fun w h => hts0 w (wsL_law_in w h)
  have hS9 : CallFix p m c cL_law 4 s #[Value.ref b] wsL_law RL := ⟨hx, hb, hml, hown, hts⟩
  have hbA : ¬ (fun q : Nat => s.heap.size ≤ q) b := Nat.not_le.mpr hbl
  have hA : ∀ q : Nat, s.heap.size ≤ q → (fun q : Nat => s.heap.size ≤ q) q := fun _ h => h
  have hcn := ip_cB_le h1 h2
  have hIs : ∀ S, ip_Sta S → ip_Sta S := fun _ h => h
  have hIn := ip_In_Sta
  refine List.forall_mem_cons.mpr ⟨ip_s_aload_n hx hb dL_law_537 rfl rfl, ?_⟩
  refine List.forall_mem_cons.mpr ⟨ip_s_aload_n hx hb dL_law_538 rfl rfl, ?_⟩
  refine List.forall_mem_cons.mpr ⟨ip_s_iload_n hx hb dL_law_539 rfl rfl, ?_⟩
  refine List.forall_mem_cons.mpr ⟨ip_s_iconst hx hb dL_law_540 rfl rfl, ?_⟩
  refine List.forall_mem_cons.mpr ⟨ip_s_iadd hx hb dL_law_541 rfl, ?_⟩
  refine List.forall_mem_cons.mpr ⟨ip_s_sld hx hb hX hbl hbA rfl dL_law_542 rfl, ?_⟩
  refine List.forall_mem_cons.mpr ⟨ip_s_G (fun M => ip_s_callV hNx hS9 (ctX4_litres l M) (cwV 1 hts gL_law_X4_litres rfl rfl rfl (by decide +kernel) ⟨Nat.le_of_ble_eq_true rfl, Nat.le_of_ble_eq_true rfl⟩) (ci := 4) rfl rfl (by decide) (fun as S hI h => shX4_litres M as S hI h) hA dL_law_543 ⟨Nat.le_trans (Nat.add_le_add_right (hcn _).1 _) (Nat.le_of_ble_eq_true rfl), Nat.le_trans (Nat.add_le_add_right (hcn _).2 _) (Nat.le_of_ble_eq_true rfl)⟩ rfl), ?_⟩
  refine List.forall_mem_cons.mpr ⟨ip_s_aload_n hx hb dL_law_546 rfl rfl, ?_⟩
  refine List.forall_mem_cons.mpr ⟨ip_s_aload_n hx hb dL_law_547 rfl rfl, ?_⟩
  refine List.forall_mem_cons.mpr ⟨ip_s_iload_n hx hb dL_law_548 rfl rfl, ?_⟩
  refine List.forall_mem_cons.mpr ⟨ip_s_iconst hx hb dL_law_549 rfl rfl, ?_⟩
  refine List.forall_mem_cons.mpr ⟨ip_s_iadd hx hb dL_law_550 rfl, ?_⟩
  refine List.forall_mem_cons.mpr ⟨ip_s_sld hx hb hX hbl hbA rfl dL_law_551 rfl, ?_⟩
  refine List.forall_mem_cons.mpr ⟨ip_s_G (fun M => ip_s_callV hNx hS9 (ctX5_litres l M) (cwV 1 hts gL_law_X5_litres rfl rfl rfl (by decide +kernel) ⟨Nat.le_of_ble_eq_true rfl, Nat.le_of_ble_eq_true rfl⟩) (ci := 5) rfl rfl (by decide) (fun as S hI h => shX5_litres M as S hI h) hA dL_law_552 ⟨Nat.le_trans (Nat.add_le_add_right (hcn _).1 _) (Nat.le_of_ble_eq_true rfl), Nat.le_trans (Nat.add_le_add_right (hcn _).2 _) (Nat.le_of_ble_eq_true rfl)⟩ rfl), ?_⟩
  refine List.forall_mem_cons.mpr ⟨ip_s_iceqW (t := 630) hx hb dL_law_555 (by decide) rfl (ip_cB_up _).1 (ip_cB_up _).2, ?_⟩
  exact fun _ h => absurd h List.not_mem_nil
set_option maxRecDepth 100000 in
set_option maxHeartbeats 4000000 in
theorem vL_c11 {L i : Nat} {xs : Nat → Int32} (hL : L ≤ 4608) (hi : i + 9 ≤ L) (S : ip_S) (hJ : ip_J S) : ip_run (pL_c11 L xs) (fun pc => Nat.beq pc 630) (fun pc loc st S2 => pc = 630 ∧ st = [] ∧ loc = [some (.inr (.inl (some 99))), some (.inr (.inl (some 0))), some (.inr (.inl (some 50))), some (.inl (nI i))] ∧ ip_J S2) 100 537 [some (.inr (.inl (some 99))), some (.inr (.inl (some 0))), some (.inr (.inl (some 50))), some (.inl (nI i))] [] S := by
  obtain ⟨M, hR, hE, hT, h10⟩ := hJ
  have hVV : ip_VV M := by
    obtain ⟨nf, nj, np, hv, -⟩ := hR
    exact ⟨nf, nj, np, hv⟩
  refine And.intro (ip_in8 (k := 1) hi (by decide) hL) (?_)
  refine Exists.intro M (And.intro (And.intro rfl hR) ?_)
  rintro r S1 ⟨rfl, rfl⟩
  refine And.intro (ip_in8 (k := 1) hi (by decide) hL) (?_)
  refine Exists.intro M (And.intro (And.intro rfl (And.intro hE hVV)) ?_)
  rintro r S2 ⟨rfl, rfl⟩
  refine And.intro (fun _ => ?_) (fun z => absurd rfl z)
  exact ⟨rfl, rfl, rfl, M, hR, hE, hT, h10⟩

def pL_c12 (L : Nat) (xs : Nat → Int32) : List (Nat × ip_T) := [(560, ip_t_ar 1 561), (561, ip_t_ar 0 562), (562, ip_t_il 3 563), (563, ip_t_ci 1 564), (564, ip_t_iadd 565), (565, ip_t_sld L xs 566), (566, ip_t_ar 0 567), (567, ip_t_il 3 568), (568, ip_t_ci 2 569), (569, ip_t_iadd 570), (570, ip_t_sld L xs 571), (571, ip_t_callG 3 preX4_plan postX4_plan 574), (574, ip_t_ar 2 575), (575, ip_t_ar 0 576), (576, ip_t_il 3 577), (577, ip_t_ci 1 578), (578, ip_t_iadd 579), (579, ip_t_sld L xs 580), (580, ip_t_ar 0 581), (581, ip_t_il 3 582), (582, ip_t_ci 2 583), (583, ip_t_iadd 584), (584, ip_t_sld L xs 585), (585, ip_t_callG 3 preX5_plan postX5_plan 588), (588, ip_t_iceq 630 591)]
set_option maxRecDepth 100000 in
set_option maxHeartbeats 4000000 in
theorem tL_c12 {p : Program} {l : Launch} {e : Env} {s : State} {m : MethodId} {below : List Frame} {meth : Method} {c : Code} {D : va_G} {cA : Nat → ClassId} {b L : Nat} {xs : Nat → Int32} (C0 : lw_At p s m meth c b L xs) (hNx : ip_Nx s) {a1 a2 : Nat} (h1 : a1 ≤ 500000) (h2 : a2 ≤ 7000000) : ∀ q ∈ pL_c12 L xs, ip_snd p l e room_1 s m #[Value.ref b] below meth c D cA (fun q => s.heap.size ≤ q) (lw_Z below #[Value.ref b] s) 4 (ip_cB a1 a2) ip_Sta (fun _ => b) ip_S00 q.1 q.2 := by
  obtain ⟨hx, hb, hr, hml, hown, hts0, hX, hbl, hlocks, -⟩ := C0
  have hb : c.code = cL_law := hb
  have hts : ∀ w ∈ wsL_law, w.before #[Value.ref b] s = true := fun w h => hts0 w (wsL_law_in w h)
  have hS9 : CallFix p m c cL_law 4 s #[Value.ref b] wsL_law RL := ⟨hx, hb, hml, hown, hts⟩
  have hbA : ¬ (fun q : Nat => s.heap.size ≤ q) b := Nat.not_le.mpr hbl
  have hA : ∀ q : Nat, s.heap.size ≤ q → (fun q : Nat => s.heap.size ≤ q) q := fun _ h => h
  have hcn := ip_cB_le h1 h2
  have hIs : ∀ S, ip_Sta S → ip_Sta S := fun _ h => h
  have hIn := ip_In_Sta
  refine List.forall_mem_cons.mpr ⟨ip_s_aload_n hx hb dL_law_560 rfl rfl, ?_⟩
  refine List.forall_mem_cons.mpr ⟨ip_s_aload_n hx hb dL_law_561 rfl rfl, ?_⟩
  refine List.forall_mem_cons.mpr ⟨ip_s_iload_n hx hb dL_law_562 rfl rfl, ?_⟩
  refine List.forall_mem_cons.mpr ⟨ip_s_iconst hx hb dL_law_563 rfl rfl, ?_⟩
  refine List.forall_mem_cons.mpr ⟨ip_s_iadd hx hb dL_law_564 rfl, ?_⟩
  refine List.forall_mem_cons.mpr ⟨ip_s_sld hx hb hX hbl hbA rfl dL_law_565 rfl, ?_⟩
  refine List.forall_mem_cons.mpr ⟨ip_s_aload_n hx hb dL_law_566 rfl rfl, ?_⟩
  refine List.forall_mem_cons.mpr ⟨ip_s_iload_n hx hb dL_law_567 rfl rfl, ?_⟩
  refine List.forall_mem_cons.mpr ⟨ip_s_iconst hx hb dL_law_568 rfl rfl, ?_⟩
  refine List.forall_mem_cons.mpr ⟨ip_s_iadd hx hb dL_law_569 rfl, ?_⟩
  refine List.forall_mem_cons.mpr ⟨ip_s_sld hx hb hX hbl hbA rfl dL_law_570 rfl, ?_⟩
  refine List.forall_mem_cons.mpr ⟨ip_s_G (fun M => ip_s_callV hNx hS9 (ctX4_plan l M) (cwV 2 hts gL_law_X4_plan rfl rfl rfl (by decide +kernel) ⟨Nat.le_of_ble_eq_true rfl, Nat.le_of_ble_eq_true rfl⟩) (ci := 4) rfl rfl (by decide) (fun as S hI h => shX4_plan M as S hI h) hA dL_law_571 ⟨Nat.le_trans (Nat.add_le_add_right (hcn _).1 _) (Nat.le_of_ble_eq_true rfl), Nat.le_trans (Nat.add_le_add_right (hcn _).2 _) (Nat.le_of_ble_eq_true rfl)⟩ rfl), ?_⟩
  refine List.forall_mem_cons.mpr ⟨ip_s_aload_n hx hb dL_law_574 rfl rfl, ?_⟩
  refine List.forall_mem_cons.mpr ⟨ip_s_aload_n hx hb dL_law_575 rfl rfl, ?_⟩
  refine List.forall_mem_cons.mpr ⟨ip_s_iload_n hx hb dL_law_576 rfl rfl, ?_⟩
  refine List.forall_mem_cons.mpr ⟨ip_s_iconst hx hb dL_law_577 rfl rfl, ?_⟩
  refine List.forall_mem_cons.mpr ⟨ip_s_iadd hx hb dL_law_578 rfl, ?_⟩
  refine List.forall_mem_cons.mpr ⟨ip_s_sld hx hb hX hbl hbA rfl dL_law_579 rfl, ?_⟩
  refine List.forall_mem_cons.mpr ⟨ip_s_aload_n hx hb dL_law_580 rfl rfl, ?_⟩
  refine List.forall_mem_cons.mpr ⟨ip_s_iload_n hx hb dL_law_581 rfl rfl, ?_⟩
  refine List.forall_mem_cons.mpr ⟨ip_s_iconst hx hb dL_law_582 rfl rfl, ?_⟩
  refine List.forall_mem_cons.mpr ⟨ip_s_iadd hx hb dL_law_583 rfl, ?_⟩
  refine List.forall_mem_cons.mpr ⟨ip_s_sld hx hb hX hbl hbA rfl dL_law_584 rfl, ?_⟩
  refine List.forall_mem_cons.mpr ⟨ip_s_G (fun M => ip_s_callV hNx hS9 (ctX5_plan l M) (cwV 2 hts gL_law_X5_plan rfl rfl rfl (by decide +kernel) ⟨Nat.le_of_ble_eq_true rfl, Nat.le_of_ble_eq_true rfl⟩) (ci := 5) rfl rfl (by decide) (fun as S hI h => shX5_plan M as S hI h) hA dL_law_585 ⟨Nat.le_trans (Nat.add_le_add_right (hcn _).1 _) (Nat.le_of_ble_eq_true rfl), Nat.le_trans (Nat.add_le_add_right (hcn _).2 _) (Nat.le_of_ble_eq_true rfl)⟩ rfl), ?_⟩
  refine List.forall_mem_cons.mpr ⟨ip_s_iceqW (t := 630) hx hb dL_law_588 (by decide) rfl (ip_cB_up _).1 (ip_cB_up _).2, ?_⟩
  exact fun _ h => absurd h List.not_mem_nil
set_option maxRecDepth 100000 in
set_option maxHeartbeats 4000000 in
theorem vL_c12 {L i : Nat} {xs : Nat → Int32} (hL : L ≤ 4608) (hi : i + 9 ≤ L) (S : ip_S) (hJ : ip_J S) : ip_run (pL_c12 L xs) (fun pc => Nat.beq pc 630) (fun pc loc st S2 => pc = 630 ∧ st = [] ∧ loc = [some (.inr (.inl (some 99))), some (.inr (.inl (some 0))), some (.inr (.inl (some 50))), some (.inl (nI i))] ∧ ip_J S2) 100 560 [some (.inr (.inl (some 99))), some (.inr (.inl (some 0))), some (.inr (.inl (some 50))), some (.inl (nI i))] [] S := by
  obtain ⟨M, hR, hE, hT, h10⟩ := hJ
  have hVV : ip_VV M := by
    obtain ⟨nf, nj, np, hv, -⟩ := hR
    exact ⟨nf, nj, np, hv⟩
  refine And.intro (ip_in8 (k := 1) hi (by decide) hL) (And.intro (ip_in8 (k := 2) hi (by decide) hL) (?_))
  refine Exists.intro M (And.intro (And.intro rfl (And.intro hR h10)) ?_)
  rintro r S1 ⟨rfl, hR1, hf1⟩
  refine And.intro (ip_in8 (k := 1) hi (by decide) hL) (And.intro (ip_in8 (k := 2) hi (by decide) hL) (?_))
  refine Exists.intro M (And.intro (And.intro rfl (And.intro (hf1.eM hE) hVV)) ?_)
  rintro r S2 ⟨rfl, M1, hE2, hpq⟩
  refine And.intro (fun _ => ?_) (fun z => absurd rfl z)
  exact ⟨rfl, rfl, rfl, ip_J_mv hT h10 hR1 hf1 hE2 hpq.cR⟩

def pL_c13 (L : Nat) (xs : Nat → Int32) : List (Nat × ip_T) := [(593, ip_t_ar 1 594), (594, ip_t_ar 0 595), (595, ip_t_il 3 596), (596, ip_t_ci 1 597), (597, ip_t_iadd 598), (598, ip_t_sld L xs 599), (599, ip_t_callG 2 preX4_count postX4_count 602), (602, ip_t_ar 2 603), (603, ip_t_ar 0 604), (604, ip_t_il 3 605), (605, ip_t_ci 1 606), (606, ip_t_iadd 607), (607, ip_t_sld L xs 608), (608, ip_t_callG 2 preX5_count postX5_count 611), (611, ip_t_iceq 630 614)]
set_option maxRecDepth 100000 in
set_option maxHeartbeats 4000000 in
theorem tL_c13 {p : Program} {l : Launch} {e : Env} {s : State} {m : MethodId} {below : List Frame} {meth : Method} {c : Code} {D : va_G} {cA : Nat → ClassId} {b L : Nat} {xs : Nat → Int32} (C0 : lw_At p s m meth c b L xs) (hNx : ip_Nx s) {a1 a2 : Nat} (h1 : a1 ≤ 500000) (h2 : a2 ≤ 7000000) : ∀ q ∈ pL_c13 L xs, ip_snd p l e room_1 s m #[Value.ref b] below meth c D cA (fun q => s.heap.size ≤ q) (lw_Z below #[Value.ref b] s) 4 (ip_cB a1 a2) ip_Sta (fun _ => b) ip_S00 q.1 q.2 := by
  obtain ⟨hx, hb, hr, hml, hown, hts0, hX, hbl, hlocks, -⟩ := C0
  have hb : c.code = cL_law := hb
  have hts : ∀ w ∈ wsL_law, w.before #[Value.ref b] s = true := fun w h => hts0 w (wsL_law_in w h)
  have hS9 : CallFix p m c cL_law 4 s #[Value.ref b] wsL_law RL := ⟨hx, hb, hml, hown, hts⟩
  have hbA : ¬ (fun q : Nat => s.heap.size ≤ q) b := Nat.not_le.mpr hbl
  have hA : ∀ q : Nat, s.heap.size ≤ q → (fun q : Nat => s.heap.size ≤ q) q := fun _ h => h
  have hcn := ip_cB_le h1 h2
  have hIs : ∀ S, ip_Sta S → ip_Sta S := fun _ h => h
  have hIn := ip_In_Sta
  refine List.forall_mem_cons.mpr ⟨ip_s_aload_n hx hb dL_law_593 rfl rfl, ?_⟩
  refine List.forall_mem_cons.mpr ⟨ip_s_aload_n hx hb dL_law_594 rfl rfl, ?_⟩
  refine List.forall_mem_cons.mpr ⟨ip_s_iload_n hx hb dL_law_595 rfl rfl, ?_⟩
  refine List.forall_mem_cons.mpr ⟨ip_s_iconst hx hb dL_law_596 rfl rfl, ?_⟩
  refine List.forall_mem_cons.mpr ⟨ip_s_iadd hx hb dL_law_597 rfl, ?_⟩
  refine List.forall_mem_cons.mpr ⟨ip_s_sld hx hb hX hbl hbA rfl dL_law_598 rfl, ?_⟩
  refine List.forall_mem_cons.mpr ⟨ip_s_G (fun M => ip_s_callV hNx hS9 (ctX4_count l M) (cwV 1 hts gL_law_X4_count rfl rfl rfl (by decide +kernel) ⟨Nat.le_of_ble_eq_true rfl, Nat.le_of_ble_eq_true rfl⟩) (ci := 4) rfl rfl (by decide) (fun as S hI h => shX4_count M as S hI h) hA dL_law_599 ⟨Nat.le_trans (Nat.add_le_add_right (hcn _).1 _) (Nat.le_of_ble_eq_true rfl), Nat.le_trans (Nat.add_le_add_right (hcn _).2 _) (Nat.le_of_ble_eq_true rfl)⟩ rfl), ?_⟩
  refine List.forall_mem_cons.mpr ⟨ip_s_aload_n hx hb dL_law_602 rfl rfl, ?_⟩
  refine List.forall_mem_cons.mpr ⟨ip_s_aload_n hx hb dL_law_603 rfl rfl, ?_⟩
  refine List.forall_mem_cons.mpr ⟨ip_s_iload_n hx hb dL_law_604 rfl rfl, ?_⟩
  refine List.forall_mem_cons.mpr ⟨ip_s_iconst hx hb dL_law_605 rfl rfl, ?_⟩
  refine List.forall_mem_cons.mpr ⟨ip_s_iadd hx hb dL_law_606 rfl, ?_⟩
  refine List.forall_mem_cons.mpr ⟨ip_s_sld hx hb hX hbl hbA rfl dL_law_607 rfl, ?_⟩
  refine List.forall_mem_cons.mpr ⟨ip_s_G (fun M => ip_s_callV hNx hS9 (ctX5_count l M) (cwV 1 hts gL_law_X5_count rfl rfl rfl (by decide +kernel) ⟨Nat.le_of_ble_eq_true rfl, Nat.le_of_ble_eq_true rfl⟩) (ci := 5) rfl rfl (by decide) (fun as S hI h => shX5_count M as S hI h) hA dL_law_608 ⟨Nat.le_trans (Nat.add_le_add_right (hcn _).1 _) (Nat.le_of_ble_eq_true rfl), Nat.le_trans (Nat.add_le_add_right (hcn _).2 _) (Nat.le_of_ble_eq_true rfl)⟩ rfl), ?_⟩
  refine List.forall_mem_cons.mpr ⟨ip_s_iceqW (t := 630) hx hb dL_law_611 (by decide) rfl (ip_cB_up _).1 (ip_cB_up _).2, ?_⟩
  exact fun _ h => absurd h List.not_mem_nil
set_option maxRecDepth 100000 in
set_option maxHeartbeats 4000000 in
theorem vL_c13 {L i : Nat} {xs : Nat → Int32} (hL : L ≤ 4608) (hi : i + 9 ≤ L) (S : ip_S) (hJ : ip_J S) : ip_run (pL_c13 L xs) (fun pc => Nat.beq pc 630) (fun pc loc st S2 => pc = 630 ∧ st = [] ∧ loc = [some (.inr (.inl (some 99))), some (.inr (.inl (some 0))), some (.inr (.inl (some 50))), some (.inl (nI i))] ∧ ip_J S2) 100 593 [some (.inr (.inl (some 99))), some (.inr (.inl (some 0))), some (.inr (.inl (some 50))), some (.inl (nI i))] [] S := by
  obtain ⟨M, hR, hE, hT, h10⟩ := hJ
  have hVV : ip_VV M := by
    obtain ⟨nf, nj, np, hv, -⟩ := hR
    exact ⟨nf, nj, np, hv⟩
  refine And.intro (ip_in8 (k := 1) hi (by decide) hL) (?_)
  refine Exists.intro M (And.intro (And.intro rfl hR) ?_)
  rintro r S1 ⟨rfl, rfl⟩
  refine And.intro (ip_in8 (k := 1) hi (by decide) hL) (?_)
  refine Exists.intro M (And.intro (And.intro rfl (And.intro hE hVV)) ?_)
  rintro r S2 ⟨rfl, rfl⟩
  refine And.intro (fun _ => ?_) (fun z => absurd rfl z)
  exact ⟨rfl, rfl, rfl, M, hR, hE, hT, h10⟩

def pL_c14 (L : Nat) (xs : Nat → Int32) : List (Nat × ip_T) := [(616, ip_t_ar 1 617), (617, ip_t_call 1 preX4_trace postX4_trace 620), (620, ip_t_ar 2 621), (621, ip_t_call 1 preX5_trace postX5_trace 624), (624, ip_t_lcmp 625), (625, ip_t_ifeq 630 628)]
set_option maxRecDepth 100000 in
set_option maxHeartbeats 4000000 in
theorem tL_c14 {p : Program} {l : Launch} {e : Env} {s : State} {m : MethodId} {below : List Frame} {meth : Method} {c : Code} {D : va_G} {cA : Nat → ClassId} {b L : Nat} {xs : Nat → Int32} (C0 : lw_At p s m meth c b L xs) (hNx : ip_Nx s) {a1 a2 : Nat} (h1 : a1 ≤ 500000) (h2 : a2 ≤ 7000000) : ∀ q ∈ pL_c14 L xs, ip_snd p l e room_1 s m #[Value.ref b] below meth c D cA (fun q => s.heap.size ≤ q) (lw_Z below #[Value.ref b] s) 4 (ip_cB a1 a2) ip_Sta (fun _ => b) ip_S00 q.1 q.2 := by
  obtain ⟨hx, hb, hr, hml, hown, hts0, hX, hbl, hlocks, -⟩ := C0
  have hb : c.code = cL_law := hb
  have hts : ∀ w ∈ wsL_law, w.before #[Value.ref b] s = true := fun w h => hts0 w (wsL_law_in w h)
  have hS9 : CallFix p m c cL_law 4 s #[Value.ref b] wsL_law RL := ⟨hx, hb, hml, hown, hts⟩
  have hbA : ¬ (fun q : Nat => s.heap.size ≤ q) b := Nat.not_le.mpr hbl
  have hA : ∀ q : Nat, s.heap.size ≤ q → (fun q : Nat => s.heap.size ≤ q) q := fun _ h => h
  have hcn := ip_cB_le h1 h2
  have hIs : ∀ S, ip_Sta S → ip_Sta S := fun _ h => h
  have hIn := ip_In_Sta
  refine List.forall_mem_cons.mpr ⟨ip_s_aload_n hx hb dL_law_616 rfl rfl, ?_⟩
  refine List.forall_mem_cons.mpr ⟨ip_s_callV hNx hS9 (ctX4_trace l) (cwV 0 hts gL_law_X4_trace rfl rfl rfl (by decide +kernel) ⟨Nat.le_of_ble_eq_true rfl, Nat.le_of_ble_eq_true rfl⟩) (ci := 4) rfl rfl (by decide) (fun as S hI h => shX4_trace as S hI h) hA dL_law_617 ⟨Nat.le_trans (Nat.add_le_add_right (hcn _).1 _) (Nat.le_of_ble_eq_true rfl), Nat.le_trans (Nat.add_le_add_right (hcn _).2 _) (Nat.le_of_ble_eq_true rfl)⟩ rfl, ?_⟩
  refine List.forall_mem_cons.mpr ⟨ip_s_aload_n hx hb dL_law_620 rfl rfl, ?_⟩
  refine List.forall_mem_cons.mpr ⟨ip_s_callV hNx hS9 (ctX5_trace l) (cwV 0 hts gL_law_X5_trace rfl rfl rfl (by decide +kernel) ⟨Nat.le_of_ble_eq_true rfl, Nat.le_of_ble_eq_true rfl⟩) (ci := 5) rfl rfl (by decide) (fun as S hI h => shX5_trace as S hI h) hA dL_law_621 ⟨Nat.le_trans (Nat.add_le_add_right (hcn _).1 _) (Nat.le_of_ble_eq_true rfl), Nat.le_trans (Nat.add_le_add_right (hcn _).2 _) (Nat.le_of_ble_eq_true rfl)⟩ rfl, ?_⟩
  refine List.forall_mem_cons.mpr ⟨ip_s_lcmp hx hb dL_law_624 rfl, ?_⟩
  refine List.forall_mem_cons.mpr ⟨ip_s_ifeqW (t := 630) hx hb dL_law_625 (by decide) rfl (ip_cB_up _).1 (ip_cB_up _).2, ?_⟩
  exact fun _ h => absurd h List.not_mem_nil
set_option maxRecDepth 100000 in
set_option maxHeartbeats 4000000 in
theorem vL_c14 {L i : Nat} {xs : Nat → Int32} (hL : L ≤ 4608) (hi : i + 9 ≤ L) (S : ip_S) (hJ : ip_J S) : ip_run (pL_c14 L xs) (fun pc => Nat.beq pc 630) (fun pc loc st S2 => pc = 630 ∧ st = [] ∧ loc = [some (.inr (.inl (some 99))), some (.inr (.inl (some 0))), some (.inr (.inl (some 50))), some (.inl (nI i))] ∧ ip_J S2) 100 616 [some (.inr (.inl (some 99))), some (.inr (.inl (some 0))), some (.inr (.inl (some 50))), some (.inl (nI i))] [] S := by
  obtain ⟨M, hR, hE, hT, h10⟩ := hJ
  have hVV : ip_VV M := by
    obtain ⟨nf, nj, np, hv, -⟩ := hR
    exact ⟨nf, nj, np, hv⟩
  refine And.intro (And.intro rfl trivial) ?_
  rintro r S1 ⟨rfl, rfl⟩
  refine And.intro (And.intro rfl trivial) ?_
  rintro r S2 ⟨rfl, rfl⟩
  rw [hT]
  refine And.intro (fun _ => ?_) (fun z => absurd (lg_cmp_rf _) z)
  exact ⟨rfl, rfl, rfl, M, hR, hE, hT, h10⟩

def pL_T (L : Nat) (xs : Nat → Int32) : List (Nat × ip_T) := [(630, ip_t_inc 3 9 633), (633, ip_t_go 18)]
set_option maxRecDepth 100000 in
set_option maxHeartbeats 4000000 in
theorem tL_T {p : Program} {l : Launch} {e : Env} {s : State} {m : MethodId} {below : List Frame} {meth : Method} {c : Code} {D : va_G} {cA : Nat → ClassId} {b L : Nat} {xs : Nat → Int32} (C0 : lw_At p s m meth c b L xs) (hNx : ip_Nx s) {a1 a2 : Nat} : ∀ q ∈ pL_T L xs, ip_snd p l e room_1 s m #[Value.ref b] below meth c D cA (fun q => s.heap.size ≤ q) (lw_Z below #[Value.ref b] s) 4 (fun _ => (a1, a2)) ip_Sta (fun _ => b) ip_S00 q.1 q.2 := by
  obtain ⟨hx, hb, hr, hml, hown, hts0, hX, hbl, hlocks, -⟩ := C0
  have hb : c.code = cL_law := hb
  have hts : ∀ w ∈ wsL_law, w.before #[Value.ref b] s = true := fun w h => hts0 w (wsL_law_in w h)
  have hS9 : CallFix p m c cL_law 4 s #[Value.ref b] wsL_law RL := ⟨hx, hb, hml, hown, hts⟩
  have hbA : ¬ (fun q : Nat => s.heap.size ≤ q) b := Nat.not_le.mpr hbl
  have hA : ∀ q : Nat, s.heap.size ≤ q → (fun q : Nat => s.heap.size ≤ q) q := fun _ h => h
  have hIs : ∀ S, ip_Sta S → ip_Sta S := fun _ h => h
  have hIn := ip_In_Sta
  refine List.forall_mem_cons.mpr ⟨ip_s_iinc hx hb dL_law_630 rfl (by decide) rfl, ?_⟩
  refine List.forall_mem_cons.mpr ⟨ip_s_go (t := 18) hx hb dL_law_633 (by decide) (Nat.le_refl _) (Nat.le_refl _), ?_⟩
  exact fun _ h => absurd h List.not_mem_nil
set_option maxRecDepth 100000 in
set_option maxHeartbeats 4000000 in
theorem vL_T {L i : Nat} {xs : Nat → Int32} (S : ip_S) : ip_run (pL_T L xs) (fun pc => Nat.beq pc 18) (fun pc loc st S2 => pc = 18 ∧ st = [] ∧ loc = [some (.inr (.inl (some 99))), some (.inr (.inl (some 0))), some (.inr (.inl (some 50))), some (.inl (nI (i + 9)))] ∧ S2 = S) 10 630 [some (.inr (.inl (some 99))), some (.inr (.inl (some 0))), some (.inr (.inl (some 50))), some (.inl (nI i))] [] S := by
  refine ⟨rfl, rfl, ?_, rfl⟩
  show ([some (.inr (.inl (some 99))), some (.inr (.inl (some 0))), some (.inr (.inl (some 50))), some (.inl (nI i + 9))] : List (Option ip_V)) = [some (.inr (.inl (some 99))), some (.inr (.inl (some 0))), some (.inr (.inl (some 50))), some (.inl (nI (i + 9)))]
  rw [show nI i + 9 = nI (i + 9) from nI_add i 9]

