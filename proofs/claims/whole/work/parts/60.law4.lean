def pL_c0 (L : Nat) (xs : Nat → Int32) : List (Nat × ip_T) := [(108, ip_t_ar 1 109), (109, ip_t_ar 0 110), (110, ip_t_il 3 111), (111, ip_t_ci 1 112), (112, ip_t_iadd 113), (113, ip_t_sld L xs 114), (114, ip_t_ar 0 115), (115, ip_t_il 3 116), (116, ip_t_ci 2 117), (117, ip_t_iadd 118), (118, ip_t_sld L xs 119), (119, ip_t_ar 0 120), (120, ip_t_il 3 121), (121, ip_t_ci 3 122), (122, ip_t_iadd 123), (123, ip_t_sld L xs 124), (124, ip_t_callG 4 preX4_weather postX4_weather 127), (127, ip_t_ar 2 128), (128, ip_t_ar 0 129), (129, ip_t_il 3 130), (130, ip_t_ci 1 131), (131, ip_t_iadd 132), (132, ip_t_sld L xs 133), (133, ip_t_ar 0 134), (134, ip_t_il 3 135), (135, ip_t_ci 2 136), (136, ip_t_iadd 137), (137, ip_t_sld L xs 138), (138, ip_t_ar 0 139), (139, ip_t_il 3 140), (140, ip_t_ci 3 141), (141, ip_t_iadd 142), (142, ip_t_sld L xs 143), (143, ip_t_callG 4 preX5_weather postX5_weather 146), (146, ip_t_iceq 630 149)]
set_option maxRecDepth 100000 in
set_option maxHeartbeats 4000000 in
theorem tL_c0 {p : Program} {l : Launch} {e : Env} {s : State} {m : MethodId} {below : List Frame} {meth : Method} {c : Code} {D : va_G} {cA : Nat → ClassId} {b L : Nat} {xs : Nat → Int32} (C0 : lw_At p s m meth c b L xs) (hNx : ip_Nx s) {a1 a2 : Nat} (h1 : a1 ≤ 500000) (h2 : a2 ≤ 7000000) : ∀ q ∈ pL_c0 L xs, ip_snd p l e room_1 s m #[Value.ref b] below meth c D cA (fun q => s.heap.size ≤ q) (lw_Z below #[Value.ref b] s) 4 (ip_cB a1 a2) ip_Sta (fun _ => b) ip_S00 q.1 q.2 := by
  obtain ⟨hx, hb, hr, hml, hown, hts0, hX, hbl, hlocks, -⟩ := C0
  have hb : c.code = cL_law := hb
  have hts : ∀ w ∈ wsL_law, w.before #[Value.ref b] s = true := fun w h => hts0 w (wsL_law_in w h)
  have hS9 : CallFix p m c cL_law 4 s #[Value.ref b] wsL_law RL := ⟨hx, hb, hml, hown, hts⟩
  have hbA : ¬ (fun q : Nat => s.heap.size ≤ q) b := Nat.not_le.mpr hbl
  have hA : ∀ q : Nat, s.heap.size ≤ q → (fun q : Nat => s.heap.size ≤ q) q := fun _ h => h
  have hcn := ip_cB_le h1 h2
  have hIs : ∀ S, ip_Sta S → ip_Sta S := fun _ h => h
  have hIn := ip_In_Sta
  refine List.forall_mem_cons.mpr ⟨ip_s_aload_n hx hb dL_law_108 rfl rfl, ?_⟩
  refine List.forall_mem_cons.mpr ⟨ip_s_aload_n hx hb dL_law_109 rfl rfl, ?_⟩
  refine List.forall_mem_cons.mpr ⟨ip_s_iload_n hx hb dL_law_110 rfl rfl, ?_⟩
  refine List.forall_mem_cons.mpr ⟨ip_s_iconst hx hb dL_law_111 rfl rfl, ?_⟩
  refine List.forall_mem_cons.mpr ⟨ip_s_iadd hx hb dL_law_112 rfl, ?_⟩
  refine List.forall_mem_cons.mpr ⟨ip_s_sld hx hb hX hbl hbA rfl dL_law_113 rfl, ?_⟩
  refine List.forall_mem_cons.mpr ⟨ip_s_aload_n hx hb dL_law_114 rfl rfl, ?_⟩
  refine List.forall_mem_cons.mpr ⟨ip_s_iload_n hx hb dL_law_115 rfl rfl, ?_⟩
  refine List.forall_mem_cons.mpr ⟨ip_s_iconst hx hb dL_law_116 rfl rfl, ?_⟩
  refine List.forall_mem_cons.mpr ⟨ip_s_iadd hx hb dL_law_117 rfl, ?_⟩
  refine List.forall_mem_cons.mpr ⟨ip_s_sld hx hb hX hbl hbA rfl dL_law_118 rfl, ?_⟩
  refine List.forall_mem_cons.mpr ⟨ip_s_aload_n hx hb dL_law_119 rfl rfl, ?_⟩
  refine List.forall_mem_cons.mpr ⟨ip_s_iload_n hx hb dL_law_120 rfl rfl, ?_⟩
  refine List.forall_mem_cons.mpr ⟨ip_s_iconst hx hb dL_law_121 rfl rfl, ?_⟩
  refine List.forall_mem_cons.mpr ⟨ip_s_iadd hx hb dL_law_122 rfl, ?_⟩
  refine List.forall_mem_cons.mpr ⟨ip_s_sld hx hb hX hbl hbA rfl dL_law_123 rfl, ?_⟩
  refine List.forall_mem_cons.mpr ⟨ip_s_G (fun M => ip_s_callV hNx hS9 (ctX4_weather l M) (cwV 3 hts gL_law_X4_weather rfl rfl rfl (by decide +kernel) ⟨Nat.le_of_ble_eq_true rfl, Nat.le_of_ble_eq_true rfl⟩) (ci := 4) rfl rfl (by decide) (fun as S hI h => shX4_weather M as S hI h) hA dL_law_124 ⟨Nat.le_trans (Nat.add_le_add_right (hcn _).1 _) (Nat.le_of_ble_eq_true rfl), Nat.le_trans (Nat.add_le_add_right (hcn _).2 _) (Nat.le_of_ble_eq_true rfl)⟩ rfl), ?_⟩
  refine List.forall_mem_cons.mpr ⟨ip_s_aload_n hx hb dL_law_127 rfl rfl, ?_⟩
  refine List.forall_mem_cons.mpr ⟨ip_s_aload_n hx hb dL_law_128 rfl rfl, ?_⟩
  refine List.forall_mem_cons.mpr ⟨ip_s_iload_n hx hb dL_law_129 rfl rfl, ?_⟩
  refine List.forall_mem_cons.mpr ⟨ip_s_iconst hx hb dL_law_130 rfl rfl, ?_⟩
  refine List.forall_mem_cons.mpr ⟨ip_s_iadd hx hb dL_law_131 rfl, ?_⟩
  refine List.forall_mem_cons.mpr ⟨ip_s_sld hx hb hX hbl hbA rfl dL_law_132 rfl, ?_⟩
  refine List.forall_mem_cons.mpr ⟨ip_s_aload_n hx hb dL_law_133 rfl rfl, ?_⟩
  refine List.forall_mem_cons.mpr ⟨ip_s_iload_n hx hb dL_law_134 rfl rfl, ?_⟩
  refine List.forall_mem_cons.mpr ⟨ip_s_iconst hx hb dL_law_135 rfl rfl, ?_⟩
  refine List.forall_mem_cons.mpr ⟨ip_s_iadd hx hb dL_law_136 rfl, ?_⟩
  refine List.forall_mem_cons.mpr ⟨ip_s_sld hx hb hX hbl hbA rfl dL_law_137 rfl, ?_⟩
  refine List.forall_mem_cons.mpr ⟨ip_s_aload_n hx hb dL_law_138 rfl rfl, ?_⟩
  refine List.forall_mem_cons.mpr ⟨ip_s_iload_n hx hb dL_law_139 rfl rfl, ?_⟩
  refine List.forall_mem_cons.mpr ⟨ip_s_iconst hx hb dL_law_140 rfl rfl, ?_⟩
  refine List.forall_mem_cons.mpr ⟨ip_s_iadd hx hb dL_law_141 rfl, ?_⟩
  refine List.forall_mem_cons.mpr ⟨ip_s_sld hx hb hX hbl hbA rfl dL_law_142 rfl, ?_⟩
  refine List.forall_mem_cons.mpr ⟨ip_s_G (fun M => ip_s_callV hNx hS9 (ctX5_weather l M) (cwV 3 hts gL_law_X5_weather rfl rfl rfl (by decide +kernel) ⟨Nat.le_of_ble_eq_true rfl, Nat.le_of_ble_eq_true rfl⟩) (ci := 5) rfl rfl (by decide) (fun as S hI h => shX5_weather M as S hI h) hA dL_law_143 ⟨Nat.le_trans (Nat.add_le_add_right (hcn _).1 _) (Nat.le_of_ble_eq_true rfl), Nat.le_trans (Nat.add_le_add_right (hcn _).2 _) (Nat.le_of_ble_eq_true rfl)⟩ rfl), ?_⟩
  refine List.forall_mem_cons.mpr ⟨ip_s_iceqW (t := 630) hx hb dL_law_146 (by decide) rfl (ip_cB_up _).1 (ip_cB_up _).2, ?_⟩
  exact fun _ h => absurd h List.not_mem_nil
set_option maxRecDepth 100000 in
set_option maxHeartbeats 4000000 in
theorem vL_c0 {L i : Nat} {xs : Nat → Int32} (hL : L ≤ 4608) (hi : i + 9 ≤ L) (S : ip_S) (hJ : ip_J S) : ip_run (pL_c0 L xs) (fun pc => Nat.beq pc 630) (fun pc loc st S2 => pc = 630 ∧ st = [] ∧ loc = [some (.inr (.inl (some 99))), some (.inr (.inl (some 0))), some (.inr (.inl (some 50))), some (.inl (nI i))] ∧ ip_J S2) 100 108 [some (.inr (.inl (some 99))), some (.inr (.inl (some 0))), some (.inr (.inl (some 50))), some (.inl (nI i))] [] S := by
  obtain ⟨M, hR, hE, hT, h10⟩ := hJ
  have hVV : ip_VV M := by
    obtain ⟨nf, nj, np, hv, -⟩ := hR
    exact ⟨nf, nj, np, hv⟩
  refine And.intro (ip_in8 (k := 1) hi (by decide) hL) (And.intro (ip_in8 (k := 2) hi (by decide) hL) (And.intro (ip_in8 (k := 3) hi (by decide) hL) (?_)))
  refine Exists.intro M (And.intro (And.intro rfl hR) ?_)
  rintro r S1 ⟨rfl, hR1, hf1⟩
  refine And.intro (ip_in8 (k := 1) hi (by decide) hL) (And.intro (ip_in8 (k := 2) hi (by decide) hL) (And.intro (ip_in8 (k := 3) hi (by decide) hL) (?_)))
  refine Exists.intro M (And.intro (And.intro rfl (hf1.eM hE)) ?_)
  rintro r S2 ⟨rfl, hE2⟩
  refine And.intro (fun _ => ?_) (fun z => absurd rfl z)
  exact ⟨rfl, rfl, rfl, ip_J_mv hT h10 hR1 hf1 hE2 (fun h => h)⟩

def pL_c1 (L : Nat) (xs : Nat → Int32) : List (Nat × ip_T) := [(151, ip_t_ar 1 152), (152, ip_t_ar 0 153), (153, ip_t_il 3 154), (154, ip_t_ci 1 155), (155, ip_t_iadd 156), (156, ip_t_sld L xs 157), (157, ip_t_callG 2 preX4_loses postX4_loses 160), (160, ip_t_ar 2 161), (161, ip_t_ar 0 162), (162, ip_t_il 3 163), (163, ip_t_ci 1 164), (164, ip_t_iadd 165), (165, ip_t_sld L xs 166), (166, ip_t_callG 2 preX5_loses postX5_loses 169), (169, ip_t_iceq 630 172)]
set_option maxRecDepth 100000 in
set_option maxHeartbeats 4000000 in
theorem tL_c1 {p : Program} {l : Launch} {e : Env} {s : State} {m : MethodId} {below : List Frame} {meth : Method} {c : Code} {D : va_G} {cA : Nat → ClassId} {b L : Nat} {xs : Nat → Int32} (C0 : lw_At p s m meth c b L xs) (hNx : ip_Nx s) {a1 a2 : Nat} (h1 : a1 ≤ 500000) (h2 : a2 ≤ 7000000) : ∀ q ∈ pL_c1 L xs, ip_snd p l e room_1 s m #[Value.ref b] below meth c D cA (fun q => s.heap.size ≤ q) (lw_Z below #[Value.ref b] s) 4 (ip_cB a1 a2) ip_Sta (fun _ => b) ip_S00 q.1 q.2 := by
  obtain ⟨hx, hb, hr, hml, hown, hts0, hX, hbl, hlocks, -⟩ := C0
  have hb : c.code = cL_law := hb
  have hts : ∀ w ∈ wsL_law, w.before #[Value.ref b] s = true := fun w h => hts0 w (wsL_law_in w h)
  have hS9 : CallFix p m c cL_law 4 s #[Value.ref b] wsL_law RL := ⟨hx, hb, hml, hown, hts⟩
  have hbA : ¬ (fun q : Nat => s.heap.size ≤ q) b := Nat.not_le.mpr hbl
  have hA : ∀ q : Nat, s.heap.size ≤ q → (fun q : Nat => s.heap.size ≤ q) q := fun _ h => h
  have hcn := ip_cB_le h1 h2
  have hIs : ∀ S, ip_Sta S → ip_Sta S := fun _ h => h
  have hIn := ip_In_Sta
  refine List.forall_mem_cons.mpr ⟨ip_s_aload_n hx hb dL_law_151 rfl rfl, ?_⟩
  refine List.forall_mem_cons.mpr ⟨ip_s_aload_n hx hb dL_law_152 rfl rfl, ?_⟩
  refine List.forall_mem_cons.mpr ⟨ip_s_iload_n hx hb dL_law_153 rfl rfl, ?_⟩
  refine List.forall_mem_cons.mpr ⟨ip_s_iconst hx hb dL_law_154 rfl rfl, ?_⟩
  refine List.forall_mem_cons.mpr ⟨ip_s_iadd hx hb dL_law_155 rfl, ?_⟩
  refine List.forall_mem_cons.mpr ⟨ip_s_sld hx hb hX hbl hbA rfl dL_law_156 rfl, ?_⟩
  refine List.forall_mem_cons.mpr ⟨ip_s_G (fun M => ip_s_callV hNx hS9 (ctX4_loses l M) (cwV 1 hts gL_law_X4_loses rfl rfl rfl (by decide +kernel) ⟨Nat.le_of_ble_eq_true rfl, Nat.le_of_ble_eq_true rfl⟩) (ci := 4) rfl rfl (by decide) (fun as S hI h => shX4_loses M as S hI h) hA dL_law_157 ⟨Nat.le_trans (Nat.add_le_add_right (hcn _).1 _) (Nat.le_of_ble_eq_true rfl), Nat.le_trans (Nat.add_le_add_right (hcn _).2 _) (Nat.le_of_ble_eq_true rfl)⟩ rfl), ?_⟩
  refine List.forall_mem_cons.mpr ⟨ip_s_aload_n hx hb dL_law_160 rfl rfl, ?_⟩
  refine List.forall_mem_cons.mpr ⟨ip_s_aload_n hx hb dL_law_161 rfl rfl, ?_⟩
  refine List.forall_mem_cons.mpr ⟨ip_s_iload_n hx hb dL_law_162 rfl rfl, ?_⟩
  refine List.forall_mem_cons.mpr ⟨ip_s_iconst hx hb dL_law_163 rfl rfl, ?_⟩
  refine List.forall_mem_cons.mpr ⟨ip_s_iadd hx hb dL_law_164 rfl, ?_⟩
  refine List.forall_mem_cons.mpr ⟨ip_s_sld hx hb hX hbl hbA rfl dL_law_165 rfl, ?_⟩
  refine List.forall_mem_cons.mpr ⟨ip_s_G (fun M => ip_s_callV hNx hS9 (ctX5_loses l M) (cwV 1 hts gL_law_X5_loses rfl rfl rfl (by decide +kernel) ⟨Nat.le_of_ble_eq_true rfl, Nat.le_of_ble_eq_true rfl⟩) (ci := 5) rfl rfl (by decide) (fun as S hI h => shX5_loses M as S hI h) hA dL_law_166 ⟨Nat.le_trans (Nat.add_le_add_right (hcn _).1 _) (Nat.le_of_ble_eq_true rfl), Nat.le_trans (Nat.add_le_add_right (hcn _).2 _) (Nat.le_of_ble_eq_true rfl)⟩ rfl), ?_⟩
  refine List.forall_mem_cons.mpr ⟨ip_s_iceqW (t := 630) hx hb dL_law_169 (by decide) rfl (ip_cB_up _).1 (ip_cB_up _).2, ?_⟩
  exact fun _ h => absurd h List.not_mem_nil
set_option maxRecDepth 100000 in
set_option maxHeartbeats 4000000 in
theorem vL_c1 {L i : Nat} {xs : Nat → Int32} (hL : L ≤ 4608) (hi : i + 9 ≤ L) (S : ip_S) (hJ : ip_J S) : ip_run (pL_c1 L xs) (fun pc => Nat.beq pc 630) (fun pc loc st S2 => pc = 630 ∧ st = [] ∧ loc = [some (.inr (.inl (some 99))), some (.inr (.inl (some 0))), some (.inr (.inl (some 50))), some (.inl (nI i))] ∧ ip_J S2) 100 151 [some (.inr (.inl (some 99))), some (.inr (.inl (some 0))), some (.inr (.inl (some 50))), some (.inl (nI i))] [] S := by
  obtain ⟨M, hR, hE, hT, h10⟩ := hJ
  have hVV : ip_VV M := by
    obtain ⟨nf, nj, np, hv, -⟩ := hR
    exact ⟨nf, nj, np, hv⟩
  refine And.intro (ip_in8 (k := 1) hi (by decide) hL) (?_)
  refine Exists.intro M (And.intro (And.intro rfl hR) ?_)
  rintro r S1 ⟨rfl, hR1, hf1⟩
  refine And.intro (ip_in8 (k := 1) hi (by decide) hL) (?_)
  refine Exists.intro M (And.intro (And.intro rfl (hf1.eM hE)) ?_)
  rintro r S2 ⟨rfl, hE2⟩
  refine And.intro (fun _ => ?_) (fun z => absurd rfl z)
  exact ⟨rfl, rfl, rfl, ip_J_mv hT h10 hR1 hf1 hE2 (fun h => h)⟩

def pL_c2 (L : Nat) (xs : Nat → Int32) : List (Nat × ip_T) := [(174, ip_t_ar 1 175), (175, ip_t_ar 0 176), (176, ip_t_il 3 177), (177, ip_t_ci 1 178), (178, ip_t_iadd 179), (179, ip_t_sld L xs 180), (180, ip_t_ar 0 181), (181, ip_t_il 3 182), (182, ip_t_ci 2 183), (183, ip_t_iadd 184), (184, ip_t_sld L xs 185), (185, ip_t_callG 3 preX4_known postX4_known 188), (188, ip_t_ar 2 189), (189, ip_t_ar 0 190), (190, ip_t_il 3 191), (191, ip_t_ci 1 192), (192, ip_t_iadd 193), (193, ip_t_sld L xs 194), (194, ip_t_ar 0 195), (195, ip_t_il 3 196), (196, ip_t_ci 2 197), (197, ip_t_iadd 198), (198, ip_t_sld L xs 199), (199, ip_t_callG 3 preX5_known postX5_known 202), (202, ip_t_iceq 630 205)]
set_option maxRecDepth 100000 in
set_option maxHeartbeats 4000000 in
theorem tL_c2 {p : Program} {l : Launch} {e : Env} {s : State} {m : MethodId} {below : List Frame} {meth : Method} {c : Code} {D : va_G} {cA : Nat → ClassId} {b L : Nat} {xs : Nat → Int32} (C0 : lw_At p s m meth c b L xs) (hNx : ip_Nx s) {a1 a2 : Nat} (h1 : a1 ≤ 500000) (h2 : a2 ≤ 7000000) : ∀ q ∈ pL_c2 L xs, ip_snd p l e room_1 s m #[Value.ref b] below meth c D cA (fun q => s.heap.size ≤ q) (lw_Z below #[Value.ref b] s) 4 (ip_cB a1 a2) ip_Sta (fun _ => b) ip_S00 q.1 q.2 := by
  obtain ⟨hx, hb, hr, hml, hown, hts0, hX, hbl, hlocks, -⟩ := C0
  have hb : c.code = cL_law := hb
  have hts : ∀ w ∈ wsL_law, w.before #[Value.ref b] s = true := fun w h => hts0 w (wsL_law_in w h)
  have hS9 : CallFix p m c cL_law 4 s #[Value.ref b] wsL_law RL := ⟨hx, hb, hml, hown, hts⟩
  have hbA : ¬ (fun q : Nat => s.heap.size ≤ q) b := Nat.not_le.mpr hbl
  have hA : ∀ q : Nat, s.heap.size ≤ q → (fun q : Nat => s.heap.size ≤ q) q := fun _ h => h
  have hcn := ip_cB_le h1 h2
  have hIs : ∀ S, ip_Sta S → ip_Sta S := fun _ h => h
  have hIn := ip_In_Sta
  refine List.forall_mem_cons.mpr ⟨ip_s_aload_n hx hb dL_law_174 rfl rfl, ?_⟩
  refine List.forall_mem_cons.mpr ⟨ip_s_aload_n hx hb dL_law_175 rfl rfl, ?_⟩
  refine List.forall_mem_cons.mpr ⟨ip_s_iload_n hx hb dL_law_176 rfl rfl, ?_⟩
  refine List.forall_mem_cons.mpr ⟨ip_s_iconst hx hb dL_law_177 rfl rfl, ?_⟩
  refine List.forall_mem_cons.mpr ⟨ip_s_iadd hx hb dL_law_178 rfl, ?_⟩
  refine List.forall_mem_cons.mpr ⟨ip_s_sld hx hb hX hbl hbA rfl dL_law_179 rfl, ?_⟩
  refine List.forall_mem_cons.mpr ⟨ip_s_aload_n hx hb dL_law_180 rfl rfl, ?_⟩
  refine List.forall_mem_cons.mpr ⟨ip_s_iload_n hx hb dL_law_181 rfl rfl, ?_⟩
  refine List.forall_mem_cons.mpr ⟨ip_s_iconst hx hb dL_law_182 rfl rfl, ?_⟩
  refine List.forall_mem_cons.mpr ⟨ip_s_iadd hx hb dL_law_183 rfl, ?_⟩
  refine List.forall_mem_cons.mpr ⟨ip_s_sld hx hb hX hbl hbA rfl dL_law_184 rfl, ?_⟩
  refine List.forall_mem_cons.mpr ⟨ip_s_G (fun M => ip_s_callV hNx hS9 (ctX4_known l M) (cwV 2 hts gL_law_X4_known rfl rfl rfl (by decide +kernel) ⟨Nat.le_of_ble_eq_true rfl, Nat.le_of_ble_eq_true rfl⟩) (ci := 4) rfl rfl (by decide) (fun as S hI h => shX4_known M as S hI h) hA dL_law_185 ⟨Nat.le_trans (Nat.add_le_add_right (hcn _).1 _) (Nat.le_of_ble_eq_true rfl), Nat.le_trans (Nat.add_le_add_right (hcn _).2 _) (Nat.le_of_ble_eq_true rfl)⟩ rfl), ?_⟩
  refine List.forall_mem_cons.mpr ⟨ip_s_aload_n hx hb dL_law_188 rfl rfl, ?_⟩
  refine List.forall_mem_cons.mpr ⟨ip_s_aload_n hx hb dL_law_189 rfl rfl, ?_⟩
  refine List.forall_mem_cons.mpr ⟨ip_s_iload_n hx hb dL_law_190 rfl rfl, ?_⟩
  refine List.forall_mem_cons.mpr ⟨ip_s_iconst hx hb dL_law_191 rfl rfl, ?_⟩
  refine List.forall_mem_cons.mpr ⟨ip_s_iadd hx hb dL_law_192 rfl, ?_⟩
  refine List.forall_mem_cons.mpr ⟨ip_s_sld hx hb hX hbl hbA rfl dL_law_193 rfl, ?_⟩
  refine List.forall_mem_cons.mpr ⟨ip_s_aload_n hx hb dL_law_194 rfl rfl, ?_⟩
  refine List.forall_mem_cons.mpr ⟨ip_s_iload_n hx hb dL_law_195 rfl rfl, ?_⟩
  refine List.forall_mem_cons.mpr ⟨ip_s_iconst hx hb dL_law_196 rfl rfl, ?_⟩
  refine List.forall_mem_cons.mpr ⟨ip_s_iadd hx hb dL_law_197 rfl, ?_⟩
  refine List.forall_mem_cons.mpr ⟨ip_s_sld hx hb hX hbl hbA rfl dL_law_198 rfl, ?_⟩
  refine List.forall_mem_cons.mpr ⟨ip_s_G (fun M => ip_s_callV hNx hS9 (ctX5_known l M) (cwV 2 hts gL_law_X5_known rfl rfl rfl (by decide +kernel) ⟨Nat.le_of_ble_eq_true rfl, Nat.le_of_ble_eq_true rfl⟩) (ci := 5) rfl rfl (by decide) (fun as S hI h => shX5_known M as S hI h) hA dL_law_199 ⟨Nat.le_trans (Nat.add_le_add_right (hcn _).1 _) (Nat.le_of_ble_eq_true rfl), Nat.le_trans (Nat.add_le_add_right (hcn _).2 _) (Nat.le_of_ble_eq_true rfl)⟩ rfl), ?_⟩
  refine List.forall_mem_cons.mpr ⟨ip_s_iceqW (t := 630) hx hb dL_law_202 (by decide) rfl (ip_cB_up _).1 (ip_cB_up _).2, ?_⟩
  exact fun _ h => absurd h List.not_mem_nil
set_option maxRecDepth 100000 in
set_option maxHeartbeats 4000000 in
theorem vL_c2 {L i : Nat} {xs : Nat → Int32} (hL : L ≤ 4608) (hi : i + 9 ≤ L) (S : ip_S) (hJ : ip_J S) : ip_run (pL_c2 L xs) (fun pc => Nat.beq pc 630) (fun pc loc st S2 => pc = 630 ∧ st = [] ∧ loc = [some (.inr (.inl (some 99))), some (.inr (.inl (some 0))), some (.inr (.inl (some 50))), some (.inl (nI i))] ∧ ip_J S2) 100 174 [some (.inr (.inl (some 99))), some (.inr (.inl (some 0))), some (.inr (.inl (some 50))), some (.inl (nI i))] [] S := by
  obtain ⟨M, hR, hE, hT, h10⟩ := hJ
  have hVV : ip_VV M := by
    obtain ⟨nf, nj, np, hv, -⟩ := hR
    exact ⟨nf, nj, np, hv⟩
  refine And.intro (ip_in8 (k := 1) hi (by decide) hL) (And.intro (ip_in8 (k := 2) hi (by decide) hL) (?_))
  refine Exists.intro M (And.intro (And.intro rfl hR) ?_)
  rintro r S1 ⟨rfl, rfl⟩
  refine And.intro (ip_in8 (k := 1) hi (by decide) hL) (And.intro (ip_in8 (k := 2) hi (by decide) hL) (?_))
  refine Exists.intro M (And.intro (And.intro rfl (And.intro hE hVV)) ?_)
  rintro r S2 ⟨rfl, rfl⟩
  refine And.intro (fun _ => ?_) (fun z => absurd rfl z)
  exact ⟨rfl, rfl, rfl, M, hR, hE, hT, h10⟩

def pL_c3 (L : Nat) (xs : Nat → Int32) : List (Nat × ip_T) := [(207, ip_t_ar 1 208), (208, ip_t_ar 0 209), (209, ip_t_il 3 210), (210, ip_t_ci 1 211), (211, ip_t_iadd 212), (212, ip_t_sld L xs 213), (213, ip_t_ar 0 214), (214, ip_t_il 3 215), (215, ip_t_ci 2 216), (216, ip_t_iadd 217), (217, ip_t_sld L xs 218), (218, ip_t_ar 0 219), (219, ip_t_il 3 220), (220, ip_t_ci 3 221), (221, ip_t_iadd 222), (222, ip_t_sld L xs 223), (223, ip_t_ar 0 224), (224, ip_t_il 3 225), (225, ip_t_ci 4 226), (226, ip_t_iadd 227), (227, ip_t_sld L xs 228), (228, ip_t_ar 0 229), (229, ip_t_il 3 230), (230, ip_t_ci 5 231), (231, ip_t_iadd 232), (232, ip_t_sld L xs 233), (233, ip_t_ar 0 234), (234, ip_t_il 3 235), (235, ip_t_ci 6 237), (237, ip_t_iadd 238), (238, ip_t_sld L xs 239), (239, ip_t_ar 0 240), (240, ip_t_il 3 241), (241, ip_t_ci 7 243), (243, ip_t_iadd 244), (244, ip_t_sld L xs 245), (245, ip_t_ar 0 246), (246, ip_t_il 3 247), (247, ip_t_ci 8 249), (249, ip_t_iadd 250), (250, ip_t_sld L xs 251), (251, ip_t_callG 9 preX4_fluid postX4_fluid 254), (254, ip_t_ar 2 255), (255, ip_t_ar 0 256), (256, ip_t_il 3 257), (257, ip_t_ci 1 258), (258, ip_t_iadd 259), (259, ip_t_sld L xs 260), (260, ip_t_ar 0 261), (261, ip_t_il 3 262), (262, ip_t_ci 2 263), (263, ip_t_iadd 264), (264, ip_t_sld L xs 265), (265, ip_t_ar 0 266), (266, ip_t_il 3 267), (267, ip_t_ci 3 268), (268, ip_t_iadd 269), (269, ip_t_sld L xs 270), (270, ip_t_ar 0 271), (271, ip_t_il 3 272), (272, ip_t_ci 4 273), (273, ip_t_iadd 274), (274, ip_t_sld L xs 275), (275, ip_t_ar 0 276), (276, ip_t_il 3 277), (277, ip_t_ci 5 278), (278, ip_t_iadd 279), (279, ip_t_sld L xs 280), (280, ip_t_ar 0 281), (281, ip_t_il 3 282), (282, ip_t_ci 6 284), (284, ip_t_iadd 285), (285, ip_t_sld L xs 286), (286, ip_t_ar 0 287), (287, ip_t_il 3 288), (288, ip_t_ci 7 290), (290, ip_t_iadd 291), (291, ip_t_sld L xs 292), (292, ip_t_ar 0 293), (293, ip_t_il 3 294), (294, ip_t_ci 8 296), (296, ip_t_iadd 297), (297, ip_t_sld L xs 298), (298, ip_t_callG 9 preX5_fluid postX5_fluid 301), (301, ip_t_iceq 630 304)]
set_option maxRecDepth 100000 in
set_option maxHeartbeats 4000000 in
theorem tL_c3 {p : Program} {l : Launch} {e : Env} {s : State} {m : MethodId} {below : List Frame} {meth : Method} {c : Code} {D : va_G} {cA : Nat → ClassId} {b L : Nat} {xs : Nat → Int32} (C0 : lw_At p s m meth c b L xs) (hNx : ip_Nx s) {a1 a2 : Nat} (h1 : a1 ≤ 500000) (h2 : a2 ≤ 7000000) : ∀ q ∈ pL_c3 L xs, ip_snd p l e room_1 s m #[Value.ref b] below meth c D cA (fun q => s.heap.size ≤ q) (lw_Z below #[Value.ref b] s) 4 (ip_cB a1 a2) ip_Sta (fun _ => b) ip_S00 q.1 q.2 := by
  obtain ⟨hx, hb, hr, hml, hown, hts0, hX, hbl, hlocks, -⟩ := C0
  have hb : c.code = cL_law := hb
  have hts : ∀ w ∈ wsL_law, w.before #[Value.ref b] s = true := fun w h => hts0 w (wsL_law_in w h)
  have hS9 : CallFix p m c cL_law 4 s #[Value.ref b] wsL_law RL := ⟨hx, hb, hml, hown, hts⟩
  have hbA : ¬ (fun q : Nat => s.heap.size ≤ q) b := Nat.not_le.mpr hbl
  have hA : ∀ q : Nat, s.heap.size ≤ q → (fun q : Nat => s.heap.size ≤ q) q := fun _ h => h
  have hcn := ip_cB_le h1 h2
  have hIs : ∀ S, ip_Sta S → ip_Sta S := fun _ h => h
  have hIn := ip_In_Sta
  refine List.forall_mem_cons.mpr ⟨ip_s_aload_n hx hb dL_law_207 rfl rfl, ?_⟩
  refine List.forall_mem_cons.mpr ⟨ip_s_aload_n hx hb dL_law_208 rfl rfl, ?_⟩
  refine List.forall_mem_cons.mpr ⟨ip_s_iload_n hx hb dL_law_209 rfl rfl, ?_⟩
  refine List.forall_mem_cons.mpr ⟨ip_s_iconst hx hb dL_law_210 rfl rfl, ?_⟩
  refine List.forall_mem_cons.mpr ⟨ip_s_iadd hx hb dL_law_211 rfl, ?_⟩
  refine List.forall_mem_cons.mpr ⟨ip_s_sld hx hb hX hbl hbA rfl dL_law_212 rfl, ?_⟩
  refine List.forall_mem_cons.mpr ⟨ip_s_aload_n hx hb dL_law_213 rfl rfl, ?_⟩
  refine List.forall_mem_cons.mpr ⟨ip_s_iload_n hx hb dL_law_214 rfl rfl, ?_⟩
  refine List.forall_mem_cons.mpr ⟨ip_s_iconst hx hb dL_law_215 rfl rfl, ?_⟩
  refine List.forall_mem_cons.mpr ⟨ip_s_iadd hx hb dL_law_216 rfl, ?_⟩
  refine List.forall_mem_cons.mpr ⟨ip_s_sld hx hb hX hbl hbA rfl dL_law_217 rfl, ?_⟩
  refine List.forall_mem_cons.mpr ⟨ip_s_aload_n hx hb dL_law_218 rfl rfl, ?_⟩
  refine List.forall_mem_cons.mpr ⟨ip_s_iload_n hx hb dL_law_219 rfl rfl, ?_⟩
  refine List.forall_mem_cons.mpr ⟨ip_s_iconst hx hb dL_law_220 rfl rfl, ?_⟩
  refine List.forall_mem_cons.mpr ⟨ip_s_iadd hx hb dL_law_221 rfl, ?_⟩
  refine List.forall_mem_cons.mpr ⟨ip_s_sld hx hb hX hbl hbA rfl dL_law_222 rfl, ?_⟩
  refine List.forall_mem_cons.mpr ⟨ip_s_aload_n hx hb dL_law_223 rfl rfl, ?_⟩
  refine List.forall_mem_cons.mpr ⟨ip_s_iload_n hx hb dL_law_224 rfl rfl, ?_⟩
  refine List.forall_mem_cons.mpr ⟨ip_s_iconst hx hb dL_law_225 rfl rfl, ?_⟩
  refine List.forall_mem_cons.mpr ⟨ip_s_iadd hx hb dL_law_226 rfl, ?_⟩
  refine List.forall_mem_cons.mpr ⟨ip_s_sld hx hb hX hbl hbA rfl dL_law_227 rfl, ?_⟩
  refine List.forall_mem_cons.mpr ⟨ip_s_aload_n hx hb dL_law_228 rfl rfl, ?_⟩
  refine List.forall_mem_cons.mpr ⟨ip_s_iload_n hx hb dL_law_229 rfl rfl, ?_⟩
  refine List.forall_mem_cons.mpr ⟨ip_s_iconst hx hb dL_law_230 rfl rfl, ?_⟩
  refine List.forall_mem_cons.mpr ⟨ip_s_iadd hx hb dL_law_231 rfl, ?_⟩
  refine List.forall_mem_cons.mpr ⟨ip_s_sld hx hb hX hbl hbA rfl dL_law_232 rfl, ?_⟩
  refine List.forall_mem_cons.mpr ⟨ip_s_aload_n hx hb dL_law_233 rfl rfl, ?_⟩
  refine List.forall_mem_cons.mpr ⟨ip_s_iload_n hx hb dL_law_234 rfl rfl, ?_⟩
  refine List.forall_mem_cons.mpr ⟨ip_s_bipush hx hb dL_law_235 rfl rfl, ?_⟩
  refine List.forall_mem_cons.mpr ⟨ip_s_iadd hx hb dL_law_237 rfl, ?_⟩
  refine List.forall_mem_cons.mpr ⟨ip_s_sld hx hb hX hbl hbA rfl dL_law_238 rfl, ?_⟩
  refine List.forall_mem_cons.mpr ⟨ip_s_aload_n hx hb dL_law_239 rfl rfl, ?_⟩
  refine List.forall_mem_cons.mpr ⟨ip_s_iload_n hx hb dL_law_240 rfl rfl, ?_⟩
  refine List.forall_mem_cons.mpr ⟨ip_s_bipush hx hb dL_law_241 rfl rfl, ?_⟩
  refine List.forall_mem_cons.mpr ⟨ip_s_iadd hx hb dL_law_243 rfl, ?_⟩
  refine List.forall_mem_cons.mpr ⟨ip_s_sld hx hb hX hbl hbA rfl dL_law_244 rfl, ?_⟩
  refine List.forall_mem_cons.mpr ⟨ip_s_aload_n hx hb dL_law_245 rfl rfl, ?_⟩
  refine List.forall_mem_cons.mpr ⟨ip_s_iload_n hx hb dL_law_246 rfl rfl, ?_⟩
  refine List.forall_mem_cons.mpr ⟨ip_s_bipush hx hb dL_law_247 rfl rfl, ?_⟩
  refine List.forall_mem_cons.mpr ⟨ip_s_iadd hx hb dL_law_249 rfl, ?_⟩
  refine List.forall_mem_cons.mpr ⟨ip_s_sld hx hb hX hbl hbA rfl dL_law_250 rfl, ?_⟩
  refine List.forall_mem_cons.mpr ⟨ip_s_G (fun M => ip_s_callV hNx hS9 (ctX4_fluid l M) (cwV 8 hts gL_law_X4_fluid rfl rfl rfl (by decide +kernel) ⟨Nat.le_of_ble_eq_true rfl, Nat.le_of_ble_eq_true rfl⟩) (ci := 4) rfl rfl (by decide) (fun as S hI h => shX4_fluid M as S hI h) hA dL_law_251 ⟨Nat.le_trans (Nat.add_le_add_right (hcn _).1 _) (Nat.le_of_ble_eq_true rfl), Nat.le_trans (Nat.add_le_add_right (hcn _).2 _) (Nat.le_of_ble_eq_true rfl)⟩ rfl), ?_⟩
  refine List.forall_mem_cons.mpr ⟨ip_s_aload_n hx hb dL_law_254 rfl rfl, ?_⟩
  refine List.forall_mem_cons.mpr ⟨ip_s_aload_n hx hb dL_law_255 rfl rfl, ?_⟩
  refine List.forall_mem_cons.mpr ⟨ip_s_iload_n hx hb dL_law_256 rfl rfl, ?_⟩
  refine List.forall_mem_cons.mpr ⟨ip_s_iconst hx hb dL_law_257 rfl rfl, ?_⟩
  refine List.forall_mem_cons.mpr ⟨ip_s_iadd hx hb dL_law_258 rfl, ?_⟩
  refine List.forall_mem_cons.mpr ⟨ip_s_sld hx hb hX hbl hbA rfl dL_law_259 rfl, ?_⟩
  refine List.forall_mem_cons.mpr ⟨ip_s_aload_n hx hb dL_law_260 rfl rfl, ?_⟩
  refine List.forall_mem_cons.mpr ⟨ip_s_iload_n hx hb dL_law_261 rfl rfl, ?_⟩
  refine List.forall_mem_cons.mpr ⟨ip_s_iconst hx hb dL_law_262 rfl rfl, ?_⟩
  refine List.forall_mem_cons.mpr ⟨ip_s_iadd hx hb dL_law_263 rfl, ?_⟩
  refine List.forall_mem_cons.mpr ⟨ip_s_sld hx hb hX hbl hbA rfl dL_law_264 rfl, ?_⟩
  refine List.forall_mem_cons.mpr ⟨ip_s_aload_n hx hb dL_law_265 rfl rfl, ?_⟩
  refine List.forall_mem_cons.mpr ⟨ip_s_iload_n hx hb dL_law_266 rfl rfl, ?_⟩
  refine List.forall_mem_cons.mpr ⟨ip_s_iconst hx hb dL_law_267 rfl rfl, ?_⟩
  refine List.forall_mem_cons.mpr ⟨ip_s_iadd hx hb dL_law_268 rfl, ?_⟩
  refine List.forall_mem_cons.mpr ⟨ip_s_sld hx hb hX hbl hbA rfl dL_law_269 rfl, ?_⟩
  refine List.forall_mem_cons.mpr ⟨ip_s_aload_n hx hb dL_law_270 rfl rfl, ?_⟩
  refine List.forall_mem_cons.mpr ⟨ip_s_iload_n hx hb dL_law_271 rfl rfl, ?_⟩
  refine List.forall_mem_cons.mpr ⟨ip_s_iconst hx hb dL_law_272 rfl rfl, ?_⟩
  refine List.forall_mem_cons.mpr ⟨ip_s_iadd hx hb dL_law_273 rfl, ?_⟩
  refine List.forall_mem_cons.mpr ⟨ip_s_sld hx hb hX hbl hbA rfl dL_law_274 rfl, ?_⟩
  refine List.forall_mem_cons.mpr ⟨ip_s_aload_n hx hb dL_law_275 rfl rfl, ?_⟩
  refine List.forall_mem_cons.mpr ⟨ip_s_iload_n hx hb dL_law_276 rfl rfl, ?_⟩
  refine List.forall_mem_cons.mpr ⟨ip_s_iconst hx hb dL_law_277 rfl rfl, ?_⟩
  refine List.forall_mem_cons.mpr ⟨ip_s_iadd hx hb dL_law_278 rfl, ?_⟩
  refine List.forall_mem_cons.mpr ⟨ip_s_sld hx hb hX hbl hbA rfl dL_law_279 rfl, ?_⟩
  refine List.forall_mem_cons.mpr ⟨ip_s_aload_n hx hb dL_law_280 rfl rfl, ?_⟩
  refine List.forall_mem_cons.mpr ⟨ip_s_iload_n hx hb dL_law_281 rfl rfl, ?_⟩
  refine List.forall_mem_cons.mpr ⟨ip_s_bipush hx hb dL_law_282 rfl rfl, ?_⟩
  refine List.forall_mem_cons.mpr ⟨ip_s_iadd hx hb dL_law_284 rfl, ?_⟩
  refine List.forall_mem_cons.mpr ⟨ip_s_sld hx hb hX hbl hbA rfl dL_law_285 rfl, ?_⟩
  refine List.forall_mem_cons.mpr ⟨ip_s_aload_n hx hb dL_law_286 rfl rfl, ?_⟩
  refine List.forall_mem_cons.mpr ⟨ip_s_iload_n hx hb dL_law_287 rfl rfl, ?_⟩
  refine List.forall_mem_cons.mpr ⟨ip_s_bipush hx hb dL_law_288 rfl rfl, ?_⟩
  refine List.forall_mem_cons.mpr ⟨ip_s_iadd hx hb dL_law_290 rfl, ?_⟩
  refine List.forall_mem_cons.mpr ⟨ip_s_sld hx hb hX hbl hbA rfl dL_law_291 rfl, ?_⟩
  refine List.forall_mem_cons.mpr ⟨ip_s_aload_n hx hb dL_law_292 rfl rfl, ?_⟩
  refine List.forall_mem_cons.mpr ⟨ip_s_iload_n hx hb dL_law_293 rfl rfl, ?_⟩
  refine List.forall_mem_cons.mpr ⟨ip_s_bipush hx hb dL_law_294 rfl rfl, ?_⟩
  refine List.forall_mem_cons.mpr ⟨ip_s_iadd hx hb dL_law_296 rfl, ?_⟩
  refine List.forall_mem_cons.mpr ⟨ip_s_sld hx hb hX hbl hbA rfl dL_law_297 rfl, ?_⟩
  refine List.forall_mem_cons.mpr ⟨ip_s_G (fun M => ip_s_callV hNx hS9 (ctX5_fluid l M) (cwV 8 hts gL_law_X5_fluid rfl rfl rfl (by decide +kernel) ⟨Nat.le_of_ble_eq_true rfl, Nat.le_of_ble_eq_true rfl⟩) (ci := 5) rfl rfl (by decide) (fun as S hI h => shX5_fluid M as S hI h) hA dL_law_298 ⟨Nat.le_trans (Nat.add_le_add_right (hcn _).1 _) (Nat.le_of_ble_eq_true rfl), Nat.le_trans (Nat.add_le_add_right (hcn _).2 _) (Nat.le_of_ble_eq_true rfl)⟩ rfl), ?_⟩
  refine List.forall_mem_cons.mpr ⟨ip_s_iceqW (t := 630) hx hb dL_law_301 (by decide) rfl (ip_cB_up _).1 (ip_cB_up _).2, ?_⟩
  exact fun _ h => absurd h List.not_mem_nil
set_option maxRecDepth 100000 in
set_option maxHeartbeats 4000000 in
theorem vL_c3 {L i : Nat} {xs : Nat → Int32} (hL : L ≤ 4608) (hi : i + 9 ≤ L) (S : ip_S) (hJ : ip_J S) : ip_run (pL_c3 L xs) (fun pc => Nat.beq pc 630) (fun pc loc st S2 => pc = 630 ∧ st = [] ∧ loc = [some (.inr (.inl (some 99))), some (.inr (.inl (some 0))), some (.inr (.inl (some 50))), some (.inl (nI i))] ∧ ip_J S2) 100 207 [some (.inr (.inl (some 99))), some (.inr (.inl (some 0))), some (.inr (.inl (some 50))), some (.inl (nI i))] [] S := by
  obtain ⟨M, hR, hE, hT, h10⟩ := hJ
  have hVV : ip_VV M := by
    obtain ⟨nf, nj, np, hv, -⟩ := hR
    exact ⟨nf, nj, np, hv⟩
  refine And.intro (ip_in8 (k := 1) hi (by decide) hL) (And.intro (ip_in8 (k := 2) hi (by decide) hL) (And.intro (ip_in8 (k := 3) hi (by decide) hL) (And.intro (ip_in8 (k := 4) hi (by decide) hL) (And.intro (ip_in8 (k := 5) hi (by decide) hL) (And.intro (ip_in8 (k := 6) hi (by decide) hL) (And.intro (ip_in8 (k := 7) hi (by decide) hL) (And.intro (ip_in8 (k := 8) hi (by decide) hL) (?_))))))))
  refine Exists.intro M (And.intro (And.intro rfl hR) ?_)
  rintro r S1 ⟨rfl, hR1, hf1⟩
  refine And.intro (ip_in8 (k := 1) hi (by decide) hL) (And.intro (ip_in8 (k := 2) hi (by decide) hL) (And.intro (ip_in8 (k := 3) hi (by decide) hL) (And.intro (ip_in8 (k := 4) hi (by decide) hL) (And.intro (ip_in8 (k := 5) hi (by decide) hL) (And.intro (ip_in8 (k := 6) hi (by decide) hL) (And.intro (ip_in8 (k := 7) hi (by decide) hL) (And.intro (ip_in8 (k := 8) hi (by decide) hL) (?_))))))))
  refine Exists.intro M (And.intro (And.intro rfl (And.intro (hf1.eM hE) hVV)) ?_)
  rintro r S2 ⟨rfl, hE2⟩
  refine And.intro (fun _ => ?_) (fun z => absurd rfl z)
  exact ⟨rfl, rfl, rfl, ip_J_mv hT h10 hR1 hf1 hE2 (fun h => h)⟩

def pL_c4 (L : Nat) (xs : Nat → Int32) : List (Nat × ip_T) := [(306, ip_t_ar 1 307), (307, ip_t_ar 0 308), (308, ip_t_il 3 309), (309, ip_t_ci 1 310), (310, ip_t_iadd 311), (311, ip_t_sld L xs 312), (312, ip_t_ar 0 313), (313, ip_t_il 3 314), (314, ip_t_ci 2 315), (315, ip_t_iadd 316), (316, ip_t_sld L xs 317), (317, ip_t_callG 3 preX4_hold postX4_hold 320), (320, ip_t_ar 2 321), (321, ip_t_ar 0 322), (322, ip_t_il 3 323), (323, ip_t_ci 1 324), (324, ip_t_iadd 325), (325, ip_t_sld L xs 326), (326, ip_t_ar 0 327), (327, ip_t_il 3 328), (328, ip_t_ci 2 329), (329, ip_t_iadd 330), (330, ip_t_sld L xs 331), (331, ip_t_callG 3 preX5_hold postX5_hold 334), (334, ip_t_iceq 630 337)]
set_option maxRecDepth 100000 in
set_option maxHeartbeats 4000000 in
theorem tL_c4 {p : Program} {l : Launch} {e : Env} {s : State} {m : MethodId} {below : List Frame} {meth : Method} {c : Code} {D : va_G} {cA : Nat → ClassId} {b L : Nat} {xs : Nat → Int32} (C0 : lw_At p s m meth c b L xs) (hNx : ip_Nx s) {a1 a2 : Nat} (h1 : a1 ≤ 500000) (h2 : a2 ≤ 7000000) : ∀ q ∈ pL_c4 L xs, ip_snd p l e room_1 s m #[Value.ref b] below meth c D cA (fun q => s.heap.size ≤ q) (lw_Z below #[Value.ref b] s) 4 (ip_cB a1 a2) ip_Sta (fun _ => b) ip_S00 q.1 q.2 := by
  obtain ⟨hx, hb, hr, hml, hown, hts0, hX, hbl, hlocks, -⟩ := C0
  have hb : c.code = cL_law := hb
  have hts : ∀ w ∈ wsL_law, w.before #[Value.ref b] s = true := fun w h => hts0 w (wsL_law_in w h)
  have hS9 : CallFix p m c cL_law 4 s #[Value.ref b] wsL_law RL := ⟨hx, hb, hml, hown, hts⟩
  have hbA : ¬ (fun q : Nat => s.heap.size ≤ q) b := Nat.not_le.mpr hbl
  have hA : ∀ q : Nat, s.heap.size ≤ q → (fun q : Nat => s.heap.size ≤ q) q := fun _ h => h
  have hcn := ip_cB_le h1 h2
  have hIs : ∀ S, ip_Sta S → ip_Sta S := fun _ h => h
  have hIn := ip_In_Sta
  refine List.forall_mem_cons.mpr ⟨ip_s_aload_n hx hb dL_law_306 rfl rfl, ?_⟩
  refine List.forall_mem_cons.mpr ⟨ip_s_aload_n hx hb dL_law_307 rfl rfl, ?_⟩
  refine List.forall_mem_cons.mpr ⟨ip_s_iload_n hx hb dL_law_308 rfl rfl, ?_⟩
  refine List.forall_mem_cons.mpr ⟨ip_s_iconst hx hb dL_law_309 rfl rfl, ?_⟩
  refine List.forall_mem_cons.mpr ⟨ip_s_iadd hx hb dL_law_310 rfl, ?_⟩
  refine List.forall_mem_cons.mpr ⟨ip_s_sld hx hb hX hbl hbA rfl dL_law_311 rfl, ?_⟩
  refine List.forall_mem_cons.mpr ⟨ip_s_aload_n hx hb dL_law_312 rfl rfl, ?_⟩
  refine List.forall_mem_cons.mpr ⟨ip_s_iload_n hx hb dL_law_313 rfl rfl, ?_⟩
  refine List.forall_mem_cons.mpr ⟨ip_s_iconst hx hb dL_law_314 rfl rfl, ?_⟩
  refine List.forall_mem_cons.mpr ⟨ip_s_iadd hx hb dL_law_315 rfl, ?_⟩
  refine List.forall_mem_cons.mpr ⟨ip_s_sld hx hb hX hbl hbA rfl dL_law_316 rfl, ?_⟩
  refine List.forall_mem_cons.mpr ⟨ip_s_G (fun M => ip_s_callV hNx hS9 (ctX4_hold l M) (cwV 2 hts gL_law_X4_hold rfl rfl rfl (by decide +kernel) ⟨Nat.le_of_ble_eq_true rfl, Nat.le_of_ble_eq_true rfl⟩) (ci := 4) rfl rfl (by decide) (fun as S hI h => shX4_hold M as S hI h) hA dL_law_317 ⟨Nat.le_trans (Nat.add_le_add_right (hcn _).1 _) (Nat.le_of_ble_eq_true rfl), Nat.le_trans (Nat.add_le_add_right (hcn _).2 _) (Nat.le_of_ble_eq_true rfl)⟩ rfl), ?_⟩
  refine List.forall_mem_cons.mpr ⟨ip_s_aload_n hx hb dL_law_320 rfl rfl, ?_⟩
  refine List.forall_mem_cons.mpr ⟨ip_s_aload_n hx hb dL_law_321 rfl rfl, ?_⟩
  refine List.forall_mem_cons.mpr ⟨ip_s_iload_n hx hb dL_law_322 rfl rfl, ?_⟩
  refine List.forall_mem_cons.mpr ⟨ip_s_iconst hx hb dL_law_323 rfl rfl, ?_⟩
  refine List.forall_mem_cons.mpr ⟨ip_s_iadd hx hb dL_law_324 rfl, ?_⟩
  refine List.forall_mem_cons.mpr ⟨ip_s_sld hx hb hX hbl hbA rfl dL_law_325 rfl, ?_⟩
  refine List.forall_mem_cons.mpr ⟨ip_s_aload_n hx hb dL_law_326 rfl rfl, ?_⟩
  refine List.forall_mem_cons.mpr ⟨ip_s_iload_n hx hb dL_law_327 rfl rfl, ?_⟩
  refine List.forall_mem_cons.mpr ⟨ip_s_iconst hx hb dL_law_328 rfl rfl, ?_⟩
  refine List.forall_mem_cons.mpr ⟨ip_s_iadd hx hb dL_law_329 rfl, ?_⟩
  refine List.forall_mem_cons.mpr ⟨ip_s_sld hx hb hX hbl hbA rfl dL_law_330 rfl, ?_⟩
  refine List.forall_mem_cons.mpr ⟨ip_s_G (fun M => ip_s_callV hNx hS9 (ctX5_hold l M) (cwV 2 hts gL_law_X5_hold rfl rfl rfl (by decide +kernel) ⟨Nat.le_of_ble_eq_true rfl, Nat.le_of_ble_eq_true rfl⟩) (ci := 5) rfl rfl (by decide) (fun as S hI h => shX5_hold M as S hI h) hA dL_law_331 ⟨Nat.le_trans (Nat.add_le_add_right (hcn _).1 _) (Nat.le_of_ble_eq_true rfl), Nat.le_trans (Nat.add_le_add_right (hcn _).2 _) (Nat.le_of_ble_eq_true rfl)⟩ rfl), ?_⟩
  refine List.forall_mem_cons.mpr ⟨ip_s_iceqW (t := 630) hx hb dL_law_334 (by decide) rfl (ip_cB_up _).1 (ip_cB_up _).2, ?_⟩
  exact fun _ h => absurd h List.not_mem_nil
set_option maxRecDepth 100000 in
set_option maxHeartbeats 4000000 in
theorem vL_c4 {L i : Nat} {xs : Nat → Int32} (hL : L ≤ 4608) (hi : i + 9 ≤ L) (S : ip_S) (hJ : ip_J S) : ip_run (pL_c4 L xs) (fun pc => Nat.beq pc 630) (fun pc loc st S2 => pc = 630 ∧ st = [] ∧ loc = [some (.inr (.inl (some 99))), some (.inr (.inl (some 0))), some (.inr (.inl (some 50))), some (.inl (nI i))] ∧ ip_J S2) 100 306 [some (.inr (.inl (some 99))), some (.inr (.inl (some 0))), some (.inr (.inl (some 50))), some (.inl (nI i))] [] S := by
  obtain ⟨M, hR, hE, hT, h10⟩ := hJ
  have hVV : ip_VV M := by
    obtain ⟨nf, nj, np, hv, -⟩ := hR
    exact ⟨nf, nj, np, hv⟩
  refine And.intro (ip_in8 (k := 1) hi (by decide) hL) (And.intro (ip_in8 (k := 2) hi (by decide) hL) (?_))
  refine Exists.intro M (And.intro (And.intro rfl hR) ?_)
  rintro r S1 ⟨rfl, hS1⟩
  refine And.intro (ip_in8 (k := 1) hi (by decide) hL) (And.intro (ip_in8 (k := 2) hi (by decide) hL) (?_))
  have hE1 : ip_eM M S1 := by
    rw [hS1]
    split
    · exact hE
    · exact hE
  refine Exists.intro M (And.intro (And.intro rfl (And.intro hE1 hVV)) ?_)
  rintro r S2 ⟨rfl, hS2⟩
  refine And.intro (fun _ => ?_) (fun z => absurd rfl z)
  refine ⟨rfl, rfl, rfl, M, ?_⟩
  rw [hS2, hS1]
  split
  · refine ⟨hR, hE, ?_, h10⟩
    show S.2.2.1 0 13 + _ = S.2.2.1 50 27 + _
    rw [hT]
  · exact ⟨hR, hE, hT, h10⟩

def pL_c5 (L : Nat) (xs : Nat → Int32) : List (Nat × ip_T) := [(339, ip_t_ar 1 340), (340, ip_t_ar 0 341), (341, ip_t_il 3 342), (342, ip_t_ci 1 343), (343, ip_t_iadd 344), (344, ip_t_sld L xs 345), (345, ip_t_ar 0 346), (346, ip_t_il 3 347), (347, ip_t_ci 2 348), (348, ip_t_iadd 349), (349, ip_t_sld L xs 350), (350, ip_t_callG 3 preX4_fill postX4_fill 353), (353, ip_t_ar 2 354), (354, ip_t_ar 0 355), (355, ip_t_il 3 356), (356, ip_t_ci 1 357), (357, ip_t_iadd 358), (358, ip_t_sld L xs 359), (359, ip_t_ar 0 360), (360, ip_t_il 3 361), (361, ip_t_ci 2 362), (362, ip_t_iadd 363), (363, ip_t_sld L xs 364), (364, ip_t_callG 3 preX5_fill postX5_fill 367), (367, ip_t_iceq 630 370)]
set_option maxRecDepth 100000 in
set_option maxHeartbeats 4000000 in
theorem tL_c5 {p : Program} {l : Launch} {e : Env} {s : State} {m : MethodId} {below : List Frame} {meth : Method} {c : Code} {D : va_G} {cA : Nat → ClassId} {b L : Nat} {xs : Nat → Int32} (C0 : lw_At p s m meth c b L xs) (hNx : ip_Nx s) {a1 a2 : Nat} (h1 : a1 ≤ 500000) (h2 : a2 ≤ 7000000) : ∀ q ∈ pL_c5 L xs, ip_snd p l e room_1 s m #[Value.ref b] below meth c D cA (fun q => s.heap.size ≤ q) (lw_Z below #[Value.ref b] s) 4 (ip_cB a1 a2) ip_Sta (fun _ => b) ip_S00 q.1 q.2 := by
  obtain ⟨hx, hb, hr, hml, hown, hts0, hX, hbl, hlocks, -⟩ := C0
  have hb : c.code = cL_law := hb
  have hts : ∀ w ∈ wsL_law, w.before #[Value.ref b] s = true := fun w h => hts0 w (wsL_law_in w h)
  have hS9 : CallFix p m c cL_law 4 s #[Value.ref b] wsL_law RL := ⟨hx, hb, hml, hown, hts⟩
  have hbA : ¬ (fun q : Nat => s.heap.size ≤ q) b := Nat.not_le.mpr hbl
  have hA : ∀ q : Nat, s.heap.size ≤ q → (fun q : Nat => s.heap.size ≤ q) q := fun _ h => h
  have hcn := ip_cB_le h1 h2
  have hIs : ∀ S, ip_Sta S → ip_Sta S := fun _ h => h
  have hIn := ip_In_Sta
  refine List.forall_mem_cons.mpr ⟨ip_s_aload_n hx hb dL_law_339 rfl rfl, ?_⟩
  refine List.forall_mem_cons.mpr ⟨ip_s_aload_n hx hb dL_law_340 rfl rfl, ?_⟩
  refine List.forall_mem_cons.mpr ⟨ip_s_iload_n hx hb dL_law_341 rfl rfl, ?_⟩
  refine List.forall_mem_cons.mpr ⟨ip_s_iconst hx hb dL_law_342 rfl rfl, ?_⟩
  refine List.forall_mem_cons.mpr ⟨ip_s_iadd hx hb dL_law_343 rfl, ?_⟩
  refine List.forall_mem_cons.mpr ⟨ip_s_sld hx hb hX hbl hbA rfl dL_law_344 rfl, ?_⟩
  refine List.forall_mem_cons.mpr ⟨ip_s_aload_n hx hb dL_law_345 rfl rfl, ?_⟩
  refine List.forall_mem_cons.mpr ⟨ip_s_iload_n hx hb dL_law_346 rfl rfl, ?_⟩
  refine List.forall_mem_cons.mpr ⟨ip_s_iconst hx hb dL_law_347 rfl rfl, ?_⟩
  refine List.forall_mem_cons.mpr ⟨ip_s_iadd hx hb dL_law_348 rfl, ?_⟩
  refine List.forall_mem_cons.mpr ⟨ip_s_sld hx hb hX hbl hbA rfl dL_law_349 rfl, ?_⟩
  refine List.forall_mem_cons.mpr ⟨ip_s_G (fun M => ip_s_callV hNx hS9 (ctX4_fill l M) (cwV 2 hts gL_law_X4_fill rfl rfl rfl (by decide +kernel) ⟨Nat.le_of_ble_eq_true rfl, Nat.le_of_ble_eq_true rfl⟩) (ci := 4) rfl rfl (by decide) (fun as S hI h => shX4_fill M as S hI h) hA dL_law_350 ⟨Nat.le_trans (Nat.add_le_add_right (hcn _).1 _) (Nat.le_of_ble_eq_true rfl), Nat.le_trans (Nat.add_le_add_right (hcn _).2 _) (Nat.le_of_ble_eq_true rfl)⟩ rfl), ?_⟩
  refine List.forall_mem_cons.mpr ⟨ip_s_aload_n hx hb dL_law_353 rfl rfl, ?_⟩
  refine List.forall_mem_cons.mpr ⟨ip_s_aload_n hx hb dL_law_354 rfl rfl, ?_⟩
  refine List.forall_mem_cons.mpr ⟨ip_s_iload_n hx hb dL_law_355 rfl rfl, ?_⟩
  refine List.forall_mem_cons.mpr ⟨ip_s_iconst hx hb dL_law_356 rfl rfl, ?_⟩
  refine List.forall_mem_cons.mpr ⟨ip_s_iadd hx hb dL_law_357 rfl, ?_⟩
  refine List.forall_mem_cons.mpr ⟨ip_s_sld hx hb hX hbl hbA rfl dL_law_358 rfl, ?_⟩
  refine List.forall_mem_cons.mpr ⟨ip_s_aload_n hx hb dL_law_359 rfl rfl, ?_⟩
  refine List.forall_mem_cons.mpr ⟨ip_s_iload_n hx hb dL_law_360 rfl rfl, ?_⟩
  refine List.forall_mem_cons.mpr ⟨ip_s_iconst hx hb dL_law_361 rfl rfl, ?_⟩
  refine List.forall_mem_cons.mpr ⟨ip_s_iadd hx hb dL_law_362 rfl, ?_⟩
  refine List.forall_mem_cons.mpr ⟨ip_s_sld hx hb hX hbl hbA rfl dL_law_363 rfl, ?_⟩
  refine List.forall_mem_cons.mpr ⟨ip_s_G (fun M => ip_s_callV hNx hS9 (ctX5_fill l M) (cwV 2 hts gL_law_X5_fill rfl rfl rfl (by decide +kernel) ⟨Nat.le_of_ble_eq_true rfl, Nat.le_of_ble_eq_true rfl⟩) (ci := 5) rfl rfl (by decide) (fun as S hI h => shX5_fill M as S hI h) hA dL_law_364 ⟨Nat.le_trans (Nat.add_le_add_right (hcn _).1 _) (Nat.le_of_ble_eq_true rfl), Nat.le_trans (Nat.add_le_add_right (hcn _).2 _) (Nat.le_of_ble_eq_true rfl)⟩ rfl), ?_⟩
  refine List.forall_mem_cons.mpr ⟨ip_s_iceqW (t := 630) hx hb dL_law_367 (by decide) rfl (ip_cB_up _).1 (ip_cB_up _).2, ?_⟩
  exact fun _ h => absurd h List.not_mem_nil
set_option maxRecDepth 100000 in
set_option maxHeartbeats 4000000 in
theorem vL_c5 {L i : Nat} {xs : Nat → Int32} (hL : L ≤ 4608) (hi : i + 9 ≤ L) (S : ip_S) (hJ : ip_J S) : ip_run (pL_c5 L xs) (fun pc => Nat.beq pc 630) (fun pc loc st S2 => pc = 630 ∧ st = [] ∧ loc = [some (.inr (.inl (some 99))), some (.inr (.inl (some 0))), some (.inr (.inl (some 50))), some (.inl (nI i))] ∧ ip_J S2) 100 339 [some (.inr (.inl (some 99))), some (.inr (.inl (some 0))), some (.inr (.inl (some 50))), some (.inl (nI i))] [] S := by
  obtain ⟨M, hR, hE, hT, h10⟩ := hJ
  have hVV : ip_VV M := by
    obtain ⟨nf, nj, np, hv, -⟩ := hR
    exact ⟨nf, nj, np, hv⟩
  refine And.intro (ip_in8 (k := 1) hi (by decide) hL) (And.intro (ip_in8 (k := 2) hi (by decide) hL) (?_))
  refine Exists.intro M (And.intro (And.intro rfl hR) ?_)
  rintro r S1 ⟨rfl, hR1, hf1⟩
  refine And.intro (ip_in8 (k := 1) hi (by decide) hL) (And.intro (ip_in8 (k := 2) hi (by decide) hL) (?_))
  refine Exists.intro M (And.intro (And.intro rfl (And.intro (hf1.eM hE) hVV)) ?_)
  rintro r S2 ⟨rfl, hE2⟩
  refine And.intro (fun _ => ?_) (fun z => absurd rfl z)
  exact ⟨rfl, rfl, rfl, ip_J_mv hT h10 hR1 hf1 hE2 (fun h => h)⟩

def pL_c6 (L : Nat) (xs : Nat → Int32) : List (Nat × ip_T) := [(372, ip_t_ar 1 373), (373, ip_t_ar 0 374), (374, ip_t_il 3 375), (375, ip_t_ci 1 376), (376, ip_t_iadd 377), (377, ip_t_sld L xs 378), (378, ip_t_ar 0 379), (379, ip_t_il 3 380), (380, ip_t_ci 2 381), (381, ip_t_iadd 382), (382, ip_t_sld L xs 383), (383, ip_t_callG 3 preX4_set postX4_set 386), (386, ip_t_ar 2 387), (387, ip_t_ar 0 388), (388, ip_t_il 3 389), (389, ip_t_ci 1 390), (390, ip_t_iadd 391), (391, ip_t_sld L xs 392), (392, ip_t_ar 0 393), (393, ip_t_il 3 394), (394, ip_t_ci 2 395), (395, ip_t_iadd 396), (396, ip_t_sld L xs 397), (397, ip_t_callG 3 preX5_set postX5_set 400), (400, ip_t_iceq 630 403)]
set_option maxRecDepth 100000 in
set_option maxHeartbeats 4000000 in
theorem tL_c6 {p : Program} {l : Launch} {e : Env} {s : State} {m : MethodId} {below : List Frame} {meth : Method} {c : Code} {D : va_G} {cA : Nat → ClassId} {b L : Nat} {xs : Nat → Int32} (C0 : lw_At p s m meth c b L xs) (hNx : ip_Nx s) {a1 a2 : Nat} (h1 : a1 ≤ 500000) (h2 : a2 ≤ 7000000) : ∀ q ∈ pL_c6 L xs, ip_snd p l e room_1 s m #[Value.ref b] below meth c D cA (fun q => s.heap.size ≤ q) (lw_Z below #[Value.ref b] s) 4 (ip_cB a1 a2) ip_Sta (fun _ => b) ip_S00 q.1 q.2 := by
  obtain ⟨hx, hb, hr, hml, hown, hts0, hX, hbl, hlocks, -⟩ := C0
  have hb : c.code = cL_law := hb
  have hts : ∀ w ∈ wsL_law, w.before #[Value.ref b] s = true := fun w h => hts0 w (wsL_law_in w h)
  have hS9 : CallFix p m c cL_law 4 s #[Value.ref b] wsL_law RL := ⟨hx, hb, hml, hown, hts⟩
  have hbA : ¬ (fun q : Nat => s.heap.size ≤ q) b := Nat.not_le.mpr hbl
  have hA : ∀ q : Nat, s.heap.size ≤ q → (fun q : Nat => s.heap.size ≤ q) q := fun _ h => h
  have hcn := ip_cB_le h1 h2
  have hIs : ∀ S, ip_Sta S → ip_Sta S := fun _ h => h
  have hIn := ip_In_Sta
  refine List.forall_mem_cons.mpr ⟨ip_s_aload_n hx hb dL_law_372 rfl rfl, ?_⟩
  refine List.forall_mem_cons.mpr ⟨ip_s_aload_n hx hb dL_law_373 rfl rfl, ?_⟩
  refine List.forall_mem_cons.mpr ⟨ip_s_iload_n hx hb dL_law_374 rfl rfl, ?_⟩
  refine List.forall_mem_cons.mpr ⟨ip_s_iconst hx hb dL_law_375 rfl rfl, ?_⟩
  refine List.forall_mem_cons.mpr ⟨ip_s_iadd hx hb dL_law_376 rfl, ?_⟩
  refine List.forall_mem_cons.mpr ⟨ip_s_sld hx hb hX hbl hbA rfl dL_law_377 rfl, ?_⟩
  refine List.forall_mem_cons.mpr ⟨ip_s_aload_n hx hb dL_law_378 rfl rfl, ?_⟩
  refine List.forall_mem_cons.mpr ⟨ip_s_iload_n hx hb dL_law_379 rfl rfl, ?_⟩
  refine List.forall_mem_cons.mpr ⟨ip_s_iconst hx hb dL_law_380 rfl rfl, ?_⟩
  refine List.forall_mem_cons.mpr ⟨ip_s_iadd hx hb dL_law_381 rfl, ?_⟩
  refine List.forall_mem_cons.mpr ⟨ip_s_sld hx hb hX hbl hbA rfl dL_law_382 rfl, ?_⟩
  refine List.forall_mem_cons.mpr ⟨ip_s_G (fun M => ip_s_callV hNx hS9 (ctX4_set l M) (cwV 2 hts gL_law_X4_set rfl rfl rfl (by decide +kernel) ⟨Nat.le_of_ble_eq_true rfl, Nat.le_of_ble_eq_true rfl⟩) (ci := 4) rfl rfl (by decide) (fun as S hI h => shX4_set M as S hI h) hA dL_law_383 ⟨Nat.le_trans (Nat.add_le_add_right (hcn _).1 _) (Nat.le_of_ble_eq_true rfl), Nat.le_trans (Nat.add_le_add_right (hcn _).2 _) (Nat.le_of_ble_eq_true rfl)⟩ rfl), ?_⟩
  refine List.forall_mem_cons.mpr ⟨ip_s_aload_n hx hb dL_law_386 rfl rfl, ?_⟩
  refine List.forall_mem_cons.mpr ⟨ip_s_aload_n hx hb dL_law_387 rfl rfl, ?_⟩
  refine List.forall_mem_cons.mpr ⟨ip_s_iload_n hx hb dL_law_388 rfl rfl, ?_⟩
  refine List.forall_mem_cons.mpr ⟨ip_s_iconst hx hb dL_law_389 rfl rfl, ?_⟩
  refine List.forall_mem_cons.mpr ⟨ip_s_iadd hx hb dL_law_390 rfl, ?_⟩
  refine List.forall_mem_cons.mpr ⟨ip_s_sld hx hb hX hbl hbA rfl dL_law_391 rfl, ?_⟩
  refine List.forall_mem_cons.mpr ⟨ip_s_aload_n hx hb dL_law_392 rfl rfl, ?_⟩
  refine List.forall_mem_cons.mpr ⟨ip_s_iload_n hx hb dL_law_393 rfl rfl, ?_⟩
  refine List.forall_mem_cons.mpr ⟨ip_s_iconst hx hb dL_law_394 rfl rfl, ?_⟩
  refine List.forall_mem_cons.mpr ⟨ip_s_iadd hx hb dL_law_395 rfl, ?_⟩
  refine List.forall_mem_cons.mpr ⟨ip_s_sld hx hb hX hbl hbA rfl dL_law_396 rfl, ?_⟩
  refine List.forall_mem_cons.mpr ⟨ip_s_G (fun M => ip_s_callV hNx hS9 (ctX5_set l M) (cwV 2 hts gL_law_X5_set rfl rfl rfl (by decide +kernel) ⟨Nat.le_of_ble_eq_true rfl, Nat.le_of_ble_eq_true rfl⟩) (ci := 5) rfl rfl (by decide) (fun as S hI h => shX5_set M as S hI h) hA dL_law_397 ⟨Nat.le_trans (Nat.add_le_add_right (hcn _).1 _) (Nat.le_of_ble_eq_true rfl), Nat.le_trans (Nat.add_le_add_right (hcn _).2 _) (Nat.le_of_ble_eq_true rfl)⟩ rfl), ?_⟩
  refine List.forall_mem_cons.mpr ⟨ip_s_iceqW (t := 630) hx hb dL_law_400 (by decide) rfl (ip_cB_up _).1 (ip_cB_up _).2, ?_⟩
  exact fun _ h => absurd h List.not_mem_nil
set_option maxRecDepth 100000 in
set_option maxHeartbeats 4000000 in
theorem vL_c6 {L i : Nat} {xs : Nat → Int32} (hL : L ≤ 4608) (hi : i + 9 ≤ L) (S : ip_S) (hJ : ip_J S) : ip_run (pL_c6 L xs) (fun pc => Nat.beq pc 630) (fun pc loc st S2 => pc = 630 ∧ st = [] ∧ loc = [some (.inr (.inl (some 99))), some (.inr (.inl (some 0))), some (.inr (.inl (some 50))), some (.inl (nI i))] ∧ ip_J S2) 100 372 [some (.inr (.inl (some 99))), some (.inr (.inl (some 0))), some (.inr (.inl (some 50))), some (.inl (nI i))] [] S := by
  obtain ⟨M, hR, hE, hT, h10⟩ := hJ
  have hVV : ip_VV M := by
    obtain ⟨nf, nj, np, hv, -⟩ := hR
    exact ⟨nf, nj, np, hv⟩
  refine And.intro (ip_in8 (k := 1) hi (by decide) hL) (And.intro (ip_in8 (k := 2) hi (by decide) hL) (?_))
  refine Exists.intro M (And.intro (And.intro rfl hR) ?_)
  rintro r S1 ⟨rfl, hR1, hf1⟩
  refine And.intro (ip_in8 (k := 1) hi (by decide) hL) (And.intro (ip_in8 (k := 2) hi (by decide) hL) (?_))
  refine Exists.intro M (And.intro (And.intro rfl (hf1.eM hE)) ?_)
  rintro r S2 ⟨rfl, hE2⟩
  refine And.intro (fun _ => ?_) (fun z => absurd rfl z)
  exact ⟨rfl, rfl, rfl, ip_J_mv hT h10 hR1 hf1 hE2 (fun h => h)⟩

