def preX5_count (M : ip_M) : List ip_V → ip_S → Prop := ip_h_ri (fun _ => False) (fun a w S => a = 50 ∧ ip_eM M S ∧ ∃ nf nj np, ip_vv M nf nj np)
def postX5_count (M : ip_M) : List ip_V → ip_S → List ip_V → ip_S → Prop := ip_h_ri (fun _ _ _ => True) (fun a w S r S' => r = [.inl (g_count M w)] ∧ S' = S)
theorem shX5_count (M : ip_M) : ∀ as S, ip_Sta S → preX5_count M as S → ∃ (b : Nat) (as' : List ip_V), as = .inr (.inl (some b)) :: as' ∧ as'.length = 1 ∧ (S.2.2.2 b).1 = 5 := by
  intro as S hI h
  obtain ⟨a, w, rfl, hq⟩ := ip_e_ri h
  exact ⟨_, _, rfl, rfl, by rw [hq.1, hI.1 50 (by decide)]; rfl⟩
def rmX5_count : Room := { frames := 2, cells := 0, slots := 0, locals := 80 }
def pX5_count (po : List ip_V → ip_S → Prop) : List (Nat × ip_T) := [(0, ip_t_ci 0 1), (1, ip_t_is 2 2), (2, ip_t_il 1 3), (3, ip_t_sw [(0, 56), (1, 61), (2, 66), (3, 71), (4, 76), (5, 82), (6, 88), (7, 93), (8, 98), (9, 125)] 165), (56, ip_t_ar 0 57), (57, ip_t_gI0 50 0 60), (60, ip_t_iret po), (61, ip_t_ar 0 62), (62, ip_t_gI0 50 4 65), (65, ip_t_iret po), (66, ip_t_ar 0 67), (67, ip_t_gI0 50 10 70), (70, ip_t_iret po), (71, ip_t_ar 0 72), (72, ip_t_gI0 50 15 75), (75, ip_t_iret po), (76, ip_t_ar 0 77), (77, ip_t_ci 0 78), (78, ip_t_callG 2 preX5_ofState postX5_ofState 81), (81, ip_t_iret po), (82, ip_t_ar 0 83), (83, ip_t_ci 2 84), (84, ip_t_callG 2 preX5_ofState postX5_ofState 87), (87, ip_t_iret po), (88, ip_t_ar 0 89), (89, ip_t_gI0 50 13 92), (92, ip_t_iret po), (93, ip_t_ar 0 94), (94, ip_t_gI0 50 26 97), (97, ip_t_iret po), (98, ip_t_ci 0 99), (99, ip_t_is 3 100), (100, ip_t_il 3 101), (101, ip_t_ar 0 102), (102, ip_t_gI0 50 15 105), (105, ip_t_icge 123 108), (108, ip_t_il 2 109), (109, ip_t_ar 0 110), (110, ip_t_gR0 50 74 113), (113, ip_t_il 3 114), (114, ip_t_ld 6 115), (115, ip_t_iadd 116), (116, ip_t_is 2 117), (117, ip_t_inc 3 1 120), (120, ip_t_go 100), (123, ip_t_il 2 124), (124, ip_t_iret po), (125, ip_t_ci 0 126), (126, ip_t_is 3 127), (127, ip_t_il 3 128), (128, ip_t_ar 0 129), (129, ip_t_gI0 50 15 132), (132, ip_t_icge 163 135), (135, ip_t_il 2 136), (136, ip_t_ar 0 137), (137, ip_t_gR0 50 71 140), (140, ip_t_il 3 141), (141, ip_t_ld 6 142), (142, ip_t_ci 2 143), (143, ip_t_icne 154 146), (146, ip_t_ar 0 147), (147, ip_t_il 3 148), (148, ip_t_callG 2 preX5_lateOf postX5_lateOf 151), (151, ip_t_go 155), (154, ip_t_ci 0 155), (155, ip_t_iadd 156), (156, ip_t_is 2 157), (157, ip_t_inc 3 1 160), (160, ip_t_go 127), (163, ip_t_il 2 164), (164, ip_t_iret po), (165, ip_t_ci (-100) 167), (167, ip_t_iret po)]
set_option maxRecDepth 100000 in
set_option maxHeartbeats 4000000 in
theorem tX5_count {p : Program} {l : Launch} {e : Env} {s : State} {m : MethodId} {args : Array Value} {below : List Frame} {meth : Method} {c : Code} {D : va_G} {cA : Nat → ClassId} {A : Nat → Prop} {ad0 : Nat → Nat} {S0 : ip_S} {po : List ip_V → ip_S → Prop} (hx : p.tables.exec = Jvm.exec) (hb : c.code = cX5_count) (hml : c.maxLocals = 4) (hown : s.vm.findClass RX5 = some m.cls) (hts : ∀ w ∈ wsX5_count, w.before args s = true) (hr : meth.sig.returnType = (some .int)) (hlocks : meth.locks = false) (hname : meth.name = yX5_count.name) (hA : ∀ q, s.heap.size ≤ q → A q) (hNx : ip_Nx s) : ∀ q ∈ pX5_count po, ip_snd p l e rmX5_count s m args below meth c D cA A (MQ below (ip_Q ip_Sta D cA ad0 S0 A po) args s 0 0 A) 4 (fun _ => (0, 0)) ip_Sta ad0 S0 q.1 q.2 := by
  have hIs : ∀ S, ip_Sta S → ip_Sta S := fun _ h => h
  have hIn := ip_In_Sta
  have hS9 : CallFix p m c cX5_count 4 s args wsX5_count RX5 := ⟨hx, hb, hml, hown, hts⟩
  have hin5 : ∀ w ∈ u_ws RX5 TX5 32, w ∈ wsX5_count := by decide +kernel
  refine List.forall_mem_cons.mpr ⟨ip_s_iconst hx hb dX5_count_0 rfl rfl, ?_⟩
  refine List.forall_mem_cons.mpr ⟨ip_s_istore_n hx hb dX5_count_1 rfl (by decide) rfl, ?_⟩
  refine List.forall_mem_cons.mpr ⟨ip_s_iload_n hx hb dX5_count_2 rfl rfl, ?_⟩
  refine List.forall_mem_cons.mpr ⟨ip_s_sw (ts := [(0, 56), (1, 61), (2, 66), (3, 71), (4, 76), (5, 82), (6, 88), (7, 93), (8, 98), (9, 125)]) (d := 165) hx hb 10 dX5_count_3 (by decide) (by decide +kernel) (by decide +kernel) (by decide) rfl (fun _ _ => rfl), ?_⟩
  refine List.forall_mem_cons.mpr ⟨ip_s_aload_n hx hb dX5_count_56 rfl rfl, ?_⟩
  refine List.forall_mem_cons.mpr ⟨ip_s_gI0 hx hb hts hin5 hown rfl (by decide) 0 (by decide) (hts (.fieldLink RX5 87 "IcePadsModel" "now" "I") (by decide +kernel)) (fun _ h9 => h9) hIs 50 rfl rfl dX5_count_57 rfl, ?_⟩
  refine List.forall_mem_cons.mpr ⟨ip_s_iret hx hb hr hlocks (Nat.le_of_ble_eq_true rfl) (Nat.le_of_ble_eq_true rfl) dX5_count_60, ?_⟩
  refine List.forall_mem_cons.mpr ⟨ip_s_aload_n hx hb dX5_count_61 rfl rfl, ?_⟩
  refine List.forall_mem_cons.mpr ⟨ip_s_gI0 hx hb hts hin5 hown rfl (by decide) 4 (by decide) (hts (.fieldLink RX5 101 "IcePadsModel" "fluids" "I") (by decide +kernel)) (fun _ h9 => h9) hIs 50 rfl rfl dX5_count_62 rfl, ?_⟩
  refine List.forall_mem_cons.mpr ⟨ip_s_iret hx hb hr hlocks (Nat.le_of_ble_eq_true rfl) (Nat.le_of_ble_eq_true rfl) dX5_count_65, ?_⟩
  refine List.forall_mem_cons.mpr ⟨ip_s_aload_n hx hb dX5_count_66 rfl rfl, ?_⟩
  refine List.forall_mem_cons.mpr ⟨ip_s_gI0 hx hb hts hin5 hown rfl (by decide) 10 (by decide) (hts (.fieldLink RX5 35 "IcePadsModel" "pads" "I") (by decide +kernel)) (fun _ h9 => h9) hIs 50 rfl rfl dX5_count_67 rfl, ?_⟩
  refine List.forall_mem_cons.mpr ⟨ip_s_iret hx hb hr hlocks (Nat.le_of_ble_eq_true rfl) (Nat.le_of_ble_eq_true rfl) dX5_count_70, ?_⟩
  refine List.forall_mem_cons.mpr ⟨ip_s_aload_n hx hb dX5_count_71 rfl rfl, ?_⟩
  refine List.forall_mem_cons.mpr ⟨ip_s_gI0 hx hb hts hin5 hown rfl (by decide) 15 (by decide) (hts (.fieldLink RX5 120 "IcePadsModel" "jets" "I") (by decide +kernel)) (fun _ h9 => h9) hIs 50 rfl rfl dX5_count_72 rfl, ?_⟩
  refine List.forall_mem_cons.mpr ⟨ip_s_iret hx hb hr hlocks (Nat.le_of_ble_eq_true rfl) (Nat.le_of_ble_eq_true rfl) dX5_count_75, ?_⟩
  refine List.forall_mem_cons.mpr ⟨ip_s_aload_n hx hb dX5_count_76 rfl rfl, ?_⟩
  refine List.forall_mem_cons.mpr ⟨ip_s_iconst hx hb dX5_count_77 rfl rfl, ?_⟩
  refine List.forall_mem_cons.mpr ⟨ip_s_G (fun M => ip_s_callV hNx hS9 (ctX5_ofState l M) (cwV 1 hts gX5_count_X5_ofState rfl rfl rfl (by decide +kernel) ⟨Nat.le_of_ble_eq_true rfl, Nat.le_of_ble_eq_true rfl⟩) (ci := 5) rfl rfl (by decide) (fun as S hI h => shX5_ofState M as S hI h) hA dX5_count_78 ⟨Nat.le_of_ble_eq_true rfl, Nat.le_of_ble_eq_true rfl⟩ rfl), ?_⟩
  refine List.forall_mem_cons.mpr ⟨ip_s_iret hx hb hr hlocks (Nat.le_of_ble_eq_true rfl) (Nat.le_of_ble_eq_true rfl) dX5_count_81, ?_⟩
  refine List.forall_mem_cons.mpr ⟨ip_s_aload_n hx hb dX5_count_82 rfl rfl, ?_⟩
  refine List.forall_mem_cons.mpr ⟨ip_s_iconst hx hb dX5_count_83 rfl rfl, ?_⟩
  refine List.forall_mem_cons.mpr ⟨ip_s_G (fun M => ip_s_callV hNx hS9 (ctX5_ofState l M) (cwV 1 hts gX5_count_X5_ofState rfl rfl rfl (by decide +kernel) ⟨Nat.le_of_ble_eq_true rfl, Nat.le_of_ble_eq_true rfl⟩) (ci := 5) rfl rfl (by decide) (fun as S hI h => shX5_ofState M as S hI h) hA dX5_count_84 ⟨Nat.le_of_ble_eq_true rfl, Nat.le_of_ble_eq_true rfl⟩ rfl), ?_⟩
  refine List.forall_mem_cons.mpr ⟨ip_s_iret hx hb hr hlocks (Nat.le_of_ble_eq_true rfl) (Nat.le_of_ble_eq_true rfl) dX5_count_87, ?_⟩
  refine List.forall_mem_cons.mpr ⟨ip_s_aload_n hx hb dX5_count_88 rfl rfl, ?_⟩
  refine List.forall_mem_cons.mpr ⟨ip_s_gI0 hx hb hts hin5 hown rfl (by decide) 13 (by decide) (hts (.fieldLink RX5 123 "IcePadsModel" "drain" "I") (by decide +kernel)) (fun _ h9 => h9) hIs 50 rfl rfl dX5_count_89 rfl, ?_⟩
  refine List.forall_mem_cons.mpr ⟨ip_s_iret hx hb hr hlocks (Nat.le_of_ble_eq_true rfl) (Nat.le_of_ble_eq_true rfl) dX5_count_92, ?_⟩
  refine List.forall_mem_cons.mpr ⟨ip_s_aload_n hx hb dX5_count_93 rfl rfl, ?_⟩
  refine List.forall_mem_cons.mpr ⟨ip_s_gI0 hx hb hts hin5 hown rfl (by decide) 26 (by decide) (hts (.fieldLink RX5 129 "IcePadsModel" "begun" "I") (by decide +kernel)) (fun _ h9 => h9) hIs 50 rfl rfl dX5_count_94 rfl, ?_⟩
  refine List.forall_mem_cons.mpr ⟨ip_s_iret hx hb hr hlocks (Nat.le_of_ble_eq_true rfl) (Nat.le_of_ble_eq_true rfl) dX5_count_97, ?_⟩
  refine List.forall_mem_cons.mpr ⟨ip_s_iconst hx hb dX5_count_98 rfl rfl, ?_⟩
  refine List.forall_mem_cons.mpr ⟨ip_s_istore_n hx hb dX5_count_99 rfl (by decide) rfl, ?_⟩
  refine List.forall_mem_cons.mpr ⟨ip_s_iload_n hx hb dX5_count_100 rfl rfl, ?_⟩
  refine List.forall_mem_cons.mpr ⟨ip_s_aload_n hx hb dX5_count_101 rfl rfl, ?_⟩
  refine List.forall_mem_cons.mpr ⟨ip_s_gI0 hx hb hts hin5 hown rfl (by decide) 15 (by decide) (hts (.fieldLink RX5 120 "IcePadsModel" "jets" "I") (by decide +kernel)) (fun _ h9 => h9) hIs 50 rfl rfl dX5_count_102 rfl, ?_⟩
  refine List.forall_mem_cons.mpr ⟨ip_s_icge (t := 123) hx hb dX5_count_105 (by decide) rfl rfl, ?_⟩
  refine List.forall_mem_cons.mpr ⟨ip_s_iload_n hx hb dX5_count_108 rfl rfl, ?_⟩
  refine List.forall_mem_cons.mpr ⟨ip_s_aload_n hx hb dX5_count_109 rfl rfl, ?_⟩
  refine List.forall_mem_cons.mpr ⟨ip_s_gR0 hx hb hts hin5 hown rfl (by decide) 24 (by decide) (hts (.fieldLink RX5 72 "IcePadsModel" "backs" "[I") (by decide +kernel)) (fun _ h9 => h9) hIs 50 74 rfl (by decide) rfl dX5_count_110 rfl, ?_⟩
  refine List.forall_mem_cons.mpr ⟨ip_s_iload_n hx hb dX5_count_113 rfl rfl, ?_⟩
  refine List.forall_mem_cons.mpr ⟨ip_s_ldi hx hb hIs dX5_count_114 rfl, ?_⟩
  refine List.forall_mem_cons.mpr ⟨ip_s_iadd hx hb dX5_count_115 rfl, ?_⟩
  refine List.forall_mem_cons.mpr ⟨ip_s_istore_n hx hb dX5_count_116 rfl (by decide) rfl, ?_⟩
  refine List.forall_mem_cons.mpr ⟨ip_s_iinc hx hb dX5_count_117 rfl (by decide) rfl, ?_⟩
  refine List.forall_mem_cons.mpr ⟨ip_s_go (t := 100) hx hb dX5_count_120 (by decide) (Nat.le_of_ble_eq_true rfl) (Nat.le_of_ble_eq_true rfl), ?_⟩
  refine List.forall_mem_cons.mpr ⟨ip_s_iload_n hx hb dX5_count_123 rfl rfl, ?_⟩
  refine List.forall_mem_cons.mpr ⟨ip_s_iret hx hb hr hlocks (Nat.le_of_ble_eq_true rfl) (Nat.le_of_ble_eq_true rfl) dX5_count_124, ?_⟩
  refine List.forall_mem_cons.mpr ⟨ip_s_iconst hx hb dX5_count_125 rfl rfl, ?_⟩
  refine List.forall_mem_cons.mpr ⟨ip_s_istore_n hx hb dX5_count_126 rfl (by decide) rfl, ?_⟩
  refine List.forall_mem_cons.mpr ⟨ip_s_iload_n hx hb dX5_count_127 rfl rfl, ?_⟩
  refine List.forall_mem_cons.mpr ⟨ip_s_aload_n hx hb dX5_count_128 rfl rfl, ?_⟩
  refine List.forall_mem_cons.mpr ⟨ip_s_gI0 hx hb hts hin5 hown rfl (by decide) 15 (by decide) (hts (.fieldLink RX5 120 "IcePadsModel" "jets" "I") (by decide +kernel)) (fun _ h9 => h9) hIs 50 rfl rfl dX5_count_129 rfl, ?_⟩
  refine List.forall_mem_cons.mpr ⟨ip_s_icge (t := 163) hx hb dX5_count_132 (by decide) rfl rfl, ?_⟩
  refine List.forall_mem_cons.mpr ⟨ip_s_iload_n hx hb dX5_count_135 rfl rfl, ?_⟩
  refine List.forall_mem_cons.mpr ⟨ip_s_aload_n hx hb dX5_count_136 rfl rfl, ?_⟩
  refine List.forall_mem_cons.mpr ⟨ip_s_gR0 hx hb hts hin5 hown rfl (by decide) 21 (by decide) (hts (.fieldLink RX5 63 "IcePadsModel" "state" "[I") (by decide +kernel)) (fun _ h9 => h9) hIs 50 71 rfl (by decide) rfl dX5_count_137 rfl, ?_⟩
  refine List.forall_mem_cons.mpr ⟨ip_s_iload_n hx hb dX5_count_140 rfl rfl, ?_⟩
  refine List.forall_mem_cons.mpr ⟨ip_s_ldi hx hb hIs dX5_count_141 rfl, ?_⟩
  refine List.forall_mem_cons.mpr ⟨ip_s_iconst hx hb dX5_count_142 rfl rfl, ?_⟩
  refine List.forall_mem_cons.mpr ⟨ip_s_icne (t := 154) hx hb dX5_count_143 (by decide) rfl rfl, ?_⟩
  refine List.forall_mem_cons.mpr ⟨ip_s_aload_n hx hb dX5_count_146 rfl rfl, ?_⟩
  refine List.forall_mem_cons.mpr ⟨ip_s_iload_n hx hb dX5_count_147 rfl rfl, ?_⟩
  refine List.forall_mem_cons.mpr ⟨ip_s_G (fun M => ip_s_callV hNx hS9 (ctX5_lateOf l M) (cwV 1 hts gX5_count_X5_lateOf rfl rfl rfl (by decide +kernel) ⟨Nat.le_of_ble_eq_true rfl, Nat.le_of_ble_eq_true rfl⟩) (ci := 5) rfl rfl (by decide) (fun as S hI h => shX5_lateOf M as S hI h) hA dX5_count_148 ⟨Nat.le_of_ble_eq_true rfl, Nat.le_of_ble_eq_true rfl⟩ rfl), ?_⟩
  refine List.forall_mem_cons.mpr ⟨ip_s_go (t := 155) hx hb dX5_count_151 (by decide) (Nat.le_of_ble_eq_true rfl) (Nat.le_of_ble_eq_true rfl), ?_⟩
  refine List.forall_mem_cons.mpr ⟨ip_s_iconst hx hb dX5_count_154 rfl rfl, ?_⟩
  refine List.forall_mem_cons.mpr ⟨ip_s_iadd hx hb dX5_count_155 rfl, ?_⟩
  refine List.forall_mem_cons.mpr ⟨ip_s_istore_n hx hb dX5_count_156 rfl (by decide) rfl, ?_⟩
  refine List.forall_mem_cons.mpr ⟨ip_s_iinc hx hb dX5_count_157 rfl (by decide) rfl, ?_⟩
  refine List.forall_mem_cons.mpr ⟨ip_s_go (t := 127) hx hb dX5_count_160 (by decide) (Nat.le_of_ble_eq_true rfl) (Nat.le_of_ble_eq_true rfl), ?_⟩
  refine List.forall_mem_cons.mpr ⟨ip_s_iload_n hx hb dX5_count_163 rfl rfl, ?_⟩
  refine List.forall_mem_cons.mpr ⟨ip_s_iret hx hb hr hlocks (Nat.le_of_ble_eq_true rfl) (Nat.le_of_ble_eq_true rfl) dX5_count_164, ?_⟩
  refine List.forall_mem_cons.mpr ⟨ip_s_bipush hx hb dX5_count_165 rfl rfl, ?_⟩
  refine List.forall_mem_cons.mpr ⟨ip_s_iret hx hb hr hlocks (Nat.le_of_ble_eq_true rfl) (Nat.le_of_ble_eq_true rfl) dX5_count_167, ?_⟩
  exact fun _ h => absurd h List.not_mem_nil
abbrev iX5_count (M : ip_M) (a : Nat) (w : Int32) (S : ip_S) : Nat → ip_N := fun k pc loc st S1 => ∃ (nj j : Nat) (x2 x3 : Int32), M 50 15 = nI nj ∧ nj ≤ 12 ∧ x3 = nI j ∧ j ≤ nj ∧ k + j = nj ∧ st = [] ∧ S1 = S ∧ loc = [some (.inr (.inl (some a))), some (.inl w), some (.inl x2), some (.inl x3)] ∧ ((pc = 100 ∧ w = 8 ∧ x2 = g_sb M j) ∨ (pc = 127 ∧ w = 9 ∧ x2 = g_sl M j))
set_option maxRecDepth 100000 in
set_option maxHeartbeats 4000000 in
theorem lpX5_count (M : ip_M) (a : Nat) (w : Int32) (S : ip_S) (hS : ip_Sta S) (hp : a = 50 ∧ ip_eM M S ∧ ∃ nf nj np, ip_vv M nf nj np) : ∀ k pc loc st S1, iX5_count M a w S k pc loc st S1 → ip_run (pX5_count (postX5_count M [.inr (.inl (some a)), .inl w] S)) (fun pc => Nat.beq pc 100 || Nat.beq pc 127) (fun pc loc st S2 => ∃ k', k' < k ∧ iX5_count M a w S k' pc loc st S2) 60 pc loc st S1 := by
  obtain ⟨rfl, hE, -⟩ := hp
  rintro k pc loc st S1 ⟨nj, j, x2, x3, hnj, hn12, rfl, hj, hk, rfl, rfl, rfl, ⟨rfl, rfl, rfl⟩ | ⟨rfl, rfl, rfl⟩⟩
  · have e15 : S1.1 50 15 = nI nj := by rw [← hnj]; exact congrFun (hE 50 (by decide)) _
    have hcn : (M 50 15).toNatClampNeg = nj := by rw [hnj]; exact nI_clamp (by omega)
    refine And.intro (fun q => ?_) (fun q => ?_)
    · rw [e15, nI_leI (by omega) (by omega)] at q
      have hjj : j = nj := Nat.le_antisymm hj q
      subst hjj
      refine And.intro ?_ rfl
      have : g_count M 8 = g_sb M (M 50 15).toNatClampNeg := rfl
      rw [this, hcn]
    · rw [e15, nI_leI (by omega) (by omega)] at q
      have hjl : j < nj := Nat.lt_of_not_le q
      obtain ⟨hin, hcj⟩ := ip_inN (N := 12) hjl hn12 (by decide)
      have e74 : S1.1 74 (nI j).toNatClampNeg = M 74 j := by rw [hcj]; exact congrFun (hE 74 (by decide)) _
      refine And.intro hin ?_
      rw [e74]
      exact Exists.intro (k - 1) (And.intro (by omega) ⟨nj, j + 1, _, _, hnj, hn12, nI_1 j, hjl, by omega, rfl, rfl, rfl, Or.inl ⟨rfl, rfl, rfl⟩⟩)
  · have e15 : S1.1 50 15 = nI nj := by rw [← hnj]; exact congrFun (hE 50 (by decide)) _
    have hcn : (M 50 15).toNatClampNeg = nj := by rw [hnj]; exact nI_clamp (by omega)
    refine And.intro (fun q => ?_) (fun q => ?_)
    · rw [e15, nI_leI (by omega) (by omega)] at q
      have hjj : j = nj := Nat.le_antisymm hj q
      subst hjj
      refine And.intro ?_ rfl
      have : g_count M 9 = g_sl M (M 50 15).toNatClampNeg := rfl
      rw [this, hcn]
    · rw [e15, nI_leI (by omega) (by omega)] at q
      have hjl : j < nj := Nat.lt_of_not_le q
      obtain ⟨hin, hcj⟩ := ip_inN (N := 12) hjl hn12 (by decide)
      have e71 : S1.1 71 (nI j).toNatClampNeg = M 71 j := by rw [hcj]; exact congrFun (hE 71 (by decide)) _
      have hk1 : k - 1 < k := by omega
      have hk2 : k - 1 + (j + 1) = nj := by omega
      have hj12 : j < 12 := by omega
      refine And.intro hin ?_
      rw [e71]
      refine And.intro (fun q2 => ?_) (fun q2 => ?_)
      · exact Exists.intro (k - 1) (And.intro hk1 ⟨nj, j + 1, _, _, hnj, hn12, nI_1 j, hjl, hk2, rfl, rfl, rfl, Or.inr ⟨rfl, rfl, by rw [g_sl, if_neg q2]⟩⟩)
      · refine Exists.intro M (And.intro (And.intro rfl (And.intro hE ⟨j, hj12, rfl⟩)) ?_)
        rintro r S' ⟨rfl, rfl⟩
        rw [hcj]
        exact Exists.intro (k - 1) (And.intro hk1 ⟨nj, j + 1, _, _, hnj, hn12, nI_1 j, hjl, hk2, rfl, rfl, rfl, Or.inr ⟨rfl, rfl, by rw [g_sl, if_pos q2]⟩⟩)
set_option maxRecDepth 100000 in
set_option maxHeartbeats 4000000 in
theorem vX5_count (M : ip_M) (a : Nat) (w : Int32) (S : ip_S) (hS : ip_Sta S) (hp : a = 50 ∧ ip_eM M S ∧ ∃ nf nj np, ip_vv M nf nj np) : ip_run (pX5_count (postX5_count M [.inr (.inl (some a)), .inl w] S)) (fun pc => Nat.beq pc 100 || Nat.beq pc 127) (fun pc loc st S2 => ∃ k, iX5_count M a w S k pc loc st S2) 60 0 [some (.inr (.inl (some a))), some (.inl w), none, none] [] S := by
  obtain ⟨rfl, hE, nf, nj, np, hv⟩ := hp
  refine And.intro (fun c0 => ?_) (fun c0 => ?_)
  · refine And.intro ?_ rfl
    unfold g_count
    rw [if_pos c0, hE 50 (by decide)]
  refine And.intro (fun c1 => ?_) (fun c1 => ?_)
  · refine And.intro ?_ rfl
    unfold g_count
    rw [if_neg c0, if_pos c1, hE 50 (by decide)]
  refine And.intro (fun c2 => ?_) (fun c2 => ?_)
  · refine And.intro ?_ rfl
    unfold g_count
    rw [if_neg c0, if_neg c1, if_pos c2, hE 50 (by decide)]
  refine And.intro (fun c3 => ?_) (fun c3 => ?_)
  · refine And.intro ?_ rfl
    unfold g_count
    rw [if_neg c0, if_neg c1, if_neg c2, if_pos c3, hE 50 (by decide)]
  refine And.intro (fun c4 => ?_) (fun c4 => ?_)
  · refine Exists.intro M (And.intro (And.intro rfl (And.intro hE ⟨nf, nj, np, hv⟩)) ?_)
    rintro r S' ⟨rfl, rfl⟩
    refine And.intro ?_ rfl
    unfold g_count
    rw [if_neg c0, if_neg c1, if_neg c2, if_neg c3, if_pos c4]
  refine And.intro (fun c5 => ?_) (fun c5 => ?_)
  · refine Exists.intro M (And.intro (And.intro rfl (And.intro hE ⟨nf, nj, np, hv⟩)) ?_)
    rintro r S' ⟨rfl, rfl⟩
    refine And.intro ?_ rfl
    unfold g_count
    rw [if_neg c0, if_neg c1, if_neg c2, if_neg c3, if_neg c4, if_pos c5]
  refine And.intro (fun c6 => ?_) (fun c6 => ?_)
  · refine And.intro ?_ rfl
    unfold g_count
    rw [if_neg c0, if_neg c1, if_neg c2, if_neg c3, if_neg c4, if_neg c5, if_pos c6, hE 50 (by decide)]
  refine And.intro (fun c7 => ?_) (fun c7 => ?_)
  · refine And.intro ?_ rfl
    unfold g_count
    rw [if_neg c0, if_neg c1, if_neg c2, if_neg c3, if_neg c4, if_neg c5, if_neg c6, if_pos c7, hE 50 (by decide)]
  refine And.intro (fun c8 => ?_) (fun c8 => ?_)
  · exact Exists.intro nj ⟨nj, 0, 0, 0, hv.1.2.2.1, hv.1.2.2.2.1, rfl, Nat.zero_le _, rfl, rfl, rfl, rfl, Or.inl ⟨rfl, c8, rfl⟩⟩
  refine And.intro (fun c9 => ?_) (fun c9 => ?_)
  · exact Exists.intro nj ⟨nj, 0, 0, 0, hv.1.2.2.1, hv.1.2.2.2.1, rfl, Nat.zero_le _, rfl, rfl, rfl, rfl, Or.inr ⟨rfl, c9, rfl⟩⟩
  refine And.intro ?_ rfl
  unfold g_count
  rw [if_neg c0, if_neg c1, if_neg c2, if_neg c3, if_neg c4, if_neg c5, if_neg c6, if_neg c7, if_neg c8, if_neg c9]
theorem ctX5_count (l : Launch) (M : ip_M) : ip_CT l yX5_count wsX5_count rmX5_count ip_Sta (preX5_count M) (postX5_count M) := by
  refine ip_of (cc := cX5_count) (maxL := 4) (ret := (some .int)) (by decide +kernel) rfl (fun _ => (0, 0)) rfl ?_ ?_
  · intro as S h
    obtain ⟨a, w, rfl, hq⟩ := ip_e_ri h
    exact ⟨Nat.le_of_ble_eq_true rfl, by simp⟩
  intro p e s m args below meth c D cA A ad0 as S h hI hx hb hml hown hts hr hlocks hname hA hNx
  obtain ⟨a, w, rfl, hq⟩ := ip_e_ri h
  have ht := tX5_count (D := D) (cA := cA) (A := A) (ad0 := ad0) (l := l) (e := e) (below := below) (S0 := S) (po := postX5_count M [.inr (.inl (some a)), .inl w] S) hx hb hml hown hts hr hlocks hname hA hNx
  refine ip_run_ok ht (fun pc loc st S2 hh => ?_) 60 0 _ _ S (vX5_count M a w S hI hq)
  obtain ⟨k, hk⟩ := hh
  exact ip_loop ht (iX5_count M a w S) (lpX5_count M a w S hI hq) k pc loc st S2 hk

def preX5_about (M : ip_M) : List ip_V → ip_S → Prop := ip_h_rii (fun _ => False) (fun a jj w S => a = 50 ∧ ip_eM M S ∧ ∃ nf nj np, ip_vv M nf nj np)
def postX5_about (M : ip_M) : List ip_V → ip_S → List ip_V → ip_S → Prop := ip_h_rii (fun _ _ _ => True) (fun a jj w S r S' => r = [.inl (g_about M jj w)] ∧ S' = S)
theorem shX5_about (M : ip_M) : ∀ as S, ip_Sta S → preX5_about M as S → ∃ (b : Nat) (as' : List ip_V), as = .inr (.inl (some b)) :: as' ∧ as'.length = 2 ∧ (S.2.2.2 b).1 = 5 := by
  intro as S hI h
  obtain ⟨a, jj, w, rfl, hq⟩ := ip_e_rii h
  exact ⟨_, _, rfl, rfl, by rw [hq.1, hI.1 50 (by decide)]; rfl⟩
def rmX5_about : Room := { frames := 2, cells := 0, slots := 0, locals := 80 }
def pX5_about (po : List ip_V → ip_S → Prop) : List (Nat × ip_T) := [(0, ip_t_il 1 1), (1, ip_t_ci 0 2), (2, ip_t_ar 0 3), (3, ip_t_gI0 50 15 6), (6, ip_t_ci 1 7), (7, ip_t_isub 8), (8, ip_t_call 3 preX5_in postX5_in 11), (11, ip_t_ifne 17 14), (14, ip_t_ci (-100) 16), (16, ip_t_iret po), (17, ip_t_ci (-900) 20), (20, ip_t_is 3 21), (21, ip_t_il 2 22), (22, ip_t_sw [(0, 64), (1, 71), (2, 111), (3, 118), (4, 125), (5, 132), (6, 139)] 161), (64, ip_t_ar 0 65), (65, ip_t_gR0 50 71 68), (68, ip_t_il 1 69), (69, ip_t_ld 6 70), (70, ip_t_iret po), (71, ip_t_ci 0 72), (72, ip_t_is 4 74), (74, ip_t_il 4 76), (76, ip_t_ar 0 77), (77, ip_t_gI0 50 10 80), (80, ip_t_icge 109 83), (83, ip_t_ar 0 84), (84, ip_t_gR0 50 64 87), (87, ip_t_il 4 89), (89, ip_t_ld 6 90), (90, ip_t_il 1 91), (91, ip_t_ci 1 92), (92, ip_t_iadd 93), (93, ip_t_icne 101 96), (96, ip_t_il 4 98), (98, ip_t_go 102), (101, ip_t_il 3 102), (102, ip_t_is 3 103), (103, ip_t_inc 4 1 106), (106, ip_t_go 74), (109, ip_t_il 3 110), (110, ip_t_iret po), (111, ip_t_ar 0 112), (112, ip_t_gR0 50 72 115), (115, ip_t_il 1 116), (116, ip_t_ld 6 117), (117, ip_t_iret po), (118, ip_t_ar 0 119), (119, ip_t_gR0 50 68 122), (122, ip_t_il 1 123), (123, ip_t_ld 6 124), (124, ip_t_iret po), (125, ip_t_ar 0 126), (126, ip_t_gR0 50 74 129), (129, ip_t_il 1 130), (130, ip_t_ld 6 131), (131, ip_t_iret po), (132, ip_t_ar 0 133), (133, ip_t_gR0 50 75 136), (136, ip_t_il 1 137), (137, ip_t_ld 6 138), (138, ip_t_iret po), (139, ip_t_ar 0 140), (140, ip_t_gR0 50 71 143), (143, ip_t_il 1 144), (144, ip_t_ld 6 145), (145, ip_t_ci 2 146), (146, ip_t_icne 157 149), (149, ip_t_ar 0 150), (150, ip_t_il 1 151), (151, ip_t_callG 2 preX5_lateOf postX5_lateOf 154), (154, ip_t_go 160), (157, ip_t_ci (-900) 160), (160, ip_t_iret po), (161, ip_t_ci (-100) 163), (163, ip_t_iret po)]
set_option maxRecDepth 100000 in
set_option maxHeartbeats 4000000 in
theorem tX5_about {p : Program} {l : Launch} {e : Env} {s : State} {m : MethodId} {args : Array Value} {below : List Frame} {meth : Method} {c : Code} {D : va_G} {cA : Nat → ClassId} {A : Nat → Prop} {ad0 : Nat → Nat} {S0 : ip_S} {po : List ip_V → ip_S → Prop} (hx : p.tables.exec = Jvm.exec) (hb : c.code = cX5_about) (hml : c.maxLocals = 5) (hown : s.vm.findClass RX5 = some m.cls) (hts : ∀ w ∈ wsX5_about, w.before args s = true) (hr : meth.sig.returnType = (some .int)) (hlocks : meth.locks = false) (hname : meth.name = yX5_about.name) (hA : ∀ q, s.heap.size ≤ q → A q) (hNx : ip_Nx s) : ∀ q ∈ pX5_about po, ip_snd p l e rmX5_about s m args below meth c D cA A (MQ below (ip_Q ip_Sta D cA ad0 S0 A po) args s 0 0 A) 5 (fun _ => (0, 0)) ip_Sta ad0 S0 q.1 q.2 := by
  have hIs : ∀ S, ip_Sta S → ip_Sta S := fun _ h => h
  have hIn := ip_In_Sta
  have hS9 : CallFix p m c cX5_about 5 s args wsX5_about RX5 := ⟨hx, hb, hml, hown, hts⟩
  have hin5 : ∀ w ∈ u_ws RX5 TX5 32, w ∈ wsX5_about := by decide +kernel
  refine List.forall_mem_cons.mpr ⟨ip_s_iload_n hx hb dX5_about_0 rfl rfl, ?_⟩
  refine List.forall_mem_cons.mpr ⟨ip_s_iconst hx hb dX5_about_1 rfl rfl, ?_⟩
  refine List.forall_mem_cons.mpr ⟨ip_s_aload_n hx hb dX5_about_2 rfl rfl, ?_⟩
  refine List.forall_mem_cons.mpr ⟨ip_s_gI0 hx hb hts hin5 hown rfl (by decide) 15 (by decide) (hts (.fieldLink RX5 120 "IcePadsModel" "jets" "I") (by decide +kernel)) (fun _ h9 => h9) hIs 50 rfl rfl dX5_about_3 rfl, ?_⟩
  refine List.forall_mem_cons.mpr ⟨ip_s_iconst hx hb dX5_about_6 rfl rfl, ?_⟩
  refine List.forall_mem_cons.mpr ⟨ip_s_isub hx hb dX5_about_7 rfl, ?_⟩
  refine List.forall_mem_cons.mpr ⟨ip_s_callS hNx hS9 (ctX5_in l) (va_cwS 3 hts gX5_about_X5_in rfl rfl rfl (by decide +kernel) ⟨Nat.le_of_ble_eq_true rfl, Nat.le_of_ble_eq_true rfl⟩) (fun as S hI h => shsX5_in as S hI h) hA dX5_about_8 ⟨Nat.le_of_ble_eq_true rfl, Nat.le_of_ble_eq_true rfl⟩ rfl, ?_⟩
  refine List.forall_mem_cons.mpr ⟨ip_s_ifne (t := 17) hx hb dX5_about_11 (by decide) rfl rfl, ?_⟩
  refine List.forall_mem_cons.mpr ⟨ip_s_bipush hx hb dX5_about_14 rfl rfl, ?_⟩
  refine List.forall_mem_cons.mpr ⟨ip_s_iret hx hb hr hlocks (Nat.le_of_ble_eq_true rfl) (Nat.le_of_ble_eq_true rfl) dX5_about_16, ?_⟩
  refine List.forall_mem_cons.mpr ⟨ip_s_sipush hx hb dX5_about_17 rfl rfl, ?_⟩
  refine List.forall_mem_cons.mpr ⟨ip_s_istore_n hx hb dX5_about_20 rfl (by decide) rfl, ?_⟩
  refine List.forall_mem_cons.mpr ⟨ip_s_iload_n hx hb dX5_about_21 rfl rfl, ?_⟩
  refine List.forall_mem_cons.mpr ⟨ip_s_sw (ts := [(0, 64), (1, 71), (2, 111), (3, 118), (4, 125), (5, 132), (6, 139)]) (d := 161) hx hb 7 dX5_about_22 (by decide) (by decide +kernel) (by decide +kernel) (by decide) rfl (fun _ _ => rfl), ?_⟩
  refine List.forall_mem_cons.mpr ⟨ip_s_aload_n hx hb dX5_about_64 rfl rfl, ?_⟩
  refine List.forall_mem_cons.mpr ⟨ip_s_gR0 hx hb hts hin5 hown rfl (by decide) 21 (by decide) (hts (.fieldLink RX5 63 "IcePadsModel" "state" "[I") (by decide +kernel)) (fun _ h9 => h9) hIs 50 71 rfl (by decide) rfl dX5_about_65 rfl, ?_⟩
  refine List.forall_mem_cons.mpr ⟨ip_s_iload_n hx hb dX5_about_68 rfl rfl, ?_⟩
  refine List.forall_mem_cons.mpr ⟨ip_s_ldi hx hb hIs dX5_about_69 rfl, ?_⟩
  refine List.forall_mem_cons.mpr ⟨ip_s_iret hx hb hr hlocks (Nat.le_of_ble_eq_true rfl) (Nat.le_of_ble_eq_true rfl) dX5_about_70, ?_⟩
  refine List.forall_mem_cons.mpr ⟨ip_s_iconst hx hb dX5_about_71 rfl rfl, ?_⟩
  refine List.forall_mem_cons.mpr ⟨ip_s_istore hx hb dX5_about_72 (by decide) rfl, ?_⟩
  refine List.forall_mem_cons.mpr ⟨ip_s_iload hx hb dX5_about_74 rfl, ?_⟩
  refine List.forall_mem_cons.mpr ⟨ip_s_aload_n hx hb dX5_about_76 rfl rfl, ?_⟩
  refine List.forall_mem_cons.mpr ⟨ip_s_gI0 hx hb hts hin5 hown rfl (by decide) 10 (by decide) (hts (.fieldLink RX5 35 "IcePadsModel" "pads" "I") (by decide +kernel)) (fun _ h9 => h9) hIs 50 rfl rfl dX5_about_77 rfl, ?_⟩
  refine List.forall_mem_cons.mpr ⟨ip_s_icge (t := 109) hx hb dX5_about_80 (by decide) rfl rfl, ?_⟩
  refine List.forall_mem_cons.mpr ⟨ip_s_aload_n hx hb dX5_about_83 rfl rfl, ?_⟩
  refine List.forall_mem_cons.mpr ⟨ip_s_gR0 hx hb hts hin5 hown rfl (by decide) 14 (by decide) (hts (.fieldLink RX5 45 "IcePadsModel" "onPad" "[I") (by decide +kernel)) (fun _ h9 => h9) hIs 50 64 rfl (by decide) rfl dX5_about_84 rfl, ?_⟩
  refine List.forall_mem_cons.mpr ⟨ip_s_iload hx hb dX5_about_87 rfl, ?_⟩
  refine List.forall_mem_cons.mpr ⟨ip_s_ldi hx hb hIs dX5_about_89 rfl, ?_⟩
  refine List.forall_mem_cons.mpr ⟨ip_s_iload_n hx hb dX5_about_90 rfl rfl, ?_⟩
  refine List.forall_mem_cons.mpr ⟨ip_s_iconst hx hb dX5_about_91 rfl rfl, ?_⟩
  refine List.forall_mem_cons.mpr ⟨ip_s_iadd hx hb dX5_about_92 rfl, ?_⟩
  refine List.forall_mem_cons.mpr ⟨ip_s_icne (t := 101) hx hb dX5_about_93 (by decide) rfl rfl, ?_⟩
  refine List.forall_mem_cons.mpr ⟨ip_s_iload hx hb dX5_about_96 rfl, ?_⟩
  refine List.forall_mem_cons.mpr ⟨ip_s_go (t := 102) hx hb dX5_about_98 (by decide) (Nat.le_of_ble_eq_true rfl) (Nat.le_of_ble_eq_true rfl), ?_⟩
  refine List.forall_mem_cons.mpr ⟨ip_s_iload_n hx hb dX5_about_101 rfl rfl, ?_⟩
  refine List.forall_mem_cons.mpr ⟨ip_s_istore_n hx hb dX5_about_102 rfl (by decide) rfl, ?_⟩
  refine List.forall_mem_cons.mpr ⟨ip_s_iinc hx hb dX5_about_103 rfl (by decide) rfl, ?_⟩
  refine List.forall_mem_cons.mpr ⟨ip_s_go (t := 74) hx hb dX5_about_106 (by decide) (Nat.le_of_ble_eq_true rfl) (Nat.le_of_ble_eq_true rfl), ?_⟩
  refine List.forall_mem_cons.mpr ⟨ip_s_iload_n hx hb dX5_about_109 rfl rfl, ?_⟩
  refine List.forall_mem_cons.mpr ⟨ip_s_iret hx hb hr hlocks (Nat.le_of_ble_eq_true rfl) (Nat.le_of_ble_eq_true rfl) dX5_about_110, ?_⟩
  refine List.forall_mem_cons.mpr ⟨ip_s_aload_n hx hb dX5_about_111 rfl rfl, ?_⟩
  refine List.forall_mem_cons.mpr ⟨ip_s_gR0 hx hb hts hin5 hown rfl (by decide) 22 (by decide) (hts (.fieldLink RX5 66 "IcePadsModel" "start" "[I") (by decide +kernel)) (fun _ h9 => h9) hIs 50 72 rfl (by decide) rfl dX5_about_112 rfl, ?_⟩
  refine List.forall_mem_cons.mpr ⟨ip_s_iload_n hx hb dX5_about_115 rfl rfl, ?_⟩
  refine List.forall_mem_cons.mpr ⟨ip_s_ldi hx hb hIs dX5_about_116 rfl, ?_⟩
  refine List.forall_mem_cons.mpr ⟨ip_s_iret hx hb hr hlocks (Nat.le_of_ble_eq_true rfl) (Nat.le_of_ble_eq_true rfl) dX5_about_117, ?_⟩
  refine List.forall_mem_cons.mpr ⟨ip_s_aload_n hx hb dX5_about_118 rfl rfl, ?_⟩
  refine List.forall_mem_cons.mpr ⟨ip_s_gR0 hx hb hts hin5 hown rfl (by decide) 18 (by decide) (hts (.fieldLink RX5 54 "IcePadsModel" "ready" "[I") (by decide +kernel)) (fun _ h9 => h9) hIs 50 68 rfl (by decide) rfl dX5_about_119 rfl, ?_⟩
  refine List.forall_mem_cons.mpr ⟨ip_s_iload_n hx hb dX5_about_122 rfl rfl, ?_⟩
  refine List.forall_mem_cons.mpr ⟨ip_s_ldi hx hb hIs dX5_about_123 rfl, ?_⟩
  refine List.forall_mem_cons.mpr ⟨ip_s_iret hx hb hr hlocks (Nat.le_of_ble_eq_true rfl) (Nat.le_of_ble_eq_true rfl) dX5_about_124, ?_⟩
  refine List.forall_mem_cons.mpr ⟨ip_s_aload_n hx hb dX5_about_125 rfl rfl, ?_⟩
  refine List.forall_mem_cons.mpr ⟨ip_s_gR0 hx hb hts hin5 hown rfl (by decide) 24 (by decide) (hts (.fieldLink RX5 72 "IcePadsModel" "backs" "[I") (by decide +kernel)) (fun _ h9 => h9) hIs 50 74 rfl (by decide) rfl dX5_about_126 rfl, ?_⟩
  refine List.forall_mem_cons.mpr ⟨ip_s_iload_n hx hb dX5_about_129 rfl rfl, ?_⟩
  refine List.forall_mem_cons.mpr ⟨ip_s_ldi hx hb hIs dX5_about_130 rfl, ?_⟩
  refine List.forall_mem_cons.mpr ⟨ip_s_iret hx hb hr hlocks (Nat.le_of_ble_eq_true rfl) (Nat.le_of_ble_eq_true rfl) dX5_about_131, ?_⟩
  refine List.forall_mem_cons.mpr ⟨ip_s_aload_n hx hb dX5_about_132 rfl rfl, ?_⟩
  refine List.forall_mem_cons.mpr ⟨ip_s_gR0 hx hb hts hin5 hown rfl (by decide) 25 (by decide) (hts (.fieldLink RX5 75 "IcePadsModel" "flew" "[I") (by decide +kernel)) (fun _ h9 => h9) hIs 50 75 rfl (by decide) rfl dX5_about_133 rfl, ?_⟩
  refine List.forall_mem_cons.mpr ⟨ip_s_iload_n hx hb dX5_about_136 rfl rfl, ?_⟩
  refine List.forall_mem_cons.mpr ⟨ip_s_ldi hx hb hIs dX5_about_137 rfl, ?_⟩
  refine List.forall_mem_cons.mpr ⟨ip_s_iret hx hb hr hlocks (Nat.le_of_ble_eq_true rfl) (Nat.le_of_ble_eq_true rfl) dX5_about_138, ?_⟩
  refine List.forall_mem_cons.mpr ⟨ip_s_aload_n hx hb dX5_about_139 rfl rfl, ?_⟩
  refine List.forall_mem_cons.mpr ⟨ip_s_gR0 hx hb hts hin5 hown rfl (by decide) 21 (by decide) (hts (.fieldLink RX5 63 "IcePadsModel" "state" "[I") (by decide +kernel)) (fun _ h9 => h9) hIs 50 71 rfl (by decide) rfl dX5_about_140 rfl, ?_⟩
  refine List.forall_mem_cons.mpr ⟨ip_s_iload_n hx hb dX5_about_143 rfl rfl, ?_⟩
  refine List.forall_mem_cons.mpr ⟨ip_s_ldi hx hb hIs dX5_about_144 rfl, ?_⟩
  refine List.forall_mem_cons.mpr ⟨ip_s_iconst hx hb dX5_about_145 rfl rfl, ?_⟩
  refine List.forall_mem_cons.mpr ⟨ip_s_icne (t := 157) hx hb dX5_about_146 (by decide) rfl rfl, ?_⟩
  refine List.forall_mem_cons.mpr ⟨ip_s_aload_n hx hb dX5_about_149 rfl rfl, ?_⟩
  refine List.forall_mem_cons.mpr ⟨ip_s_iload_n hx hb dX5_about_150 rfl rfl, ?_⟩
  refine List.forall_mem_cons.mpr ⟨ip_s_G (fun M => ip_s_callV hNx hS9 (ctX5_lateOf l M) (cwV 1 hts gX5_about_X5_lateOf rfl rfl rfl (by decide +kernel) ⟨Nat.le_of_ble_eq_true rfl, Nat.le_of_ble_eq_true rfl⟩) (ci := 5) rfl rfl (by decide) (fun as S hI h => shX5_lateOf M as S hI h) hA dX5_about_151 ⟨Nat.le_of_ble_eq_true rfl, Nat.le_of_ble_eq_true rfl⟩ rfl), ?_⟩
  refine List.forall_mem_cons.mpr ⟨ip_s_go (t := 160) hx hb dX5_about_154 (by decide) (Nat.le_of_ble_eq_true rfl) (Nat.le_of_ble_eq_true rfl), ?_⟩
  refine List.forall_mem_cons.mpr ⟨ip_s_sipush hx hb dX5_about_157 rfl rfl, ?_⟩
  refine List.forall_mem_cons.mpr ⟨ip_s_iret hx hb hr hlocks (Nat.le_of_ble_eq_true rfl) (Nat.le_of_ble_eq_true rfl) dX5_about_160, ?_⟩
  refine List.forall_mem_cons.mpr ⟨ip_s_bipush hx hb dX5_about_161 rfl rfl, ?_⟩
  refine List.forall_mem_cons.mpr ⟨ip_s_iret hx hb hr hlocks (Nat.le_of_ble_eq_true rfl) (Nat.le_of_ble_eq_true rfl) dX5_about_163, ?_⟩
  exact fun _ h => absurd h List.not_mem_nil
abbrev iX5_about (M : ip_M) (a : Nat) (jj : Int32) (w : Int32) (S : ip_S) : Nat → ip_N := fun k pc loc st S1 => ∃ (np p : Nat) (x3 x4 : Int32), M 50 10 = nI np ∧ np ≤ 3 ∧ x4 = nI p ∧ p ≤ np ∧ k + p = np ∧ st = [] ∧ S1 = S ∧ loc = [some (.inr (.inl (some a))), some (.inl jj), some (.inl w), some (.inl x3), some (.inl x4)] ∧ pc = 74 ∧ w = 1 ∧ (0 ≤ jj ∧ jj ≤ M 50 15 - 1) ∧ x3 = g_pad M jj p
set_option maxRecDepth 100000 in
set_option maxHeartbeats 4000000 in
theorem lpX5_about (M : ip_M) (a : Nat) (jj : Int32) (w : Int32) (S : ip_S) (hS : ip_Sta S) (hp : a = 50 ∧ ip_eM M S ∧ ∃ nf nj np, ip_vv M nf nj np) : ∀ k pc loc st S1, iX5_about M a jj w S k pc loc st S1 → ip_run (pX5_about (postX5_about M [.inr (.inl (some a)), .inl jj, .inl w] S)) (fun pc => Nat.beq pc 74) (fun pc loc st S2 => ∃ k', k' < k ∧ iX5_about M a jj w S k' pc loc st S2) 60 pc loc st S1 := by
  obtain ⟨rfl, hE, -⟩ := hp
  rintro k pc loc st S1 ⟨np, p, x3, x4, hnp, h3, rfl, hpn, hk, rfl, rfl, rfl, rfl, rfl, hq, rfl⟩
  have e10 : S1.1 50 10 = nI np := by rw [← hnp]; exact congrFun (hE 50 (by decide)) _
  refine And.intro (fun q => ?_) (fun q => ?_)
  · rw [e10, nI_leI (by omega) (by omega)] at q
    have hpp : p = np := Nat.le_antisymm hpn q
    subst hpp
    refine And.intro ?_ rfl
    have hcn : (M 50 10).toNatClampNeg = p := by rw [hnp]; exact nI_clamp (by omega)
    unfold g_about
    rw [if_pos hq, if_neg (by decide), if_pos rfl, hcn]
  · rw [e10, nI_leI (by omega) (by omega)] at q
    have hpl : p < np := Nat.lt_of_not_le q
    obtain ⟨hin, hcp⟩ := ip_inN (N := 3) hpl h3 (by decide)
    have e64 : S1.1 64 (nI p).toNatClampNeg = M 64 p := by rw [hcp]; exact congrFun (hE 64 (by decide)) _
    have hk1 : k - 1 < k := by omega
    have hk2 : k - 1 + (p + 1) = np := by omega
    refine And.intro hin ?_
    rw [e64]
    refine And.intro (fun q2 => ?_) (fun q2 => ?_)
    · exact Exists.intro (k - 1) (And.intro hk1 ⟨np, p + 1, _, _, hnp, h3, nI_1 p, hpl, hk2, rfl, rfl, rfl, rfl, rfl, hq, by rw [g_pad, if_neg q2]⟩)
    · exact Exists.intro (k - 1) (And.intro hk1 ⟨np, p + 1, _, _, hnp, h3, nI_1 p, hpl, hk2, rfl, rfl, rfl, rfl, rfl, hq, by rw [g_pad, if_pos q2]⟩)
set_option maxRecDepth 100000 in
set_option maxHeartbeats 4000000 in
theorem vX5_about (M : ip_M) (a : Nat) (jj : Int32) (w : Int32) (S : ip_S) (hS : ip_Sta S) (hp : a = 50 ∧ ip_eM M S ∧ ∃ nf nj np, ip_vv M nf nj np) : ip_run (pX5_about (postX5_about M [.inr (.inl (some a)), .inl jj, .inl w] S)) (fun pc => Nat.beq pc 74) (fun pc loc st S2 => ∃ k, iX5_about M a jj w S k pc loc st S2) 60 0 [some (.inr (.inl (some a))), some (.inl jj), some (.inl w), none, none] [] S := by
  obtain ⟨rfl, hE, nf, nj, np, hv⟩ := hp
  have e15 : S.1 50 15 = M 50 15 := congrFun (hE 50 (by decide)) _
  refine And.intro trivial ?_
  rintro r S' ⟨rfl, rfl⟩
  rw [e15]
  refine And.intro (fun q => ?_) (fun q => ?_)
  rotate_left
  · refine And.intro ?_ rfl
    unfold g_about
    rw [if_neg (ip_if0 q)]
  have q := ip_if1 q
  obtain ⟨j, hj, hjj⟩ := (ip_idx hv.1.2.2.1 (by have := hv.1.2.2.2.1; omega) jj).mp q
  have hin : vp_in jj 12 := by rw [hjj]; exact (ip_inN (N := 12) hj hv.1.2.2.2.1 (by decide)).1
  refine And.intro (fun c0 => ?_) (fun c0 => ?_)
  · refine And.intro hin ?_
    refine And.intro ?_ rfl
    unfold g_about
    rw [if_pos q, if_pos c0, hE 71 (by decide)]
  refine And.intro (fun c1 => ?_) (fun c1 => ?_)
  · exact Exists.intro np ⟨np, 0, -900, 0, hv.1.2.2.2.2.1, hv.1.2.2.2.2.2.2, rfl, Nat.zero_le _, rfl, rfl, rfl, rfl, rfl, c1, q, rfl⟩
  refine And.intro (fun c2 => ?_) (fun c2 => ?_)
  · refine And.intro hin ?_
    refine And.intro ?_ rfl
    unfold g_about
    rw [if_pos q, if_neg c0, if_neg c1, if_pos c2, hE 72 (by decide)]
  refine And.intro (fun c3 => ?_) (fun c3 => ?_)
  · refine And.intro hin ?_
    refine And.intro ?_ rfl
    unfold g_about
    rw [if_pos q, if_neg c0, if_neg c1, if_neg c2, if_pos c3, hE 68 (by decide)]
  refine And.intro (fun c4 => ?_) (fun c4 => ?_)
  · refine And.intro hin ?_
    refine And.intro ?_ rfl
    unfold g_about
    rw [if_pos q, if_neg c0, if_neg c1, if_neg c2, if_neg c3, if_pos c4, hE 74 (by decide)]
  refine And.intro (fun c5 => ?_) (fun c5 => ?_)
  · refine And.intro hin ?_
    refine And.intro ?_ rfl
    unfold g_about
    rw [if_pos q, if_neg c0, if_neg c1, if_neg c2, if_neg c3, if_neg c4, if_pos c5, hE 75 (by decide)]
  refine And.intro (fun c6 => ?_) (fun c6 => ?_)
  · refine And.intro hin ?_
    rw [hE 71 (by decide)]
    refine And.intro (fun q2 => ?_) (fun q2 => ?_)
    · refine And.intro ?_ rfl
      unfold g_about
      rw [if_pos q, if_neg c0, if_neg c1, if_neg c2, if_neg c3, if_neg c4, if_neg c5, if_pos c6, if_neg q2]
    · refine Exists.intro M (And.intro (And.intro rfl (And.intro hE ⟨j, by have := hv.1.2.2.2.1; omega, hjj⟩)) ?_)
      rintro r S' ⟨rfl, rfl⟩
      refine And.intro ?_ rfl
      unfold g_about
      rw [if_pos q, if_neg c0, if_neg c1, if_neg c2, if_neg c3, if_neg c4, if_neg c5, if_pos c6, if_pos q2]
  refine And.intro ?_ rfl
  unfold g_about
  rw [if_pos q, if_neg c0, if_neg c1, if_neg c2, if_neg c3, if_neg c4, if_neg c5, if_neg c6]
theorem ctX5_about (l : Launch) (M : ip_M) : ip_CT l yX5_about wsX5_about rmX5_about ip_Sta (preX5_about M) (postX5_about M) := by
  refine ip_of (cc := cX5_about) (maxL := 5) (ret := (some .int)) (by decide +kernel) rfl (fun _ => (0, 0)) rfl ?_ ?_
  · intro as S h
    obtain ⟨a, jj, w, rfl, hq⟩ := ip_e_rii h
    exact ⟨Nat.le_of_ble_eq_true rfl, by simp⟩
  intro p e s m args below meth c D cA A ad0 as S h hI hx hb hml hown hts hr hlocks hname hA hNx
  obtain ⟨a, jj, w, rfl, hq⟩ := ip_e_rii h
  have ht := tX5_about (D := D) (cA := cA) (A := A) (ad0 := ad0) (l := l) (e := e) (below := below) (S0 := S) (po := postX5_about M [.inr (.inl (some a)), .inl jj, .inl w] S) hx hb hml hown hts hr hlocks hname hA hNx
  refine ip_run_ok ht (fun pc loc st S2 hh => ?_) 60 0 _ _ S (vX5_about M a jj w S hI hq)
  obtain ⟨k, hk⟩ := hh
  exact ip_loop ht (iX5_about M a jj w S) (lpX5_about M a jj w S hI hq) k pc loc st S2 hk
