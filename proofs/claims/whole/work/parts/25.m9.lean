theorem ip_now {M : ip_M} (h : ip_vs M) : 0 ≤ M 50 0 ∧ M 50 0 ≤ 299 := by
  have h0 : (0 : Int32).toInt = 0 := rfl
  have h1 : (299 : Int32).toInt = 299 := rfl
  rw [ip_leI, ip_leI, h0, h1]
  exact h.1

def preX5_begins (M : ip_M) : List ip_V → ip_S → Prop := ip_h_ri (fun _ => False) (fun a pd S => a = 50 ∧ ip_eM M S ∧ (∃ nf nj np, ip_vv M nf nj np) ∧ ∃ p, p < 3 ∧ pd = nI p)
def postX5_begins (M : ip_M) : List ip_V → ip_S → List ip_V → ip_S → Prop := ip_h_ri (fun _ _ _ => True) (fun a pd S r S' => r = [] ∧ ip_EM (g_bg1 M pd.toNatClampNeg) S S')
theorem shX5_begins (M : ip_M) : ∀ as S, ip_Sta S → preX5_begins M as S → ∃ (b : Nat) (as' : List ip_V), as = .inr (.inl (some b)) :: as' ∧ as'.length = 1 ∧ (S.2.2.2 b).1 = 5 := by
  intro as S hI h
  obtain ⟨a, pd, rfl, hq⟩ := ip_e_ri h
  exact ⟨_, _, rfl, rfl, by rw [hq.1, hI.1 50 (by decide)]; rfl⟩
def rmX5_begins : Room := { frames := 3, cells := 0, slots := 0, locals := 120 }
def pX5_begins (po : List ip_V → ip_S → Prop) : List (Nat × ip_T) := [(0, ip_t_ar 0 1), (1, ip_t_gR0 50 64 4), (4, ip_t_il 1 5), (5, ip_t_ld 6 6), (6, ip_t_ifle 10 9), (9, ip_t_vret po), (10, ip_t_ci (-1) 11), (11, ip_t_is 2 12), (12, ip_t_ci 0 13), (13, ip_t_is 3 14), (14, ip_t_il 3 15), (15, ip_t_ar 0 16), (16, ip_t_gI0 50 15 19), (19, ip_t_icge 61 22), (22, ip_t_ar 0 23), (23, ip_t_il 3 24), (24, ip_t_callG 2 preX5_mayBegin postX5_mayBegin 27), (27, ip_t_ifeq 53 30), (30, ip_t_il 2 31), (31, ip_t_iflt 49 34), (34, ip_t_ar 0 35), (35, ip_t_gR0 50 68 38), (38, ip_t_il 3 39), (39, ip_t_ld 6 40), (40, ip_t_ar 0 41), (41, ip_t_gR0 50 68 44), (44, ip_t_il 2 45), (45, ip_t_ld 6 46), (46, ip_t_icge 53 49), (49, ip_t_il 3 50), (50, ip_t_go 54), (53, ip_t_il 2 54), (54, ip_t_is 2 55), (55, ip_t_inc 3 1 58), (58, ip_t_go 14), (61, ip_t_il 2 62), (62, ip_t_iflt 162 65), (65, ip_t_ar 0 66), (66, ip_t_gR0 50 64 69), (69, ip_t_il 1 70), (70, ip_t_il 2 71), (71, ip_t_ci 1 72), (72, ip_t_iadd 73), (73, ip_t_st 74), (74, ip_t_ar 0 75), (75, ip_t_gR0 50 71 78), (78, ip_t_il 2 79), (79, ip_t_ci 1 80), (80, ip_t_st 81), (81, ip_t_ar 0 82), (82, ip_t_gR0 50 72 85), (85, ip_t_il 2 86), (86, ip_t_ar 0 87), (87, ip_t_gI0 50 0 90), (90, ip_t_st 91), (91, ip_t_ar 0 92), (92, ip_t_gR0 50 73 95), (95, ip_t_il 2 96), (96, ip_t_ar 0 97), (97, ip_t_ar 0 98), (98, ip_t_gR0 50 70 101), (101, ip_t_il 2 102), (102, ip_t_ld 6 103), (103, ip_t_ar 0 104), (104, ip_t_gI0 50 0 107), (107, ip_t_callG 3 preX5_holdOf postX5_holdOf 110), (110, ip_t_st 111), (111, ip_t_ar 0 112), (112, ip_t_gR0 50 59 115), (115, ip_t_ar 0 116), (116, ip_t_gR0 50 70 119), (119, ip_t_il 2 120), (120, ip_t_ld 6 121), (121, ip_t_dup2 122), (122, ip_t_ld 6 123), (123, ip_t_ci 10 125), (125, ip_t_ar 0 126), (126, ip_t_gR0 50 66 129), (129, ip_t_il 2 130), (130, ip_t_ld 6 131), (131, ip_t_imul 132), (132, ip_t_isub 133), (133, ip_t_st 134), (134, ip_t_ar 0 135), (135, ip_t_dup 136), (136, ip_t_gI0 50 13 139), (139, ip_t_ci 8 141), (141, ip_t_ar 0 142), (142, ip_t_gR0 50 66 145), (145, ip_t_il 2 146), (146, ip_t_ld 6 147), (147, ip_t_imul 148), (148, ip_t_iadd 149), (149, ip_t_pI0 50 13 152), (152, ip_t_ar 0 153), (153, ip_t_dup 154), (154, ip_t_gI0 50 26 157), (157, ip_t_ci 1 158), (158, ip_t_iadd 159), (159, ip_t_pI0 50 26 162), (162, ip_t_vret po)]
set_option maxRecDepth 100000 in
set_option maxHeartbeats 4000000 in
theorem tX5_begins {p : Program} {l : Launch} {e : Env} {s : State} {m : MethodId} {args : Array Value} {below : List Frame} {meth : Method} {c : Code} {D : va_G} {cA : Nat → ClassId} {A : Nat → Prop} {ad0 : Nat → Nat} {S0 : ip_S} {po : List ip_V → ip_S → Prop} (hx : p.tables.exec = Jvm.exec) (hb : c.code = cX5_begins) (hml : c.maxLocals = 4) (hown : s.vm.findClass RX5 = some m.cls) (hts : ∀ w ∈ wsX5_begins, w.before args s = true) (hr : meth.sig.returnType = none) (hlocks : meth.locks = false) (hname : meth.name = yX5_begins.name) (hA : ∀ q, s.heap.size ≤ q → A q) (hNx : ip_Nx s) : ∀ q ∈ pX5_begins po, ip_snd p l e rmX5_begins s m args below meth c D cA A (MQ below (ip_Q ip_Sta D cA ad0 S0 A po) args s 0 0 A) 4 (fun _ => (0, 0)) ip_Sta ad0 S0 q.1 q.2 := by
  have hIs : ∀ S, ip_Sta S → ip_Sta S := fun _ h => h
  have hIn := ip_In_Sta
  have hS9 : CallFix p m c cX5_begins 4 s args wsX5_begins RX5 := ⟨hx, hb, hml, hown, hts⟩
  have hin5 : ∀ w ∈ u_ws RX5 TX5 32, w ∈ wsX5_begins := by decide +kernel
  refine List.forall_mem_cons.mpr ⟨ip_s_aload_n hx hb dX5_begins_0 rfl rfl, ?_⟩
  refine List.forall_mem_cons.mpr ⟨ip_s_gR0 hx hb hts hin5 hown rfl (by decide) 14 (by decide) (hts (.fieldLink RX5 45 "IcePadsModel" "onPad" "[I") (by decide +kernel)) (fun _ h9 => h9) hIs 50 64 rfl (by decide) rfl dX5_begins_1 rfl, ?_⟩
  refine List.forall_mem_cons.mpr ⟨ip_s_iload_n hx hb dX5_begins_4 rfl rfl, ?_⟩
  refine List.forall_mem_cons.mpr ⟨ip_s_ldi hx hb hIs dX5_begins_5 rfl, ?_⟩
  refine List.forall_mem_cons.mpr ⟨ip_s_ifle (t := 10) hx hb dX5_begins_6 (by decide) rfl rfl, ?_⟩
  refine List.forall_mem_cons.mpr ⟨ip_s_vret hx hb hr hlocks (Nat.le_of_ble_eq_true rfl) (Nat.le_of_ble_eq_true rfl) dX5_begins_9, ?_⟩
  refine List.forall_mem_cons.mpr ⟨ip_s_iconst hx hb dX5_begins_10 rfl rfl, ?_⟩
  refine List.forall_mem_cons.mpr ⟨ip_s_istore_n hx hb dX5_begins_11 rfl (by decide) rfl, ?_⟩
  refine List.forall_mem_cons.mpr ⟨ip_s_iconst hx hb dX5_begins_12 rfl rfl, ?_⟩
  refine List.forall_mem_cons.mpr ⟨ip_s_istore_n hx hb dX5_begins_13 rfl (by decide) rfl, ?_⟩
  refine List.forall_mem_cons.mpr ⟨ip_s_iload_n hx hb dX5_begins_14 rfl rfl, ?_⟩
  refine List.forall_mem_cons.mpr ⟨ip_s_aload_n hx hb dX5_begins_15 rfl rfl, ?_⟩
  refine List.forall_mem_cons.mpr ⟨ip_s_gI0 hx hb hts hin5 hown rfl (by decide) 15 (by decide) (hts (.fieldLink RX5 120 "IcePadsModel" "jets" "I") (by decide +kernel)) (fun _ h9 => h9) hIs 50 rfl rfl dX5_begins_16 rfl, ?_⟩
  refine List.forall_mem_cons.mpr ⟨ip_s_icge (t := 61) hx hb dX5_begins_19 (by decide) rfl rfl, ?_⟩
  refine List.forall_mem_cons.mpr ⟨ip_s_aload_n hx hb dX5_begins_22 rfl rfl, ?_⟩
  refine List.forall_mem_cons.mpr ⟨ip_s_iload_n hx hb dX5_begins_23 rfl rfl, ?_⟩
  refine List.forall_mem_cons.mpr ⟨ip_s_G (fun M => ip_s_callV hNx hS9 (ctX5_mayBegin l M) (cwV 1 hts gX5_begins_X5_mayBegin rfl rfl rfl (by decide +kernel) ⟨Nat.le_of_ble_eq_true rfl, Nat.le_of_ble_eq_true rfl⟩) (ci := 5) rfl rfl (by decide) (fun as S hI h => shX5_mayBegin M as S hI h) hA dX5_begins_24 ⟨Nat.le_of_ble_eq_true rfl, Nat.le_of_ble_eq_true rfl⟩ rfl), ?_⟩
  refine List.forall_mem_cons.mpr ⟨ip_s_ifeq (t := 53) hx hb dX5_begins_27 (by decide) rfl rfl, ?_⟩
  refine List.forall_mem_cons.mpr ⟨ip_s_iload_n hx hb dX5_begins_30 rfl rfl, ?_⟩
  refine List.forall_mem_cons.mpr ⟨ip_s_iflt (t := 49) hx hb dX5_begins_31 (by decide) rfl rfl, ?_⟩
  refine List.forall_mem_cons.mpr ⟨ip_s_aload_n hx hb dX5_begins_34 rfl rfl, ?_⟩
  refine List.forall_mem_cons.mpr ⟨ip_s_gR0 hx hb hts hin5 hown rfl (by decide) 18 (by decide) (hts (.fieldLink RX5 54 "IcePadsModel" "ready" "[I") (by decide +kernel)) (fun _ h9 => h9) hIs 50 68 rfl (by decide) rfl dX5_begins_35 rfl, ?_⟩
  refine List.forall_mem_cons.mpr ⟨ip_s_iload_n hx hb dX5_begins_38 rfl rfl, ?_⟩
  refine List.forall_mem_cons.mpr ⟨ip_s_ldi hx hb hIs dX5_begins_39 rfl, ?_⟩
  refine List.forall_mem_cons.mpr ⟨ip_s_aload_n hx hb dX5_begins_40 rfl rfl, ?_⟩
  refine List.forall_mem_cons.mpr ⟨ip_s_gR0 hx hb hts hin5 hown rfl (by decide) 18 (by decide) (hts (.fieldLink RX5 54 "IcePadsModel" "ready" "[I") (by decide +kernel)) (fun _ h9 => h9) hIs 50 68 rfl (by decide) rfl dX5_begins_41 rfl, ?_⟩
  refine List.forall_mem_cons.mpr ⟨ip_s_iload_n hx hb dX5_begins_44 rfl rfl, ?_⟩
  refine List.forall_mem_cons.mpr ⟨ip_s_ldi hx hb hIs dX5_begins_45 rfl, ?_⟩
  refine List.forall_mem_cons.mpr ⟨ip_s_icge (t := 53) hx hb dX5_begins_46 (by decide) rfl rfl, ?_⟩
  refine List.forall_mem_cons.mpr ⟨ip_s_iload_n hx hb dX5_begins_49 rfl rfl, ?_⟩
  refine List.forall_mem_cons.mpr ⟨ip_s_go (t := 54) hx hb dX5_begins_50 (by decide) (Nat.le_of_ble_eq_true rfl) (Nat.le_of_ble_eq_true rfl), ?_⟩
  refine List.forall_mem_cons.mpr ⟨ip_s_iload_n hx hb dX5_begins_53 rfl rfl, ?_⟩
  refine List.forall_mem_cons.mpr ⟨ip_s_istore_n hx hb dX5_begins_54 rfl (by decide) rfl, ?_⟩
  refine List.forall_mem_cons.mpr ⟨ip_s_iinc hx hb dX5_begins_55 rfl (by decide) rfl, ?_⟩
  refine List.forall_mem_cons.mpr ⟨ip_s_go (t := 14) hx hb dX5_begins_58 (by decide) (Nat.le_of_ble_eq_true rfl) (Nat.le_of_ble_eq_true rfl), ?_⟩
  refine List.forall_mem_cons.mpr ⟨ip_s_iload_n hx hb dX5_begins_61 rfl rfl, ?_⟩
  refine List.forall_mem_cons.mpr ⟨ip_s_iflt (t := 162) hx hb dX5_begins_62 (by decide) rfl rfl, ?_⟩
  refine List.forall_mem_cons.mpr ⟨ip_s_aload_n hx hb dX5_begins_65 rfl rfl, ?_⟩
  refine List.forall_mem_cons.mpr ⟨ip_s_gR0 hx hb hts hin5 hown rfl (by decide) 14 (by decide) (hts (.fieldLink RX5 45 "IcePadsModel" "onPad" "[I") (by decide +kernel)) (fun _ h9 => h9) hIs 50 64 rfl (by decide) rfl dX5_begins_66 rfl, ?_⟩
  refine List.forall_mem_cons.mpr ⟨ip_s_iload_n hx hb dX5_begins_69 rfl rfl, ?_⟩
  refine List.forall_mem_cons.mpr ⟨ip_s_iload_n hx hb dX5_begins_70 rfl rfl, ?_⟩
  refine List.forall_mem_cons.mpr ⟨ip_s_iconst hx hb dX5_begins_71 rfl rfl, ?_⟩
  refine List.forall_mem_cons.mpr ⟨ip_s_iadd hx hb dX5_begins_72 rfl, ?_⟩
  refine List.forall_mem_cons.mpr ⟨ip_s_sti hx hb hIn hIs dX5_begins_73 rfl, ?_⟩
  refine List.forall_mem_cons.mpr ⟨ip_s_aload_n hx hb dX5_begins_74 rfl rfl, ?_⟩
  refine List.forall_mem_cons.mpr ⟨ip_s_gR0 hx hb hts hin5 hown rfl (by decide) 21 (by decide) (hts (.fieldLink RX5 63 "IcePadsModel" "state" "[I") (by decide +kernel)) (fun _ h9 => h9) hIs 50 71 rfl (by decide) rfl dX5_begins_75 rfl, ?_⟩
  refine List.forall_mem_cons.mpr ⟨ip_s_iload_n hx hb dX5_begins_78 rfl rfl, ?_⟩
  refine List.forall_mem_cons.mpr ⟨ip_s_iconst hx hb dX5_begins_79 rfl rfl, ?_⟩
  refine List.forall_mem_cons.mpr ⟨ip_s_sti hx hb hIn hIs dX5_begins_80 rfl, ?_⟩
  refine List.forall_mem_cons.mpr ⟨ip_s_aload_n hx hb dX5_begins_81 rfl rfl, ?_⟩
  refine List.forall_mem_cons.mpr ⟨ip_s_gR0 hx hb hts hin5 hown rfl (by decide) 22 (by decide) (hts (.fieldLink RX5 66 "IcePadsModel" "start" "[I") (by decide +kernel)) (fun _ h9 => h9) hIs 50 72 rfl (by decide) rfl dX5_begins_82 rfl, ?_⟩
  refine List.forall_mem_cons.mpr ⟨ip_s_iload_n hx hb dX5_begins_85 rfl rfl, ?_⟩
  refine List.forall_mem_cons.mpr ⟨ip_s_aload_n hx hb dX5_begins_86 rfl rfl, ?_⟩
  refine List.forall_mem_cons.mpr ⟨ip_s_gI0 hx hb hts hin5 hown rfl (by decide) 0 (by decide) (hts (.fieldLink RX5 87 "IcePadsModel" "now" "I") (by decide +kernel)) (fun _ h9 => h9) hIs 50 rfl rfl dX5_begins_87 rfl, ?_⟩
  refine List.forall_mem_cons.mpr ⟨ip_s_sti hx hb hIn hIs dX5_begins_90 rfl, ?_⟩
  refine List.forall_mem_cons.mpr ⟨ip_s_aload_n hx hb dX5_begins_91 rfl rfl, ?_⟩
  refine List.forall_mem_cons.mpr ⟨ip_s_gR0 hx hb hts hin5 hown rfl (by decide) 23 (by decide) (hts (.fieldLink RX5 69 "IcePadsModel" "holds" "[I") (by decide +kernel)) (fun _ h9 => h9) hIs 50 73 rfl (by decide) rfl dX5_begins_92 rfl, ?_⟩
  refine List.forall_mem_cons.mpr ⟨ip_s_iload_n hx hb dX5_begins_95 rfl rfl, ?_⟩
  refine List.forall_mem_cons.mpr ⟨ip_s_aload_n hx hb dX5_begins_96 rfl rfl, ?_⟩
  refine List.forall_mem_cons.mpr ⟨ip_s_aload_n hx hb dX5_begins_97 rfl rfl, ?_⟩
  refine List.forall_mem_cons.mpr ⟨ip_s_gR0 hx hb hts hin5 hown rfl (by decide) 20 (by decide) (hts (.fieldLink RX5 60 "IcePadsModel" "fluid" "[I") (by decide +kernel)) (fun _ h9 => h9) hIs 50 70 rfl (by decide) rfl dX5_begins_98 rfl, ?_⟩
  refine List.forall_mem_cons.mpr ⟨ip_s_iload_n hx hb dX5_begins_101 rfl rfl, ?_⟩
  refine List.forall_mem_cons.mpr ⟨ip_s_ldi hx hb hIs dX5_begins_102 rfl, ?_⟩
  refine List.forall_mem_cons.mpr ⟨ip_s_aload_n hx hb dX5_begins_103 rfl rfl, ?_⟩
  refine List.forall_mem_cons.mpr ⟨ip_s_gI0 hx hb hts hin5 hown rfl (by decide) 0 (by decide) (hts (.fieldLink RX5 87 "IcePadsModel" "now" "I") (by decide +kernel)) (fun _ h9 => h9) hIs 50 rfl rfl dX5_begins_104 rfl, ?_⟩
  refine List.forall_mem_cons.mpr ⟨ip_s_G (fun M => ip_s_callV hNx hS9 (ctX5_holdOf l M) (cwV 2 hts gX5_begins_X5_holdOf rfl rfl rfl (by decide +kernel) ⟨Nat.le_of_ble_eq_true rfl, Nat.le_of_ble_eq_true rfl⟩) (ci := 5) rfl rfl (by decide) (fun as S hI h => shX5_holdOf M as S hI h) hA dX5_begins_107 ⟨Nat.le_of_ble_eq_true rfl, Nat.le_of_ble_eq_true rfl⟩ rfl), ?_⟩
  refine List.forall_mem_cons.mpr ⟨ip_s_sti hx hb hIn hIs dX5_begins_110 rfl, ?_⟩
  refine List.forall_mem_cons.mpr ⟨ip_s_aload_n hx hb dX5_begins_111 rfl rfl, ?_⟩
  refine List.forall_mem_cons.mpr ⟨ip_s_gR0 hx hb hts hin5 hown rfl (by decide) 9 (by decide) (hts (.fieldLink RX5 32 "IcePadsModel" "litres" "[I") (by decide +kernel)) (fun _ h9 => h9) hIs 50 59 rfl (by decide) rfl dX5_begins_112 rfl, ?_⟩
  refine List.forall_mem_cons.mpr ⟨ip_s_aload_n hx hb dX5_begins_115 rfl rfl, ?_⟩
  refine List.forall_mem_cons.mpr ⟨ip_s_gR0 hx hb hts hin5 hown rfl (by decide) 20 (by decide) (hts (.fieldLink RX5 60 "IcePadsModel" "fluid" "[I") (by decide +kernel)) (fun _ h9 => h9) hIs 50 70 rfl (by decide) rfl dX5_begins_116 rfl, ?_⟩
  refine List.forall_mem_cons.mpr ⟨ip_s_iload_n hx hb dX5_begins_119 rfl rfl, ?_⟩
  refine List.forall_mem_cons.mpr ⟨ip_s_ldi hx hb hIs dX5_begins_120 rfl, ?_⟩
  refine List.forall_mem_cons.mpr ⟨ip_s_dup2 hx hb dX5_begins_121 rfl, ?_⟩
  refine List.forall_mem_cons.mpr ⟨ip_s_ldi hx hb hIs dX5_begins_122 rfl, ?_⟩
  refine List.forall_mem_cons.mpr ⟨ip_s_bipush hx hb dX5_begins_123 rfl rfl, ?_⟩
  refine List.forall_mem_cons.mpr ⟨ip_s_aload_n hx hb dX5_begins_125 rfl rfl, ?_⟩
  refine List.forall_mem_cons.mpr ⟨ip_s_gR0 hx hb hts hin5 hown rfl (by decide) 16 (by decide) (hts (.fieldLink RX5 48 "IcePadsModel" "size" "[I") (by decide +kernel)) (fun _ h9 => h9) hIs 50 66 rfl (by decide) rfl dX5_begins_126 rfl, ?_⟩
  refine List.forall_mem_cons.mpr ⟨ip_s_iload_n hx hb dX5_begins_129 rfl rfl, ?_⟩
  refine List.forall_mem_cons.mpr ⟨ip_s_ldi hx hb hIs dX5_begins_130 rfl, ?_⟩
  refine List.forall_mem_cons.mpr ⟨ip_s_imul hx hb dX5_begins_131 rfl, ?_⟩
  refine List.forall_mem_cons.mpr ⟨ip_s_isub hx hb dX5_begins_132 rfl, ?_⟩
  refine List.forall_mem_cons.mpr ⟨ip_s_sti hx hb hIn hIs dX5_begins_133 rfl, ?_⟩
  refine List.forall_mem_cons.mpr ⟨ip_s_aload_n hx hb dX5_begins_134 rfl rfl, ?_⟩
  refine List.forall_mem_cons.mpr ⟨ip_s_dup hx hb dX5_begins_135 rfl, ?_⟩
  refine List.forall_mem_cons.mpr ⟨ip_s_gI0 hx hb hts hin5 hown rfl (by decide) 13 (by decide) (hts (.fieldLink RX5 123 "IcePadsModel" "drain" "I") (by decide +kernel)) (fun _ h9 => h9) hIs 50 rfl rfl dX5_begins_136 rfl, ?_⟩
  refine List.forall_mem_cons.mpr ⟨ip_s_bipush hx hb dX5_begins_139 rfl rfl, ?_⟩
  refine List.forall_mem_cons.mpr ⟨ip_s_aload_n hx hb dX5_begins_141 rfl rfl, ?_⟩
  refine List.forall_mem_cons.mpr ⟨ip_s_gR0 hx hb hts hin5 hown rfl (by decide) 16 (by decide) (hts (.fieldLink RX5 48 "IcePadsModel" "size" "[I") (by decide +kernel)) (fun _ h9 => h9) hIs 50 66 rfl (by decide) rfl dX5_begins_142 rfl, ?_⟩
  refine List.forall_mem_cons.mpr ⟨ip_s_iload_n hx hb dX5_begins_145 rfl rfl, ?_⟩
  refine List.forall_mem_cons.mpr ⟨ip_s_ldi hx hb hIs dX5_begins_146 rfl, ?_⟩
  refine List.forall_mem_cons.mpr ⟨ip_s_imul hx hb dX5_begins_147 rfl, ?_⟩
  refine List.forall_mem_cons.mpr ⟨ip_s_iadd hx hb dX5_begins_148 rfl, ?_⟩
  refine List.forall_mem_cons.mpr ⟨ip_s_pI0 hx hb hts hin5 hown rfl (by decide) 13 (by decide) (hts (.fieldLink RX5 123 "IcePadsModel" "drain" "I") (by decide +kernel)) (fun _ h9 => h9) tyX5 tyX5_ok nmX5 hIn hIs 50 rfl rfl rfl (by decide +kernel) dX5_begins_149 rfl, ?_⟩
  refine List.forall_mem_cons.mpr ⟨ip_s_aload_n hx hb dX5_begins_152 rfl rfl, ?_⟩
  refine List.forall_mem_cons.mpr ⟨ip_s_dup hx hb dX5_begins_153 rfl, ?_⟩
  refine List.forall_mem_cons.mpr ⟨ip_s_gI0 hx hb hts hin5 hown rfl (by decide) 26 (by decide) (hts (.fieldLink RX5 129 "IcePadsModel" "begun" "I") (by decide +kernel)) (fun _ h9 => h9) hIs 50 rfl rfl dX5_begins_154 rfl, ?_⟩
  refine List.forall_mem_cons.mpr ⟨ip_s_iconst hx hb dX5_begins_157 rfl rfl, ?_⟩
  refine List.forall_mem_cons.mpr ⟨ip_s_iadd hx hb dX5_begins_158 rfl, ?_⟩
  refine List.forall_mem_cons.mpr ⟨ip_s_pI0 hx hb hts hin5 hown rfl (by decide) 26 (by decide) (hts (.fieldLink RX5 129 "IcePadsModel" "begun" "I") (by decide +kernel)) (fun _ h9 => h9) tyX5 tyX5_ok nmX5 hIn hIs 50 rfl rfl rfl (by decide +kernel) dX5_begins_159 rfl, ?_⟩
  refine List.forall_mem_cons.mpr ⟨ip_s_vret hx hb hr hlocks (Nat.le_of_ble_eq_true rfl) (Nat.le_of_ble_eq_true rfl) dX5_begins_162, ?_⟩
  exact fun _ h => absurd h List.not_mem_nil
abbrev iX5_begins (M : ip_M) (a : Nat) (pd : Int32) (S : ip_S) : Nat → ip_N := fun k pc loc st S1 => ∃ (nj j : Nat) (x2 x3 : Int32), M 50 15 = nI nj ∧ nj ≤ 12 ∧ x3 = nI j ∧ j ≤ nj ∧ k + j = nj ∧ pc = 14 ∧ st = [] ∧ S1 = S ∧ loc = [some (.inr (.inl (some a))), some (.inl pd), some (.inl x2), some (.inl x3)] ∧ M 64 pd.toNatClampNeg = 0 ∧ x2 = (match g_pick M j with | none => (-1 : Int32) | some b => nI b)
set_option maxRecDepth 100000 in
set_option maxHeartbeats 4000000 in
theorem lpX5_begins (M : ip_M) (a : Nat) (pd : Int32) (S : ip_S) (hS : ip_Sta S) (hp : a = 50 ∧ ip_eM M S ∧ (∃ nf nj np, ip_vv M nf nj np) ∧ ∃ p, p < 3 ∧ pd = nI p) : ∀ k pc loc st S1, iX5_begins M a pd S k pc loc st S1 → ip_run (pX5_begins (postX5_begins M [.inr (.inl (some a)), .inl pd] S)) (fun pc => Nat.beq pc 14) (fun pc loc st S2 => ∃ k', k' < k ∧ iX5_begins M a pd S k' pc loc st S2) 120 pc loc st S1 := by
  obtain ⟨rfl, hE, ⟨nf, nj0, np, hv⟩, p, hp3, rfl⟩ := hp
  obtain ⟨hin3, hcp⟩ := ip_inN (n := 3) (N := 3) hp3 (by decide) (by decide)
  rintro k pc loc st S1 ⟨nj, j, x2, x3, hnj, hnj12, rfl, hjn, hk, rfl, rfl, rfl, rfl, h64, hx2⟩
  have enj : nj = nj0 := (nI_eq (by omega) (by have := hv.1.2.2.2.1; omega)).mp (hnj.symm.trans hv.1.2.2.1)
  have e15 : S1.1 50 15 = nI nj := by rw [← hnj]; exact congrFun (hE 50 (by decide)) _
  have hcnj : (M 50 15).toNatClampNeg = nj := by rw [hnj]; exact nI_clamp (by omega)
  rw [hcp] at h64
  refine And.intro (fun q => ?_) (fun q => ?_)
  · rw [e15, nI_leI (by omega) (by omega)] at q
    have hjj : j = nj := Nat.le_antisymm hjn q
    subst hjj
    refine And.intro (fun q2 => ?_) (fun q2 => ?_)
    · refine And.intro rfl ?_
      rw [hcp]
      unfold g_bg1
      rw [if_pos h64, hcnj]
      cases ho : g_pick M j with
      | none => exact ip_EM.rf hE
      | some b =>
        have hb := g_pick_lt ho
        rw [ho] at hx2
        rw [hx2] at q2
        exact absurd q2 (nI_pos (by omega))
    · cases ho : g_pick M j with
      | none =>
        rw [ho] at hx2
        rw [hx2] at q2
        exact absurd (by decide) q2
      | some b =>
        have hb := (g_pick_lt ho).1
        rw [ho] at hx2
        have hx2 : x2 = nI b := hx2
        subst hx2
        have hb12 : b < 12 := Nat.lt_of_lt_of_le hb hnj12
        obtain ⟨hin12, hcb⟩ := ip_inN (n := 12) (N := 12) hb12 (by decide) (by decide)
        obtain ⟨f, hf, hf1⟩ := (hv.2.2.2.2.1 b (by omega)).2.2.2.2.1
        have hf4 : f < 4 := Nat.lt_of_lt_of_le hf hv.1.2.1
        obtain ⟨hin4, hcf⟩ := ip_inN (n := 4) (N := 4) hf4 (by decide) (by decide)
        have e50 : S1.1 50 = M 50 := hE 50 (by decide)
        have e59 : S1.1 59 = M 59 := hE 59 (by decide)
        have e66 : S1.1 66 = M 66 := hE 66 (by decide)
        have e70 : S1.1 70 = M 70 := hE 70 (by decide)
        have t1 := (ip_EM.rf hE).u (p := 64) (by decide) p (nI b + 1)
        have t2 := t1.u (p := 71) (by decide) b 1
        have t3 := t2.u (p := 72) (by decide) b (M 50 0)
        refine And.intro hin3 ?_
        rw [hcp]
        refine And.intro hin12 ?_
        rw [hcb]
        refine And.intro hin12 ?_
        rw [hcb, show (ip_sI (ip_sI S1 64 p (nI b + 1)) 71 b 1).1 50 0 = M 50 0 by rw [ip_sI_p (by decide), ip_sI_p (by decide), e50]]
        generalize ip_sI (ip_sI (ip_sI S1 64 p (nI b + 1)) 71 b 1) 72 b (M 50 0) = S3 at t3 ⊢
        have q50 : S3.1 50 0 = M 50 0 := by rw [t3.1 50 (by decide), ip_u_p (by decide), ip_u_p (by decide), ip_u_p (by decide)]
        have q70 : S3.1 70 (nI b).toNatClampNeg = nI f := by rw [t3.1 70 (by decide), ip_u_p (by decide), ip_u_p (by decide), ip_u_p (by decide), hcb, hf1]
        refine And.intro hin12 ?_
        rw [q70]
        have hw3 := hv.2.1
        have hk3 := (hv.2.2.2.1 f hf).1
        refine Exists.intro _ (And.intro (And.intro rfl (And.intro t3.1 (And.intro (And.intro ?_ (Exists.intro f (And.intro hf4 (And.intro rfl ?_)))) ?_))) ?_)
        · intro i hi
          rw [ip_u_p (by decide), ip_u_p (by decide), ip_u_p (by decide)] at hi
          rw [ip_u_p (by decide), ip_u_p (by decide), ip_u_p (by decide), ip_u_p (by decide), ip_u_p (by decide), ip_u_p (by decide)]
          exact hw3 i hi
        · rw [ip_u_p (by decide), ip_u_p (by decide), ip_u_p (by decide)]
          exact hk3
        · rw [q50]
          exact ip_now hv.2.2.1
        · rintro r S' ⟨rfl, rfl⟩
          have hgh : g_hold (ip_u (ip_u (ip_u M 64 p (nI b + 1)) 71 b 1) 72 b (M 50 0)) (nI f).toNatClampNeg (S'.1 50 0).toNatClampNeg = g_hold M (M 70 b).toNatClampNeg (M 50 0).toNatClampNeg := by
            rw [q50, hf1]
            unfold g_hold
            rw [ip_u_P (q := 51) (by decide), ip_u_P (q := 51) (by decide), ip_u_P (q := 51) (by decide), ip_u_P (q := 52) (by decide), ip_u_P (q := 52) (by decide), ip_u_P (q := 52) (by decide), ip_u_P (q := 53) (by decide), ip_u_P (q := 53) (by decide), ip_u_P (q := 53) (by decide), ip_u_P (q := 55) (by decide), ip_u_P (q := 55) (by decide), ip_u_P (q := 55) (by decide), ip_u_P (q := 56) (by decide), ip_u_P (q := 56) (by decide), ip_u_P (q := 56) (by decide), ip_u_P (q := 57) (by decide), ip_u_P (q := 57) (by decide), ip_u_P (q := 57) (by decide), ip_u_P (q := 58) (by decide), ip_u_P (q := 58) (by decide), ip_u_P (q := 58) (by decide)]
          refine And.intro hin12 ?_
          rw [hcb, hgh]
          have t4 := t3.u (p := 73) (by decide) b (g_hold M (M 70 b).toNatClampNeg (M 50 0).toNatClampNeg)
          generalize ip_sI S' 73 b (g_hold M (M 70 b).toNatClampNeg (M 50 0).toNatClampNeg) = S4 at t4 ⊢
          have q70 : S4.1 70 (nI b).toNatClampNeg = nI f := by rw [t4.1 70 (by decide), ip_u_p (by decide), ip_u_p (by decide), ip_u_p (by decide), ip_u_p (by decide), hcb, hf1]
          have q59 : S4.1 59 (nI f).toNatClampNeg = M 59 (M 70 b).toNatClampNeg := by rw [t4.1 59 (by decide), ip_u_p (by decide), ip_u_p (by decide), ip_u_p (by decide), ip_u_p (by decide), hf1]
          have q66 : S4.1 66 (nI b).toNatClampNeg = M 66 b := by rw [t4.1 66 (by decide), ip_u_p (by decide), ip_u_p (by decide), ip_u_p (by decide), ip_u_p (by decide), hcb]
          refine And.intro hin12 ?_
          rw [q70]
          refine And.intro hin4 ?_
          rw [q59]
          refine And.intro hin12 ?_
          rw [q66]
          refine And.intro hin4 ?_
          have t5 := t4.u (p := 59) (by decide) (M 70 b).toNatClampNeg (M 59 (M 70 b).toNatClampNeg - 10 * M 66 b)
          rw [← hf1]
          generalize ip_sI S4 59 (M 70 b).toNatClampNeg (M 59 (M 70 b).toNatClampNeg - 10 * M 66 b) = S5 at t5 ⊢
          have q66 : S5.1 66 (nI b).toNatClampNeg = M 66 b := by rw [t5.1 66 (by decide), ip_u_p (by decide), ip_u_p (by decide), ip_u_p (by decide), ip_u_p (by decide), ip_u_p (by decide), hcb]
          have q13 : S5.1 50 13 = M 50 13 := by rw [t5.1 50 (by decide), ip_u_p (by decide), ip_u_p (by decide), ip_u_p (by decide), ip_u_p (by decide), ip_u_p (by decide)]
          have q26 : S5.1 50 26 = M 50 26 := by rw [t5.1 50 (by decide), ip_u_p (by decide), ip_u_p (by decide), ip_u_p (by decide), ip_u_p (by decide), ip_u_p (by decide)]
          refine And.intro hin12 ?_
          rw [q66]
          refine And.intro rfl ?_
          rw [ip_sI_k (by decide), q13, q26, hcp]
          unfold g_bg1
          rw [if_pos h64, hcnj, ho]
          exact (t5.u (p := 50) (by decide) _ _).u (by decide) _ _
  · rw [e15, nI_leI (by omega) (by omega)] at q
    have hjlt : j < nj := Nat.lt_of_not_le q
    have hj12 : j < 12 := Nat.lt_of_lt_of_le hjlt hnj12
    obtain ⟨hin12, hcj⟩ := ip_inN (n := 12) (N := 12) hj12 (by decide) (by decide)
    obtain ⟨f, hf, hf1⟩ := (hv.2.2.2.2.1 j (by omega)).2.2.2.2.1
    have hf4 : f < 4 := Nat.lt_of_lt_of_le hf hv.1.2.1
    have hk1 : k - 1 < k := by omega
    have hk2 : k - 1 + (j + 1) = nj := by omega
    have e68 : S1.1 68 = M 68 := hE 68 (by decide)
    refine Exists.intro M (And.intro (And.intro rfl (And.intro hE ⟨j, f, hj12, rfl, hf4, hf1⟩)) ?_)
    rintro r S' ⟨rfl, rfl⟩
    rw [hcj]
    refine And.intro (fun q2 => ?_) (fun q2 => ?_)
    · have q2 := ip_if0 q2
      refine Exists.intro (k - 1) (And.intro hk1 ⟨nj, j + 1, _, _, hnj, hnj12, nI_1 j, hjlt, hk2, rfl, rfl, rfl, rfl, by rw [hcp]; exact h64, ?_⟩)
      rw [hx2, g_pick]
      cases ho : g_pick M j with
      | none => simp only [if_neg q2]
      | some b => simp only [if_neg (fun z : g_may M j ∧ M 68 j < M 68 b => q2 z.1)]
    · have q2 := ip_if1 q2
      refine And.intro (fun q3 => ?_) (fun q3 => ?_)
      · refine Exists.intro (k - 1) (And.intro hk1 ⟨nj, j + 1, _, _, hnj, hnj12, nI_1 j, hjlt, hk2, rfl, rfl, rfl, rfl, by rw [hcp]; exact h64, ?_⟩)
        rw [g_pick]
        cases ho : g_pick M j with
        | none => simp only [if_pos q2]
        | some b =>
          have hb := (g_pick_lt ho).1
          rw [ho] at hx2
          rw [hx2] at q3
          exact absurd q3 (nI_pos (by omega))
      · cases ho : g_pick M j with
        | none =>
          rw [ho] at hx2
          rw [hx2] at q3
          exact absurd (by decide) q3
        | some b =>
          have hb := (g_pick_lt ho).1
          rw [ho] at hx2
          have hx2 : x2 = nI b := hx2
          subst hx2
          obtain ⟨hinb, hcb⟩ := ip_inN (n := nj) (N := 12) (i := b) (by omega) hnj12 (by decide)
          refine And.intro hin12 ?_
          refine And.intro hinb ?_
          rw [hcj, hcb, e68]
          refine And.intro (fun q4 => ?_) (fun q4 => ?_)
          · refine Exists.intro (k - 1) (And.intro hk1 ⟨nj, j + 1, _, _, hnj, hnj12, nI_1 j, hjlt, hk2, rfl, rfl, rfl, rfl, by rw [hcp]; exact h64, ?_⟩)
            rw [g_pick, ho]
            simp only [if_neg (fun z : g_may M j ∧ M 68 j < M 68 b => Int32.not_lt.mpr q4 z.2)]
          · refine Exists.intro (k - 1) (And.intro hk1 ⟨nj, j + 1, _, _, hnj, hnj12, nI_1 j, hjlt, hk2, rfl, rfl, rfl, rfl, by rw [hcp]; exact h64, ?_⟩)
            rw [g_pick, ho]
            simp only [if_pos (show g_may M j ∧ M 68 j < M 68 b from ⟨q2, Int32.not_le.mp q4⟩)]
set_option maxRecDepth 100000 in
set_option maxHeartbeats 4000000 in
theorem vX5_begins (M : ip_M) (a : Nat) (pd : Int32) (S : ip_S) (hS : ip_Sta S) (hp : a = 50 ∧ ip_eM M S ∧ (∃ nf nj np, ip_vv M nf nj np) ∧ ∃ p, p < 3 ∧ pd = nI p) : ip_run (pX5_begins (postX5_begins M [.inr (.inl (some a)), .inl pd] S)) (fun pc => Nat.beq pc 14) (fun pc loc st S2 => ∃ k, iX5_begins M a pd S k pc loc st S2) 120 0 [some (.inr (.inl (some a))), some (.inl pd), none, none] [] S := by
  obtain ⟨rfl, hE, ⟨nf, nj, np, hv⟩, p, hp3, rfl⟩ := hp
  obtain ⟨hin3, hcp⟩ := ip_inN (n := 3) (N := 3) hp3 (by decide) (by decide)
  have e64 : S.1 64 (nI p).toNatClampNeg = M 64 p := by rw [hcp]; exact congrFun (hE 64 (by decide)) _
  refine And.intro hin3 ?_
  rw [e64]
  rcases ip_vp_at hv hp3 with h0 | ⟨j, hj, -, -, hj1, -⟩
  · refine And.intro (fun _ => ?_) (fun q => absurd (by rw [h0]; decide) q)
    exact Exists.intro nj ⟨nj, 0, -1, 0, hv.1.2.2.1, hv.1.2.2.2.1, rfl, Nat.zero_le _, rfl, rfl, rfl, rfl, rfl, by rw [hcp]; exact h0, rfl⟩
  · refine And.intro (fun q => ?_) (fun _ => ?_)
    · rw [hj1] at q
      exact absurd q (nI_nle (by omega) (by omega))
    · refine And.intro rfl ?_
      rw [hcp]
      unfold g_bg1
      rw [if_neg (by rw [hj1]; exact nI_ne0 (by omega) (by omega))]
      exact ip_EM.rf hE
theorem ctX5_begins (l : Launch) (M : ip_M) : ip_CT l yX5_begins wsX5_begins rmX5_begins ip_Sta (preX5_begins M) (postX5_begins M) := by
  refine ip_of (cc := cX5_begins) (maxL := 4) (ret := none) (by decide +kernel) rfl (fun _ => (0, 0)) rfl ?_ ?_
  · intro as S h
    obtain ⟨a, pd, rfl, hq⟩ := ip_e_ri h
    exact ⟨Nat.le_of_ble_eq_true rfl, by simp⟩
  intro p e s m args below meth c D cA A ad0 as S h hI hx hb hml hown hts hr hlocks hname hA hNx
  obtain ⟨a, pd, rfl, hq⟩ := ip_e_ri h
  have ht := tX5_begins (D := D) (cA := cA) (A := A) (ad0 := ad0) (l := l) (e := e) (below := below) (S0 := S) (po := postX5_begins M [.inr (.inl (some a)), .inl pd] S) hx hb hml hown hts hr hlocks hname hA hNx
  refine ip_run_ok ht (fun pc loc st S2 hh => ?_) 120 0 _ _ S (vX5_begins M a pd S hI hq)
  obtain ⟨k, hk⟩ := hh
  exact ip_loop ht (iX5_begins M a pd S) (lpX5_begins M a pd S hI hq) k pc loc st S2 hk
