def g_jetM (M : ip_M) (n : Nat) (s r far f : Int32) : ip_M := ip_u (ip_u (ip_u (ip_u (ip_u (ip_u (ip_u (ip_u (ip_u (ip_u M 66 n s) 67 n r) 68 n r) 69 n far) 70 n f) 71 n 0) 72 n (-900)) 74 n 0) 75 n (-900)) 50 15 (M 50 15 + 1)
def g_jet (M : ip_M) (s r far f : Int32) : Int32 × ip_M := if (1 ≤ s ∧ s ≤ 5) ∧ (M 50 0 ≤ r ∧ r ≤ 299) ∧ (1 ≤ far ∧ far ≤ 20) ∧ ip_isF M f then (if M 50 15 = 12 then (-300, M) else (M 50 15, g_jetM M (M 50 15).toNatClampNeg s r far f)) else (-100, M)
abbrev g_spans (a b c d : Int32) : Prop := a ≤ 100 ∧ b ≤ a ∧ c ≤ b ∧ d ≤ c ∧ 0 ≤ d
def g_fluidM (M : ip_M) (n : Nat) (k a b c d t p li : Int32) : ip_M := ip_u (ip_u (ip_u (ip_u (ip_u (ip_u (ip_u (ip_u (ip_u M 55 n k) 56 (4 * n) a) 56 (4 * n + 1) b) 56 (4 * n + 2) c) 56 (4 * n + 3) d) 57 n t) 58 n p) 59 n li) 50 4 (M 50 4 + 1)
def g_fluid (M : ip_M) (k a b c d t p li : Int32) : Int32 × ip_M := if (0 ≤ k ∧ k ≤ 2) ∧ g_spans a b c d ∧ (¬ k = 0 → 1 ≤ t ∧ t ≤ 4) ∧ (k = 2 → 1 ≤ p ∧ p ≤ 10) ∧ (0 ≤ li ∧ li ≤ 2000) then (if M 50 4 = 4 then (-300, M) else (M 50 4, g_fluidM M (M 50 4).toNatClampNeg k a b c d t p li)) else (-100, M)
theorem ip_k0 {k : Int32} (h : 0 ≤ k ∧ k ≤ 2) : k ≤ 0 ↔ k = 0 := by
  have h0 : (0 : Int32).toInt = 0 := rfl
  have h2 : (2 : Int32).toInt = 2 := rfl
  rw [ip_leI, ip_leI, h0, h2] at h
  rw [ip_leI, ip_eqI, h0]
  omega

def preX5_jet (M : ip_M) : List ip_V → ip_S → Prop := ip_h_riiii (fun _ => False) (fun a s rr far f S => a = 50 ∧ ip_eM M S ∧ ∃ nf nj np, ip_vv M nf nj np)
def postX5_jet (M : ip_M) : List ip_V → ip_S → List ip_V → ip_S → Prop := ip_h_riiii (fun _ _ _ => True) (fun a s rr far f S r S' => r = [.inl (g_jet M s rr far f).1] ∧ ip_EM (g_jet M s rr far f).2 S S')
theorem shX5_jet (M : ip_M) : ∀ as S, ip_Sta S → preX5_jet M as S → ∃ (b : Nat) (as' : List ip_V), as = .inr (.inl (some b)) :: as' ∧ as'.length = 4 ∧ (S.2.2.2 b).1 = 5 := by
  intro as S hI h
  obtain ⟨a, s, rr, far, f, rfl, hq⟩ := ip_e_riiii h
  exact ⟨_, _, rfl, rfl, by rw [hq.1, hI.1 50 (by decide)]; rfl⟩
def rmX5_jet : Room := { frames := 3, cells := 0, slots := 0, locals := 120 }
def pX5_jet (po : List ip_V → ip_S → Prop) : List (Nat × ip_T) := [(0, ip_t_il 1 1), (1, ip_t_ci 1 2), (2, ip_t_ci 5 3), (3, ip_t_call 3 preX5_in postX5_in 6), (6, ip_t_ifeq 42 9), (9, ip_t_il 2 10), (10, ip_t_ar 0 11), (11, ip_t_gI0 50 0 14), (14, ip_t_ci 299 17), (17, ip_t_call 3 preX5_in postX5_in 20), (20, ip_t_ifeq 42 23), (23, ip_t_il 3 24), (24, ip_t_ci 1 25), (25, ip_t_ci 20 27), (27, ip_t_call 3 preX5_in postX5_in 30), (30, ip_t_ifeq 42 33), (33, ip_t_ar 0 34), (34, ip_t_il 4 36), (36, ip_t_callG 2 preX5_isFluid postX5_isFluid 39), (39, ip_t_ifne 45 42), (42, ip_t_ci (-100) 44), (44, ip_t_iret po), (45, ip_t_ar 0 46), (46, ip_t_gI0 50 15 49), (49, ip_t_ci 12 51), (51, ip_t_icne 58 54), (54, ip_t_ci (-300) 57), (57, ip_t_iret po), (58, ip_t_ar 0 59), (59, ip_t_gR0 50 66 62), (62, ip_t_ar 0 63), (63, ip_t_gI0 50 15 66), (66, ip_t_il 1 67), (67, ip_t_st 68), (68, ip_t_ar 0 69), (69, ip_t_gR0 50 67 72), (72, ip_t_ar 0 73), (73, ip_t_gI0 50 15 76), (76, ip_t_il 2 77), (77, ip_t_st 78), (78, ip_t_ar 0 79), (79, ip_t_gR0 50 68 82), (82, ip_t_ar 0 83), (83, ip_t_gI0 50 15 86), (86, ip_t_il 2 87), (87, ip_t_st 88), (88, ip_t_ar 0 89), (89, ip_t_gR0 50 69 92), (92, ip_t_ar 0 93), (93, ip_t_gI0 50 15 96), (96, ip_t_il 3 97), (97, ip_t_st 98), (98, ip_t_ar 0 99), (99, ip_t_gR0 50 70 102), (102, ip_t_ar 0 103), (103, ip_t_gI0 50 15 106), (106, ip_t_il 4 108), (108, ip_t_st 109), (109, ip_t_ar 0 110), (110, ip_t_gR0 50 71 113), (113, ip_t_ar 0 114), (114, ip_t_gI0 50 15 117), (117, ip_t_ci 0 118), (118, ip_t_st 119), (119, ip_t_ar 0 120), (120, ip_t_gR0 50 72 123), (123, ip_t_ar 0 124), (124, ip_t_gI0 50 15 127), (127, ip_t_ci (-900) 130), (130, ip_t_st 131), (131, ip_t_ar 0 132), (132, ip_t_gR0 50 74 135), (135, ip_t_ar 0 136), (136, ip_t_gI0 50 15 139), (139, ip_t_ci 0 140), (140, ip_t_st 141), (141, ip_t_ar 0 142), (142, ip_t_gR0 50 75 145), (145, ip_t_ar 0 146), (146, ip_t_gI0 50 15 149), (149, ip_t_ci (-900) 152), (152, ip_t_st 153), (153, ip_t_ar 0 154), (154, ip_t_dup 155), (155, ip_t_gI0 50 15 158), (158, ip_t_ci 1 159), (159, ip_t_iadd 160), (160, ip_t_pI0 50 15 163), (163, ip_t_ar 0 164), (164, ip_t_gI0 50 15 167), (167, ip_t_ci 1 168), (168, ip_t_isub 169), (169, ip_t_iret po)]
set_option maxRecDepth 100000 in
set_option maxHeartbeats 4000000 in
theorem tX5_jet {p : Program} {l : Launch} {e : Env} {s : State} {m : MethodId} {args : Array Value} {below : List Frame} {meth : Method} {c : Code} {D : va_G} {cA : Nat → ClassId} {A : Nat → Prop} {ad0 : Nat → Nat} {S0 : ip_S} {po : List ip_V → ip_S → Prop} (hx : p.tables.exec = Jvm.exec) (hb : c.code = cX5_jet) (hml : c.maxLocals = 5) (hown : s.vm.findClass RX5 = some m.cls) (hts : ∀ w ∈ wsX5_jet, w.before args s = true) (hr : meth.sig.returnType = (some .int)) (hlocks : meth.locks = false) (hname : meth.name = yX5_jet.name) (hA : ∀ q, s.heap.size ≤ q → A q) (hNx : ip_Nx s) : ∀ q ∈ pX5_jet po, ip_snd p l e rmX5_jet s m args below meth c D cA A (MQ below (ip_Q ip_Sta D cA ad0 S0 A po) args s 0 0 A) 5 (fun _ => (0, 0)) ip_Sta ad0 S0 q.1 q.2 := by
  have hIs : ∀ S, ip_Sta S → ip_Sta S := fun _ h => h
  have hIn := ip_In_Sta
  have hS9 : CallFix p m c cX5_jet 5 s args wsX5_jet RX5 := ⟨hx, hb, hml, hown, hts⟩
  have hin5 : ∀ w ∈ u_ws RX5 TX5 32, w ∈ wsX5_jet := by decide +kernel
  refine List.forall_mem_cons.mpr ⟨ip_s_iload_n hx hb dX5_jet_0 rfl rfl, ?_⟩
  refine List.forall_mem_cons.mpr ⟨ip_s_iconst hx hb dX5_jet_1 rfl rfl, ?_⟩
  refine List.forall_mem_cons.mpr ⟨ip_s_iconst hx hb dX5_jet_2 rfl rfl, ?_⟩
  refine List.forall_mem_cons.mpr ⟨ip_s_callS hNx hS9 (ctX5_in l) (va_cwS 3 hts gX5_jet_X5_in rfl rfl rfl (by decide +kernel) ⟨Nat.le_of_ble_eq_true rfl, Nat.le_of_ble_eq_true rfl⟩) (fun as S hI h => shsX5_in as S hI h) hA dX5_jet_3 ⟨Nat.le_of_ble_eq_true rfl, Nat.le_of_ble_eq_true rfl⟩ rfl, ?_⟩
  refine List.forall_mem_cons.mpr ⟨ip_s_ifeq (t := 42) hx hb dX5_jet_6 (by decide) rfl rfl, ?_⟩
  refine List.forall_mem_cons.mpr ⟨ip_s_iload_n hx hb dX5_jet_9 rfl rfl, ?_⟩
  refine List.forall_mem_cons.mpr ⟨ip_s_aload_n hx hb dX5_jet_10 rfl rfl, ?_⟩
  refine List.forall_mem_cons.mpr ⟨ip_s_gI0 hx hb hts hin5 hown rfl (by decide) 0 (by decide) (hts (.fieldLink RX5 87 "IcePadsModel" "now" "I") (by decide +kernel)) (fun _ h9 => h9) hIs 50 rfl rfl dX5_jet_11 rfl, ?_⟩
  refine List.forall_mem_cons.mpr ⟨ip_s_sipush hx hb dX5_jet_14 rfl rfl, ?_⟩
  refine List.forall_mem_cons.mpr ⟨ip_s_callS hNx hS9 (ctX5_in l) (va_cwS 3 hts gX5_jet_X5_in rfl rfl rfl (by decide +kernel) ⟨Nat.le_of_ble_eq_true rfl, Nat.le_of_ble_eq_true rfl⟩) (fun as S hI h => shsX5_in as S hI h) hA dX5_jet_17 ⟨Nat.le_of_ble_eq_true rfl, Nat.le_of_ble_eq_true rfl⟩ rfl, ?_⟩
  refine List.forall_mem_cons.mpr ⟨ip_s_ifeq (t := 42) hx hb dX5_jet_20 (by decide) rfl rfl, ?_⟩
  refine List.forall_mem_cons.mpr ⟨ip_s_iload_n hx hb dX5_jet_23 rfl rfl, ?_⟩
  refine List.forall_mem_cons.mpr ⟨ip_s_iconst hx hb dX5_jet_24 rfl rfl, ?_⟩
  refine List.forall_mem_cons.mpr ⟨ip_s_bipush hx hb dX5_jet_25 rfl rfl, ?_⟩
  refine List.forall_mem_cons.mpr ⟨ip_s_callS hNx hS9 (ctX5_in l) (va_cwS 3 hts gX5_jet_X5_in rfl rfl rfl (by decide +kernel) ⟨Nat.le_of_ble_eq_true rfl, Nat.le_of_ble_eq_true rfl⟩) (fun as S hI h => shsX5_in as S hI h) hA dX5_jet_27 ⟨Nat.le_of_ble_eq_true rfl, Nat.le_of_ble_eq_true rfl⟩ rfl, ?_⟩
  refine List.forall_mem_cons.mpr ⟨ip_s_ifeq (t := 42) hx hb dX5_jet_30 (by decide) rfl rfl, ?_⟩
  refine List.forall_mem_cons.mpr ⟨ip_s_aload_n hx hb dX5_jet_33 rfl rfl, ?_⟩
  refine List.forall_mem_cons.mpr ⟨ip_s_iload hx hb dX5_jet_34 rfl, ?_⟩
  refine List.forall_mem_cons.mpr ⟨ip_s_G (fun M => ip_s_callV hNx hS9 (ctX5_isFluid l M) (cwV 1 hts gX5_jet_X5_isFluid rfl rfl rfl (by decide +kernel) ⟨Nat.le_of_ble_eq_true rfl, Nat.le_of_ble_eq_true rfl⟩) (ci := 5) rfl rfl (by decide) (fun as S hI h => shX5_isFluid M as S hI h) hA dX5_jet_36 ⟨Nat.le_of_ble_eq_true rfl, Nat.le_of_ble_eq_true rfl⟩ rfl), ?_⟩
  refine List.forall_mem_cons.mpr ⟨ip_s_ifne (t := 45) hx hb dX5_jet_39 (by decide) rfl rfl, ?_⟩
  refine List.forall_mem_cons.mpr ⟨ip_s_bipush hx hb dX5_jet_42 rfl rfl, ?_⟩
  refine List.forall_mem_cons.mpr ⟨ip_s_iret hx hb hr hlocks (Nat.le_of_ble_eq_true rfl) (Nat.le_of_ble_eq_true rfl) dX5_jet_44, ?_⟩
  refine List.forall_mem_cons.mpr ⟨ip_s_aload_n hx hb dX5_jet_45 rfl rfl, ?_⟩
  refine List.forall_mem_cons.mpr ⟨ip_s_gI0 hx hb hts hin5 hown rfl (by decide) 15 (by decide) (hts (.fieldLink RX5 120 "IcePadsModel" "jets" "I") (by decide +kernel)) (fun _ h9 => h9) hIs 50 rfl rfl dX5_jet_46 rfl, ?_⟩
  refine List.forall_mem_cons.mpr ⟨ip_s_bipush hx hb dX5_jet_49 rfl rfl, ?_⟩
  refine List.forall_mem_cons.mpr ⟨ip_s_icne (t := 58) hx hb dX5_jet_51 (by decide) rfl rfl, ?_⟩
  refine List.forall_mem_cons.mpr ⟨ip_s_sipush hx hb dX5_jet_54 rfl rfl, ?_⟩
  refine List.forall_mem_cons.mpr ⟨ip_s_iret hx hb hr hlocks (Nat.le_of_ble_eq_true rfl) (Nat.le_of_ble_eq_true rfl) dX5_jet_57, ?_⟩
  refine List.forall_mem_cons.mpr ⟨ip_s_aload_n hx hb dX5_jet_58 rfl rfl, ?_⟩
  refine List.forall_mem_cons.mpr ⟨ip_s_gR0 hx hb hts hin5 hown rfl (by decide) 16 (by decide) (hts (.fieldLink RX5 48 "IcePadsModel" "size" "[I") (by decide +kernel)) (fun _ h9 => h9) hIs 50 66 rfl (by decide) rfl dX5_jet_59 rfl, ?_⟩
  refine List.forall_mem_cons.mpr ⟨ip_s_aload_n hx hb dX5_jet_62 rfl rfl, ?_⟩
  refine List.forall_mem_cons.mpr ⟨ip_s_gI0 hx hb hts hin5 hown rfl (by decide) 15 (by decide) (hts (.fieldLink RX5 120 "IcePadsModel" "jets" "I") (by decide +kernel)) (fun _ h9 => h9) hIs 50 rfl rfl dX5_jet_63 rfl, ?_⟩
  refine List.forall_mem_cons.mpr ⟨ip_s_iload_n hx hb dX5_jet_66 rfl rfl, ?_⟩
  refine List.forall_mem_cons.mpr ⟨ip_s_sti hx hb hIn hIs dX5_jet_67 rfl, ?_⟩
  refine List.forall_mem_cons.mpr ⟨ip_s_aload_n hx hb dX5_jet_68 rfl rfl, ?_⟩
  refine List.forall_mem_cons.mpr ⟨ip_s_gR0 hx hb hts hin5 hown rfl (by decide) 17 (by decide) (hts (.fieldLink RX5 51 "IcePadsModel" "first" "[I") (by decide +kernel)) (fun _ h9 => h9) hIs 50 67 rfl (by decide) rfl dX5_jet_69 rfl, ?_⟩
  refine List.forall_mem_cons.mpr ⟨ip_s_aload_n hx hb dX5_jet_72 rfl rfl, ?_⟩
  refine List.forall_mem_cons.mpr ⟨ip_s_gI0 hx hb hts hin5 hown rfl (by decide) 15 (by decide) (hts (.fieldLink RX5 120 "IcePadsModel" "jets" "I") (by decide +kernel)) (fun _ h9 => h9) hIs 50 rfl rfl dX5_jet_73 rfl, ?_⟩
  refine List.forall_mem_cons.mpr ⟨ip_s_iload_n hx hb dX5_jet_76 rfl rfl, ?_⟩
  refine List.forall_mem_cons.mpr ⟨ip_s_sti hx hb hIn hIs dX5_jet_77 rfl, ?_⟩
  refine List.forall_mem_cons.mpr ⟨ip_s_aload_n hx hb dX5_jet_78 rfl rfl, ?_⟩
  refine List.forall_mem_cons.mpr ⟨ip_s_gR0 hx hb hts hin5 hown rfl (by decide) 18 (by decide) (hts (.fieldLink RX5 54 "IcePadsModel" "ready" "[I") (by decide +kernel)) (fun _ h9 => h9) hIs 50 68 rfl (by decide) rfl dX5_jet_79 rfl, ?_⟩
  refine List.forall_mem_cons.mpr ⟨ip_s_aload_n hx hb dX5_jet_82 rfl rfl, ?_⟩
  refine List.forall_mem_cons.mpr ⟨ip_s_gI0 hx hb hts hin5 hown rfl (by decide) 15 (by decide) (hts (.fieldLink RX5 120 "IcePadsModel" "jets" "I") (by decide +kernel)) (fun _ h9 => h9) hIs 50 rfl rfl dX5_jet_83 rfl, ?_⟩
  refine List.forall_mem_cons.mpr ⟨ip_s_iload_n hx hb dX5_jet_86 rfl rfl, ?_⟩
  refine List.forall_mem_cons.mpr ⟨ip_s_sti hx hb hIn hIs dX5_jet_87 rfl, ?_⟩
  refine List.forall_mem_cons.mpr ⟨ip_s_aload_n hx hb dX5_jet_88 rfl rfl, ?_⟩
  refine List.forall_mem_cons.mpr ⟨ip_s_gR0 hx hb hts hin5 hown rfl (by decide) 19 (by decide) (hts (.fieldLink RX5 57 "IcePadsModel" "roll" "[I") (by decide +kernel)) (fun _ h9 => h9) hIs 50 69 rfl (by decide) rfl dX5_jet_89 rfl, ?_⟩
  refine List.forall_mem_cons.mpr ⟨ip_s_aload_n hx hb dX5_jet_92 rfl rfl, ?_⟩
  refine List.forall_mem_cons.mpr ⟨ip_s_gI0 hx hb hts hin5 hown rfl (by decide) 15 (by decide) (hts (.fieldLink RX5 120 "IcePadsModel" "jets" "I") (by decide +kernel)) (fun _ h9 => h9) hIs 50 rfl rfl dX5_jet_93 rfl, ?_⟩
  refine List.forall_mem_cons.mpr ⟨ip_s_iload_n hx hb dX5_jet_96 rfl rfl, ?_⟩
  refine List.forall_mem_cons.mpr ⟨ip_s_sti hx hb hIn hIs dX5_jet_97 rfl, ?_⟩
  refine List.forall_mem_cons.mpr ⟨ip_s_aload_n hx hb dX5_jet_98 rfl rfl, ?_⟩
  refine List.forall_mem_cons.mpr ⟨ip_s_gR0 hx hb hts hin5 hown rfl (by decide) 20 (by decide) (hts (.fieldLink RX5 60 "IcePadsModel" "fluid" "[I") (by decide +kernel)) (fun _ h9 => h9) hIs 50 70 rfl (by decide) rfl dX5_jet_99 rfl, ?_⟩
  refine List.forall_mem_cons.mpr ⟨ip_s_aload_n hx hb dX5_jet_102 rfl rfl, ?_⟩
  refine List.forall_mem_cons.mpr ⟨ip_s_gI0 hx hb hts hin5 hown rfl (by decide) 15 (by decide) (hts (.fieldLink RX5 120 "IcePadsModel" "jets" "I") (by decide +kernel)) (fun _ h9 => h9) hIs 50 rfl rfl dX5_jet_103 rfl, ?_⟩
  refine List.forall_mem_cons.mpr ⟨ip_s_iload hx hb dX5_jet_106 rfl, ?_⟩
  refine List.forall_mem_cons.mpr ⟨ip_s_sti hx hb hIn hIs dX5_jet_108 rfl, ?_⟩
  refine List.forall_mem_cons.mpr ⟨ip_s_aload_n hx hb dX5_jet_109 rfl rfl, ?_⟩
  refine List.forall_mem_cons.mpr ⟨ip_s_gR0 hx hb hts hin5 hown rfl (by decide) 21 (by decide) (hts (.fieldLink RX5 63 "IcePadsModel" "state" "[I") (by decide +kernel)) (fun _ h9 => h9) hIs 50 71 rfl (by decide) rfl dX5_jet_110 rfl, ?_⟩
  refine List.forall_mem_cons.mpr ⟨ip_s_aload_n hx hb dX5_jet_113 rfl rfl, ?_⟩
  refine List.forall_mem_cons.mpr ⟨ip_s_gI0 hx hb hts hin5 hown rfl (by decide) 15 (by decide) (hts (.fieldLink RX5 120 "IcePadsModel" "jets" "I") (by decide +kernel)) (fun _ h9 => h9) hIs 50 rfl rfl dX5_jet_114 rfl, ?_⟩
  refine List.forall_mem_cons.mpr ⟨ip_s_iconst hx hb dX5_jet_117 rfl rfl, ?_⟩
  refine List.forall_mem_cons.mpr ⟨ip_s_sti hx hb hIn hIs dX5_jet_118 rfl, ?_⟩
  refine List.forall_mem_cons.mpr ⟨ip_s_aload_n hx hb dX5_jet_119 rfl rfl, ?_⟩
  refine List.forall_mem_cons.mpr ⟨ip_s_gR0 hx hb hts hin5 hown rfl (by decide) 22 (by decide) (hts (.fieldLink RX5 66 "IcePadsModel" "start" "[I") (by decide +kernel)) (fun _ h9 => h9) hIs 50 72 rfl (by decide) rfl dX5_jet_120 rfl, ?_⟩
  refine List.forall_mem_cons.mpr ⟨ip_s_aload_n hx hb dX5_jet_123 rfl rfl, ?_⟩
  refine List.forall_mem_cons.mpr ⟨ip_s_gI0 hx hb hts hin5 hown rfl (by decide) 15 (by decide) (hts (.fieldLink RX5 120 "IcePadsModel" "jets" "I") (by decide +kernel)) (fun _ h9 => h9) hIs 50 rfl rfl dX5_jet_124 rfl, ?_⟩
  refine List.forall_mem_cons.mpr ⟨ip_s_sipush hx hb dX5_jet_127 rfl rfl, ?_⟩
  refine List.forall_mem_cons.mpr ⟨ip_s_sti hx hb hIn hIs dX5_jet_130 rfl, ?_⟩
  refine List.forall_mem_cons.mpr ⟨ip_s_aload_n hx hb dX5_jet_131 rfl rfl, ?_⟩
  refine List.forall_mem_cons.mpr ⟨ip_s_gR0 hx hb hts hin5 hown rfl (by decide) 24 (by decide) (hts (.fieldLink RX5 72 "IcePadsModel" "backs" "[I") (by decide +kernel)) (fun _ h9 => h9) hIs 50 74 rfl (by decide) rfl dX5_jet_132 rfl, ?_⟩
  refine List.forall_mem_cons.mpr ⟨ip_s_aload_n hx hb dX5_jet_135 rfl rfl, ?_⟩
  refine List.forall_mem_cons.mpr ⟨ip_s_gI0 hx hb hts hin5 hown rfl (by decide) 15 (by decide) (hts (.fieldLink RX5 120 "IcePadsModel" "jets" "I") (by decide +kernel)) (fun _ h9 => h9) hIs 50 rfl rfl dX5_jet_136 rfl, ?_⟩
  refine List.forall_mem_cons.mpr ⟨ip_s_iconst hx hb dX5_jet_139 rfl rfl, ?_⟩
  refine List.forall_mem_cons.mpr ⟨ip_s_sti hx hb hIn hIs dX5_jet_140 rfl, ?_⟩
  refine List.forall_mem_cons.mpr ⟨ip_s_aload_n hx hb dX5_jet_141 rfl rfl, ?_⟩
  refine List.forall_mem_cons.mpr ⟨ip_s_gR0 hx hb hts hin5 hown rfl (by decide) 25 (by decide) (hts (.fieldLink RX5 75 "IcePadsModel" "flew" "[I") (by decide +kernel)) (fun _ h9 => h9) hIs 50 75 rfl (by decide) rfl dX5_jet_142 rfl, ?_⟩
  refine List.forall_mem_cons.mpr ⟨ip_s_aload_n hx hb dX5_jet_145 rfl rfl, ?_⟩
  refine List.forall_mem_cons.mpr ⟨ip_s_gI0 hx hb hts hin5 hown rfl (by decide) 15 (by decide) (hts (.fieldLink RX5 120 "IcePadsModel" "jets" "I") (by decide +kernel)) (fun _ h9 => h9) hIs 50 rfl rfl dX5_jet_146 rfl, ?_⟩
  refine List.forall_mem_cons.mpr ⟨ip_s_sipush hx hb dX5_jet_149 rfl rfl, ?_⟩
  refine List.forall_mem_cons.mpr ⟨ip_s_sti hx hb hIn hIs dX5_jet_152 rfl, ?_⟩
  refine List.forall_mem_cons.mpr ⟨ip_s_aload_n hx hb dX5_jet_153 rfl rfl, ?_⟩
  refine List.forall_mem_cons.mpr ⟨ip_s_dup hx hb dX5_jet_154 rfl, ?_⟩
  refine List.forall_mem_cons.mpr ⟨ip_s_gI0 hx hb hts hin5 hown rfl (by decide) 15 (by decide) (hts (.fieldLink RX5 120 "IcePadsModel" "jets" "I") (by decide +kernel)) (fun _ h9 => h9) hIs 50 rfl rfl dX5_jet_155 rfl, ?_⟩
  refine List.forall_mem_cons.mpr ⟨ip_s_iconst hx hb dX5_jet_158 rfl rfl, ?_⟩
  refine List.forall_mem_cons.mpr ⟨ip_s_iadd hx hb dX5_jet_159 rfl, ?_⟩
  refine List.forall_mem_cons.mpr ⟨ip_s_pI0 hx hb hts hin5 hown rfl (by decide) 15 (by decide) (hts (.fieldLink RX5 120 "IcePadsModel" "jets" "I") (by decide +kernel)) (fun _ h9 => h9) tyX5 tyX5_ok nmX5 hIn hIs 50 rfl rfl rfl (by decide +kernel) dX5_jet_160 rfl, ?_⟩
  refine List.forall_mem_cons.mpr ⟨ip_s_aload_n hx hb dX5_jet_163 rfl rfl, ?_⟩
  refine List.forall_mem_cons.mpr ⟨ip_s_gI0 hx hb hts hin5 hown rfl (by decide) 15 (by decide) (hts (.fieldLink RX5 120 "IcePadsModel" "jets" "I") (by decide +kernel)) (fun _ h9 => h9) hIs 50 rfl rfl dX5_jet_164 rfl, ?_⟩
  refine List.forall_mem_cons.mpr ⟨ip_s_iconst hx hb dX5_jet_167 rfl rfl, ?_⟩
  refine List.forall_mem_cons.mpr ⟨ip_s_isub hx hb dX5_jet_168 rfl, ?_⟩
  refine List.forall_mem_cons.mpr ⟨ip_s_iret hx hb hr hlocks (Nat.le_of_ble_eq_true rfl) (Nat.le_of_ble_eq_true rfl) dX5_jet_169, ?_⟩
  exact fun _ h => absurd h List.not_mem_nil
set_option maxRecDepth 100000 in
set_option maxHeartbeats 4000000 in
theorem vX5_jet (M : ip_M) (a : Nat) (s : Int32) (rr : Int32) (far : Int32) (f : Int32) (S : ip_S) (hS : ip_Sta S) (hp : a = 50 ∧ ip_eM M S ∧ ∃ nf nj np, ip_vv M nf nj np) : ip_run (pX5_jet (postX5_jet M [.inr (.inl (some a)), .inl s, .inl rr, .inl far, .inl f] S)) (fun _ => false) (fun _ _ _ _ => False) 130 0 [some (.inr (.inl (some a))), some (.inl s), some (.inl rr), some (.inl far), some (.inl f)] [] S := by
  obtain ⟨rfl, hE, nf, nj, np, hv⟩ := hp
  have e0 : S.1 50 0 = M 50 0 := congrFun (hE 50 (by decide)) _
  have e15 : S.1 50 15 = M 50 15 := congrFun (hE 50 (by decide)) _
  refine And.intro trivial ?_
  rintro r S' ⟨rfl, rfl⟩
  refine And.intro (fun q1 => ?_) (fun q1 => ?_)
  · refine And.intro ?_ ?_ <;> unfold g_jet <;> rw [if_neg (fun z => ip_if0 q1 z.1)]
    exact ip_EM.rf hE
  have q1 := ip_if1 q1
  refine And.intro trivial ?_
  rintro r S' ⟨rfl, rfl⟩
  rw [e0]
  refine And.intro (fun q2 => ?_) (fun q2 => ?_)
  · refine And.intro ?_ ?_ <;> unfold g_jet <;> rw [if_neg (fun z => ip_if0 q2 z.2.1)]
    exact ip_EM.rf hE
  have q2 := ip_if1 q2
  refine And.intro trivial ?_
  rintro r S' ⟨rfl, rfl⟩
  refine And.intro (fun q3 => ?_) (fun q3 => ?_)
  · refine And.intro ?_ ?_ <;> unfold g_jet <;> rw [if_neg (fun z => ip_if0 q3 z.2.2.1)]
    exact ip_EM.rf hE
  have q3 := ip_if1 q3
  refine Exists.intro M (And.intro (And.intro rfl hE) ?_)
  rintro r S' ⟨rfl, rfl⟩
  refine And.intro (fun q4 => ?_) (fun q4 => ?_)
  rotate_left
  · refine And.intro ?_ ?_ <;> unfold g_jet <;> rw [if_neg (fun z => ip_if0 q4 z.2.2.2)]
    exact ip_EM.rf hE
  have q4 := ip_if1 q4
  refine And.intro (fun q5 => ?_) (fun q5 => ?_)
  rotate_left
  · rw [e15] at q5
    refine And.intro ?_ ?_ <;> unfold g_jet <;> rw [if_pos ⟨q1, q2, q3, q4⟩, if_pos q5]
    exact ip_EM.rf hE
  have q5' := q5
  rw [e15] at q5'
  have hnj := hv.1.2.2.1
  have hnj12 := hv.1.2.2.2.1
  have hlt : nj < 12 := by
    rcases Nat.lt_or_ge nj 12 with h | h
    · exact h
    · have : nj = 12 := Nat.le_antisymm hnj12 h
      subst this
      exact absurd hnj q5'
  have hin : vp_in (S'.1 50 15) 12 := by rw [e15, hnj]; exact (ip_inN (N := 12) hlt (Nat.le_refl _) (by decide)).1
  refine And.intro hin ?_
  refine And.intro hin ?_
  refine And.intro hin ?_
  refine And.intro hin ?_
  refine And.intro hin ?_
  refine And.intro hin ?_
  refine And.intro hin ?_
  refine And.intro hin ?_
  refine And.intro hin ?_
  refine And.intro ?_ ?_ <;> unfold g_jet <;> rw [if_pos ⟨q1, q2, q3, q4⟩, if_neg q5']
  · show [Sum.inl (S'.1 50 15 + 1 - 1)] = [Sum.inl (M 50 15)]
    rw [e15, hnj, nI_1, nI_pred]
  · show ip_EM (g_jetM M (M 50 15).toNatClampNeg s rr far f) _ _
    unfold g_jetM
    rw [← e15]
    exact ((((((((((ip_EM.rf hE).u (by decide) _ _).u (by decide) _ _).u (by decide) _ _).u (by decide) _ _).u (by decide) _ _).u (by decide) _ _).u (by decide) _ _).u (by decide) _ _).u (by decide) _ _).u (by decide) _ _
theorem ctX5_jet (l : Launch) (M : ip_M) : ip_CT l yX5_jet wsX5_jet rmX5_jet ip_Sta (preX5_jet M) (postX5_jet M) := by
  refine ip_of (cc := cX5_jet) (maxL := 5) (ret := (some .int)) (by decide +kernel) rfl (fun _ => (0, 0)) rfl ?_ ?_
  · intro as S h
    obtain ⟨a, s, rr, far, f, rfl, hq⟩ := ip_e_riiii h
    exact ⟨Nat.le_of_ble_eq_true rfl, by simp⟩
  intro p e s m args below meth c D cA A ad0 as S h hI hx hb hml hown hts hr hlocks hname hA hNx
  obtain ⟨a, s, rr, far, f, rfl, hq⟩ := ip_e_riiii h
  refine ip_run_ok (stop := fun _ => false) (tX5_jet hx hb hml hown hts hr hlocks hname hA hNx) (fun _ _ _ _ h => False.elim h) 130 0 _ _ S ?_
  exact vX5_jet M a s rr far f S hI hq

def preX5_fluid (M : ip_M) : List ip_V → ip_S → Prop := ip_h_riiiiiiii (fun _ => False) (fun a kd sa sb sc sd ti pa li S => a = 50 ∧ ip_eM M S ∧ ∃ nf nj np, ip_vv M nf nj np)
def postX5_fluid (M : ip_M) : List ip_V → ip_S → List ip_V → ip_S → Prop := ip_h_riiiiiiii (fun _ _ _ => True) (fun a kd sa sb sc sd ti pa li S r S' => r = [.inl (g_fluid M kd sa sb sc sd ti pa li).1] ∧ ip_EM (g_fluid M kd sa sb sc sd ti pa li).2 S S')
theorem shX5_fluid (M : ip_M) : ∀ as S, ip_Sta S → preX5_fluid M as S → ∃ (b : Nat) (as' : List ip_V), as = .inr (.inl (some b)) :: as' ∧ as'.length = 8 ∧ (S.2.2.2 b).1 = 5 := by
  intro as S hI h
  obtain ⟨a, kd, sa, sb, sc, sd, ti, pa, li, rfl, hq⟩ := ip_e_riiiiiiii h
  exact ⟨_, _, rfl, rfl, by rw [hq.1, hI.1 50 (by decide)]; rfl⟩
def rmX5_fluid : Room := { frames := 2, cells := 0, slots := 0, locals := 80 }
def pX5_fluid (po : List ip_V → ip_S → Prop) : List (Nat × ip_T) := [(0, ip_t_il 2 1), (1, ip_t_ci 100 3), (3, ip_t_icgt 33 6), (6, ip_t_il 3 7), (7, ip_t_il 2 8), (8, ip_t_icgt 33 11), (11, ip_t_il 4 13), (13, ip_t_il 3 14), (14, ip_t_icgt 33 17), (17, ip_t_il 5 19), (19, ip_t_il 4 21), (21, ip_t_icgt 33 24), (24, ip_t_il 5 26), (26, ip_t_iflt 33 29), (29, ip_t_ci 1 30), (30, ip_t_go 34), (33, ip_t_ci 0 34), (34, ip_t_is 9 36), (36, ip_t_il 1 37), (37, ip_t_ci 0 38), (38, ip_t_ci 2 39), (39, ip_t_call 3 preX5_in postX5_in 42), (42, ip_t_ifeq 92 45), (45, ip_t_il 9 47), (47, ip_t_ifeq 92 50), (50, ip_t_il 1 51), (51, ip_t_ifle 64 54), (54, ip_t_il 6 56), (56, ip_t_ci 1 57), (57, ip_t_ci 4 58), (58, ip_t_call 3 preX5_in postX5_in 61), (61, ip_t_ifeq 92 64), (64, ip_t_il 1 65), (65, ip_t_ci 2 66), (66, ip_t_icne 80 69), (69, ip_t_il 7 71), (71, ip_t_ci 1 72), (72, ip_t_ci 10 74), (74, ip_t_call 3 preX5_in postX5_in 77), (77, ip_t_ifeq 92 80), (80, ip_t_il 8 82), (82, ip_t_ci 0 83), (83, ip_t_ci 2000 86), (86, ip_t_call 3 preX5_in postX5_in 89), (89, ip_t_ifne 95 92), (92, ip_t_ci (-100) 94), (94, ip_t_iret po), (95, ip_t_ar 0 96), (96, ip_t_gI0 50 4 99), (99, ip_t_ci 4 100), (100, ip_t_icne 107 103), (103, ip_t_ci (-300) 106), (106, ip_t_iret po), (107, ip_t_ar 0 108), (108, ip_t_gR0 50 55 111), (111, ip_t_ar 0 112), (112, ip_t_gI0 50 4 115), (115, ip_t_il 1 116), (116, ip_t_st 117), (117, ip_t_ar 0 118), (118, ip_t_gR0 50 56 121), (121, ip_t_ci 4 122), (122, ip_t_ar 0 123), (123, ip_t_gI0 50 4 126), (126, ip_t_imul 127), (127, ip_t_il 2 128), (128, ip_t_st 129), (129, ip_t_ar 0 130), (130, ip_t_gR0 50 56 133), (133, ip_t_ci 4 134), (134, ip_t_ar 0 135), (135, ip_t_gI0 50 4 138), (138, ip_t_imul 139), (139, ip_t_ci 1 140), (140, ip_t_iadd 141), (141, ip_t_il 3 142), (142, ip_t_st 143), (143, ip_t_ar 0 144), (144, ip_t_gR0 50 56 147), (147, ip_t_ci 4 148), (148, ip_t_ar 0 149), (149, ip_t_gI0 50 4 152), (152, ip_t_imul 153), (153, ip_t_ci 2 154), (154, ip_t_iadd 155), (155, ip_t_il 4 157), (157, ip_t_st 158), (158, ip_t_ar 0 159), (159, ip_t_gR0 50 56 162), (162, ip_t_ci 4 163), (163, ip_t_ar 0 164), (164, ip_t_gI0 50 4 167), (167, ip_t_imul 168), (168, ip_t_ci 3 169), (169, ip_t_iadd 170), (170, ip_t_il 5 172), (172, ip_t_st 173), (173, ip_t_ar 0 174), (174, ip_t_gR0 50 57 177), (177, ip_t_ar 0 178), (178, ip_t_gI0 50 4 181), (181, ip_t_il 6 183), (183, ip_t_st 184), (184, ip_t_ar 0 185), (185, ip_t_gR0 50 58 188), (188, ip_t_ar 0 189), (189, ip_t_gI0 50 4 192), (192, ip_t_il 7 194), (194, ip_t_st 195), (195, ip_t_ar 0 196), (196, ip_t_gR0 50 59 199), (199, ip_t_ar 0 200), (200, ip_t_gI0 50 4 203), (203, ip_t_il 8 205), (205, ip_t_st 206), (206, ip_t_ar 0 207), (207, ip_t_dup 208), (208, ip_t_gI0 50 4 211), (211, ip_t_ci 1 212), (212, ip_t_iadd 213), (213, ip_t_pI0 50 4 216), (216, ip_t_ar 0 217), (217, ip_t_gI0 50 4 220), (220, ip_t_ci 1 221), (221, ip_t_isub 222), (222, ip_t_iret po)]
set_option maxRecDepth 100000 in
set_option maxHeartbeats 4000000 in
theorem tX5_fluid {p : Program} {l : Launch} {e : Env} {s : State} {m : MethodId} {args : Array Value} {below : List Frame} {meth : Method} {c : Code} {D : va_G} {cA : Nat → ClassId} {A : Nat → Prop} {ad0 : Nat → Nat} {S0 : ip_S} {po : List ip_V → ip_S → Prop} (hx : p.tables.exec = Jvm.exec) (hb : c.code = cX5_fluid) (hml : c.maxLocals = 10) (hown : s.vm.findClass RX5 = some m.cls) (hts : ∀ w ∈ wsX5_fluid, w.before args s = true) (hr : meth.sig.returnType = (some .int)) (hlocks : meth.locks = false) (hname : meth.name = yX5_fluid.name) (hA : ∀ q, s.heap.size ≤ q → A q) (hNx : ip_Nx s) : ∀ q ∈ pX5_fluid po, ip_snd p l e rmX5_fluid s m args below meth c D cA A (MQ below (ip_Q ip_Sta D cA ad0 S0 A po) args s 0 0 A) 10 (fun _ => (0, 0)) ip_Sta ad0 S0 q.1 q.2 := by
  have hIs : ∀ S, ip_Sta S → ip_Sta S := fun _ h => h
  have hIn := ip_In_Sta
  have hS9 : CallFix p m c cX5_fluid 10 s args wsX5_fluid RX5 := ⟨hx, hb, hml, hown, hts⟩
  have hin5 : ∀ w ∈ u_ws RX5 TX5 32, w ∈ wsX5_fluid := by decide +kernel
  refine List.forall_mem_cons.mpr ⟨ip_s_iload_n hx hb dX5_fluid_0 rfl rfl, ?_⟩
  refine List.forall_mem_cons.mpr ⟨ip_s_bipush hx hb dX5_fluid_1 rfl rfl, ?_⟩
  refine List.forall_mem_cons.mpr ⟨ip_s_icgt (t := 33) hx hb dX5_fluid_3 (by decide) rfl rfl, ?_⟩
  refine List.forall_mem_cons.mpr ⟨ip_s_iload_n hx hb dX5_fluid_6 rfl rfl, ?_⟩
  refine List.forall_mem_cons.mpr ⟨ip_s_iload_n hx hb dX5_fluid_7 rfl rfl, ?_⟩
  refine List.forall_mem_cons.mpr ⟨ip_s_icgt (t := 33) hx hb dX5_fluid_8 (by decide) rfl rfl, ?_⟩
  refine List.forall_mem_cons.mpr ⟨ip_s_iload hx hb dX5_fluid_11 rfl, ?_⟩
  refine List.forall_mem_cons.mpr ⟨ip_s_iload_n hx hb dX5_fluid_13 rfl rfl, ?_⟩
  refine List.forall_mem_cons.mpr ⟨ip_s_icgt (t := 33) hx hb dX5_fluid_14 (by decide) rfl rfl, ?_⟩
  refine List.forall_mem_cons.mpr ⟨ip_s_iload hx hb dX5_fluid_17 rfl, ?_⟩
  refine List.forall_mem_cons.mpr ⟨ip_s_iload hx hb dX5_fluid_19 rfl, ?_⟩
  refine List.forall_mem_cons.mpr ⟨ip_s_icgt (t := 33) hx hb dX5_fluid_21 (by decide) rfl rfl, ?_⟩
  refine List.forall_mem_cons.mpr ⟨ip_s_iload hx hb dX5_fluid_24 rfl, ?_⟩
  refine List.forall_mem_cons.mpr ⟨ip_s_iflt (t := 33) hx hb dX5_fluid_26 (by decide) rfl rfl, ?_⟩
  refine List.forall_mem_cons.mpr ⟨ip_s_iconst hx hb dX5_fluid_29 rfl rfl, ?_⟩
  refine List.forall_mem_cons.mpr ⟨ip_s_go (t := 34) hx hb dX5_fluid_30 (by decide) (Nat.le_of_ble_eq_true rfl) (Nat.le_of_ble_eq_true rfl), ?_⟩
  refine List.forall_mem_cons.mpr ⟨ip_s_iconst hx hb dX5_fluid_33 rfl rfl, ?_⟩
  refine List.forall_mem_cons.mpr ⟨ip_s_istore hx hb dX5_fluid_34 (by decide) rfl, ?_⟩
  refine List.forall_mem_cons.mpr ⟨ip_s_iload_n hx hb dX5_fluid_36 rfl rfl, ?_⟩
  refine List.forall_mem_cons.mpr ⟨ip_s_iconst hx hb dX5_fluid_37 rfl rfl, ?_⟩
  refine List.forall_mem_cons.mpr ⟨ip_s_iconst hx hb dX5_fluid_38 rfl rfl, ?_⟩
  refine List.forall_mem_cons.mpr ⟨ip_s_callS hNx hS9 (ctX5_in l) (va_cwS 3 hts gX5_fluid_X5_in rfl rfl rfl (by decide +kernel) ⟨Nat.le_of_ble_eq_true rfl, Nat.le_of_ble_eq_true rfl⟩) (fun as S hI h => shsX5_in as S hI h) hA dX5_fluid_39 ⟨Nat.le_of_ble_eq_true rfl, Nat.le_of_ble_eq_true rfl⟩ rfl, ?_⟩
  refine List.forall_mem_cons.mpr ⟨ip_s_ifeq (t := 92) hx hb dX5_fluid_42 (by decide) rfl rfl, ?_⟩
  refine List.forall_mem_cons.mpr ⟨ip_s_iload hx hb dX5_fluid_45 rfl, ?_⟩
  refine List.forall_mem_cons.mpr ⟨ip_s_ifeq (t := 92) hx hb dX5_fluid_47 (by decide) rfl rfl, ?_⟩
  refine List.forall_mem_cons.mpr ⟨ip_s_iload_n hx hb dX5_fluid_50 rfl rfl, ?_⟩
  refine List.forall_mem_cons.mpr ⟨ip_s_ifle (t := 64) hx hb dX5_fluid_51 (by decide) rfl rfl, ?_⟩
  refine List.forall_mem_cons.mpr ⟨ip_s_iload hx hb dX5_fluid_54 rfl, ?_⟩
  refine List.forall_mem_cons.mpr ⟨ip_s_iconst hx hb dX5_fluid_56 rfl rfl, ?_⟩
  refine List.forall_mem_cons.mpr ⟨ip_s_iconst hx hb dX5_fluid_57 rfl rfl, ?_⟩
  refine List.forall_mem_cons.mpr ⟨ip_s_callS hNx hS9 (ctX5_in l) (va_cwS 3 hts gX5_fluid_X5_in rfl rfl rfl (by decide +kernel) ⟨Nat.le_of_ble_eq_true rfl, Nat.le_of_ble_eq_true rfl⟩) (fun as S hI h => shsX5_in as S hI h) hA dX5_fluid_58 ⟨Nat.le_of_ble_eq_true rfl, Nat.le_of_ble_eq_true rfl⟩ rfl, ?_⟩
  refine List.forall_mem_cons.mpr ⟨ip_s_ifeq (t := 92) hx hb dX5_fluid_61 (by decide) rfl rfl, ?_⟩
  refine List.forall_mem_cons.mpr ⟨ip_s_iload_n hx hb dX5_fluid_64 rfl rfl, ?_⟩
  refine List.forall_mem_cons.mpr ⟨ip_s_iconst hx hb dX5_fluid_65 rfl rfl, ?_⟩
  refine List.forall_mem_cons.mpr ⟨ip_s_icne (t := 80) hx hb dX5_fluid_66 (by decide) rfl rfl, ?_⟩
  refine List.forall_mem_cons.mpr ⟨ip_s_iload hx hb dX5_fluid_69 rfl, ?_⟩
  refine List.forall_mem_cons.mpr ⟨ip_s_iconst hx hb dX5_fluid_71 rfl rfl, ?_⟩
  refine List.forall_mem_cons.mpr ⟨ip_s_bipush hx hb dX5_fluid_72 rfl rfl, ?_⟩
  refine List.forall_mem_cons.mpr ⟨ip_s_callS hNx hS9 (ctX5_in l) (va_cwS 3 hts gX5_fluid_X5_in rfl rfl rfl (by decide +kernel) ⟨Nat.le_of_ble_eq_true rfl, Nat.le_of_ble_eq_true rfl⟩) (fun as S hI h => shsX5_in as S hI h) hA dX5_fluid_74 ⟨Nat.le_of_ble_eq_true rfl, Nat.le_of_ble_eq_true rfl⟩ rfl, ?_⟩
  refine List.forall_mem_cons.mpr ⟨ip_s_ifeq (t := 92) hx hb dX5_fluid_77 (by decide) rfl rfl, ?_⟩
  refine List.forall_mem_cons.mpr ⟨ip_s_iload hx hb dX5_fluid_80 rfl, ?_⟩
  refine List.forall_mem_cons.mpr ⟨ip_s_iconst hx hb dX5_fluid_82 rfl rfl, ?_⟩
  refine List.forall_mem_cons.mpr ⟨ip_s_sipush hx hb dX5_fluid_83 rfl rfl, ?_⟩
  refine List.forall_mem_cons.mpr ⟨ip_s_callS hNx hS9 (ctX5_in l) (va_cwS 3 hts gX5_fluid_X5_in rfl rfl rfl (by decide +kernel) ⟨Nat.le_of_ble_eq_true rfl, Nat.le_of_ble_eq_true rfl⟩) (fun as S hI h => shsX5_in as S hI h) hA dX5_fluid_86 ⟨Nat.le_of_ble_eq_true rfl, Nat.le_of_ble_eq_true rfl⟩ rfl, ?_⟩
  refine List.forall_mem_cons.mpr ⟨ip_s_ifne (t := 95) hx hb dX5_fluid_89 (by decide) rfl rfl, ?_⟩
  refine List.forall_mem_cons.mpr ⟨ip_s_bipush hx hb dX5_fluid_92 rfl rfl, ?_⟩
  refine List.forall_mem_cons.mpr ⟨ip_s_iret hx hb hr hlocks (Nat.le_of_ble_eq_true rfl) (Nat.le_of_ble_eq_true rfl) dX5_fluid_94, ?_⟩
  refine List.forall_mem_cons.mpr ⟨ip_s_aload_n hx hb dX5_fluid_95 rfl rfl, ?_⟩
  refine List.forall_mem_cons.mpr ⟨ip_s_gI0 hx hb hts hin5 hown rfl (by decide) 4 (by decide) (hts (.fieldLink RX5 101 "IcePadsModel" "fluids" "I") (by decide +kernel)) (fun _ h9 => h9) hIs 50 rfl rfl dX5_fluid_96 rfl, ?_⟩
  refine List.forall_mem_cons.mpr ⟨ip_s_iconst hx hb dX5_fluid_99 rfl rfl, ?_⟩
  refine List.forall_mem_cons.mpr ⟨ip_s_icne (t := 107) hx hb dX5_fluid_100 (by decide) rfl rfl, ?_⟩
  refine List.forall_mem_cons.mpr ⟨ip_s_sipush hx hb dX5_fluid_103 rfl rfl, ?_⟩
  refine List.forall_mem_cons.mpr ⟨ip_s_iret hx hb hr hlocks (Nat.le_of_ble_eq_true rfl) (Nat.le_of_ble_eq_true rfl) dX5_fluid_106, ?_⟩
  refine List.forall_mem_cons.mpr ⟨ip_s_aload_n hx hb dX5_fluid_107 rfl rfl, ?_⟩
  refine List.forall_mem_cons.mpr ⟨ip_s_gR0 hx hb hts hin5 hown rfl (by decide) 5 (by decide) (hts (.fieldLink RX5 20 "IcePadsModel" "kind" "[I") (by decide +kernel)) (fun _ h9 => h9) hIs 50 55 rfl (by decide) rfl dX5_fluid_108 rfl, ?_⟩
  refine List.forall_mem_cons.mpr ⟨ip_s_aload_n hx hb dX5_fluid_111 rfl rfl, ?_⟩
  refine List.forall_mem_cons.mpr ⟨ip_s_gI0 hx hb hts hin5 hown rfl (by decide) 4 (by decide) (hts (.fieldLink RX5 101 "IcePadsModel" "fluids" "I") (by decide +kernel)) (fun _ h9 => h9) hIs 50 rfl rfl dX5_fluid_112 rfl, ?_⟩
  refine List.forall_mem_cons.mpr ⟨ip_s_iload_n hx hb dX5_fluid_115 rfl rfl, ?_⟩
  refine List.forall_mem_cons.mpr ⟨ip_s_sti hx hb hIn hIs dX5_fluid_116 rfl, ?_⟩
  refine List.forall_mem_cons.mpr ⟨ip_s_aload_n hx hb dX5_fluid_117 rfl rfl, ?_⟩
  refine List.forall_mem_cons.mpr ⟨ip_s_gR0 hx hb hts hin5 hown rfl (by decide) 6 (by decide) (hts (.fieldLink RX5 23 "IcePadsModel" "span" "[I") (by decide +kernel)) (fun _ h9 => h9) hIs 50 56 rfl (by decide) rfl dX5_fluid_118 rfl, ?_⟩
  refine List.forall_mem_cons.mpr ⟨ip_s_iconst hx hb dX5_fluid_121 rfl rfl, ?_⟩
  refine List.forall_mem_cons.mpr ⟨ip_s_aload_n hx hb dX5_fluid_122 rfl rfl, ?_⟩
  refine List.forall_mem_cons.mpr ⟨ip_s_gI0 hx hb hts hin5 hown rfl (by decide) 4 (by decide) (hts (.fieldLink RX5 101 "IcePadsModel" "fluids" "I") (by decide +kernel)) (fun _ h9 => h9) hIs 50 rfl rfl dX5_fluid_123 rfl, ?_⟩
  refine List.forall_mem_cons.mpr ⟨ip_s_imul hx hb dX5_fluid_126 rfl, ?_⟩
  refine List.forall_mem_cons.mpr ⟨ip_s_iload_n hx hb dX5_fluid_127 rfl rfl, ?_⟩
  refine List.forall_mem_cons.mpr ⟨ip_s_sti hx hb hIn hIs dX5_fluid_128 rfl, ?_⟩
  refine List.forall_mem_cons.mpr ⟨ip_s_aload_n hx hb dX5_fluid_129 rfl rfl, ?_⟩
  refine List.forall_mem_cons.mpr ⟨ip_s_gR0 hx hb hts hin5 hown rfl (by decide) 6 (by decide) (hts (.fieldLink RX5 23 "IcePadsModel" "span" "[I") (by decide +kernel)) (fun _ h9 => h9) hIs 50 56 rfl (by decide) rfl dX5_fluid_130 rfl, ?_⟩
  refine List.forall_mem_cons.mpr ⟨ip_s_iconst hx hb dX5_fluid_133 rfl rfl, ?_⟩
  refine List.forall_mem_cons.mpr ⟨ip_s_aload_n hx hb dX5_fluid_134 rfl rfl, ?_⟩
  refine List.forall_mem_cons.mpr ⟨ip_s_gI0 hx hb hts hin5 hown rfl (by decide) 4 (by decide) (hts (.fieldLink RX5 101 "IcePadsModel" "fluids" "I") (by decide +kernel)) (fun _ h9 => h9) hIs 50 rfl rfl dX5_fluid_135 rfl, ?_⟩
  refine List.forall_mem_cons.mpr ⟨ip_s_imul hx hb dX5_fluid_138 rfl, ?_⟩
  refine List.forall_mem_cons.mpr ⟨ip_s_iconst hx hb dX5_fluid_139 rfl rfl, ?_⟩
  refine List.forall_mem_cons.mpr ⟨ip_s_iadd hx hb dX5_fluid_140 rfl, ?_⟩
  refine List.forall_mem_cons.mpr ⟨ip_s_iload_n hx hb dX5_fluid_141 rfl rfl, ?_⟩
  refine List.forall_mem_cons.mpr ⟨ip_s_sti hx hb hIn hIs dX5_fluid_142 rfl, ?_⟩
  refine List.forall_mem_cons.mpr ⟨ip_s_aload_n hx hb dX5_fluid_143 rfl rfl, ?_⟩
  refine List.forall_mem_cons.mpr ⟨ip_s_gR0 hx hb hts hin5 hown rfl (by decide) 6 (by decide) (hts (.fieldLink RX5 23 "IcePadsModel" "span" "[I") (by decide +kernel)) (fun _ h9 => h9) hIs 50 56 rfl (by decide) rfl dX5_fluid_144 rfl, ?_⟩
  refine List.forall_mem_cons.mpr ⟨ip_s_iconst hx hb dX5_fluid_147 rfl rfl, ?_⟩
  refine List.forall_mem_cons.mpr ⟨ip_s_aload_n hx hb dX5_fluid_148 rfl rfl, ?_⟩
  refine List.forall_mem_cons.mpr ⟨ip_s_gI0 hx hb hts hin5 hown rfl (by decide) 4 (by decide) (hts (.fieldLink RX5 101 "IcePadsModel" "fluids" "I") (by decide +kernel)) (fun _ h9 => h9) hIs 50 rfl rfl dX5_fluid_149 rfl, ?_⟩
  refine List.forall_mem_cons.mpr ⟨ip_s_imul hx hb dX5_fluid_152 rfl, ?_⟩
  refine List.forall_mem_cons.mpr ⟨ip_s_iconst hx hb dX5_fluid_153 rfl rfl, ?_⟩
  refine List.forall_mem_cons.mpr ⟨ip_s_iadd hx hb dX5_fluid_154 rfl, ?_⟩
  refine List.forall_mem_cons.mpr ⟨ip_s_iload hx hb dX5_fluid_155 rfl, ?_⟩
  refine List.forall_mem_cons.mpr ⟨ip_s_sti hx hb hIn hIs dX5_fluid_157 rfl, ?_⟩
  refine List.forall_mem_cons.mpr ⟨ip_s_aload_n hx hb dX5_fluid_158 rfl rfl, ?_⟩
  refine List.forall_mem_cons.mpr ⟨ip_s_gR0 hx hb hts hin5 hown rfl (by decide) 6 (by decide) (hts (.fieldLink RX5 23 "IcePadsModel" "span" "[I") (by decide +kernel)) (fun _ h9 => h9) hIs 50 56 rfl (by decide) rfl dX5_fluid_159 rfl, ?_⟩
  refine List.forall_mem_cons.mpr ⟨ip_s_iconst hx hb dX5_fluid_162 rfl rfl, ?_⟩
  refine List.forall_mem_cons.mpr ⟨ip_s_aload_n hx hb dX5_fluid_163 rfl rfl, ?_⟩
  refine List.forall_mem_cons.mpr ⟨ip_s_gI0 hx hb hts hin5 hown rfl (by decide) 4 (by decide) (hts (.fieldLink RX5 101 "IcePadsModel" "fluids" "I") (by decide +kernel)) (fun _ h9 => h9) hIs 50 rfl rfl dX5_fluid_164 rfl, ?_⟩
  refine List.forall_mem_cons.mpr ⟨ip_s_imul hx hb dX5_fluid_167 rfl, ?_⟩
  refine List.forall_mem_cons.mpr ⟨ip_s_iconst hx hb dX5_fluid_168 rfl rfl, ?_⟩
  refine List.forall_mem_cons.mpr ⟨ip_s_iadd hx hb dX5_fluid_169 rfl, ?_⟩
  refine List.forall_mem_cons.mpr ⟨ip_s_iload hx hb dX5_fluid_170 rfl, ?_⟩
  refine List.forall_mem_cons.mpr ⟨ip_s_sti hx hb hIn hIs dX5_fluid_172 rfl, ?_⟩
  refine List.forall_mem_cons.mpr ⟨ip_s_aload_n hx hb dX5_fluid_173 rfl rfl, ?_⟩
  refine List.forall_mem_cons.mpr ⟨ip_s_gR0 hx hb hts hin5 hown rfl (by decide) 7 (by decide) (hts (.fieldLink RX5 26 "IcePadsModel" "times" "[I") (by decide +kernel)) (fun _ h9 => h9) hIs 50 57 rfl (by decide) rfl dX5_fluid_174 rfl, ?_⟩
  refine List.forall_mem_cons.mpr ⟨ip_s_aload_n hx hb dX5_fluid_177 rfl rfl, ?_⟩
  refine List.forall_mem_cons.mpr ⟨ip_s_gI0 hx hb hts hin5 hown rfl (by decide) 4 (by decide) (hts (.fieldLink RX5 101 "IcePadsModel" "fluids" "I") (by decide +kernel)) (fun _ h9 => h9) hIs 50 rfl rfl dX5_fluid_178 rfl, ?_⟩
  refine List.forall_mem_cons.mpr ⟨ip_s_iload hx hb dX5_fluid_181 rfl, ?_⟩
  refine List.forall_mem_cons.mpr ⟨ip_s_sti hx hb hIn hIs dX5_fluid_183 rfl, ?_⟩
  refine List.forall_mem_cons.mpr ⟨ip_s_aload_n hx hb dX5_fluid_184 rfl rfl, ?_⟩
  refine List.forall_mem_cons.mpr ⟨ip_s_gR0 hx hb hts hin5 hown rfl (by decide) 8 (by decide) (hts (.fieldLink RX5 29 "IcePadsModel" "parts" "[I") (by decide +kernel)) (fun _ h9 => h9) hIs 50 58 rfl (by decide) rfl dX5_fluid_185 rfl, ?_⟩
  refine List.forall_mem_cons.mpr ⟨ip_s_aload_n hx hb dX5_fluid_188 rfl rfl, ?_⟩
  refine List.forall_mem_cons.mpr ⟨ip_s_gI0 hx hb hts hin5 hown rfl (by decide) 4 (by decide) (hts (.fieldLink RX5 101 "IcePadsModel" "fluids" "I") (by decide +kernel)) (fun _ h9 => h9) hIs 50 rfl rfl dX5_fluid_189 rfl, ?_⟩
  refine List.forall_mem_cons.mpr ⟨ip_s_iload hx hb dX5_fluid_192 rfl, ?_⟩
  refine List.forall_mem_cons.mpr ⟨ip_s_sti hx hb hIn hIs dX5_fluid_194 rfl, ?_⟩
  refine List.forall_mem_cons.mpr ⟨ip_s_aload_n hx hb dX5_fluid_195 rfl rfl, ?_⟩
  refine List.forall_mem_cons.mpr ⟨ip_s_gR0 hx hb hts hin5 hown rfl (by decide) 9 (by decide) (hts (.fieldLink RX5 32 "IcePadsModel" "litres" "[I") (by decide +kernel)) (fun _ h9 => h9) hIs 50 59 rfl (by decide) rfl dX5_fluid_196 rfl, ?_⟩
  refine List.forall_mem_cons.mpr ⟨ip_s_aload_n hx hb dX5_fluid_199 rfl rfl, ?_⟩
  refine List.forall_mem_cons.mpr ⟨ip_s_gI0 hx hb hts hin5 hown rfl (by decide) 4 (by decide) (hts (.fieldLink RX5 101 "IcePadsModel" "fluids" "I") (by decide +kernel)) (fun _ h9 => h9) hIs 50 rfl rfl dX5_fluid_200 rfl, ?_⟩
  refine List.forall_mem_cons.mpr ⟨ip_s_iload hx hb dX5_fluid_203 rfl, ?_⟩
  refine List.forall_mem_cons.mpr ⟨ip_s_sti hx hb hIn hIs dX5_fluid_205 rfl, ?_⟩
  refine List.forall_mem_cons.mpr ⟨ip_s_aload_n hx hb dX5_fluid_206 rfl rfl, ?_⟩
  refine List.forall_mem_cons.mpr ⟨ip_s_dup hx hb dX5_fluid_207 rfl, ?_⟩
  refine List.forall_mem_cons.mpr ⟨ip_s_gI0 hx hb hts hin5 hown rfl (by decide) 4 (by decide) (hts (.fieldLink RX5 101 "IcePadsModel" "fluids" "I") (by decide +kernel)) (fun _ h9 => h9) hIs 50 rfl rfl dX5_fluid_208 rfl, ?_⟩
  refine List.forall_mem_cons.mpr ⟨ip_s_iconst hx hb dX5_fluid_211 rfl rfl, ?_⟩
  refine List.forall_mem_cons.mpr ⟨ip_s_iadd hx hb dX5_fluid_212 rfl, ?_⟩
  refine List.forall_mem_cons.mpr ⟨ip_s_pI0 hx hb hts hin5 hown rfl (by decide) 4 (by decide) (hts (.fieldLink RX5 101 "IcePadsModel" "fluids" "I") (by decide +kernel)) (fun _ h9 => h9) tyX5 tyX5_ok nmX5 hIn hIs 50 rfl rfl rfl (by decide +kernel) dX5_fluid_213 rfl, ?_⟩
  refine List.forall_mem_cons.mpr ⟨ip_s_aload_n hx hb dX5_fluid_216 rfl rfl, ?_⟩
  refine List.forall_mem_cons.mpr ⟨ip_s_gI0 hx hb hts hin5 hown rfl (by decide) 4 (by decide) (hts (.fieldLink RX5 101 "IcePadsModel" "fluids" "I") (by decide +kernel)) (fun _ h9 => h9) hIs 50 rfl rfl dX5_fluid_217 rfl, ?_⟩
  refine List.forall_mem_cons.mpr ⟨ip_s_iconst hx hb dX5_fluid_220 rfl rfl, ?_⟩
  refine List.forall_mem_cons.mpr ⟨ip_s_isub hx hb dX5_fluid_221 rfl, ?_⟩
  refine List.forall_mem_cons.mpr ⟨ip_s_iret hx hb hr hlocks (Nat.le_of_ble_eq_true rfl) (Nat.le_of_ble_eq_true rfl) dX5_fluid_222, ?_⟩
  exact fun _ h => absurd h List.not_mem_nil
abbrev iX5_fluid (M : ip_M) (a : Nat) (kd : Int32) (sa : Int32) (sb : Int32) (sc : Int32) (sd : Int32) (ti : Int32) (pa : Int32) (li : Int32) (S : ip_S) : Nat → ip_N := fun k pc loc st S1 => pc = 34 ∧ st = [.inl (if g_spans sa sb sc sd then 1 else 0)] ∧ S1 = S ∧ loc = [some (.inr (.inl (some a))), some (.inl kd), some (.inl sa), some (.inl sb), some (.inl sc), some (.inl sd), some (.inl ti), some (.inl pa), some (.inl li), none]
set_option maxRecDepth 100000 in
set_option maxHeartbeats 4000000 in
theorem lpX5_fluid (M : ip_M) (a : Nat) (kd : Int32) (sa : Int32) (sb : Int32) (sc : Int32) (sd : Int32) (ti : Int32) (pa : Int32) (li : Int32) (S : ip_S) (hS : ip_Sta S) (hp : a = 50 ∧ ip_eM M S ∧ ∃ nf nj np, ip_vv M nf nj np) : ∀ k pc loc st S1, iX5_fluid M a kd sa sb sc sd ti pa li S k pc loc st S1 → ip_run (pX5_fluid (postX5_fluid M [.inr (.inl (some a)), .inl kd, .inl sa, .inl sb, .inl sc, .inl sd, .inl ti, .inl pa, .inl li] S)) (fun pc => Nat.beq pc 34) (fun pc loc st S2 => ∃ k', k' < k ∧ iX5_fluid M a kd sa sb sc sd ti pa li S k' pc loc st S2) 150 pc loc st S1 := by
  obtain ⟨rfl, hE, nf, nj, np, hv⟩ := hp
  rintro k pc loc st S1 ⟨rfl, rfl, rfl, rfl⟩
  have e4 : S1.1 50 4 = M 50 4 := congrFun (hE 50 (by decide)) _
  refine And.intro trivial ?_
  rintro r S' ⟨rfl, rfl⟩
  refine And.intro (fun q1 => ?_) (fun q1 => ?_)
  · refine And.intro ?_ ?_ <;> unfold g_fluid <;> rw [if_neg (fun z => ip_if0 q1 z.1)]
    exact ip_EM.rf hE
  have q1 := ip_if1 q1
  refine And.intro (fun q2 => ?_) (fun q2 => ?_)
  · refine And.intro ?_ ?_ <;> unfold g_fluid <;> rw [if_neg (fun z => ip_if0 q2 z.2.1)]
    exact ip_EM.rf hE
  have q2 := ip_if1 q2
  have hnf := hv.1.1
  have hnf4 := hv.1.2.1
  have tail : M 50 4 ≠ 4 → ∀ U : ip_S, U.1 50 4 = nI nf → vp_in (U.1 50 4) 4 ∧ vp_in (4 * U.1 50 4) 16 ∧ vp_in (4 * U.1 50 4 + 1) 16 ∧ vp_in (4 * U.1 50 4 + 2) 16 ∧ vp_in (4 * U.1 50 4 + 3) 16 ∧ (U.1 50 4).toNatClampNeg = nf ∧ (4 * U.1 50 4).toNatClampNeg = 4 * nf ∧ (4 * U.1 50 4 + 1).toNatClampNeg = 4 * nf + 1 ∧ (4 * U.1 50 4 + 2).toNatClampNeg = 4 * nf + 2 ∧ (4 * U.1 50 4 + 3).toNatClampNeg = 4 * nf + 3 := by
    intro h4 U ea
    have hlt : nf < 4 := by
      rcases Nat.lt_or_ge nf 4 with h | h
      · exact h
      · have : nf = 4 := Nat.le_antisymm hnf4 h
        subst this
        exact absurd hnf h4
    have eb : (4 : Int32) * nI nf = nI (4 * nf) := pk_mul 4 nf
    have ec : nI (4 * nf) + 1 = nI (4 * nf + 1) := nI_1 _
    have ed : nI (4 * nf) + 2 = nI (4 * nf + 2) := nI_add _ 2
    have ee : nI (4 * nf) + 3 = nI (4 * nf + 3) := nI_add _ 3
    rw [ea, eb, ec, ed, ee]
    exact ⟨vp_in_nI (by omega) (by decide), vp_in_nI (by omega) (by decide), vp_in_nI (by omega) (by decide), vp_in_nI (by omega) (by decide), vp_in_nI (by omega) (by decide), nI_clamp (by omega), nI_clamp (by omega), nI_clamp (by omega), nI_clamp (by omega), nI_clamp (by omega)⟩
  refine And.intro (fun q3 => ?_) (fun q3 => ?_)
  · have hk0 : kd = 0 := (ip_k0 q1).mp q3
    refine And.intro (fun q4 => ?_) (fun q4 => ?_)
    · clear q3
      refine And.intro trivial ?_
      rintro r S' ⟨rfl, rfl⟩
      refine And.intro (fun q7 => ?_) (fun q7 => ?_)
      rotate_left
      · refine And.intro ?_ ?_ <;> unfold g_fluid <;> rw [if_neg (fun z => ip_if0 q7 z.2.2.2.2)]
        exact ip_EM.rf hE
      have q7 := ip_if1 q7
      have hall : (0 ≤ kd ∧ kd ≤ 2) ∧ g_spans sa sb sc sd ∧ (¬ kd = 0 → 1 ≤ ti ∧ ti ≤ 4) ∧ (kd = 2 → 1 ≤ pa ∧ pa ≤ 10) ∧ (0 ≤ li ∧ li ≤ 2000) := ⟨q1, q2, (fun z => absurd hk0 z), (fun z => absurd z q4), q7⟩
      refine And.intro (fun q8 => ?_) (fun q8 => ?_)
      rotate_left
      · rw [e4] at q8
        refine And.intro ?_ ?_ <;> unfold g_fluid <;> rw [if_pos hall, if_pos q8]
        exact ip_EM.rf hE
      have q8' := q8
      rw [e4] at q8'
      have t0 := ip_EM.rf hE
      have m0 := hnf
      have eU0 : S'.1 50 4 = nI nf := e4.trans hnf
      obtain ⟨i0, i1, i2, i3, i4, c0, c1, c2, c3, c4⟩ := tail q8' S' eU0
      refine And.intro i0 ?_
      rw [c0]
      have t1 := t0.u (p := 55) (by decide) nf kd
      have m1 := (ip_u_p (k := nf) (v := kd) (show 50 ≠ 55 by decide)).trans m0
      generalize ip_sI S' 55 nf kd = U1 at t1 ⊢
      have eU1 : U1.1 50 4 = nI nf := (congrFun (t1.1 50 (by decide)) 4).trans m1
      clear i0 i1 i2 i3 i4 c0 c1 c2 c3 c4
      obtain ⟨i0, i1, i2, i3, i4, c0, c1, c2, c3, c4⟩ := tail q8' U1 eU1
      refine And.intro i1 ?_
      rw [c1]
      have t2 := t1.u (p := 56) (by decide) (4 * nf) sa
      have m2 := (ip_u_p (k := (4 * nf)) (v := sa) (show 50 ≠ 56 by decide)).trans m1
      generalize ip_sI U1 56 (4 * nf) sa = U2 at t2 ⊢
      have eU2 : U2.1 50 4 = nI nf := (congrFun (t2.1 50 (by decide)) 4).trans m2
      clear i0 i1 i2 i3 i4 c0 c1 c2 c3 c4
      obtain ⟨i0, i1, i2, i3, i4, c0, c1, c2, c3, c4⟩ := tail q8' U2 eU2
      refine And.intro i2 ?_
      rw [c2]
      have t3 := t2.u (p := 56) (by decide) (4 * nf + 1) sb
      have m3 := (ip_u_p (k := (4 * nf + 1)) (v := sb) (show 50 ≠ 56 by decide)).trans m2
      generalize ip_sI U2 56 (4 * nf + 1) sb = U3 at t3 ⊢
      have eU3 : U3.1 50 4 = nI nf := (congrFun (t3.1 50 (by decide)) 4).trans m3
      clear i0 i1 i2 i3 i4 c0 c1 c2 c3 c4
      obtain ⟨i0, i1, i2, i3, i4, c0, c1, c2, c3, c4⟩ := tail q8' U3 eU3
      refine And.intro i3 ?_
      rw [c3]
      have t4 := t3.u (p := 56) (by decide) (4 * nf + 2) sc
      have m4 := (ip_u_p (k := (4 * nf + 2)) (v := sc) (show 50 ≠ 56 by decide)).trans m3
      generalize ip_sI U3 56 (4 * nf + 2) sc = U4 at t4 ⊢
      have eU4 : U4.1 50 4 = nI nf := (congrFun (t4.1 50 (by decide)) 4).trans m4
      clear i0 i1 i2 i3 i4 c0 c1 c2 c3 c4
      obtain ⟨i0, i1, i2, i3, i4, c0, c1, c2, c3, c4⟩ := tail q8' U4 eU4
      refine And.intro i4 ?_
      rw [c4]
      have t5 := t4.u (p := 56) (by decide) (4 * nf + 3) sd
      have m5 := (ip_u_p (k := (4 * nf + 3)) (v := sd) (show 50 ≠ 56 by decide)).trans m4
      generalize ip_sI U4 56 (4 * nf + 3) sd = U5 at t5 ⊢
      have eU5 : U5.1 50 4 = nI nf := (congrFun (t5.1 50 (by decide)) 4).trans m5
      clear i0 i1 i2 i3 i4 c0 c1 c2 c3 c4
      obtain ⟨i0, i1, i2, i3, i4, c0, c1, c2, c3, c4⟩ := tail q8' U5 eU5
      refine And.intro i0 ?_
      rw [c0]
      have t6 := t5.u (p := 57) (by decide) nf ti
      have m6 := (ip_u_p (k := nf) (v := ti) (show 50 ≠ 57 by decide)).trans m5
      generalize ip_sI U5 57 nf ti = U6 at t6 ⊢
      have eU6 : U6.1 50 4 = nI nf := (congrFun (t6.1 50 (by decide)) 4).trans m6
      clear i0 i1 i2 i3 i4 c0 c1 c2 c3 c4
      obtain ⟨i0, i1, i2, i3, i4, c0, c1, c2, c3, c4⟩ := tail q8' U6 eU6
      refine And.intro i0 ?_
      rw [c0]
      have t7 := t6.u (p := 58) (by decide) nf pa
      have m7 := (ip_u_p (k := nf) (v := pa) (show 50 ≠ 58 by decide)).trans m6
      generalize ip_sI U6 58 nf pa = U7 at t7 ⊢
      have eU7 : U7.1 50 4 = nI nf := (congrFun (t7.1 50 (by decide)) 4).trans m7
      clear i0 i1 i2 i3 i4 c0 c1 c2 c3 c4
      obtain ⟨i0, i1, i2, i3, i4, c0, c1, c2, c3, c4⟩ := tail q8' U7 eU7
      refine And.intro i0 ?_
      rw [c0]
      have t8 := t7.u (p := 59) (by decide) nf li
      have m8 := (ip_u_p (k := nf) (v := li) (show 50 ≠ 59 by decide)).trans m7
      generalize ip_sI U7 59 nf li = U8 at t8 ⊢
      have eU8 : U8.1 50 4 = nI nf := (congrFun (t8.1 50 (by decide)) 4).trans m8
      clear i0 i1 i2 i3 i4 c0 c1 c2 c3 c4
      refine And.intro ?_ ?_ <;> unfold g_fluid <;> rw [if_pos hall, if_neg q8']
      · show [Sum.inl (U8.1 50 4 + 1 - 1)] = [Sum.inl (M 50 4)]
        rw [eU8, hnf, nI_1, nI_pred]
      · show ip_EM (g_fluidM M (M 50 4).toNatClampNeg kd sa sb sc sd ti pa li) _ (ip_sI U8 50 4 (U8.1 50 4 + 1))
        unfold g_fluidM
        rw [eU8, hnf, nI_clamp (n := nf) (by omega)]
        exact t8.u (by decide) _ _
    · rw [hk0] at q4
      exact absurd q4 (by decide)
  · refine And.intro trivial ?_
    rintro r S' ⟨rfl, rfl⟩
    have hk1 : ¬ kd = 0 := fun z => q3 ((ip_k0 q1).mpr z)
    refine And.intro (fun q5 => ?_) (fun q5 => ?_)
    · refine And.intro ?_ ?_ <;> unfold g_fluid <;> rw [if_neg (fun z => ip_if0 q5 (z.2.2.1 hk1))]
      exact ip_EM.rf hE
    have q5 := ip_if1 q5
    refine And.intro (fun q4 => ?_) (fun q4 => ?_)
    · clear q3
      refine And.intro trivial ?_
      rintro r S' ⟨rfl, rfl⟩
      refine And.intro (fun q7 => ?_) (fun q7 => ?_)
      rotate_left
      · refine And.intro ?_ ?_ <;> unfold g_fluid <;> rw [if_neg (fun z => ip_if0 q7 z.2.2.2.2)]
        exact ip_EM.rf hE
      have q7 := ip_if1 q7
      have hall : (0 ≤ kd ∧ kd ≤ 2) ∧ g_spans sa sb sc sd ∧ (¬ kd = 0 → 1 ≤ ti ∧ ti ≤ 4) ∧ (kd = 2 → 1 ≤ pa ∧ pa ≤ 10) ∧ (0 ≤ li ∧ li ≤ 2000) := ⟨q1, q2, (fun _ => q5), (fun z => absurd z q4), q7⟩
      refine And.intro (fun q8 => ?_) (fun q8 => ?_)
      rotate_left
      · rw [e4] at q8
        refine And.intro ?_ ?_ <;> unfold g_fluid <;> rw [if_pos hall, if_pos q8]
        exact ip_EM.rf hE
      have q8' := q8
      rw [e4] at q8'
      have t0 := ip_EM.rf hE
      have m0 := hnf
      have eU0 : S'.1 50 4 = nI nf := e4.trans hnf
      obtain ⟨i0, i1, i2, i3, i4, c0, c1, c2, c3, c4⟩ := tail q8' S' eU0
      refine And.intro i0 ?_
      rw [c0]
      have t1 := t0.u (p := 55) (by decide) nf kd
      have m1 := (ip_u_p (k := nf) (v := kd) (show 50 ≠ 55 by decide)).trans m0
      generalize ip_sI S' 55 nf kd = U1 at t1 ⊢
      have eU1 : U1.1 50 4 = nI nf := (congrFun (t1.1 50 (by decide)) 4).trans m1
      clear i0 i1 i2 i3 i4 c0 c1 c2 c3 c4
      obtain ⟨i0, i1, i2, i3, i4, c0, c1, c2, c3, c4⟩ := tail q8' U1 eU1
      refine And.intro i1 ?_
      rw [c1]
      have t2 := t1.u (p := 56) (by decide) (4 * nf) sa
      have m2 := (ip_u_p (k := (4 * nf)) (v := sa) (show 50 ≠ 56 by decide)).trans m1
      generalize ip_sI U1 56 (4 * nf) sa = U2 at t2 ⊢
      have eU2 : U2.1 50 4 = nI nf := (congrFun (t2.1 50 (by decide)) 4).trans m2
      clear i0 i1 i2 i3 i4 c0 c1 c2 c3 c4
      obtain ⟨i0, i1, i2, i3, i4, c0, c1, c2, c3, c4⟩ := tail q8' U2 eU2
      refine And.intro i2 ?_
      rw [c2]
      have t3 := t2.u (p := 56) (by decide) (4 * nf + 1) sb
      have m3 := (ip_u_p (k := (4 * nf + 1)) (v := sb) (show 50 ≠ 56 by decide)).trans m2
      generalize ip_sI U2 56 (4 * nf + 1) sb = U3 at t3 ⊢
      have eU3 : U3.1 50 4 = nI nf := (congrFun (t3.1 50 (by decide)) 4).trans m3
      clear i0 i1 i2 i3 i4 c0 c1 c2 c3 c4
      obtain ⟨i0, i1, i2, i3, i4, c0, c1, c2, c3, c4⟩ := tail q8' U3 eU3
      refine And.intro i3 ?_
      rw [c3]
      have t4 := t3.u (p := 56) (by decide) (4 * nf + 2) sc
      have m4 := (ip_u_p (k := (4 * nf + 2)) (v := sc) (show 50 ≠ 56 by decide)).trans m3
      generalize ip_sI U3 56 (4 * nf + 2) sc = U4 at t4 ⊢
      have eU4 : U4.1 50 4 = nI nf := (congrFun (t4.1 50 (by decide)) 4).trans m4
      clear i0 i1 i2 i3 i4 c0 c1 c2 c3 c4
      obtain ⟨i0, i1, i2, i3, i4, c0, c1, c2, c3, c4⟩ := tail q8' U4 eU4
      refine And.intro i4 ?_
      rw [c4]
      have t5 := t4.u (p := 56) (by decide) (4 * nf + 3) sd
      have m5 := (ip_u_p (k := (4 * nf + 3)) (v := sd) (show 50 ≠ 56 by decide)).trans m4
      generalize ip_sI U4 56 (4 * nf + 3) sd = U5 at t5 ⊢
      have eU5 : U5.1 50 4 = nI nf := (congrFun (t5.1 50 (by decide)) 4).trans m5
      clear i0 i1 i2 i3 i4 c0 c1 c2 c3 c4
      obtain ⟨i0, i1, i2, i3, i4, c0, c1, c2, c3, c4⟩ := tail q8' U5 eU5
      refine And.intro i0 ?_
      rw [c0]
      have t6 := t5.u (p := 57) (by decide) nf ti
      have m6 := (ip_u_p (k := nf) (v := ti) (show 50 ≠ 57 by decide)).trans m5
      generalize ip_sI U5 57 nf ti = U6 at t6 ⊢
      have eU6 : U6.1 50 4 = nI nf := (congrFun (t6.1 50 (by decide)) 4).trans m6
      clear i0 i1 i2 i3 i4 c0 c1 c2 c3 c4
      obtain ⟨i0, i1, i2, i3, i4, c0, c1, c2, c3, c4⟩ := tail q8' U6 eU6
      refine And.intro i0 ?_
      rw [c0]
      have t7 := t6.u (p := 58) (by decide) nf pa
      have m7 := (ip_u_p (k := nf) (v := pa) (show 50 ≠ 58 by decide)).trans m6
      generalize ip_sI U6 58 nf pa = U7 at t7 ⊢
      have eU7 : U7.1 50 4 = nI nf := (congrFun (t7.1 50 (by decide)) 4).trans m7
      clear i0 i1 i2 i3 i4 c0 c1 c2 c3 c4
      obtain ⟨i0, i1, i2, i3, i4, c0, c1, c2, c3, c4⟩ := tail q8' U7 eU7
      refine And.intro i0 ?_
      rw [c0]
      have t8 := t7.u (p := 59) (by decide) nf li
      have m8 := (ip_u_p (k := nf) (v := li) (show 50 ≠ 59 by decide)).trans m7
      generalize ip_sI U7 59 nf li = U8 at t8 ⊢
      have eU8 : U8.1 50 4 = nI nf := (congrFun (t8.1 50 (by decide)) 4).trans m8
      clear i0 i1 i2 i3 i4 c0 c1 c2 c3 c4
      refine And.intro ?_ ?_ <;> unfold g_fluid <;> rw [if_pos hall, if_neg q8']
      · show [Sum.inl (U8.1 50 4 + 1 - 1)] = [Sum.inl (M 50 4)]
        rw [eU8, hnf, nI_1, nI_pred]
      · show ip_EM (g_fluidM M (M 50 4).toNatClampNeg kd sa sb sc sd ti pa li) _ (ip_sI U8 50 4 (U8.1 50 4 + 1))
        unfold g_fluidM
        rw [eU8, hnf, nI_clamp (n := nf) (by omega)]
        exact t8.u (by decide) _ _
    · refine And.intro trivial ?_
      rintro r S' ⟨rfl, rfl⟩
      refine And.intro (fun q6 => ?_) (fun q6 => ?_)
      · refine And.intro ?_ ?_ <;> unfold g_fluid <;> rw [if_neg (fun z => ip_if0 q6 (z.2.2.2.1 q4))]
        exact ip_EM.rf hE
      have q6 := ip_if1 q6
      refine And.intro trivial ?_
      rintro r S' ⟨rfl, rfl⟩
      refine And.intro (fun q7 => ?_) (fun q7 => ?_)
      rotate_left
      · refine And.intro ?_ ?_ <;> unfold g_fluid <;> rw [if_neg (fun z => ip_if0 q7 z.2.2.2.2)]
        exact ip_EM.rf hE
      have q7 := ip_if1 q7
      have hall : (0 ≤ kd ∧ kd ≤ 2) ∧ g_spans sa sb sc sd ∧ (¬ kd = 0 → 1 ≤ ti ∧ ti ≤ 4) ∧ (kd = 2 → 1 ≤ pa ∧ pa ≤ 10) ∧ (0 ≤ li ∧ li ≤ 2000) := ⟨q1, q2, (fun _ => q5), (fun _ => q6), q7⟩
      refine And.intro (fun q8 => ?_) (fun q8 => ?_)
      rotate_left
      · rw [e4] at q8
        refine And.intro ?_ ?_ <;> unfold g_fluid <;> rw [if_pos hall, if_pos q8]
        exact ip_EM.rf hE
      have q8' := q8
      rw [e4] at q8'
      have t0 := ip_EM.rf hE
      have m0 := hnf
      have eU0 : S'.1 50 4 = nI nf := e4.trans hnf
      obtain ⟨i0, i1, i2, i3, i4, c0, c1, c2, c3, c4⟩ := tail q8' S' eU0
      refine And.intro i0 ?_
      rw [c0]
      have t1 := t0.u (p := 55) (by decide) nf kd
      have m1 := (ip_u_p (k := nf) (v := kd) (show 50 ≠ 55 by decide)).trans m0
      generalize ip_sI S' 55 nf kd = U1 at t1 ⊢
      have eU1 : U1.1 50 4 = nI nf := (congrFun (t1.1 50 (by decide)) 4).trans m1
      clear i0 i1 i2 i3 i4 c0 c1 c2 c3 c4
      obtain ⟨i0, i1, i2, i3, i4, c0, c1, c2, c3, c4⟩ := tail q8' U1 eU1
      refine And.intro i1 ?_
      rw [c1]
      have t2 := t1.u (p := 56) (by decide) (4 * nf) sa
      have m2 := (ip_u_p (k := (4 * nf)) (v := sa) (show 50 ≠ 56 by decide)).trans m1
      generalize ip_sI U1 56 (4 * nf) sa = U2 at t2 ⊢
      have eU2 : U2.1 50 4 = nI nf := (congrFun (t2.1 50 (by decide)) 4).trans m2
      clear i0 i1 i2 i3 i4 c0 c1 c2 c3 c4
      obtain ⟨i0, i1, i2, i3, i4, c0, c1, c2, c3, c4⟩ := tail q8' U2 eU2
      refine And.intro i2 ?_
      rw [c2]
      have t3 := t2.u (p := 56) (by decide) (4 * nf + 1) sb
      have m3 := (ip_u_p (k := (4 * nf + 1)) (v := sb) (show 50 ≠ 56 by decide)).trans m2
      generalize ip_sI U2 56 (4 * nf + 1) sb = U3 at t3 ⊢
      have eU3 : U3.1 50 4 = nI nf := (congrFun (t3.1 50 (by decide)) 4).trans m3
      clear i0 i1 i2 i3 i4 c0 c1 c2 c3 c4
      obtain ⟨i0, i1, i2, i3, i4, c0, c1, c2, c3, c4⟩ := tail q8' U3 eU3
      refine And.intro i3 ?_
      rw [c3]
      have t4 := t3.u (p := 56) (by decide) (4 * nf + 2) sc
      have m4 := (ip_u_p (k := (4 * nf + 2)) (v := sc) (show 50 ≠ 56 by decide)).trans m3
      generalize ip_sI U3 56 (4 * nf + 2) sc = U4 at t4 ⊢
      have eU4 : U4.1 50 4 = nI nf := (congrFun (t4.1 50 (by decide)) 4).trans m4
      clear i0 i1 i2 i3 i4 c0 c1 c2 c3 c4
      obtain ⟨i0, i1, i2, i3, i4, c0, c1, c2, c3, c4⟩ := tail q8' U4 eU4
      refine And.intro i4 ?_
      rw [c4]
      have t5 := t4.u (p := 56) (by decide) (4 * nf + 3) sd
      have m5 := (ip_u_p (k := (4 * nf + 3)) (v := sd) (show 50 ≠ 56 by decide)).trans m4
      generalize ip_sI U4 56 (4 * nf + 3) sd = U5 at t5 ⊢
      have eU5 : U5.1 50 4 = nI nf := (congrFun (t5.1 50 (by decide)) 4).trans m5
      clear i0 i1 i2 i3 i4 c0 c1 c2 c3 c4
      obtain ⟨i0, i1, i2, i3, i4, c0, c1, c2, c3, c4⟩ := tail q8' U5 eU5
      refine And.intro i0 ?_
      rw [c0]
      have t6 := t5.u (p := 57) (by decide) nf ti
      have m6 := (ip_u_p (k := nf) (v := ti) (show 50 ≠ 57 by decide)).trans m5
      generalize ip_sI U5 57 nf ti = U6 at t6 ⊢
      have eU6 : U6.1 50 4 = nI nf := (congrFun (t6.1 50 (by decide)) 4).trans m6
      clear i0 i1 i2 i3 i4 c0 c1 c2 c3 c4
      obtain ⟨i0, i1, i2, i3, i4, c0, c1, c2, c3, c4⟩ := tail q8' U6 eU6
      refine And.intro i0 ?_
      rw [c0]
      have t7 := t6.u (p := 58) (by decide) nf pa
      have m7 := (ip_u_p (k := nf) (v := pa) (show 50 ≠ 58 by decide)).trans m6
      generalize ip_sI U6 58 nf pa = U7 at t7 ⊢
      have eU7 : U7.1 50 4 = nI nf := (congrFun (t7.1 50 (by decide)) 4).trans m7
      clear i0 i1 i2 i3 i4 c0 c1 c2 c3 c4
      obtain ⟨i0, i1, i2, i3, i4, c0, c1, c2, c3, c4⟩ := tail q8' U7 eU7
      refine And.intro i0 ?_
      rw [c0]
      have t8 := t7.u (p := 59) (by decide) nf li
      have m8 := (ip_u_p (k := nf) (v := li) (show 50 ≠ 59 by decide)).trans m7
      generalize ip_sI U7 59 nf li = U8 at t8 ⊢
      have eU8 : U8.1 50 4 = nI nf := (congrFun (t8.1 50 (by decide)) 4).trans m8
      clear i0 i1 i2 i3 i4 c0 c1 c2 c3 c4
      refine And.intro ?_ ?_ <;> unfold g_fluid <;> rw [if_pos hall, if_neg q8']
      · show [Sum.inl (U8.1 50 4 + 1 - 1)] = [Sum.inl (M 50 4)]
        rw [eU8, hnf, nI_1, nI_pred]
      · show ip_EM (g_fluidM M (M 50 4).toNatClampNeg kd sa sb sc sd ti pa li) _ (ip_sI U8 50 4 (U8.1 50 4 + 1))
        unfold g_fluidM
        rw [eU8, hnf, nI_clamp (n := nf) (by omega)]
        exact t8.u (by decide) _ _
set_option maxRecDepth 100000 in
set_option maxHeartbeats 4000000 in
theorem vX5_fluid (M : ip_M) (a : Nat) (kd : Int32) (sa : Int32) (sb : Int32) (sc : Int32) (sd : Int32) (ti : Int32) (pa : Int32) (li : Int32) (S : ip_S) (hS : ip_Sta S) (hp : a = 50 ∧ ip_eM M S ∧ ∃ nf nj np, ip_vv M nf nj np) : ip_run (pX5_fluid (postX5_fluid M [.inr (.inl (some a)), .inl kd, .inl sa, .inl sb, .inl sc, .inl sd, .inl ti, .inl pa, .inl li] S)) (fun pc => Nat.beq pc 34) (fun pc loc st S2 => ∃ k, iX5_fluid M a kd sa sb sc sd ti pa li S k pc loc st S2) 150 0 [some (.inr (.inl (some a))), some (.inl kd), some (.inl sa), some (.inl sb), some (.inl sc), some (.inl sd), some (.inl ti), some (.inl pa), some (.inl li), none] [] S := by
  obtain ⟨rfl, hE, nf, nj, np, hv⟩ := hp
  refine And.intro (fun h0 => ?_) (fun h0 => ?_)
  · refine Exists.intro 0 ⟨rfl, ?_, rfl, rfl⟩
    rw [if_neg (fun z => Int32.not_le.mpr h0 z.1)]
  refine And.intro (fun h1 => ?_) (fun h1 => ?_)
  · refine Exists.intro 0 ⟨rfl, ?_, rfl, rfl⟩
    rw [if_neg (fun z => Int32.not_le.mpr h1 z.2.1)]
  refine And.intro (fun h2 => ?_) (fun h2 => ?_)
  · refine Exists.intro 0 ⟨rfl, ?_, rfl, rfl⟩
    rw [if_neg (fun z => Int32.not_le.mpr h2 z.2.2.1)]
  refine And.intro (fun h3 => ?_) (fun h3 => ?_)
  · refine Exists.intro 0 ⟨rfl, ?_, rfl, rfl⟩
    rw [if_neg (fun z => Int32.not_le.mpr h3 z.2.2.2.1)]
  refine And.intro (fun h4 => ?_) (fun h4 => ?_)
  · refine Exists.intro 0 ⟨rfl, ?_, rfl, rfl⟩
    rw [if_neg (fun z => Int32.not_le.mpr h4 z.2.2.2.2)]
  refine Exists.intro 0 ⟨rfl, ?_, rfl, rfl⟩
  rw [if_pos ⟨Int32.not_lt.mp h0, Int32.not_lt.mp h1, Int32.not_lt.mp h2, Int32.not_lt.mp h3, Int32.not_lt.mp h4⟩]
theorem ctX5_fluid (l : Launch) (M : ip_M) : ip_CT l yX5_fluid wsX5_fluid rmX5_fluid ip_Sta (preX5_fluid M) (postX5_fluid M) := by
  refine ip_of (cc := cX5_fluid) (maxL := 10) (ret := (some .int)) (by decide +kernel) rfl (fun _ => (0, 0)) rfl ?_ ?_
  · intro as S h
    obtain ⟨a, kd, sa, sb, sc, sd, ti, pa, li, rfl, hq⟩ := ip_e_riiiiiiii h
    exact ⟨Nat.le_of_ble_eq_true rfl, by simp⟩
  intro p e s m args below meth c D cA A ad0 as S h hI hx hb hml hown hts hr hlocks hname hA hNx
  obtain ⟨a, kd, sa, sb, sc, sd, ti, pa, li, rfl, hq⟩ := ip_e_riiiiiiii h
  have ht := tX5_fluid (D := D) (cA := cA) (A := A) (ad0 := ad0) (l := l) (e := e) (below := below) (S0 := S) (po := postX5_fluid M [.inr (.inl (some a)), .inl kd, .inl sa, .inl sb, .inl sc, .inl sd, .inl ti, .inl pa, .inl li] S) hx hb hml hown hts hr hlocks hname hA hNx
  refine ip_run_ok ht (fun pc loc st S2 hh => ?_) 150 0 _ _ S (vX5_fluid M a kd sa sb sc sd ti pa li S hI hq)
  obtain ⟨k, hk⟩ := hh
  exact ip_loop ht (iX5_fluid M a kd sa sb sc sd ti pa li S) (lpX5_fluid M a kd sa sb sc sd ti pa li S hI hq) k pc loc st S2 hk
