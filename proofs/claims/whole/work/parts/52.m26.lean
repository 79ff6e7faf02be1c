theorem tk_in_s {left : Int32} {n : Nat} {s k v : Int32} (h : tk_in left (n + 1) s k = some v) : (left >>> (k &&& 31) &&& 1 = 0 → tk_in left n (s - (left >>> (k &&& 31) &&& 1)) (k + 1) = some v) ∧ (¬ left >>> (k &&& 31) &&& 1 = 0 → s ≤ 0 → k = v) ∧ (¬ s ≤ 0 → tk_in left n (s - (left >>> (k &&& 31) &&& 1)) (k + 1) = some v) := by
  unfold tk_in at h
  by_cases h1 : left >>> (k &&& 31) &&& 1 = 0
  · rw [if_pos h1] at h
    exact ⟨fun _ => h, fun z => absurd h1 z, fun _ => h⟩
  · rw [if_neg h1] at h
    refine ⟨fun z => absurd z h1, fun _ h2 => ?_, fun h2 => ?_⟩
    · rw [if_pos h2] at h
      exact Option.some.inj h
    · rw [if_neg h2] at h
      exact h
theorem tk_mI {m i : Nat} (h : i < m) (hm : m ≤ 5) : nI m - 1 - nI i = nI (m - 1 - i) := by
  have e : nI m - nI 1 = nI (m - 1) := pk_sub (by omega)
  have e1 : nI m - 1 = nI (m - 1) := e
  rw [e1, pk_sub (by omega)]
theorem g_fa_s {i : Nat} (h : 1 ≤ i) : g_fa (i - 1) * i = g_fa i := by
  cases i with
  | zero => omega
  | succ n =>
    show g_fa n * (n + 1) = (n + 1) * g_fa n
    exact Nat.mul_comm _ _
theorem g_fa_u {m i : Nat} (h2 : 2 ≤ i) (h : i ≤ m ∨ i = 2) (hm : m ≤ i) : g_fa (i - 1) = g_fa (m - 1) := by
  rcases h with h | h
  · rw [show i = m by omega]
  · subst h
    rcases (show m = 0 ∨ m = 1 ∨ m = 2 by omega) with rfl | rfl | rfl <;> rfl

def preX5_take (M : ip_M) : List ip_V → ip_S → Prop := ip_h_ri (fun _ => False) (fun a nu S => a = 50 ∧ ip_eM M S ∧ ∃ m n, M 50 28 = nI m ∧ m ≤ 5 ∧ nu = nI n ∧ n < g_fa m)
def postX5_take (M : ip_M) : List ip_V → ip_S → List ip_V → ip_S → Prop := ip_h_ri (fun _ _ _ => True) (fun a nu S r S' => r = [] ∧ ip_EM (g_row M (g_pm (M 50 28).toNatClampNeg nu.toNatClampNeg)) S S')
theorem shX5_take (M : ip_M) : ∀ as S, ip_Sta S → preX5_take M as S → ∃ (b : Nat) (as' : List ip_V), as = .inr (.inl (some b)) :: as' ∧ as'.length = 1 ∧ (S.2.2.2 b).1 = 5 := by
  intro as S hI h
  obtain ⟨a, nu, rfl, hq⟩ := ip_e_ri h
  exact ⟨_, _, rfl, rfl, by rw [hq.1, hI.1 50 (by decide)]; rfl⟩
def rmX5_take : Room := { frames := 1, cells := 0, slots := 0, locals := 40 }
def pX5_take (po : List ip_V → ip_S → Prop) : List (Nat × ip_T) := [(0, ip_t_il 1 1), (1, ip_t_is 2 2), (2, ip_t_ci 1 3), (3, ip_t_ar 0 4), (4, ip_t_gI0 50 28 7), (7, ip_t_ishl 8), (8, ip_t_ci 1 9), (9, ip_t_isub 10), (10, ip_t_is 3 11), (11, ip_t_ci 1 12), (12, ip_t_is 4 14), (14, ip_t_ci 2 15), (15, ip_t_is 5 17), (17, ip_t_il 5 19), (19, ip_t_ar 0 20), (20, ip_t_gI0 50 28 23), (23, ip_t_icge 39 26), (26, ip_t_il 4 28), (28, ip_t_il 5 30), (30, ip_t_imul 31), (31, ip_t_is 4 33), (33, ip_t_inc 5 1 36), (36, ip_t_go 17), (39, ip_t_ci 0 40), (40, ip_t_is 5 42), (42, ip_t_il 5 44), (44, ip_t_ar 0 45), (45, ip_t_gI0 50 28 48), (48, ip_t_icge 155 51), (51, ip_t_il 2 52), (52, ip_t_il 4 54), (54, ip_t_idiv 55), (55, ip_t_is 6 57), (57, ip_t_il 2 58), (58, ip_t_il 4 60), (60, ip_t_irem 61), (61, ip_t_is 2 62), (62, ip_t_ar 0 63), (63, ip_t_gI0 50 28 66), (66, ip_t_ci 1 67), (67, ip_t_isub 68), (68, ip_t_il 5 70), (70, ip_t_isub 71), (71, ip_t_ifle 89 74), (74, ip_t_il 4 76), (76, ip_t_ar 0 77), (77, ip_t_gI0 50 28 80), (80, ip_t_ci 1 81), (81, ip_t_isub 82), (82, ip_t_il 5 84), (84, ip_t_isub 85), (85, ip_t_idiv 86), (86, ip_t_go 90), (89, ip_t_ci 1 90), (90, ip_t_is 4 92), (92, ip_t_ci 0 93), (93, ip_t_is 7 95), (95, ip_t_il 3 96), (96, ip_t_il 7 98), (98, ip_t_ishr 99), (99, ip_t_ci 1 100), (100, ip_t_iand 101), (101, ip_t_ifeq 109 104), (104, ip_t_il 6 106), (106, ip_t_ifle 126 109), (109, ip_t_il 6 111), (111, ip_t_il 3 112), (112, ip_t_il 7 114), (114, ip_t_ishr 115), (115, ip_t_ci 1 116), (116, ip_t_iand 117), (117, ip_t_isub 118), (118, ip_t_is 6 120), (120, ip_t_inc 7 1 123), (123, ip_t_go 95), (126, ip_t_il 3 127), (127, ip_t_ci 1 128), (128, ip_t_il 7 130), (130, ip_t_ishl 131), (131, ip_t_ci (-1) 132), (132, ip_t_ixor 133), (133, ip_t_iand 134), (134, ip_t_is 3 135), (135, ip_t_ar 0 136), (136, ip_t_gR0 50 80 139), (139, ip_t_il 5 141), (141, ip_t_ar 0 142), (142, ip_t_gR0 50 79 145), (145, ip_t_il 7 147), (147, ip_t_ld 6 148), (148, ip_t_st 149), (149, ip_t_inc 5 1 152), (152, ip_t_go 42), (155, ip_t_vret po)]
set_option maxRecDepth 100000 in
set_option maxHeartbeats 4000000 in
theorem tX5_take {p : Program} {l : Launch} {e : Env} {s : State} {m : MethodId} {args : Array Value} {below : List Frame} {meth : Method} {c : Code} {D : va_G} {cA : Nat → ClassId} {A : Nat → Prop} {ad0 : Nat → Nat} {S0 : ip_S} {po : List ip_V → ip_S → Prop} (hx : p.tables.exec = Jvm.exec) (hb : c.code = cX5_take) (hml : c.maxLocals = 8) (hown : s.vm.findClass RX5 = some m.cls) (hts : ∀ w ∈ wsX5_take, w.before args s = true) (hr : meth.sig.returnType = none) (hlocks : meth.locks = false) (hname : meth.name = yX5_take.name) (hA : ∀ q, s.heap.size ≤ q → A q) (hNx : ip_Nx s) : ∀ q ∈ pX5_take po, ip_snd p l e rmX5_take s m args below meth c D cA A (MQ below (ip_Q ip_Sta D cA ad0 S0 A po) args s 0 0 A) 8 (fun _ => (0, 0)) ip_Sta ad0 S0 q.1 q.2 := by
  have hIs : ∀ S, ip_Sta S → ip_Sta S := fun _ h => h
  have hIn := ip_In_Sta
  have hS9 : CallFix p m c cX5_take 8 s args wsX5_take RX5 := ⟨hx, hb, hml, hown, hts⟩
  have hin5 : ∀ w ∈ u_ws RX5 TX5 32, w ∈ wsX5_take := by decide +kernel
  refine List.forall_mem_cons.mpr ⟨ip_s_iload_n hx hb dX5_take_0 rfl rfl, ?_⟩
  refine List.forall_mem_cons.mpr ⟨ip_s_istore_n hx hb dX5_take_1 rfl (by decide) rfl, ?_⟩
  refine List.forall_mem_cons.mpr ⟨ip_s_iconst hx hb dX5_take_2 rfl rfl, ?_⟩
  refine List.forall_mem_cons.mpr ⟨ip_s_aload_n hx hb dX5_take_3 rfl rfl, ?_⟩
  refine List.forall_mem_cons.mpr ⟨ip_s_gI0 hx hb hts hin5 hown rfl (by decide) 28 (by decide) (hts (.fieldLink RX5 145 "IcePadsModel" "many" "I") (by decide +kernel)) (fun _ h9 => h9) hIs 50 rfl rfl dX5_take_4 rfl, ?_⟩
  refine List.forall_mem_cons.mpr ⟨ip_s_ishl hx hb dX5_take_7 rfl, ?_⟩
  refine List.forall_mem_cons.mpr ⟨ip_s_iconst hx hb dX5_take_8 rfl rfl, ?_⟩
  refine List.forall_mem_cons.mpr ⟨ip_s_isub hx hb dX5_take_9 rfl, ?_⟩
  refine List.forall_mem_cons.mpr ⟨ip_s_istore_n hx hb dX5_take_10 rfl (by decide) rfl, ?_⟩
  refine List.forall_mem_cons.mpr ⟨ip_s_iconst hx hb dX5_take_11 rfl rfl, ?_⟩
  refine List.forall_mem_cons.mpr ⟨ip_s_istore hx hb dX5_take_12 (by decide) rfl, ?_⟩
  refine List.forall_mem_cons.mpr ⟨ip_s_iconst hx hb dX5_take_14 rfl rfl, ?_⟩
  refine List.forall_mem_cons.mpr ⟨ip_s_istore hx hb dX5_take_15 (by decide) rfl, ?_⟩
  refine List.forall_mem_cons.mpr ⟨ip_s_iload hx hb dX5_take_17 rfl, ?_⟩
  refine List.forall_mem_cons.mpr ⟨ip_s_aload_n hx hb dX5_take_19 rfl rfl, ?_⟩
  refine List.forall_mem_cons.mpr ⟨ip_s_gI0 hx hb hts hin5 hown rfl (by decide) 28 (by decide) (hts (.fieldLink RX5 145 "IcePadsModel" "many" "I") (by decide +kernel)) (fun _ h9 => h9) hIs 50 rfl rfl dX5_take_20 rfl, ?_⟩
  refine List.forall_mem_cons.mpr ⟨ip_s_icge (t := 39) hx hb dX5_take_23 (by decide) rfl rfl, ?_⟩
  refine List.forall_mem_cons.mpr ⟨ip_s_iload hx hb dX5_take_26 rfl, ?_⟩
  refine List.forall_mem_cons.mpr ⟨ip_s_iload hx hb dX5_take_28 rfl, ?_⟩
  refine List.forall_mem_cons.mpr ⟨ip_s_imul hx hb dX5_take_30 rfl, ?_⟩
  refine List.forall_mem_cons.mpr ⟨ip_s_istore hx hb dX5_take_31 (by decide) rfl, ?_⟩
  refine List.forall_mem_cons.mpr ⟨ip_s_iinc hx hb dX5_take_33 rfl (by decide) rfl, ?_⟩
  refine List.forall_mem_cons.mpr ⟨ip_s_go (t := 17) hx hb dX5_take_36 (by decide) (Nat.le_of_ble_eq_true rfl) (Nat.le_of_ble_eq_true rfl), ?_⟩
  refine List.forall_mem_cons.mpr ⟨ip_s_iconst hx hb dX5_take_39 rfl rfl, ?_⟩
  refine List.forall_mem_cons.mpr ⟨ip_s_istore hx hb dX5_take_40 (by decide) rfl, ?_⟩
  refine List.forall_mem_cons.mpr ⟨ip_s_iload hx hb dX5_take_42 rfl, ?_⟩
  refine List.forall_mem_cons.mpr ⟨ip_s_aload_n hx hb dX5_take_44 rfl rfl, ?_⟩
  refine List.forall_mem_cons.mpr ⟨ip_s_gI0 hx hb hts hin5 hown rfl (by decide) 28 (by decide) (hts (.fieldLink RX5 145 "IcePadsModel" "many" "I") (by decide +kernel)) (fun _ h9 => h9) hIs 50 rfl rfl dX5_take_45 rfl, ?_⟩
  refine List.forall_mem_cons.mpr ⟨ip_s_icge (t := 155) hx hb dX5_take_48 (by decide) rfl rfl, ?_⟩
  refine List.forall_mem_cons.mpr ⟨ip_s_iload_n hx hb dX5_take_51 rfl rfl, ?_⟩
  refine List.forall_mem_cons.mpr ⟨ip_s_iload hx hb dX5_take_52 rfl, ?_⟩
  refine List.forall_mem_cons.mpr ⟨ip_s_idiv hx hb dX5_take_54 rfl, ?_⟩
  refine List.forall_mem_cons.mpr ⟨ip_s_istore hx hb dX5_take_55 (by decide) rfl, ?_⟩
  refine List.forall_mem_cons.mpr ⟨ip_s_iload_n hx hb dX5_take_57 rfl rfl, ?_⟩
  refine List.forall_mem_cons.mpr ⟨ip_s_iload hx hb dX5_take_58 rfl, ?_⟩
  refine List.forall_mem_cons.mpr ⟨ip_s_irem hx hb dX5_take_60 rfl, ?_⟩
  refine List.forall_mem_cons.mpr ⟨ip_s_istore_n hx hb dX5_take_61 rfl (by decide) rfl, ?_⟩
  refine List.forall_mem_cons.mpr ⟨ip_s_aload_n hx hb dX5_take_62 rfl rfl, ?_⟩
  refine List.forall_mem_cons.mpr ⟨ip_s_gI0 hx hb hts hin5 hown rfl (by decide) 28 (by decide) (hts (.fieldLink RX5 145 "IcePadsModel" "many" "I") (by decide +kernel)) (fun _ h9 => h9) hIs 50 rfl rfl dX5_take_63 rfl, ?_⟩
  refine List.forall_mem_cons.mpr ⟨ip_s_iconst hx hb dX5_take_66 rfl rfl, ?_⟩
  refine List.forall_mem_cons.mpr ⟨ip_s_isub hx hb dX5_take_67 rfl, ?_⟩
  refine List.forall_mem_cons.mpr ⟨ip_s_iload hx hb dX5_take_68 rfl, ?_⟩
  refine List.forall_mem_cons.mpr ⟨ip_s_isub hx hb dX5_take_70 rfl, ?_⟩
  refine List.forall_mem_cons.mpr ⟨ip_s_ifle (t := 89) hx hb dX5_take_71 (by decide) rfl rfl, ?_⟩
  refine List.forall_mem_cons.mpr ⟨ip_s_iload hx hb dX5_take_74 rfl, ?_⟩
  refine List.forall_mem_cons.mpr ⟨ip_s_aload_n hx hb dX5_take_76 rfl rfl, ?_⟩
  refine List.forall_mem_cons.mpr ⟨ip_s_gI0 hx hb hts hin5 hown rfl (by decide) 28 (by decide) (hts (.fieldLink RX5 145 "IcePadsModel" "many" "I") (by decide +kernel)) (fun _ h9 => h9) hIs 50 rfl rfl dX5_take_77 rfl, ?_⟩
  refine List.forall_mem_cons.mpr ⟨ip_s_iconst hx hb dX5_take_80 rfl rfl, ?_⟩
  refine List.forall_mem_cons.mpr ⟨ip_s_isub hx hb dX5_take_81 rfl, ?_⟩
  refine List.forall_mem_cons.mpr ⟨ip_s_iload hx hb dX5_take_82 rfl, ?_⟩
  refine List.forall_mem_cons.mpr ⟨ip_s_isub hx hb dX5_take_84 rfl, ?_⟩
  refine List.forall_mem_cons.mpr ⟨ip_s_idiv hx hb dX5_take_85 rfl, ?_⟩
  refine List.forall_mem_cons.mpr ⟨ip_s_go (t := 90) hx hb dX5_take_86 (by decide) (Nat.le_of_ble_eq_true rfl) (Nat.le_of_ble_eq_true rfl), ?_⟩
  refine List.forall_mem_cons.mpr ⟨ip_s_iconst hx hb dX5_take_89 rfl rfl, ?_⟩
  refine List.forall_mem_cons.mpr ⟨ip_s_istore hx hb dX5_take_90 (by decide) rfl, ?_⟩
  refine List.forall_mem_cons.mpr ⟨ip_s_iconst hx hb dX5_take_92 rfl rfl, ?_⟩
  refine List.forall_mem_cons.mpr ⟨ip_s_istore hx hb dX5_take_93 (by decide) rfl, ?_⟩
  refine List.forall_mem_cons.mpr ⟨ip_s_iload_n hx hb dX5_take_95 rfl rfl, ?_⟩
  refine List.forall_mem_cons.mpr ⟨ip_s_iload hx hb dX5_take_96 rfl, ?_⟩
  refine List.forall_mem_cons.mpr ⟨ip_s_ishr hx hb dX5_take_98 rfl, ?_⟩
  refine List.forall_mem_cons.mpr ⟨ip_s_iconst hx hb dX5_take_99 rfl rfl, ?_⟩
  refine List.forall_mem_cons.mpr ⟨ip_s_iand hx hb dX5_take_100 rfl, ?_⟩
  refine List.forall_mem_cons.mpr ⟨ip_s_ifeq (t := 109) hx hb dX5_take_101 (by decide) rfl rfl, ?_⟩
  refine List.forall_mem_cons.mpr ⟨ip_s_iload hx hb dX5_take_104 rfl, ?_⟩
  refine List.forall_mem_cons.mpr ⟨ip_s_ifle (t := 126) hx hb dX5_take_106 (by decide) rfl rfl, ?_⟩
  refine List.forall_mem_cons.mpr ⟨ip_s_iload hx hb dX5_take_109 rfl, ?_⟩
  refine List.forall_mem_cons.mpr ⟨ip_s_iload_n hx hb dX5_take_111 rfl rfl, ?_⟩
  refine List.forall_mem_cons.mpr ⟨ip_s_iload hx hb dX5_take_112 rfl, ?_⟩
  refine List.forall_mem_cons.mpr ⟨ip_s_ishr hx hb dX5_take_114 rfl, ?_⟩
  refine List.forall_mem_cons.mpr ⟨ip_s_iconst hx hb dX5_take_115 rfl rfl, ?_⟩
  refine List.forall_mem_cons.mpr ⟨ip_s_iand hx hb dX5_take_116 rfl, ?_⟩
  refine List.forall_mem_cons.mpr ⟨ip_s_isub hx hb dX5_take_117 rfl, ?_⟩
  refine List.forall_mem_cons.mpr ⟨ip_s_istore hx hb dX5_take_118 (by decide) rfl, ?_⟩
  refine List.forall_mem_cons.mpr ⟨ip_s_iinc hx hb dX5_take_120 rfl (by decide) rfl, ?_⟩
  refine List.forall_mem_cons.mpr ⟨ip_s_go (t := 95) hx hb dX5_take_123 (by decide) (Nat.le_of_ble_eq_true rfl) (Nat.le_of_ble_eq_true rfl), ?_⟩
  refine List.forall_mem_cons.mpr ⟨ip_s_iload_n hx hb dX5_take_126 rfl rfl, ?_⟩
  refine List.forall_mem_cons.mpr ⟨ip_s_iconst hx hb dX5_take_127 rfl rfl, ?_⟩
  refine List.forall_mem_cons.mpr ⟨ip_s_iload hx hb dX5_take_128 rfl, ?_⟩
  refine List.forall_mem_cons.mpr ⟨ip_s_ishl hx hb dX5_take_130 rfl, ?_⟩
  refine List.forall_mem_cons.mpr ⟨ip_s_iconst hx hb dX5_take_131 rfl rfl, ?_⟩
  refine List.forall_mem_cons.mpr ⟨ip_s_ixor hx hb dX5_take_132 rfl, ?_⟩
  refine List.forall_mem_cons.mpr ⟨ip_s_iand hx hb dX5_take_133 rfl, ?_⟩
  refine List.forall_mem_cons.mpr ⟨ip_s_istore_n hx hb dX5_take_134 rfl (by decide) rfl, ?_⟩
  refine List.forall_mem_cons.mpr ⟨ip_s_aload_n hx hb dX5_take_135 rfl rfl, ?_⟩
  refine List.forall_mem_cons.mpr ⟨ip_s_gR0 hx hb hts hin5 hown rfl (by decide) 30 (by decide) (hts (.fieldLink RX5 81 "IcePadsModel" "row" "[I") (by decide +kernel)) (fun _ h9 => h9) hIs 50 80 rfl (by decide) rfl dX5_take_136 rfl, ?_⟩
  refine List.forall_mem_cons.mpr ⟨ip_s_iload hx hb dX5_take_139 rfl, ?_⟩
  refine List.forall_mem_cons.mpr ⟨ip_s_aload_n hx hb dX5_take_141 rfl rfl, ?_⟩
  refine List.forall_mem_cons.mpr ⟨ip_s_gR0 hx hb hts hin5 hown rfl (by decide) 29 (by decide) (hts (.fieldLink RX5 78 "IcePadsModel" "waiting" "[I") (by decide +kernel)) (fun _ h9 => h9) hIs 50 79 rfl (by decide) rfl dX5_take_142 rfl, ?_⟩
  refine List.forall_mem_cons.mpr ⟨ip_s_iload hx hb dX5_take_145 rfl, ?_⟩
  refine List.forall_mem_cons.mpr ⟨ip_s_ldi hx hb hIs dX5_take_147 rfl, ?_⟩
  refine List.forall_mem_cons.mpr ⟨ip_s_sti hx hb hIn hIs dX5_take_148 rfl, ?_⟩
  refine List.forall_mem_cons.mpr ⟨ip_s_iinc hx hb dX5_take_149 rfl (by decide) rfl, ?_⟩
  refine List.forall_mem_cons.mpr ⟨ip_s_go (t := 42) hx hb dX5_take_152 (by decide) (Nat.le_of_ble_eq_true rfl) (Nat.le_of_ble_eq_true rfl), ?_⟩
  refine List.forall_mem_cons.mpr ⟨ip_s_vret hx hb hr hlocks (Nat.le_of_ble_eq_true rfl) (Nat.le_of_ble_eq_true rfl) dX5_take_155, ?_⟩
  exact fun _ h => absurd h List.not_mem_nil
abbrev iX5_take (M : ip_M) (a : Nat) (nu : Int32) (S : ip_S) : Nat → ip_N := fun k pc loc st S1 => ∃ (m n : Nat) (x2 x3 x4 x5 : Int32), M 50 28 = nI m ∧ m ≤ 5 ∧ nu = nI n ∧ n < g_fa m ∧ st = [] ∧ ((pc = 17 ∧ loc = [some (.inr (.inl (some a))), some (.inl nu), some (.inl x2), some (.inl x3), some (.inl x4), some (.inl x5), none, none] ∧ x2 = nI n ∧ x3 = 1 <<< (nI m &&& 31) - 1 ∧ S1 = S ∧ ∃ i, 2 ≤ i ∧ (i ≤ m ∨ i = 2) ∧ x5 = nI i ∧ x4 = nI (g_fa (i - 1)) ∧ k + i = 2000) ∨ (pc = 42 ∧ ∃ (i : Nat) (y6 y7 : Option ip_V), loc = [some (.inr (.inl (some a))), some (.inl nu), some (.inl x2), some (.inl x3), some (.inl x4), some (.inl x5), y6, y7] ∧ x5 = nI i ∧ i ≤ m ∧ tk_run m (m - i) (nI i) x2 x3 x4 = ((g_pm m n).drop i).map (fun x => some (nI x)) ∧ ip_EM (g_row M ((g_pm m n).take i)) S S1 ∧ k + 100 * i = 1000) ∨ (pc = 95 ∧ ∃ (i f : Nat) (x6 x7 : Int32), loc = [some (.inr (.inl (some a))), some (.inl nu), some (.inl x2), some (.inl x3), some (.inl x4), some (.inl x5), some (.inl x6), some (.inl x7)] ∧ x5 = nI i ∧ i < m ∧ f ≤ 8 ∧ tk_in x3 f x6 x7 = some (nI ((g_pm m n).getD i 0)) ∧ tk_run m (m - (i + 1)) (nI (i + 1)) x2 (x3 &&& (1 <<< (nI ((g_pm m n).getD i 0) &&& 31) ^^^ (-1))) x4 = ((g_pm m n).drop (i + 1)).map (fun x => some (nI x)) ∧ ip_EM (g_row M ((g_pm m n).take i)) S S1 ∧ k + 100 * i + 20 = 1000 + f))
set_option maxRecDepth 100000 in
set_option maxHeartbeats 4000000 in
theorem lpX5_take (M : ip_M) (a : Nat) (nu : Int32) (S : ip_S) (hS : ip_Sta S) (hp : a = 50 ∧ ip_eM M S ∧ ∃ m n, M 50 28 = nI m ∧ m ≤ 5 ∧ nu = nI n ∧ n < g_fa m) : ∀ k pc loc st S1, iX5_take M a nu S k pc loc st S1 → ip_run (pX5_take (postX5_take M [.inr (.inl (some a)), .inl nu] S)) (fun pc => Nat.beq pc 17 || Nat.beq pc 42 || Nat.beq pc 95) (fun pc loc st S2 => ∃ k', k' < k ∧ iX5_take M a nu S k' pc loc st S2) 120 pc loc st S1 := by
  obtain ⟨rfl, hE, -⟩ := hp
  rintro k pc loc st S1 ⟨m, n, x2, x3, x4, x5, hm, hm5, rfl, hn, rfl, ⟨rfl, rfl, rfl, rfl, rfl, i, hi2, him, rfl, rfl, hk⟩ | ⟨rfl, i, y6, y7, rfl, rfl, him, htk, hT, hk⟩ | ⟨rfl, i, f, x6, x7, rfl, rfl, hi, hf, hin3, htl, hT, hk⟩⟩
  · have e28 : S1.1 50 28 = nI m := (congrFun (hE 50 (by decide)) 28).trans hm
    refine And.intro (fun q => ?_) (fun q => ?_)
    · rw [e28, nI_leI (by omega) (by omega)] at q
      refine Exists.intro 1000 (And.intro (by omega) ⟨m, n, _, _, _, _, hm, hm5, rfl, hn, rfl, Or.inr (Or.inl ⟨rfl, 0, _, _, rfl, rfl, Nat.zero_le _, ?_, ?_, rfl⟩)⟩)
      · rw [g_fa_u hi2 him q]
        exact tk_row (by omega) hn
      · have e0 : g_row M ((g_pm m n).take 0) = M := by
          funext q j
          exact if_neg (fun z => absurd z.2 (Nat.not_lt_zero _))
        rw [e0]
        exact ip_EM.rf hE
    · rw [e28, nI_leI (by omega) (by omega)] at q
      refine Exists.intro (k - 1) (And.intro (by omega) ⟨m, n, _, _, _, _, hm, hm5, rfl, hn, rfl, Or.inl ⟨rfl, rfl, rfl, rfl, rfl, i + 1, by omega, Or.inl (by omega), nI_1 i, ?_, by omega⟩⟩)
      rw [pk_mul, g_fa_s (by omega)]
      rfl
  · have e28 : S1.1 50 28 = nI m := by
      rw [congrFun (hT.1 50 (by decide)) 28, g_row_p (by decide)]
      exact hm
    obtain ⟨pl, pe⟩ := g_pm_ok (by omega) hn
    refine And.intro (fun q => ?_) (fun q => ?_)
    · rw [e28, nI_leI (by omega) (by omega)] at q
      have hi : i = m := Nat.le_antisymm him q
      subst hi
      refine And.intro rfl ?_
      rw [hm, nI_clamp (by omega), nI_clamp (Nat.lt_of_lt_of_le hn (Nat.le_trans (g_fa_5 i (by omega)) (by decide)))]
      rw [List.take_of_length_le (by omega)] at hT
      exact hT
    · rw [e28, nI_leI (by omega) (by omega)] at q
      have hi : i < m := Nat.lt_of_not_le q
      rw [show m - i = (m - (i + 1)) + 1 by omega] at htk
      obtain ⟨hb, h1, h2⟩ := tk_step (by rw [pl]; exact hi) htk
      rw [nI_1] at h2
      refine And.intro hb (And.intro hb ?_)
      have hmi := tk_mI hi hm5
      refine And.intro (fun q3 => ?_) (fun q3 => ?_)
      · rw [e28] at q3
        have hby : tk_by m (nI i) x4 = 1 := if_pos q3
        rw [hby] at h2
        exact Exists.intro (k - 12) (And.intro (by omega) ⟨m, n, _, _, _, _, hm, hm5, rfl, hn, rfl, Or.inr (Or.inr ⟨rfl, i, 8, _, _, rfl, rfl, hi, by omega, h1, h2, hT, by omega⟩)⟩)
      · rw [e28] at q3
        have hby : tk_by m (nI i) x4 = x4 / (nI m - 1 - nI i) := if_neg q3
        rw [hby] at h2
        refine And.intro (fun z => q3 (by rw [e28] at z; rw [z]; decide)) ?_
        exact Exists.intro (k - 12) (And.intro (by omega) ⟨m, n, _, _, _, _, hm, hm5, rfl, hn, rfl, Or.inr (Or.inr ⟨rfl, i, 8, _, _, rfl, rfl, hi, by omega, h1, by rw [e28]; exact h2, hT, by omega⟩)⟩)
  · obtain ⟨pl, pe⟩ := g_pm_ok (by omega) hn
    cases f with
    | zero => cases hin3
    | succ f =>
      obtain ⟨t1, t2, t3⟩ := tk_in_s hin3
      refine And.intro (fun q => ?_) (fun q => ?_)
      · exact Exists.intro (k - 1) (And.intro (by omega) ⟨m, n, _, _, _, _, hm, hm5, rfl, hn, rfl, Or.inr (Or.inr ⟨rfl, i, f, _, _, rfl, rfl, hi, by omega, t1 q, htl, hT, by omega⟩)⟩)
      · refine And.intro (fun q2 => ?_) (fun q2 => ?_)
        · have hv := t2 q q2
          subst hv
          have hp5 : (g_pm m n).getD i 0 < 5 := Nat.lt_of_lt_of_le (pe _ (ip_getD_mem (by rw [pl]; exact hi))) hm5
          obtain ⟨in1, c1⟩ := ip_inN (N := 5) hp5 (by decide) (by decide)
          obtain ⟨in2, c2⟩ := ip_inN (i := i) (n := 5) (N := 5) (by omega) (by decide) (by decide)
          refine And.intro in1 (And.intro in2 ?_)
          rw [c1, c2]
          have e79 : S1.1 79 ((g_pm m n).getD i 0) = M 79 ((g_pm m n).getD i 0) := by
            rw [congrFun (hT.1 79 (by decide)) _, g_row_p (by decide)]
          rw [e79]
          refine Exists.intro (1000 - 100 * (i + 1)) (And.intro (by omega) ⟨m, n, _, _, _, _, hm, hm5, rfl, hn, rfl, Or.inr (Or.inl ⟨rfl, i + 1, _, _, rfl, nI_1 i, by omega, htl, ?_, by omega⟩)⟩)
          rw [← g_row_s (by rw [pl]; exact hi)]
          exact hT.u (by decide) _ _
        · exact Exists.intro (k - 1) (And.intro (by omega) ⟨m, n, _, _, _, _, hm, hm5, rfl, hn, rfl, Or.inr (Or.inr ⟨rfl, i, f, _, _, rfl, rfl, hi, by omega, t3 q2, htl, hT, by omega⟩)⟩)
set_option maxRecDepth 100000 in
set_option maxHeartbeats 4000000 in
theorem vX5_take (M : ip_M) (a : Nat) (nu : Int32) (S : ip_S) (hS : ip_Sta S) (hp : a = 50 ∧ ip_eM M S ∧ ∃ m n, M 50 28 = nI m ∧ m ≤ 5 ∧ nu = nI n ∧ n < g_fa m) : ip_run (pX5_take (postX5_take M [.inr (.inl (some a)), .inl nu] S)) (fun pc => Nat.beq pc 17 || Nat.beq pc 42 || Nat.beq pc 95) (fun pc loc st S2 => ∃ k, iX5_take M a nu S k pc loc st S2) 120 0 [some (.inr (.inl (some a))), some (.inl nu), none, none, none, none, none, none] [] S := by
  obtain ⟨rfl, hE, m, n, hm, hm5, rfl, hn⟩ := hp
  have e28 : S.1 50 28 = nI m := (congrFun (hE 50 (by decide)) 28).trans hm
  refine Exists.intro 1998 ⟨m, n, _, _, _, _, hm, hm5, rfl, hn, rfl, Or.inl ⟨rfl, rfl, rfl, ?_, rfl, 2, by omega, Or.inr rfl, rfl, rfl, rfl⟩⟩
  rw [e28]
theorem ctX5_take (l : Launch) (M : ip_M) : ip_CT l yX5_take wsX5_take rmX5_take ip_Sta (preX5_take M) (postX5_take M) := by
  refine ip_of (cc := cX5_take) (maxL := 8) (ret := none) (by decide +kernel) rfl (fun _ => (0, 0)) rfl ?_ ?_
  · intro as S h
    obtain ⟨a, nu, rfl, hq⟩ := ip_e_ri h
    exact ⟨Nat.le_of_ble_eq_true rfl, by simp⟩
  intro p e s m args below meth c D cA A ad0 as S h hI hx hb hml hown hts hr hlocks hname hA hNx
  obtain ⟨a, nu, rfl, hq⟩ := ip_e_ri h
  have ht := tX5_take (D := D) (cA := cA) (A := A) (ad0 := ad0) (l := l) (e := e) (below := below) (S0 := S) (po := postX5_take M [.inr (.inl (some a)), .inl nu] S) hx hb hml hown hts hr hlocks hname hA hNx
  refine ip_run_ok ht (fun pc loc st S2 hh => ?_) 120 0 _ _ S (vX5_take M a nu S hI hq)
  obtain ⟨k, hk⟩ := hh
  exact ip_loop ht (iX5_take M a nu S) (lpX5_take M a nu S hI hq) k pc loc st S2 hk

def preX5_lates (M : ip_M × List Nat) : List ip_V → ip_S → Prop := ip_h_r (fun _ => False) (fun a S => a = 50 ∧ ip_eM M.1 S ∧ M.1 50 28 = nI M.2.length ∧ M.2.length ≤ 5 ∧ ∀ i, i < M.2.length → M.2.getD i 0 < 12 ∧ M.1 80 i = nI (M.2.getD i 0))
def postX5_lates (M : ip_M × List Nat) : List ip_V → ip_S → List ip_V → ip_S → Prop := ip_h_r (fun _ _ _ => True) (fun a S r S' => r = [.inl (M.2.foldl (fun a j => g_stp M.1 j a) (M.1 50 0, 0)).2] ∧ S' = S)
theorem shX5_lates (M : ip_M × List Nat) : ∀ as S, ip_Sta S → preX5_lates M as S → ∃ (b : Nat) (as' : List ip_V), as = .inr (.inl (some b)) :: as' ∧ as'.length = 0 ∧ (S.2.2.2 b).1 = 5 := by
  intro as S hI h
  obtain ⟨a, rfl, hq⟩ := ip_e_r h
  exact ⟨_, _, rfl, rfl, by rw [hq.1, hI.1 50 (by decide)]; rfl⟩
def rmX5_lates : Room := { frames := 1, cells := 0, slots := 0, locals := 40 }
def pX5_lates (po : List ip_V → ip_S → Prop) : List (Nat × ip_T) := [(0, ip_t_ci 0 1), (1, ip_t_is 1 2), (2, ip_t_ar 0 3), (3, ip_t_gI0 50 0 6), (6, ip_t_is 2 7), (7, ip_t_ci 0 8), (8, ip_t_is 3 9), (9, ip_t_il 3 10), (10, ip_t_ar 0 11), (11, ip_t_gI0 50 28 14), (14, ip_t_icge 81 17), (17, ip_t_ar 0 18), (18, ip_t_gR0 50 80 21), (21, ip_t_il 3 22), (22, ip_t_ld 6 23), (23, ip_t_is 4 25), (25, ip_t_ar 0 26), (26, ip_t_gR0 50 68 29), (29, ip_t_il 4 31), (31, ip_t_ld 6 32), (32, ip_t_il 2 33), (33, ip_t_icle 46 36), (36, ip_t_ar 0 37), (37, ip_t_gR0 50 68 40), (40, ip_t_il 4 42), (42, ip_t_ld 6 43), (43, ip_t_go 47), (46, ip_t_il 2 47), (47, ip_t_is 5 49), (49, ip_t_il 1 50), (50, ip_t_il 5 52), (52, ip_t_ar 0 53), (53, ip_t_gR0 50 67 56), (56, ip_t_il 4 58), (58, ip_t_ld 6 59), (59, ip_t_isub 60), (60, ip_t_iadd 61), (61, ip_t_is 1 62), (62, ip_t_il 5 64), (64, ip_t_ci 2 65), (65, ip_t_ar 0 66), (66, ip_t_gR0 50 66 69), (69, ip_t_il 4 71), (71, ip_t_ld 6 72), (72, ip_t_imul 73), (73, ip_t_iadd 74), (74, ip_t_is 2 75), (75, ip_t_inc 3 1 78), (78, ip_t_go 9), (81, ip_t_il 1 82), (82, ip_t_iret po)]
set_option maxRecDepth 100000 in
set_option maxHeartbeats 4000000 in
theorem tX5_lates {p : Program} {l : Launch} {e : Env} {s : State} {m : MethodId} {args : Array Value} {below : List Frame} {meth : Method} {c : Code} {D : va_G} {cA : Nat → ClassId} {A : Nat → Prop} {ad0 : Nat → Nat} {S0 : ip_S} {po : List ip_V → ip_S → Prop} (hx : p.tables.exec = Jvm.exec) (hb : c.code = cX5_lates) (hml : c.maxLocals = 6) (hown : s.vm.findClass RX5 = some m.cls) (hts : ∀ w ∈ wsX5_lates, w.before args s = true) (hr : meth.sig.returnType = (some .int)) (hlocks : meth.locks = false) (hname : meth.name = yX5_lates.name) (hA : ∀ q, s.heap.size ≤ q → A q) (hNx : ip_Nx s) : ∀ q ∈ pX5_lates po, ip_snd p l e rmX5_lates s m args below meth c D cA A (MQ below (ip_Q ip_Sta D cA ad0 S0 A po) args s 0 0 A) 6 (fun _ => (0, 0)) ip_Sta ad0 S0 q.1 q.2 := by
  have hIs : ∀ S, ip_Sta S → ip_Sta S := fun _ h => h
  have hIn := ip_In_Sta
  have hS9 : CallFix p m c cX5_lates 6 s args wsX5_lates RX5 := ⟨hx, hb, hml, hown, hts⟩
  have hin5 : ∀ w ∈ u_ws RX5 TX5 32, w ∈ wsX5_lates := by decide +kernel
  refine List.forall_mem_cons.mpr ⟨ip_s_iconst hx hb dX5_lates_0 rfl rfl, ?_⟩
  refine List.forall_mem_cons.mpr ⟨ip_s_istore_n hx hb dX5_lates_1 rfl (by decide) rfl, ?_⟩
  refine List.forall_mem_cons.mpr ⟨ip_s_aload_n hx hb dX5_lates_2 rfl rfl, ?_⟩
  refine List.forall_mem_cons.mpr ⟨ip_s_gI0 hx hb hts hin5 hown rfl (by decide) 0 (by decide) (hts (.fieldLink RX5 87 "IcePadsModel" "now" "I") (by decide +kernel)) (fun _ h9 => h9) hIs 50 rfl rfl dX5_lates_3 rfl, ?_⟩
  refine List.forall_mem_cons.mpr ⟨ip_s_istore_n hx hb dX5_lates_6 rfl (by decide) rfl, ?_⟩
  refine List.forall_mem_cons.mpr ⟨ip_s_iconst hx hb dX5_lates_7 rfl rfl, ?_⟩
  refine List.forall_mem_cons.mpr ⟨ip_s_istore_n hx hb dX5_lates_8 rfl (by decide) rfl, ?_⟩
  refine List.forall_mem_cons.mpr ⟨ip_s_iload_n hx hb dX5_lates_9 rfl rfl, ?_⟩
  refine List.forall_mem_cons.mpr ⟨ip_s_aload_n hx hb dX5_lates_10 rfl rfl, ?_⟩
  refine List.forall_mem_cons.mpr ⟨ip_s_gI0 hx hb hts hin5 hown rfl (by decide) 28 (by decide) (hts (.fieldLink RX5 145 "IcePadsModel" "many" "I") (by decide +kernel)) (fun _ h9 => h9) hIs 50 rfl rfl dX5_lates_11 rfl, ?_⟩
  refine List.forall_mem_cons.mpr ⟨ip_s_icge (t := 81) hx hb dX5_lates_14 (by decide) rfl rfl, ?_⟩
  refine List.forall_mem_cons.mpr ⟨ip_s_aload_n hx hb dX5_lates_17 rfl rfl, ?_⟩
  refine List.forall_mem_cons.mpr ⟨ip_s_gR0 hx hb hts hin5 hown rfl (by decide) 30 (by decide) (hts (.fieldLink RX5 81 "IcePadsModel" "row" "[I") (by decide +kernel)) (fun _ h9 => h9) hIs 50 80 rfl (by decide) rfl dX5_lates_18 rfl, ?_⟩
  refine List.forall_mem_cons.mpr ⟨ip_s_iload_n hx hb dX5_lates_21 rfl rfl, ?_⟩
  refine List.forall_mem_cons.mpr ⟨ip_s_ldi hx hb hIs dX5_lates_22 rfl, ?_⟩
  refine List.forall_mem_cons.mpr ⟨ip_s_istore hx hb dX5_lates_23 (by decide) rfl, ?_⟩
  refine List.forall_mem_cons.mpr ⟨ip_s_aload_n hx hb dX5_lates_25 rfl rfl, ?_⟩
  refine List.forall_mem_cons.mpr ⟨ip_s_gR0 hx hb hts hin5 hown rfl (by decide) 18 (by decide) (hts (.fieldLink RX5 54 "IcePadsModel" "ready" "[I") (by decide +kernel)) (fun _ h9 => h9) hIs 50 68 rfl (by decide) rfl dX5_lates_26 rfl, ?_⟩
  refine List.forall_mem_cons.mpr ⟨ip_s_iload hx hb dX5_lates_29 rfl, ?_⟩
  refine List.forall_mem_cons.mpr ⟨ip_s_ldi hx hb hIs dX5_lates_31 rfl, ?_⟩
  refine List.forall_mem_cons.mpr ⟨ip_s_iload_n hx hb dX5_lates_32 rfl rfl, ?_⟩
  refine List.forall_mem_cons.mpr ⟨ip_s_icle (t := 46) hx hb dX5_lates_33 (by decide) rfl rfl, ?_⟩
  refine List.forall_mem_cons.mpr ⟨ip_s_aload_n hx hb dX5_lates_36 rfl rfl, ?_⟩
  refine List.forall_mem_cons.mpr ⟨ip_s_gR0 hx hb hts hin5 hown rfl (by decide) 18 (by decide) (hts (.fieldLink RX5 54 "IcePadsModel" "ready" "[I") (by decide +kernel)) (fun _ h9 => h9) hIs 50 68 rfl (by decide) rfl dX5_lates_37 rfl, ?_⟩
  refine List.forall_mem_cons.mpr ⟨ip_s_iload hx hb dX5_lates_40 rfl, ?_⟩
  refine List.forall_mem_cons.mpr ⟨ip_s_ldi hx hb hIs dX5_lates_42 rfl, ?_⟩
  refine List.forall_mem_cons.mpr ⟨ip_s_go (t := 47) hx hb dX5_lates_43 (by decide) (Nat.le_of_ble_eq_true rfl) (Nat.le_of_ble_eq_true rfl), ?_⟩
  refine List.forall_mem_cons.mpr ⟨ip_s_iload_n hx hb dX5_lates_46 rfl rfl, ?_⟩
  refine List.forall_mem_cons.mpr ⟨ip_s_istore hx hb dX5_lates_47 (by decide) rfl, ?_⟩
  refine List.forall_mem_cons.mpr ⟨ip_s_iload_n hx hb dX5_lates_49 rfl rfl, ?_⟩
  refine List.forall_mem_cons.mpr ⟨ip_s_iload hx hb dX5_lates_50 rfl, ?_⟩
  refine List.forall_mem_cons.mpr ⟨ip_s_aload_n hx hb dX5_lates_52 rfl rfl, ?_⟩
  refine List.forall_mem_cons.mpr ⟨ip_s_gR0 hx hb hts hin5 hown rfl (by decide) 17 (by decide) (hts (.fieldLink RX5 51 "IcePadsModel" "first" "[I") (by decide +kernel)) (fun _ h9 => h9) hIs 50 67 rfl (by decide) rfl dX5_lates_53 rfl, ?_⟩
  refine List.forall_mem_cons.mpr ⟨ip_s_iload hx hb dX5_lates_56 rfl, ?_⟩
  refine List.forall_mem_cons.mpr ⟨ip_s_ldi hx hb hIs dX5_lates_58 rfl, ?_⟩
  refine List.forall_mem_cons.mpr ⟨ip_s_isub hx hb dX5_lates_59 rfl, ?_⟩
  refine List.forall_mem_cons.mpr ⟨ip_s_iadd hx hb dX5_lates_60 rfl, ?_⟩
  refine List.forall_mem_cons.mpr ⟨ip_s_istore_n hx hb dX5_lates_61 rfl (by decide) rfl, ?_⟩
  refine List.forall_mem_cons.mpr ⟨ip_s_iload hx hb dX5_lates_62 rfl, ?_⟩
  refine List.forall_mem_cons.mpr ⟨ip_s_iconst hx hb dX5_lates_64 rfl rfl, ?_⟩
  refine List.forall_mem_cons.mpr ⟨ip_s_aload_n hx hb dX5_lates_65 rfl rfl, ?_⟩
  refine List.forall_mem_cons.mpr ⟨ip_s_gR0 hx hb hts hin5 hown rfl (by decide) 16 (by decide) (hts (.fieldLink RX5 48 "IcePadsModel" "size" "[I") (by decide +kernel)) (fun _ h9 => h9) hIs 50 66 rfl (by decide) rfl dX5_lates_66 rfl, ?_⟩
  refine List.forall_mem_cons.mpr ⟨ip_s_iload hx hb dX5_lates_69 rfl, ?_⟩
  refine List.forall_mem_cons.mpr ⟨ip_s_ldi hx hb hIs dX5_lates_71 rfl, ?_⟩
  refine List.forall_mem_cons.mpr ⟨ip_s_imul hx hb dX5_lates_72 rfl, ?_⟩
  refine List.forall_mem_cons.mpr ⟨ip_s_iadd hx hb dX5_lates_73 rfl, ?_⟩
  refine List.forall_mem_cons.mpr ⟨ip_s_istore_n hx hb dX5_lates_74 rfl (by decide) rfl, ?_⟩
  refine List.forall_mem_cons.mpr ⟨ip_s_iinc hx hb dX5_lates_75 rfl (by decide) rfl, ?_⟩
  refine List.forall_mem_cons.mpr ⟨ip_s_go (t := 9) hx hb dX5_lates_78 (by decide) (Nat.le_of_ble_eq_true rfl) (Nat.le_of_ble_eq_true rfl), ?_⟩
  refine List.forall_mem_cons.mpr ⟨ip_s_iload_n hx hb dX5_lates_81 rfl rfl, ?_⟩
  refine List.forall_mem_cons.mpr ⟨ip_s_iret hx hb hr hlocks (Nat.le_of_ble_eq_true rfl) (Nat.le_of_ble_eq_true rfl) dX5_lates_82, ?_⟩
  exact fun _ h => absurd h List.not_mem_nil
abbrev iX5_lates (M : ip_M × List Nat) (a : Nat) (S : ip_S) : Nat → ip_N := fun k pc loc st S1 => ∃ (i : Nat) (x1 x2 x3 : Int32) (y4 y5 : Option ip_V), pc = 9 ∧ st = [] ∧ loc = [some (.inr (.inl (some a))), some (.inl x1), some (.inl x2), some (.inl x3), y4, y5] ∧ x3 = nI i ∧ i ≤ M.2.length ∧ (x2, x1) = (M.2.take i).foldl (fun a j => g_stp M.1 j a) (M.1 50 0, 0) ∧ S1 = S ∧ k + i = M.2.length
set_option maxRecDepth 100000 in
set_option maxHeartbeats 4000000 in
theorem lpX5_lates (M : ip_M × List Nat) (a : Nat) (S : ip_S) (hS : ip_Sta S) (hp : a = 50 ∧ ip_eM M.1 S ∧ M.1 50 28 = nI M.2.length ∧ M.2.length ≤ 5 ∧ ∀ i, i < M.2.length → M.2.getD i 0 < 12 ∧ M.1 80 i = nI (M.2.getD i 0)) : ∀ k pc loc st S1, iX5_lates M a S k pc loc st S1 → ip_run (pX5_lates (postX5_lates M [.inr (.inl (some a))] S)) (fun pc => Nat.beq pc 9) (fun pc loc st S2 => ∃ k', k' < k ∧ iX5_lates M a S k' pc loc st S2) 80 pc loc st S1 := by
  obtain ⟨rfl, hE, h28, hl, hrow⟩ := hp
  rintro k pc loc st S1 ⟨i, x1, x2, x3, y4, y5, rfl, rfl, rfl, rfl, hi, hx, rfl, hk⟩
  have e28 : S1.1 50 28 = nI M.2.length := (congrFun (hE 50 (by decide)) 28).trans h28
  refine And.intro (fun q => ?_) (fun q => ?_)
  · rw [e28, nI_leI (by omega) (by omega)] at q
    have hi : i = M.2.length := Nat.le_antisymm hi q
    subst hi
    rw [List.take_length] at hx
    refine And.intro ?_ rfl
    rw [← hx]
  · rw [e28, nI_leI (by omega) (by omega)] at q
    have hi : i < M.2.length := Nat.lt_of_not_le q
    obtain ⟨r1, r2⟩ := hrow i hi
    obtain ⟨in1, c1⟩ := ip_inN (i := i) (n := 5) (N := 5) (by omega) (by decide) (by decide)
    obtain ⟨in2, c2⟩ := ip_inN (N := 12) r1 (by decide) (by decide)
    have e80 : S1.1 80 i = nI (M.2.getD i 0) := (congrFun (hE 80 (by decide)) i).trans r2
    have e68 : S1.1 68 (M.2.getD i 0) = M.1 68 (M.2.getD i 0) := congrFun (hE 68 (by decide)) _
    have e67 : S1.1 67 (M.2.getD i 0) = M.1 67 (M.2.getD i 0) := congrFun (hE 67 (by decide)) _
    have e66 : S1.1 66 (M.2.getD i 0) = M.1 66 (M.2.getD i 0) := congrFun (hE 66 (by decide)) _
    refine And.intro in1 ?_
    rw [c1, e80]
    refine And.intro in2 ?_
    rw [c2, e68]
    refine And.intro (fun q2 => ?_) (fun q2 => ?_)
    · have n2 : ¬ x2 < M.1 68 (M.2.getD i 0) := Int32.not_lt.mpr q2
      refine And.intro in2 (And.intro in2 ?_)
      rw [c2, e67, e66]
      refine Exists.intro (k - 1) (And.intro (by omega) ⟨i + 1, _, _, _, _, _, rfl, rfl, rfl, nI_1 i, by omega, ?_, rfl, by omega⟩)
      rw [ip_take_fold _ _ hi, ← hx]
      show _ = ((if x2 < M.1 68 (M.2.getD i 0) then M.1 68 (M.2.getD i 0) else x2) + 2 * M.1 66 (M.2.getD i 0), x1 + ((if x2 < M.1 68 (M.2.getD i 0) then M.1 68 (M.2.getD i 0) else x2) - M.1 67 (M.2.getD i 0)))
      rw [if_neg n2]
    · have n2 : x2 < M.1 68 (M.2.getD i 0) := Int32.not_le.mp q2
      refine And.intro in2 ?_
      rw [c2, e68]
      refine And.intro in2 (And.intro in2 ?_)
      rw [c2, e67, e66]
      refine Exists.intro (k - 1) (And.intro (by omega) ⟨i + 1, _, _, _, _, _, rfl, rfl, rfl, nI_1 i, by omega, ?_, rfl, by omega⟩)
      rw [ip_take_fold _ _ hi, ← hx]
      show _ = ((if x2 < M.1 68 (M.2.getD i 0) then M.1 68 (M.2.getD i 0) else x2) + 2 * M.1 66 (M.2.getD i 0), x1 + ((if x2 < M.1 68 (M.2.getD i 0) then M.1 68 (M.2.getD i 0) else x2) - M.1 67 (M.2.getD i 0)))
      rw [if_pos n2]
set_option maxRecDepth 100000 in
set_option maxHeartbeats 4000000 in
theorem vX5_lates (M : ip_M × List Nat) (a : Nat) (S : ip_S) (hS : ip_Sta S) (hp : a = 50 ∧ ip_eM M.1 S ∧ M.1 50 28 = nI M.2.length ∧ M.2.length ≤ 5 ∧ ∀ i, i < M.2.length → M.2.getD i 0 < 12 ∧ M.1 80 i = nI (M.2.getD i 0)) : ip_run (pX5_lates (postX5_lates M [.inr (.inl (some a))] S)) (fun pc => Nat.beq pc 9) (fun pc loc st S2 => ∃ k, iX5_lates M a S k pc loc st S2) 80 0 [some (.inr (.inl (some a))), none, none, none, none, none] [] S := by
  obtain ⟨rfl, hE, h28, hl, hrow⟩ := hp
  have e0 : S.1 50 0 = M.1 50 0 := congrFun (hE 50 (by decide)) _
  refine Exists.intro M.2.length ⟨0, _, _, _, _, _, rfl, rfl, rfl, rfl, Nat.zero_le _, ?_, rfl, rfl⟩
  rw [e0]
  rfl
theorem ctX5_lates (l : Launch) (M : ip_M × List Nat) : ip_CT l yX5_lates wsX5_lates rmX5_lates ip_Sta (preX5_lates M) (postX5_lates M) := by
  refine ip_of (cc := cX5_lates) (maxL := 6) (ret := (some .int)) (by decide +kernel) rfl (fun _ => (0, 0)) rfl ?_ ?_
  · intro as S h
    obtain ⟨a, rfl, hq⟩ := ip_e_r h
    exact ⟨Nat.le_of_ble_eq_true rfl, by simp⟩
  intro p e s m args below meth c D cA A ad0 as S h hI hx hb hml hown hts hr hlocks hname hA hNx
  obtain ⟨a, rfl, hq⟩ := ip_e_r h
  have ht := tX5_lates (D := D) (cA := cA) (A := A) (ad0 := ad0) (l := l) (e := e) (below := below) (S0 := S) (po := postX5_lates M [.inr (.inl (some a))] S) hx hb hml hown hts hr hlocks hname hA hNx
  refine ip_run_ok ht (fun pc loc st S2 hh => ?_) 80 0 _ _ S (vX5_lates M a S hI hq)
  obtain ⟨k, hk⟩ := hh
  exact ip_loop ht (iX5_lates M a S) (lpX5_lates M a S hI hq) k pc loc st S2 hk
