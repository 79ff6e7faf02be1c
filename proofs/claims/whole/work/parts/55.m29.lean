def ip_B (M : ip_M) (b : Int32 × List Nat) (S : ip_S) : Prop := S.1 8 5 = b.1 ∧ ∀ x, x < b.2.length → x < g_mn M → S.1 12 x = nI (g_V M (b.2.getD x 0))
abbrev ip_Pg : Type := ip_M × List Nat × (Int32 × List Nat)
def ip_pP (n : Nat) (M : ip_Pg) (a : Nat) (dp fr la : Int32) (S : ip_S) : Prop := a = 8 ∧ ip_cR M.1 S ∧ ip_gt M.1 S ∧ dp = nI M.2.1.length ∧ (fr, la) = g_cst M.1 (g_V M.1) M.2.1 ∧ M.2.1.length ≤ g_mn M.1 ∧ g_mn M.1 - M.2.1.length < n ∧ (∀ y ∈ M.2.1, y < g_mn M.1) ∧ (∀ d, d < M.2.1.length → S.1 11 d = nI (g_V M.1 (M.2.1.getD d 0))) ∧ (∀ x, x < g_mn M.1 → S.1 10 x = if x ∈ M.2.1 then 1 else 0) ∧ ip_B M.1 M.2.2 S
def ip_pQ (M : ip_Pg) (S S' : ip_S) : Prop := ip_B M.1 (g_dfs M.1 (g_V M.1) (g_mn M.1) (g_mn M.1 - M.2.1.length) M.2.1 M.2.2) S' ∧ ip_fPl S S' ∧ S'.1 10 = S.1 10 ∧ ∀ d, d < M.2.1.length → S'.1 11 d = S.1 11 d
theorem ip_last {P : List Nat} {x : Nat} : (P ++ [x]).getD P.length 0 = x := by
  rw [ip_getD (by simp)]
  simp
theorem ip_init {P : List Nat} {x d : Nat} (h : d < P.length) : (P ++ [x]).getD d 0 = P.getD d 0 := by
  rw [ip_getD (by simp; omega), ip_getD h, List.getElem_append_left h]
theorem ip_asb (a b c : Int32) : a + b - c = a + (b - c) := by
  rw [Int32.sub_eq_add_neg, Int32.sub_eq_add_neg, Int32.add_assoc]

def preX2_place (n : Nat) (M : ip_Pg) : List ip_V → ip_S → Prop := ip_h_riii (fun _ => False) (fun a dp fr la S => ip_pP n M a dp fr la S)
def postX2_place (n : Nat) (M : ip_Pg) : List ip_V → ip_S → List ip_V → ip_S → Prop := ip_h_riii (fun _ _ _ => True) (fun a dp fr la S r S' => r = [] ∧ ip_pQ M S S')
theorem shX2_place (n : Nat) (M : ip_Pg) : ∀ as S, ip_Sta S → preX2_place n M as S → ∃ (b : Nat) (as' : List ip_V), as = .inr (.inl (some b)) :: as' ∧ as'.length = 3 ∧ (S.2.2.2 b).1 = 2 := by
  intro as S hI h
  obtain ⟨a, dp, fr, la, rfl, hq⟩ := ip_e_riii h
  exact ⟨_, _, rfl, rfl, by rw [hq.1, hI.1 8 (by decide)]; rfl⟩
def rmX2_place (n : Nat) : Room := { frames := n + 2, cells := 0, slots := 0, locals := 40 * (n + 2) }
def pX2_place (n : Nat) (po : List ip_V → ip_S → Prop) : List (Nat × ip_T) := [(0, ip_t_il 3 1), (1, ip_t_ar 0 2), (2, ip_t_gI0 8 5 5), (5, ip_t_iclt 9 8), (8, ip_t_vret po), (9, ip_t_il 1 10), (10, ip_t_ar 0 11), (11, ip_t_gI0 8 4 14), (14, ip_t_iclt 23 17), (17, ip_t_ar 0 18), (18, ip_t_il 3 19), (19, ip_t_call 2 preX2_keep postX2_keep 22), (22, ip_t_vret po), (23, ip_t_ci 0 24), (24, ip_t_is 4 26), (26, ip_t_il 4 28), (28, ip_t_ar 0 29), (29, ip_t_gI0 8 4 32), (32, ip_t_icge 131 35), (35, ip_t_ar 0 36), (36, ip_t_gR0 8 9 39), (39, ip_t_il 4 41), (41, ip_t_lda 9 42), (42, ip_t_as 5 44), (44, ip_t_ar 5 46), (46, ip_t_null 125 49), (49, ip_t_ar 0 50), (50, ip_t_gR0 8 10 53), (53, ip_t_il 4 55), (55, ip_t_ld 7 56), (56, ip_t_ifeq 62 59), (59, ip_t_go 125), (62, ip_t_il 2 63), (63, ip_t_ar 5 65), (65, ip_t_gI 1 5 68), (68, ip_t_max 71), (71, ip_t_is 6 73), (73, ip_t_ar 0 74), (74, ip_t_gR0 8 10 77), (77, ip_t_il 4 79), (79, ip_t_ci 1 80), (80, ip_t_stz 81), (81, ip_t_ar 0 82), (82, ip_t_gR0 8 11 85), (85, ip_t_il 1 86), (86, ip_t_ar 5 88), (88, ip_t_gI 1 0 91), (91, ip_t_st 92), (92, ip_t_ar 0 93), (93, ip_t_il 1 94), (94, ip_t_ci 1 95), (95, ip_t_iadd 96), (96, ip_t_il 6 98), (98, ip_t_ar 5 100), (100, ip_t_call 1 preX1_treatment postX1_treatment 103), (103, ip_t_iadd 104), (104, ip_t_il 3 105), (105, ip_t_il 6 107), (107, ip_t_iadd 108), (108, ip_t_ar 5 110), (110, ip_t_gI 1 1 113), (113, ip_t_isub 114), (114, ip_t_callG 4 (preX2_place n) (postX2_place n) 117), (117, ip_t_ar 0 118), (118, ip_t_gR0 8 10 121), (121, ip_t_il 4 123), (123, ip_t_ci 0 124), (124, ip_t_stz 125), (125, ip_t_inc 4 1 128), (128, ip_t_go 26), (131, ip_t_vret po)]
set_option maxRecDepth 100000 in
set_option maxHeartbeats 4000000 in
theorem tX2_place {n : Nat} {p : Program} {l : Launch} {e : Env} {s : State} {m : MethodId} {args : Array Value} {below : List Frame} {meth : Method} {c : Code} {D : va_G} {cA : Nat → ClassId} {A : Nat → Prop} {ad0 : Nat → Nat} {S0 : ip_S} {po : List ip_V → ip_S → Prop} (hrec : ∀ M, ip_CT l yX2_place wsX2_place (rmX2_place n) ip_Sta (preX2_place n M) (postX2_place n M)) (hx : p.tables.exec = Jvm.exec) (hb : c.code = cX2_place) (hml : c.maxLocals = 7) (hown : s.vm.findClass RX2 = some m.cls) (hts : ∀ w ∈ wsX2_place, w.before args s = true) (hr : meth.sig.returnType = none) (hlocks : meth.locks = false) (hname : meth.name = yX2_place.name) (hA : ∀ q, s.heap.size ≤ q → A q) (hNx : ip_Nx s) : ∀ q ∈ pX2_place n po, ip_snd p l e (rmX2_place (n + 1)) s m args below meth c D cA A (MQ below (ip_Q ip_Sta D cA ad0 S0 A po) args s 0 0 A) 7 (fun _ => (0, 0)) ip_Sta ad0 S0 q.1 q.2 := by
  have hIs : ∀ S, ip_Sta S → ip_Sta S := fun _ h => h
  have hIn := ip_In_Sta
  have hS9 : CallFix p m c cX2_place 7 s args wsX2_place RX2 := ⟨hx, hb, hml, hown, hts⟩
  have hin1 : ∀ w ∈ u_ws RX1 TX1 11, w ∈ wsX2_place := by decide +kernel
  have hin2 : ∀ w ∈ u_ws RX2 TX2 6, w ∈ wsX2_place := by decide +kernel
  refine List.forall_mem_cons.mpr ⟨ip_s_iload_n hx hb dX2_place_0 rfl rfl, ?_⟩
  refine List.forall_mem_cons.mpr ⟨ip_s_aload_n hx hb dX2_place_1 rfl rfl, ?_⟩
  refine List.forall_mem_cons.mpr ⟨ip_s_gI0 hx hb hts hin2 hown rfl (by decide) 5 (by decide) (hts (.fieldLink RX2 39 "IcePads$Planner" "least" "I") (by decide +kernel)) (fun _ h9 => h9) hIs 8 rfl rfl dX2_place_2 rfl, ?_⟩
  refine List.forall_mem_cons.mpr ⟨ip_s_iclt (t := 9) hx hb dX2_place_5 (by decide) rfl rfl, ?_⟩
  refine List.forall_mem_cons.mpr ⟨ip_s_vret hx hb hr hlocks (Nat.le_of_ble_eq_true rfl) (Nat.le_of_ble_eq_true rfl) dX2_place_8, ?_⟩
  refine List.forall_mem_cons.mpr ⟨ip_s_iload_n hx hb dX2_place_9 rfl rfl, ?_⟩
  refine List.forall_mem_cons.mpr ⟨ip_s_aload_n hx hb dX2_place_10 rfl rfl, ?_⟩
  refine List.forall_mem_cons.mpr ⟨ip_s_gI0 hx hb hts hin2 hown rfl (by decide) 4 (by decide) (hts (.fieldLink RX2 28 "IcePads$Planner" "size" "I") (by decide +kernel)) (fun _ h9 => h9) hIs 8 rfl rfl dX2_place_11 rfl, ?_⟩
  refine List.forall_mem_cons.mpr ⟨ip_s_iclt (t := 23) hx hb dX2_place_14 (by decide) rfl rfl, ?_⟩
  refine List.forall_mem_cons.mpr ⟨ip_s_aload_n hx hb dX2_place_17 rfl rfl, ?_⟩
  refine List.forall_mem_cons.mpr ⟨ip_s_iload_n hx hb dX2_place_18 rfl rfl, ?_⟩
  refine List.forall_mem_cons.mpr ⟨ip_s_callV hNx hS9 (ctX2_keep l) (cwV 1 hts gX2_place_X2_keep rfl rfl rfl (by decide +kernel) ⟨by dsimp only [rmX2_place, rmX2_keep, rmX1_treatment]; omega, by dsimp only [rmX2_place, rmX2_keep, rmX1_treatment]; omega⟩) (ci := 2) rfl rfl (by decide) (fun as S hI h => shX2_keep as S hI h) hA dX2_place_19 ⟨by dsimp only [rmX2_place, rmX2_keep, rmX1_treatment]; omega, by dsimp only [rmX2_place, rmX2_keep, rmX1_treatment]; omega⟩ rfl, ?_⟩
  refine List.forall_mem_cons.mpr ⟨ip_s_vret hx hb hr hlocks (Nat.le_of_ble_eq_true rfl) (Nat.le_of_ble_eq_true rfl) dX2_place_22, ?_⟩
  refine List.forall_mem_cons.mpr ⟨ip_s_iconst hx hb dX2_place_23 rfl rfl, ?_⟩
  refine List.forall_mem_cons.mpr ⟨ip_s_istore hx hb dX2_place_24 (by decide) rfl, ?_⟩
  refine List.forall_mem_cons.mpr ⟨ip_s_iload hx hb dX2_place_26 rfl, ?_⟩
  refine List.forall_mem_cons.mpr ⟨ip_s_aload_n hx hb dX2_place_28 rfl rfl, ?_⟩
  refine List.forall_mem_cons.mpr ⟨ip_s_gI0 hx hb hts hin2 hown rfl (by decide) 4 (by decide) (hts (.fieldLink RX2 28 "IcePads$Planner" "size" "I") (by decide +kernel)) (fun _ h9 => h9) hIs 8 rfl rfl dX2_place_29 rfl, ?_⟩
  refine List.forall_mem_cons.mpr ⟨ip_s_icge (t := 131) hx hb dX2_place_32 (by decide) rfl rfl, ?_⟩
  refine List.forall_mem_cons.mpr ⟨ip_s_aload_n hx hb dX2_place_35 rfl rfl, ?_⟩
  refine List.forall_mem_cons.mpr ⟨ip_s_gR0 hx hb hts hin2 hown rfl (by decide) 0 (by decide) (hts (.fieldLink RX2 11 "IcePads$Planner" "waiting" "[LIcePads$Jet;") (by decide +kernel)) (fun _ h9 => h9) hIs 8 9 rfl (by decide) rfl dX2_place_36 rfl, ?_⟩
  refine List.forall_mem_cons.mpr ⟨ip_s_iload hx hb dX2_place_39 rfl, ?_⟩
  refine List.forall_mem_cons.mpr ⟨ip_s_lda9 hx hb hIs dX2_place_41 rfl, ?_⟩
  refine List.forall_mem_cons.mpr ⟨ip_s_astore hx hb dX2_place_42 (by decide) rfl, ?_⟩
  refine List.forall_mem_cons.mpr ⟨ip_s_aload hx hb dX2_place_44 rfl, ?_⟩
  refine List.forall_mem_cons.mpr ⟨ip_s_ifnull (t := 125) hx hb dX2_place_46 (by decide) rfl rfl, ?_⟩
  refine List.forall_mem_cons.mpr ⟨ip_s_aload_n hx hb dX2_place_49 rfl rfl, ?_⟩
  refine List.forall_mem_cons.mpr ⟨ip_s_gR0 hx hb hts hin2 hown rfl (by decide) 1 (by decide) (hts (.fieldLink RX2 17 "IcePads$Planner" "placed" "[Z") (by decide +kernel)) (fun _ h9 => h9) hIs 8 10 rfl (by decide) rfl dX2_place_50 rfl, ?_⟩
  refine List.forall_mem_cons.mpr ⟨ip_s_iload hx hb dX2_place_53 rfl, ?_⟩
  refine List.forall_mem_cons.mpr ⟨ip_s_ldz hx hb hIs dX2_place_55 rfl, ?_⟩
  refine List.forall_mem_cons.mpr ⟨ip_s_ifeq (t := 62) hx hb dX2_place_56 (by decide) rfl rfl, ?_⟩
  refine List.forall_mem_cons.mpr ⟨ip_s_go (t := 125) hx hb dX2_place_59 (by decide) (Nat.le_of_ble_eq_true rfl) (Nat.le_of_ble_eq_true rfl), ?_⟩
  refine List.forall_mem_cons.mpr ⟨ip_s_iload_n hx hb dX2_place_62 rfl rfl, ?_⟩
  refine List.forall_mem_cons.mpr ⟨ip_s_aload hx hb dX2_place_63 rfl, ?_⟩
  refine List.forall_mem_cons.mpr ⟨ip_s_gI hx hb hts hin1 hown rfl (by decide) 5 (by decide) (hts (.fieldLink RX2 54 "IcePads$Jet" "ready" "I") (by decide +kernel)) (fun _ h9 => h9) rfl dX2_place_65 rfl, ?_⟩
  refine List.forall_mem_cons.mpr ⟨ip_s_max hx hb hml hown (hts (.methodLink RX2 57 Lib.Math.max.name) (by decide +kernel)) (hts (.static Lib.Math.max.name) (by decide +kernel)) (hts (.initialized "java/lang/Math") (by decide +kernel)) (hts (.code Lib.Math.max.name Lib.Math.max.code 2 (some .int)) (by decide +kernel)) ⟨by dsimp only [rmX2_place, rmX2_keep, rmX1_treatment]; omega, by dsimp only [rmX2_place, rmX2_keep, rmX1_treatment]; omega⟩ ⟨Nat.zero_le _, Nat.zero_le _⟩ dX2_place_68 rfl, ?_⟩
  refine List.forall_mem_cons.mpr ⟨ip_s_istore hx hb dX2_place_71 (by decide) rfl, ?_⟩
  refine List.forall_mem_cons.mpr ⟨ip_s_aload_n hx hb dX2_place_73 rfl rfl, ?_⟩
  refine List.forall_mem_cons.mpr ⟨ip_s_gR0 hx hb hts hin2 hown rfl (by decide) 1 (by decide) (hts (.fieldLink RX2 17 "IcePads$Planner" "placed" "[Z") (by decide +kernel)) (fun _ h9 => h9) hIs 8 10 rfl (by decide) rfl dX2_place_74 rfl, ?_⟩
  refine List.forall_mem_cons.mpr ⟨ip_s_iload hx hb dX2_place_77 rfl, ?_⟩
  refine List.forall_mem_cons.mpr ⟨ip_s_iconst hx hb dX2_place_79 rfl rfl, ?_⟩
  refine List.forall_mem_cons.mpr ⟨ip_s_stz hx hb hIn hIs dX2_place_80 rfl, ?_⟩
  refine List.forall_mem_cons.mpr ⟨ip_s_aload_n hx hb dX2_place_81 rfl rfl, ?_⟩
  refine List.forall_mem_cons.mpr ⟨ip_s_gR0 hx hb hts hin2 hown rfl (by decide) 2 (by decide) (hts (.fieldLink RX2 21 "IcePads$Planner" "order" "[I") (by decide +kernel)) (fun _ h9 => h9) hIs 8 11 rfl (by decide) rfl dX2_place_82 rfl, ?_⟩
  refine List.forall_mem_cons.mpr ⟨ip_s_iload_n hx hb dX2_place_85 rfl rfl, ?_⟩
  refine List.forall_mem_cons.mpr ⟨ip_s_aload hx hb dX2_place_86 rfl, ?_⟩
  refine List.forall_mem_cons.mpr ⟨ip_s_gI hx hb hts hin1 hown rfl (by decide) 0 (by decide) (hts (.fieldLink RX2 63 "IcePads$Jet" "number" "I") (by decide +kernel)) (fun _ h9 => h9) rfl dX2_place_88 rfl, ?_⟩
  refine List.forall_mem_cons.mpr ⟨ip_s_sti hx hb hIn hIs dX2_place_91 rfl, ?_⟩
  refine List.forall_mem_cons.mpr ⟨ip_s_aload_n hx hb dX2_place_92 rfl rfl, ?_⟩
  refine List.forall_mem_cons.mpr ⟨ip_s_iload_n hx hb dX2_place_93 rfl rfl, ?_⟩
  refine List.forall_mem_cons.mpr ⟨ip_s_iconst hx hb dX2_place_94 rfl rfl, ?_⟩
  refine List.forall_mem_cons.mpr ⟨ip_s_iadd hx hb dX2_place_95 rfl, ?_⟩
  refine List.forall_mem_cons.mpr ⟨ip_s_iload hx hb dX2_place_96 rfl, ?_⟩
  refine List.forall_mem_cons.mpr ⟨ip_s_aload hx hb dX2_place_98 rfl, ?_⟩
  refine List.forall_mem_cons.mpr ⟨ip_s_callV hNx hS9 (ctX1_treatment l) (cwV 0 hts gX2_place_X1_treatment rfl rfl rfl (by decide +kernel) ⟨by dsimp only [rmX2_place, rmX2_keep, rmX1_treatment]; omega, by dsimp only [rmX2_place, rmX2_keep, rmX1_treatment]; omega⟩) (ci := 1) rfl rfl (by decide) (fun as S hI h => shX1_treatment as S hI h) hA dX2_place_100 ⟨by dsimp only [rmX2_place, rmX2_keep, rmX1_treatment]; omega, by dsimp only [rmX2_place, rmX2_keep, rmX1_treatment]; omega⟩ rfl, ?_⟩
  refine List.forall_mem_cons.mpr ⟨ip_s_iadd hx hb dX2_place_103 rfl, ?_⟩
  refine List.forall_mem_cons.mpr ⟨ip_s_iload_n hx hb dX2_place_104 rfl rfl, ?_⟩
  refine List.forall_mem_cons.mpr ⟨ip_s_iload hx hb dX2_place_105 rfl, ?_⟩
  refine List.forall_mem_cons.mpr ⟨ip_s_iadd hx hb dX2_place_107 rfl, ?_⟩
  refine List.forall_mem_cons.mpr ⟨ip_s_aload hx hb dX2_place_108 rfl, ?_⟩
  refine List.forall_mem_cons.mpr ⟨ip_s_gI hx hb hts hin1 hown rfl (by decide) 1 (by decide) (hts (.fieldLink RX2 69 "IcePads$Jet" "firstReady" "I") (by decide +kernel)) (fun _ h9 => h9) rfl dX2_place_110 rfl, ?_⟩
  refine List.forall_mem_cons.mpr ⟨ip_s_isub hx hb dX2_place_113 rfl, ?_⟩
  refine List.forall_mem_cons.mpr ⟨ip_s_G (fun M => ip_s_callV hNx hS9 (hrec M) (cwV 3 hts gX2_place_X2_place rfl rfl rfl (by decide +kernel) ⟨by dsimp only [rmX2_place, rmX2_keep, rmX1_treatment]; omega, by dsimp only [rmX2_place, rmX2_keep, rmX1_treatment]; omega⟩) (ci := 2) rfl rfl (by decide) (fun as S hI h => shX2_place n M as S hI h) hA dX2_place_114 ⟨by dsimp only [rmX2_place, rmX2_keep, rmX1_treatment]; omega, by dsimp only [rmX2_place, rmX2_keep, rmX1_treatment]; omega⟩ rfl), ?_⟩
  refine List.forall_mem_cons.mpr ⟨ip_s_aload_n hx hb dX2_place_117 rfl rfl, ?_⟩
  refine List.forall_mem_cons.mpr ⟨ip_s_gR0 hx hb hts hin2 hown rfl (by decide) 1 (by decide) (hts (.fieldLink RX2 17 "IcePads$Planner" "placed" "[Z") (by decide +kernel)) (fun _ h9 => h9) hIs 8 10 rfl (by decide) rfl dX2_place_118 rfl, ?_⟩
  refine List.forall_mem_cons.mpr ⟨ip_s_iload hx hb dX2_place_121 rfl, ?_⟩
  refine List.forall_mem_cons.mpr ⟨ip_s_iconst hx hb dX2_place_123 rfl rfl, ?_⟩
  refine List.forall_mem_cons.mpr ⟨ip_s_stz hx hb hIn hIs dX2_place_124 rfl, ?_⟩
  refine List.forall_mem_cons.mpr ⟨ip_s_iinc hx hb dX2_place_125 rfl (by decide) rfl, ?_⟩
  refine List.forall_mem_cons.mpr ⟨ip_s_go (t := 26) hx hb dX2_place_128 (by decide) (Nat.le_of_ble_eq_true rfl) (Nat.le_of_ble_eq_true rfl), ?_⟩
  refine List.forall_mem_cons.mpr ⟨ip_s_vret hx hb hr hlocks (Nat.le_of_ble_eq_true rfl) (Nat.le_of_ble_eq_true rfl) dX2_place_131, ?_⟩
  exact fun _ h => absurd h List.not_mem_nil
abbrev iX2_place (n : Nat) (M : ip_Pg) (a : Nat) (dp fr la : Int32) (S : ip_S) : Nat → ip_N := fun k pc loc st S1 => ∃ (i : Nat) (x4 : Int32) (y5 y6 : Option ip_V), pc = 26 ∧ st = [] ∧ loc = [some (.inr (.inl (some a))), some (.inl dp), some (.inl fr), some (.inl la), some (.inl x4), y5, y6] ∧ x4 = nI i ∧ i ≤ g_mn M.1 ∧ ¬ M.2.2.1 ≤ la ∧ M.2.1.length < g_mn M.1 ∧ ip_B M.1 ((List.range i).foldl (fun b x => if x ∈ M.2.1 then b else g_dfs M.1 (g_V M.1) (g_mn M.1) (g_mn M.1 - (M.2.1.length + 1)) (M.2.1 ++ [x]) b) M.2.2) S1 ∧ ip_fPl S S1 ∧ S1.1 10 = S.1 10 ∧ (∀ d, d < M.2.1.length → S1.1 11 d = S.1 11 d) ∧ k + i = g_mn M.1
set_option maxRecDepth 100000 in
set_option maxHeartbeats 4000000 in
theorem lpX2_place (n : Nat) (M : ip_Pg) (a : Nat) (dp fr la : Int32) (S : ip_S) (hS : ip_Sta S) (hp : ip_pP (n + 1) M a dp fr la S) : ∀ k pc loc st S1, iX2_place n M a dp fr la S k pc loc st S1 → ip_run (pX2_place n (postX2_place (n + 1) M [.inr (.inl (some a)), .inl dp, .inl fr, .inl la] S)) (fun pc => Nat.beq pc 26) (fun pc loc st S2 => ∃ k', k' < k ∧ iX2_place n M a dp fr la S k' pc loc st S2) 110 pc loc st S1 := by
  obtain ⟨⟨M, P, b0⟩, hM⟩ : ∃ θ : ip_Pg, θ = M := ⟨M, rfl⟩
  subst hM
  obtain ⟨rfl, hR, hgt, rfl, hcs, hPm, hPn, hPy, hord, hpl, hB0⟩ := hp
  rintro k pc loc st S1 ⟨i, x4, y5, y6, rfl, rfl, rfl, rfl, hi, hlt, hPl, hB, hL, h10, h11, hk⟩
  have h5 := g_mn5 M
  have hgt1 := hL.gt hgt
  have hR1 := hL.cR hR
  have e4 : S1.1 8 4 = nI (g_mn M) := hgt1.1
  have hP5 : P.length < g_mn M := hPl
  have hi : i ≤ g_mn M := hi
  have hk : k + i = g_mn M := hk
  refine And.intro (fun q => ?_) (fun q => ?_)
  · rw [e4, nI_leI (by omega) (by omega)] at q
    have e : i = g_mn M := Nat.le_antisymm hi q
    subst e
    refine And.intro rfl ⟨?_, hL, h10, h11⟩
    show ip_B M (g_dfs M (g_V M) (g_mn M) (g_mn M - P.length) P b0) S1
    rw [show g_mn M - P.length = (g_mn M - (P.length + 1)) + 1 by omega]
    unfold g_dfs
    rw [← hcs, if_neg hlt]
    exact hB
  · rw [e4, nI_leI (by omega) (by omega)] at q
    have him : i < g_mn M := Nat.lt_of_not_le q
    obtain ⟨in1, c1⟩ := ip_inN (i := i) (n := 5) (N := 5) (by omega) (by decide) (by decide)
    refine And.intro in1 (fun o ho => ?_)
    rw [c1, hgt1.2 i him] at ho
    subst ho
    refine And.intro in1 ?_
    rw [c1]
    have epl : S1.1 10 i = if i ∈ P then 1 else 0 := (congrFun h10 i).trans (hpl i him)
    rw [epl]
    have hrs : List.range (i + 1) = List.range i ++ [i] := List.range_succ
    by_cases hiP : i ∈ P
    · rw [if_pos hiP]
      refine And.intro (fun z => absurd z (by decide)) (fun _ => ?_)
      refine Exists.intro (k - 1) (And.intro (by omega) ⟨i + 1, _, _, _, rfl, rfl, rfl, nI_1 i, by omega, hlt, hPl, ?_, hL, h10, h11, by omega⟩)
      rw [hrs, List.foldl_append]
      show ip_B M (if i ∈ P then _ else _) S1
      rw [if_pos hiP]
      exact hB
    · rw [if_neg hiP]
      refine And.intro (fun _ => ?_) (fun z => absurd rfl z)
      have hR1' := hR1
      obtain ⟨nf, nj, np, hv, hcS, hcF, hcJ, hcP⟩ := hR1'
      have hVj : g_V M i < nj := by
        have := g_V_lt him
        rw [g_nj_vv hv] at this
        exact this
      have hnj12 := hv.1.2.2.2.1
      obtain ⟨j1, j2, j3, j4, j5, j6, j7, j8, -⟩ := hcJ.1 _ hVj
      refine And.intro j2 ?_
      rw [j8]
      refine And.intro in1 ?_
      rw [c1, show vp_nar .boolean 1 = 1 from rfl]
      refine And.intro j2 ?_
      obtain ⟨in2, c2⟩ := ip_inN (i := P.length) (n := 5) (N := 5) (by omega) (by decide) (by decide)
      refine And.intro in2 ?_
      rw [c2, show (ip_sI S1 10 i 1).1 (30 + g_V M i) 0 = nI (g_V M i) by rw [ip_sI_p (by omega)]; exact j3]
      refine And.intro (And.intro j2 trivial) ?_
      rintro r S2 ⟨rfl, hS2⟩
      have hL2 : ip_fPl S1 S2 := by
        rw [hS2]
        exact (ip_fPl.rf.sI (Or.inr ⟨by decide, by decide⟩) _).sI (Or.inr ⟨by decide, by decide⟩) _
      have hR2 := hL2.cR hR1
      have s3 : (ip_sI (ip_sI S1 10 i 1) 11 P.length (nI (g_V M i))).1 (30 + g_V M i) 3 = M 66 (g_V M i) := by
        rw [ip_sI_p (by omega), ip_sI_p (by omega)]; exact j6
      rw [s3]
      have s1 : S2.1 (30 + g_V M i) 1 = M 67 (g_V M i) := by
        rw [hL2.1 _ (by omega)]; exact j4
      refine And.intro (by rw [hL2.2.2]; exact j2) ?_
      have hb12 : S2.1 12 = S1.1 12 := by rw [hS2, ip_sIP (by decide), ip_sIP (by decide)]
      have hb85 : S2.1 8 = S1.1 8 := by rw [hS2, ip_sIP (by decide), ip_sIP (by decide)]
      have hb10 : ∀ x, S2.1 10 x = if x = i then 1 else S1.1 10 x := by
        intro x
        rw [hS2, ip_sI_p (by decide)]
        by_cases e : x = i
        · subst e
          rw [ip_sI_same, if_pos rfl]
        · rw [ip_sI_k e, if_neg e]
      have hb11 : ∀ x, S2.1 11 x = if x = P.length then nI (g_V M i) else S1.1 11 x := by
        intro x
        rw [hS2]
        by_cases e : x = P.length
        · subst e
          rw [ip_sI_same, if_pos rfl]
        · rw [ip_sI_k e, ip_sI_p (by decide), if_neg e]
      have hcs' : g_cst M (g_V M) (P ++ [i]) = g_stp M (g_V M i) (fr, la) := by rw [g_cst_s, ← hcs]
      have el : (P ++ [i]).length = P.length + 1 := List.length_append
      rw [s1]
      refine Exists.intro ((M, P ++ [i], (List.range i).foldl (fun b x => if x ∈ P then b else g_dfs M (g_V M) (g_mn M) (g_mn M - (P.length + 1)) (P ++ [x]) b) b0) : ip_Pg) (And.intro ⟨rfl, hR2, hL2.gt hgt1, ?_, ?_, ?_, ?_, ?_, ?_, ?_, ?_⟩ ?_)
      · show nI P.length + 1 = nI (P ++ [i]).length
        rw [el, nI_1]
      · show _ = g_cst M (g_V M) (P ++ [i])
        rw [hcs', ip_asb]
        rfl
      · show (P ++ [i]).length ≤ g_mn M
        omega
      · show g_mn M - (P ++ [i]).length < n
        have : g_mn M - P.length < n + 1 := hPn
        omega
      · intro y hy
        rcases List.mem_append.mp hy with h | h
        · exact hPy y h
        · rw [List.mem_singleton.mp h]; exact him
      · intro d hd
        have hd : d < (P ++ [i]).length := hd
        show S2.1 11 d = nI (g_V M ((P ++ [i]).getD d 0))
        rw [hb11]
        by_cases e : d = P.length
        · subst e
          rw [if_pos rfl, ip_last]
        · rw [if_neg e, h11 d (by show d < P.length; omega), hord d (by show d < P.length; omega), ip_init (by omega)]
      · intro x hx
        show S2.1 10 x = if x ∈ P ++ [i] then 1 else 0
        rw [hb10]
        by_cases e : x = i
        · subst e
          rw [if_pos rfl, if_pos (List.mem_append_right _ List.mem_cons_self)]
        · rw [if_neg e, congrFun h10 x, hpl x hx]
          show (if x ∈ P then (1 : Int32) else 0) = _
          by_cases hm : x ∈ P
          · rw [if_pos hm, if_pos (List.mem_append_left _ hm)]
          · rw [if_neg hm, if_neg]
            intro z
            rcases List.mem_append.mp z with h | h
            · exact hm h
            · exact e (List.mem_singleton.mp h)
      · exact ⟨by rw [hb85]; exact hB.1, fun x h1 h2 => by rw [hb12]; exact hB.2 x h1 h2⟩
      rintro r S3 ⟨rfl, hB3, hL3, h310, h311⟩
      refine And.intro in1 ?_
      rw [c1, show vp_nar .boolean 0 = 0 from rfl]
      refine Exists.intro (k - 1) (And.intro (by omega) ⟨i + 1, _, _, _, rfl, rfl, rfl, nI_1 i, by omega, hlt, hPl, ?_, ((hL.tr hL2).tr hL3).sI (Or.inr ⟨by decide, by decide⟩) _, ?_, ?_, by omega⟩)
      · rw [hrs, List.foldl_append]
        show ip_B M (if i ∈ P then _ else g_dfs M (g_V M) (g_mn M) (g_mn M - (P.length + 1)) (P ++ [i]) _) _
        rw [if_neg hiP]
        have hB3 : ip_B M (g_dfs M (g_V M) (g_mn M) (g_mn M - (P ++ [i]).length) (P ++ [i]) _) S3 := hB3
        rw [el] at hB3
        exact ⟨by rw [ip_sI_p (by decide)]; exact hB3.1, fun x h1 h2 => by rw [ip_sI_p (by decide)]; exact hB3.2 x h1 h2⟩
      · funext x
        by_cases e : x = i
        · subst e
          rw [ip_sI_same]
          show 0 = S.1 10 x
          rw [hpl x him]
          show 0 = if x ∈ P then (1 : Int32) else 0
          rw [if_neg hiP]
        · rw [ip_sI_k e, congrFun h310 x, hb10, if_neg e]
          exact congrFun h10 x
      · intro d hd
        have hd : d < P.length := hd
        rw [ip_sI_p (by decide), h311 d (by show d < (P ++ [i]).length; omega), hb11, if_neg (by omega)]
        exact h11 d hd
set_option maxRecDepth 100000 in
set_option maxHeartbeats 4000000 in
theorem vX2_place (n : Nat) (M : ip_Pg) (a : Nat) (dp fr la : Int32) (S : ip_S) (hS : ip_Sta S) (hp : ip_pP (n + 1) M a dp fr la S) : ip_run (pX2_place n (postX2_place (n + 1) M [.inr (.inl (some a)), .inl dp, .inl fr, .inl la] S)) (fun pc => Nat.beq pc 26) (fun pc loc st S2 => ∃ k, iX2_place n M a dp fr la S k pc loc st S2) 110 0 [some (.inr (.inl (some a))), some (.inl dp), some (.inl fr), some (.inl la), none, none, none] [] S := by
  obtain ⟨⟨M, P, b0⟩, hM⟩ : ∃ θ : ip_Pg, θ = M := ⟨M, rfl⟩
  subst hM
  have hp0 := hp
  obtain ⟨rfl, hR, hgt, rfl, hcs, hPm, hPn, hPy, hord, hpl, hB0⟩ := hp
  have h5 := g_mn5 M
  have hPm : P.length ≤ g_mn M := hPm
  have e5 : S.1 8 5 = b0.1 := hB0.1
  refine And.intro (fun q => ?_) (fun q => ?_)
  rotate_left
  · rw [e5] at q
    have q := Int32.not_lt.mp q
    refine And.intro rfl ⟨?_, ip_fPl.rf, rfl, fun _ _ => rfl⟩
    show ip_B M (g_dfs M (g_V M) (g_mn M) (g_mn M - P.length) P b0) S
    have e : g_dfs M (g_V M) (g_mn M) (g_mn M - P.length) P b0 = b0 := by
      cases g_mn M - P.length with
      | zero => unfold g_dfs; rw [← hcs]; exact if_pos q
      | succ j => unfold g_dfs; rw [← hcs]; exact if_pos q
    rw [e]
    exact hB0
  rw [e5] at q
  refine And.intro (fun q2 => ?_) (fun q2 => ?_)
  · have q2 : nI P.length < S.1 8 4 := q2
    rw [hgt.1] at q2
    have q2 : nI P.length < nI (g_mn M) := q2
    rw [nI_ltI (by omega) (by omega)] at q2
    exact Exists.intro (g_mn M) ⟨0, _, _, _, rfl, rfl, rfl, rfl, Nat.zero_le _, Int32.not_le.mpr q, q2, hB0, ip_fPl.rf, rfl, fun _ _ => rfl, rfl⟩
  · have q2 : ¬ nI P.length < S.1 8 4 := q2
    rw [hgt.1] at q2
    have q2 : ¬ nI P.length < nI (g_mn M) := q2
    rw [nI_ltI (by omega) (by omega)] at q2
    have e : g_mn M = P.length := by omega
    refine And.intro (And.intro rfl ⟨g_mn M, h5, hgt.1⟩) ?_
    rintro r S' ⟨rfl, k5, k12, kL, k10, k11⟩
    have e4 : S.1 8 4 = nI (g_mn M) := hgt.1
    rw [e4, nI_clamp (by omega)] at k12
    refine And.intro rfl ⟨?_, kL, k10, fun d _ => congrFun k11 d⟩
    show ip_B M (g_dfs M (g_V M) (g_mn M) (g_mn M - P.length) P b0) S'
    rw [show g_mn M - P.length = 0 by omega]
    unfold g_dfs
    rw [← hcs, if_neg (Int32.not_le.mpr q)]
    exact ⟨k5, fun x h1 h2 => (k12 x h2).trans (hord x h1)⟩
theorem ctX2_place (l : Launch) : ∀ (n : Nat) (M : ip_Pg), ip_CT l yX2_place wsX2_place (rmX2_place n) ip_Sta (preX2_place n M) (postX2_place n M)
  | 0, M => by
    intro D cA ad L sz as S hp
    obtain ⟨a, dp, fr, la, rfl, hq⟩ := ip_e_riii hp
    exact absurd hq.2.2.2.2.2.2.1 (Nat.not_lt_zero _)
  | n + 1, M => by
    refine ip_of (cc := cX2_place) (maxL := 7) (ret := none) (by decide +kernel) rfl (fun _ => (0, 0)) rfl ?_ ?_
    · intro as S h
      obtain ⟨a, dp, fr, la, rfl, hq⟩ := ip_e_riii h
      exact ⟨Nat.le_of_ble_eq_true rfl, by simp⟩
    intro p e s m args below meth c D cA A ad0 as S h hI hx hb hml hown hts hr hlocks hname hA hNx
    obtain ⟨a, dp, fr, la, rfl, hq⟩ := ip_e_riii h
    have ht := tX2_place (n := n) (D := D) (cA := cA) (A := A) (ad0 := ad0) (l := l) (e := e) (below := below) (S0 := S) (po := postX2_place (n + 1) M [.inr (.inl (some a)), .inl dp, .inl fr, .inl la] S) (ctX2_place l n) hx hb hml hown hts hr hlocks hname hA hNx
    refine ip_run_ok ht (fun pc loc st S2 hh => ?_) 110 0 _ _ S (vX2_place n M a dp fr la S hI hq)
    obtain ⟨k, hk⟩ := hh
    exact ip_loop ht (iX2_place n M a dp fr la S) (lpX2_place n M a dp fr la S hI hq) k pc loc st S2 hk
