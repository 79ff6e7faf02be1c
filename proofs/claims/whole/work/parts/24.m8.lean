def preX5_leaves (M : ip_M) : List ip_V → ip_S → Prop := ip_h_ri (fun _ => False) (fun a pd S => a = 50 ∧ ip_eM M S ∧ ∃ p, p < 3 ∧ pd = nI p ∧ (M 64 p = 0 ∨ ∃ j, j < 12 ∧ M 64 p = nI (j + 1)))
def postX5_leaves (M : ip_M) : List ip_V → ip_S → List ip_V → ip_S → Prop := ip_h_ri (fun _ _ _ => True) (fun a pd S r S' => r = [] ∧ ip_EM (g_lv1 M pd.toNatClampNeg) S S')
theorem shX5_leaves (M : ip_M) : ∀ as S, ip_Sta S → preX5_leaves M as S → ∃ (b : Nat) (as' : List ip_V), as = .inr (.inl (some b)) :: as' ∧ as'.length = 1 ∧ (S.2.2.2 b).1 = 5 := by
  intro as S hI h
  obtain ⟨a, pd, rfl, hq⟩ := ip_e_ri h
  exact ⟨_, _, rfl, rfl, by rw [hq.1, hI.1 50 (by decide)]; rfl⟩
def rmX5_leaves : Room := { frames := 1, cells := 0, slots := 0, locals := 40 }
def pX5_leaves (po : List ip_V → ip_S → Prop) : List (Nat × ip_T) := [(0, ip_t_ar 0 1), (1, ip_t_gR0 50 64 4), (4, ip_t_il 1 5), (5, ip_t_ld 6 6), (6, ip_t_ci 1 7), (7, ip_t_isub 8), (8, ip_t_is 2 9), (9, ip_t_il 2 10), (10, ip_t_iflt 35 13), (13, ip_t_ar 0 14), (14, ip_t_gR0 50 72 17), (17, ip_t_il 2 18), (18, ip_t_ld 6 19), (19, ip_t_ci 2 20), (20, ip_t_ar 0 21), (21, ip_t_gR0 50 66 24), (24, ip_t_il 2 25), (25, ip_t_ld 6 26), (26, ip_t_imul 27), (27, ip_t_iadd 28), (28, ip_t_ar 0 29), (29, ip_t_gI0 50 0 32), (32, ip_t_iceq 36 35), (35, ip_t_vret po), (36, ip_t_ar 0 37), (37, ip_t_gR0 50 64 40), (40, ip_t_il 1 41), (41, ip_t_ci 0 42), (42, ip_t_st 43), (43, ip_t_ar 0 44), (44, ip_t_gI0 50 0 47), (47, ip_t_ar 0 48), (48, ip_t_gR0 50 69 51), (51, ip_t_il 2 52), (52, ip_t_ld 6 53), (53, ip_t_iadd 54), (54, ip_t_is 3 55), (55, ip_t_il 3 56), (56, ip_t_ar 0 57), (57, ip_t_gR0 50 72 60), (60, ip_t_il 2 61), (61, ip_t_ld 6 62), (62, ip_t_isub 63), (63, ip_t_ar 0 64), (64, ip_t_gR0 50 73 67), (67, ip_t_il 2 68), (68, ip_t_ld 6 69), (69, ip_t_icgt 89 72), (72, ip_t_ar 0 73), (73, ip_t_gR0 50 71 76), (76, ip_t_il 2 77), (77, ip_t_ci 2 78), (78, ip_t_st 79), (79, ip_t_ar 0 80), (80, ip_t_gR0 50 75 83), (83, ip_t_il 2 84), (84, ip_t_il 3 85), (85, ip_t_st 86), (86, ip_t_go 113), (89, ip_t_ar 0 90), (90, ip_t_gR0 50 71 93), (93, ip_t_il 2 94), (94, ip_t_ci 0 95), (95, ip_t_st 96), (96, ip_t_ar 0 97), (97, ip_t_gR0 50 68 100), (100, ip_t_il 2 101), (101, ip_t_il 3 102), (102, ip_t_st 103), (103, ip_t_ar 0 104), (104, ip_t_gR0 50 74 107), (107, ip_t_il 2 108), (108, ip_t_dup2 109), (109, ip_t_ld 6 110), (110, ip_t_ci 1 111), (111, ip_t_iadd 112), (112, ip_t_st 113), (113, ip_t_vret po)]
set_option maxRecDepth 100000 in
set_option maxHeartbeats 4000000 in
theorem tX5_leaves {p : Program} {l : Launch} {e : Env} {s : State} {m : MethodId} {args : Array Value} {below : List Frame} {meth : Method} {c : Code} {D : va_G} {cA : Nat → ClassId} {A : Nat → Prop} {ad0 : Nat → Nat} {S0 : ip_S} {po : List ip_V → ip_S → Prop} (hx : p.tables.exec = Jvm.exec) (hb : c.code = cX5_leaves) (hml : c.maxLocals = 4) (hown : s.vm.findClass RX5 = some m.cls) (hts : ∀ w ∈ wsX5_leaves, w.before args s = true) (hr : meth.sig.returnType = none) (hlocks : meth.locks = false) (hname : meth.name = yX5_leaves.name) (hA : ∀ q, s.heap.size ≤ q → A q) (hNx : ip_Nx s) : ∀ q ∈ pX5_leaves po, ip_snd p l e rmX5_leaves s m args below meth c D cA A (MQ below (ip_Q ip_Sta D cA ad0 S0 A po) args s 0 0 A) 4 (fun _ => (0, 0)) ip_Sta ad0 S0 q.1 q.2 := by
  have hIs : ∀ S, ip_Sta S → ip_Sta S := fun _ h => h
  have hIn := ip_In_Sta
  have hS9 : CallFix p m c cX5_leaves 4 s args wsX5_leaves RX5 := ⟨hx, hb, hml, hown, hts⟩
  have hin5 : ∀ w ∈ u_ws RX5 TX5 32, w ∈ wsX5_leaves := by decide +kernel
  refine List.forall_mem_cons.mpr ⟨ip_s_aload_n hx hb dX5_leaves_0 rfl rfl, ?_⟩
  refine List.forall_mem_cons.mpr ⟨ip_s_gR0 hx hb hts hin5 hown rfl (by decide) 14 (by decide) (hts (.fieldLink RX5 45 "IcePadsModel" "onPad" "[I") (by decide +kernel)) (fun _ h9 => h9) hIs 50 64 rfl (by decide) rfl dX5_leaves_1 rfl, ?_⟩
  refine List.forall_mem_cons.mpr ⟨ip_s_iload_n hx hb dX5_leaves_4 rfl rfl, ?_⟩
  refine List.forall_mem_cons.mpr ⟨ip_s_ldi hx hb hIs dX5_leaves_5 rfl, ?_⟩
  refine List.forall_mem_cons.mpr ⟨ip_s_iconst hx hb dX5_leaves_6 rfl rfl, ?_⟩
  refine List.forall_mem_cons.mpr ⟨ip_s_isub hx hb dX5_leaves_7 rfl, ?_⟩
  refine List.forall_mem_cons.mpr ⟨ip_s_istore_n hx hb dX5_leaves_8 rfl (by decide) rfl, ?_⟩
  refine List.forall_mem_cons.mpr ⟨ip_s_iload_n hx hb dX5_leaves_9 rfl rfl, ?_⟩
  refine List.forall_mem_cons.mpr ⟨ip_s_iflt (t := 35) hx hb dX5_leaves_10 (by decide) rfl rfl, ?_⟩
  refine List.forall_mem_cons.mpr ⟨ip_s_aload_n hx hb dX5_leaves_13 rfl rfl, ?_⟩
  refine List.forall_mem_cons.mpr ⟨ip_s_gR0 hx hb hts hin5 hown rfl (by decide) 22 (by decide) (hts (.fieldLink RX5 66 "IcePadsModel" "start" "[I") (by decide +kernel)) (fun _ h9 => h9) hIs 50 72 rfl (by decide) rfl dX5_leaves_14 rfl, ?_⟩
  refine List.forall_mem_cons.mpr ⟨ip_s_iload_n hx hb dX5_leaves_17 rfl rfl, ?_⟩
  refine List.forall_mem_cons.mpr ⟨ip_s_ldi hx hb hIs dX5_leaves_18 rfl, ?_⟩
  refine List.forall_mem_cons.mpr ⟨ip_s_iconst hx hb dX5_leaves_19 rfl rfl, ?_⟩
  refine List.forall_mem_cons.mpr ⟨ip_s_aload_n hx hb dX5_leaves_20 rfl rfl, ?_⟩
  refine List.forall_mem_cons.mpr ⟨ip_s_gR0 hx hb hts hin5 hown rfl (by decide) 16 (by decide) (hts (.fieldLink RX5 48 "IcePadsModel" "size" "[I") (by decide +kernel)) (fun _ h9 => h9) hIs 50 66 rfl (by decide) rfl dX5_leaves_21 rfl, ?_⟩
  refine List.forall_mem_cons.mpr ⟨ip_s_iload_n hx hb dX5_leaves_24 rfl rfl, ?_⟩
  refine List.forall_mem_cons.mpr ⟨ip_s_ldi hx hb hIs dX5_leaves_25 rfl, ?_⟩
  refine List.forall_mem_cons.mpr ⟨ip_s_imul hx hb dX5_leaves_26 rfl, ?_⟩
  refine List.forall_mem_cons.mpr ⟨ip_s_iadd hx hb dX5_leaves_27 rfl, ?_⟩
  refine List.forall_mem_cons.mpr ⟨ip_s_aload_n hx hb dX5_leaves_28 rfl rfl, ?_⟩
  refine List.forall_mem_cons.mpr ⟨ip_s_gI0 hx hb hts hin5 hown rfl (by decide) 0 (by decide) (hts (.fieldLink RX5 87 "IcePadsModel" "now" "I") (by decide +kernel)) (fun _ h9 => h9) hIs 50 rfl rfl dX5_leaves_29 rfl, ?_⟩
  refine List.forall_mem_cons.mpr ⟨ip_s_iceq (t := 36) hx hb dX5_leaves_32 (by decide) rfl rfl, ?_⟩
  refine List.forall_mem_cons.mpr ⟨ip_s_vret hx hb hr hlocks (Nat.le_of_ble_eq_true rfl) (Nat.le_of_ble_eq_true rfl) dX5_leaves_35, ?_⟩
  refine List.forall_mem_cons.mpr ⟨ip_s_aload_n hx hb dX5_leaves_36 rfl rfl, ?_⟩
  refine List.forall_mem_cons.mpr ⟨ip_s_gR0 hx hb hts hin5 hown rfl (by decide) 14 (by decide) (hts (.fieldLink RX5 45 "IcePadsModel" "onPad" "[I") (by decide +kernel)) (fun _ h9 => h9) hIs 50 64 rfl (by decide) rfl dX5_leaves_37 rfl, ?_⟩
  refine List.forall_mem_cons.mpr ⟨ip_s_iload_n hx hb dX5_leaves_40 rfl rfl, ?_⟩
  refine List.forall_mem_cons.mpr ⟨ip_s_iconst hx hb dX5_leaves_41 rfl rfl, ?_⟩
  refine List.forall_mem_cons.mpr ⟨ip_s_sti hx hb hIn hIs dX5_leaves_42 rfl, ?_⟩
  refine List.forall_mem_cons.mpr ⟨ip_s_aload_n hx hb dX5_leaves_43 rfl rfl, ?_⟩
  refine List.forall_mem_cons.mpr ⟨ip_s_gI0 hx hb hts hin5 hown rfl (by decide) 0 (by decide) (hts (.fieldLink RX5 87 "IcePadsModel" "now" "I") (by decide +kernel)) (fun _ h9 => h9) hIs 50 rfl rfl dX5_leaves_44 rfl, ?_⟩
  refine List.forall_mem_cons.mpr ⟨ip_s_aload_n hx hb dX5_leaves_47 rfl rfl, ?_⟩
  refine List.forall_mem_cons.mpr ⟨ip_s_gR0 hx hb hts hin5 hown rfl (by decide) 19 (by decide) (hts (.fieldLink RX5 57 "IcePadsModel" "roll" "[I") (by decide +kernel)) (fun _ h9 => h9) hIs 50 69 rfl (by decide) rfl dX5_leaves_48 rfl, ?_⟩
  refine List.forall_mem_cons.mpr ⟨ip_s_iload_n hx hb dX5_leaves_51 rfl rfl, ?_⟩
  refine List.forall_mem_cons.mpr ⟨ip_s_ldi hx hb hIs dX5_leaves_52 rfl, ?_⟩
  refine List.forall_mem_cons.mpr ⟨ip_s_iadd hx hb dX5_leaves_53 rfl, ?_⟩
  refine List.forall_mem_cons.mpr ⟨ip_s_istore_n hx hb dX5_leaves_54 rfl (by decide) rfl, ?_⟩
  refine List.forall_mem_cons.mpr ⟨ip_s_iload_n hx hb dX5_leaves_55 rfl rfl, ?_⟩
  refine List.forall_mem_cons.mpr ⟨ip_s_aload_n hx hb dX5_leaves_56 rfl rfl, ?_⟩
  refine List.forall_mem_cons.mpr ⟨ip_s_gR0 hx hb hts hin5 hown rfl (by decide) 22 (by decide) (hts (.fieldLink RX5 66 "IcePadsModel" "start" "[I") (by decide +kernel)) (fun _ h9 => h9) hIs 50 72 rfl (by decide) rfl dX5_leaves_57 rfl, ?_⟩
  refine List.forall_mem_cons.mpr ⟨ip_s_iload_n hx hb dX5_leaves_60 rfl rfl, ?_⟩
  refine List.forall_mem_cons.mpr ⟨ip_s_ldi hx hb hIs dX5_leaves_61 rfl, ?_⟩
  refine List.forall_mem_cons.mpr ⟨ip_s_isub hx hb dX5_leaves_62 rfl, ?_⟩
  refine List.forall_mem_cons.mpr ⟨ip_s_aload_n hx hb dX5_leaves_63 rfl rfl, ?_⟩
  refine List.forall_mem_cons.mpr ⟨ip_s_gR0 hx hb hts hin5 hown rfl (by decide) 23 (by decide) (hts (.fieldLink RX5 69 "IcePadsModel" "holds" "[I") (by decide +kernel)) (fun _ h9 => h9) hIs 50 73 rfl (by decide) rfl dX5_leaves_64 rfl, ?_⟩
  refine List.forall_mem_cons.mpr ⟨ip_s_iload_n hx hb dX5_leaves_67 rfl rfl, ?_⟩
  refine List.forall_mem_cons.mpr ⟨ip_s_ldi hx hb hIs dX5_leaves_68 rfl, ?_⟩
  refine List.forall_mem_cons.mpr ⟨ip_s_icgt (t := 89) hx hb dX5_leaves_69 (by decide) rfl rfl, ?_⟩
  refine List.forall_mem_cons.mpr ⟨ip_s_aload_n hx hb dX5_leaves_72 rfl rfl, ?_⟩
  refine List.forall_mem_cons.mpr ⟨ip_s_gR0 hx hb hts hin5 hown rfl (by decide) 21 (by decide) (hts (.fieldLink RX5 63 "IcePadsModel" "state" "[I") (by decide +kernel)) (fun _ h9 => h9) hIs 50 71 rfl (by decide) rfl dX5_leaves_73 rfl, ?_⟩
  refine List.forall_mem_cons.mpr ⟨ip_s_iload_n hx hb dX5_leaves_76 rfl rfl, ?_⟩
  refine List.forall_mem_cons.mpr ⟨ip_s_iconst hx hb dX5_leaves_77 rfl rfl, ?_⟩
  refine List.forall_mem_cons.mpr ⟨ip_s_sti hx hb hIn hIs dX5_leaves_78 rfl, ?_⟩
  refine List.forall_mem_cons.mpr ⟨ip_s_aload_n hx hb dX5_leaves_79 rfl rfl, ?_⟩
  refine List.forall_mem_cons.mpr ⟨ip_s_gR0 hx hb hts hin5 hown rfl (by decide) 25 (by decide) (hts (.fieldLink RX5 75 "IcePadsModel" "flew" "[I") (by decide +kernel)) (fun _ h9 => h9) hIs 50 75 rfl (by decide) rfl dX5_leaves_80 rfl, ?_⟩
  refine List.forall_mem_cons.mpr ⟨ip_s_iload_n hx hb dX5_leaves_83 rfl rfl, ?_⟩
  refine List.forall_mem_cons.mpr ⟨ip_s_iload_n hx hb dX5_leaves_84 rfl rfl, ?_⟩
  refine List.forall_mem_cons.mpr ⟨ip_s_sti hx hb hIn hIs dX5_leaves_85 rfl, ?_⟩
  refine List.forall_mem_cons.mpr ⟨ip_s_go (t := 113) hx hb dX5_leaves_86 (by decide) (Nat.le_of_ble_eq_true rfl) (Nat.le_of_ble_eq_true rfl), ?_⟩
  refine List.forall_mem_cons.mpr ⟨ip_s_aload_n hx hb dX5_leaves_89 rfl rfl, ?_⟩
  refine List.forall_mem_cons.mpr ⟨ip_s_gR0 hx hb hts hin5 hown rfl (by decide) 21 (by decide) (hts (.fieldLink RX5 63 "IcePadsModel" "state" "[I") (by decide +kernel)) (fun _ h9 => h9) hIs 50 71 rfl (by decide) rfl dX5_leaves_90 rfl, ?_⟩
  refine List.forall_mem_cons.mpr ⟨ip_s_iload_n hx hb dX5_leaves_93 rfl rfl, ?_⟩
  refine List.forall_mem_cons.mpr ⟨ip_s_iconst hx hb dX5_leaves_94 rfl rfl, ?_⟩
  refine List.forall_mem_cons.mpr ⟨ip_s_sti hx hb hIn hIs dX5_leaves_95 rfl, ?_⟩
  refine List.forall_mem_cons.mpr ⟨ip_s_aload_n hx hb dX5_leaves_96 rfl rfl, ?_⟩
  refine List.forall_mem_cons.mpr ⟨ip_s_gR0 hx hb hts hin5 hown rfl (by decide) 18 (by decide) (hts (.fieldLink RX5 54 "IcePadsModel" "ready" "[I") (by decide +kernel)) (fun _ h9 => h9) hIs 50 68 rfl (by decide) rfl dX5_leaves_97 rfl, ?_⟩
  refine List.forall_mem_cons.mpr ⟨ip_s_iload_n hx hb dX5_leaves_100 rfl rfl, ?_⟩
  refine List.forall_mem_cons.mpr ⟨ip_s_iload_n hx hb dX5_leaves_101 rfl rfl, ?_⟩
  refine List.forall_mem_cons.mpr ⟨ip_s_sti hx hb hIn hIs dX5_leaves_102 rfl, ?_⟩
  refine List.forall_mem_cons.mpr ⟨ip_s_aload_n hx hb dX5_leaves_103 rfl rfl, ?_⟩
  refine List.forall_mem_cons.mpr ⟨ip_s_gR0 hx hb hts hin5 hown rfl (by decide) 24 (by decide) (hts (.fieldLink RX5 72 "IcePadsModel" "backs" "[I") (by decide +kernel)) (fun _ h9 => h9) hIs 50 74 rfl (by decide) rfl dX5_leaves_104 rfl, ?_⟩
  refine List.forall_mem_cons.mpr ⟨ip_s_iload_n hx hb dX5_leaves_107 rfl rfl, ?_⟩
  refine List.forall_mem_cons.mpr ⟨ip_s_dup2 hx hb dX5_leaves_108 rfl, ?_⟩
  refine List.forall_mem_cons.mpr ⟨ip_s_ldi hx hb hIs dX5_leaves_109 rfl, ?_⟩
  refine List.forall_mem_cons.mpr ⟨ip_s_iconst hx hb dX5_leaves_110 rfl rfl, ?_⟩
  refine List.forall_mem_cons.mpr ⟨ip_s_iadd hx hb dX5_leaves_111 rfl, ?_⟩
  refine List.forall_mem_cons.mpr ⟨ip_s_sti hx hb hIn hIs dX5_leaves_112 rfl, ?_⟩
  refine List.forall_mem_cons.mpr ⟨ip_s_vret hx hb hr hlocks (Nat.le_of_ble_eq_true rfl) (Nat.le_of_ble_eq_true rfl) dX5_leaves_113, ?_⟩
  exact fun _ h => absurd h List.not_mem_nil
set_option maxRecDepth 100000 in
set_option maxHeartbeats 4000000 in
theorem vX5_leaves (M : ip_M) (a : Nat) (pd : Int32) (S : ip_S) (hS : ip_Sta S) (hp : a = 50 ∧ ip_eM M S ∧ ∃ p, p < 3 ∧ pd = nI p ∧ (M 64 p = 0 ∨ ∃ j, j < 12 ∧ M 64 p = nI (j + 1))) : ip_run (pX5_leaves (postX5_leaves M [.inr (.inl (some a)), .inl pd] S)) (fun _ => false) (fun _ _ _ _ => False) 90 0 [some (.inr (.inl (some a))), some (.inl pd), none, none] [] S := by
  obtain ⟨rfl, hE, p, hp3, rfl, hcase⟩ := hp
  obtain ⟨hin3, hcp⟩ := ip_inN (n := 3) (N := 3) hp3 (by decide) (by decide)
  have e64 : S.1 64 (nI p).toNatClampNeg = M 64 p := by rw [hcp]; exact congrFun (hE 64 (by decide)) _
  refine And.intro hin3 ?_
  rw [e64]
  rcases hcase with h0 | ⟨j, hj, hj1⟩
  · rw [h0]
    refine And.intro (fun _ => ?_) (fun q => absurd (show (0 : Int32) - 1 < 0 by decide) q)
    refine And.intro rfl ?_
    rw [hcp, g_lv1_0 h0]
    exact ip_EM.rf hE
  · obtain ⟨hin12, hcj⟩ := ip_inN (n := 12) (N := 12) hj (by decide) (by decide)
    rw [hj1]
    refine And.intro (fun q => ?_) (fun q => ?_)
    · rw [nI_pred] at q
      exact absurd q (nI_pos (by omega))
    rw [nI_pred]
    have e50 : S.1 50 0 = M 50 0 := congrFun (hE 50 (by decide)) _
    have e72 : S.1 72 (nI j).toNatClampNeg = M 72 j := by rw [hcj]; exact congrFun (hE 72 (by decide)) _
    have e66 : S.1 66 (nI j).toNatClampNeg = M 66 j := by rw [hcj]; exact congrFun (hE 66 (by decide)) _
    have e69 : S.1 69 (nI j).toNatClampNeg = M 69 j := by rw [hcj]; exact congrFun (hE 69 (by decide)) _
    have e73 : S.1 73 (nI j).toNatClampNeg = M 73 j := by rw [hcj]; exact congrFun (hE 73 (by decide)) _
    have e74 : S.1 74 (nI j).toNatClampNeg = M 74 j := by rw [hcj]; exact congrFun (hE 74 (by decide)) _
    refine And.intro hin12 ?_
    refine And.intro hin12 ?_
    refine And.intro (fun q => ?_) (fun q => ?_)
    · rw [e72, e66, e50] at q
      refine And.intro hin3 ?_
      refine And.intro hin12 ?_
      refine And.intro hin12 ?_
      refine And.intro hin12 ?_
      refine And.intro (fun q2 => ?_) (fun q2 => ?_)
      · rw [ip_sI_p (by decide), ip_sI_p (by decide), ip_sI_p (by decide), ip_sI_p (by decide), e50, e69, e72, e73] at q2
        refine And.intro hin12 ?_
        refine And.intro hin12 ?_
        refine And.intro hin12 ?_
        refine And.intro hin12 ?_
        refine And.intro rfl ?_
        rw [hcp, g_lv1_j hj1 hj, if_pos q, if_neg (Int32.not_le.mpr q2)]
        have w1 : (ip_sI S 64 p 0).1 50 0 + (ip_sI S 64 p 0).1 69 (nI j).toNatClampNeg = M 50 0 + M 69 j := by rw [ip_sI_p (by decide), ip_sI_p (by decide), e50, e69]
        have w2 : ∀ v, (ip_sI (ip_sI (ip_sI S 64 p 0) 71 (nI j).toNatClampNeg 0) 68 (nI j).toNatClampNeg v).1 74 (nI j).toNatClampNeg = M 74 j := fun v => by rw [ip_sI_p (by decide), ip_sI_p (by decide), ip_sI_p (by decide), e74]
        rw [w2, w1, hcj]
        exact ((((ip_EM.rf hE).u (by decide) _ _).u (by decide) _ _).u (by decide) _ _).u (by decide) _ _
      · rw [ip_sI_p (by decide), ip_sI_p (by decide), ip_sI_p (by decide), ip_sI_p (by decide), e50, e69, e72, e73] at q2
        refine And.intro hin12 ?_
        refine And.intro hin12 ?_
        refine And.intro rfl ?_
        rw [hcp, g_lv1_j hj1 hj, if_pos q, if_pos (Int32.not_lt.mp q2)]
        have w1 : (ip_sI S 64 p 0).1 50 0 + (ip_sI S 64 p 0).1 69 (nI j).toNatClampNeg = M 50 0 + M 69 j := by rw [ip_sI_p (by decide), ip_sI_p (by decide), e50, e69]
        rw [w1, hcj]
        exact (((ip_EM.rf hE).u (by decide) _ _).u (by decide) _ _).u (by decide) _ _
    · rw [e72, e66, e50] at q
      refine And.intro rfl ?_
      rw [hcp, g_lv1_j hj1 hj, if_neg q]
      exact ip_EM.rf hE
theorem ctX5_leaves (l : Launch) (M : ip_M) : ip_CT l yX5_leaves wsX5_leaves rmX5_leaves ip_Sta (preX5_leaves M) (postX5_leaves M) := by
  refine ip_of (cc := cX5_leaves) (maxL := 4) (ret := none) (by decide +kernel) rfl (fun _ => (0, 0)) rfl ?_ ?_
  · intro as S h
    obtain ⟨a, pd, rfl, hq⟩ := ip_e_ri h
    exact ⟨Nat.le_of_ble_eq_true rfl, by simp⟩
  intro p e s m args below meth c D cA A ad0 as S h hI hx hb hml hown hts hr hlocks hname hA hNx
  obtain ⟨a, pd, rfl, hq⟩ := ip_e_ri h
  refine ip_run_ok (stop := fun _ => false) (tX5_leaves hx hb hml hown hts hr hlocks hname hA hNx) (fun _ _ _ _ h => False.elim h) 90 0 _ _ S ?_
  exact vX5_leaves M a pd S hI hq

def preX5_mayBegin (M : ip_M) : List ip_V → ip_S → Prop := ip_h_ri (fun _ => False) (fun a jj S => a = 50 ∧ ip_eM M S ∧ ∃ j f, j < 12 ∧ jj = nI j ∧ f < 4 ∧ M 70 j = nI f)
def postX5_mayBegin (M : ip_M) : List ip_V → ip_S → List ip_V → ip_S → Prop := ip_h_ri (fun _ _ _ => True) (fun a jj S r S' => r = [.inl (if g_may M jj.toNatClampNeg then 1 else 0)] ∧ S' = S)
theorem shX5_mayBegin (M : ip_M) : ∀ as S, ip_Sta S → preX5_mayBegin M as S → ∃ (b : Nat) (as' : List ip_V), as = .inr (.inl (some b)) :: as' ∧ as'.length = 1 ∧ (S.2.2.2 b).1 = 5 := by
  intro as S hI h
  obtain ⟨a, jj, rfl, hq⟩ := ip_e_ri h
  exact ⟨_, _, rfl, rfl, by rw [hq.1, hI.1 50 (by decide)]; rfl⟩
def rmX5_mayBegin : Room := { frames := 1, cells := 0, slots := 0, locals := 40 }
def pX5_mayBegin (po : List ip_V → ip_S → Prop) : List (Nat × ip_T) := [(0, ip_t_ar 0 1), (1, ip_t_gR0 50 71 4), (4, ip_t_il 1 5), (5, ip_t_ld 6 6), (6, ip_t_ifne 70 9), (9, ip_t_ar 0 10), (10, ip_t_gR0 50 68 13), (13, ip_t_il 1 14), (14, ip_t_ld 6 15), (15, ip_t_ar 0 16), (16, ip_t_gI0 50 0 19), (19, ip_t_icgt 70 22), (22, ip_t_ar 0 23), (23, ip_t_gR0 50 59 26), (26, ip_t_ar 0 27), (27, ip_t_gR0 50 70 30), (30, ip_t_il 1 31), (31, ip_t_ld 6 32), (32, ip_t_ld 6 33), (33, ip_t_ci 10 35), (35, ip_t_ar 0 36), (36, ip_t_gR0 50 66 39), (39, ip_t_il 1 40), (40, ip_t_ld 6 41), (41, ip_t_imul 42), (42, ip_t_iclt 70 45), (45, ip_t_ar 0 46), (46, ip_t_gI0 50 13 49), (49, ip_t_ci 8 51), (51, ip_t_ar 0 52), (52, ip_t_gR0 50 66 55), (55, ip_t_il 1 56), (56, ip_t_ld 6 57), (57, ip_t_imul 58), (58, ip_t_iadd 59), (59, ip_t_ar 0 60), (60, ip_t_gI0 50 11 63), (63, ip_t_icgt 70 66), (66, ip_t_ci 1 67), (67, ip_t_go 71), (70, ip_t_ci 0 71), (71, ip_t_zret po)]
set_option maxRecDepth 100000 in
set_option maxHeartbeats 4000000 in
theorem tX5_mayBegin {p : Program} {l : Launch} {e : Env} {s : State} {m : MethodId} {args : Array Value} {below : List Frame} {meth : Method} {c : Code} {D : va_G} {cA : Nat → ClassId} {A : Nat → Prop} {ad0 : Nat → Nat} {S0 : ip_S} {po : List ip_V → ip_S → Prop} (hx : p.tables.exec = Jvm.exec) (hb : c.code = cX5_mayBegin) (hml : c.maxLocals = 2) (hown : s.vm.findClass RX5 = some m.cls) (hts : ∀ w ∈ wsX5_mayBegin, w.before args s = true) (hr : meth.sig.returnType = (some .boolean)) (hlocks : meth.locks = false) (hname : meth.name = yX5_mayBegin.name) (hA : ∀ q, s.heap.size ≤ q → A q) (hNx : ip_Nx s) : ∀ q ∈ pX5_mayBegin po, ip_snd p l e rmX5_mayBegin s m args below meth c D cA A (MQ below (ip_Q ip_Sta D cA ad0 S0 A po) args s 0 0 A) 2 (fun _ => (0, 0)) ip_Sta ad0 S0 q.1 q.2 := by
  have hIs : ∀ S, ip_Sta S → ip_Sta S := fun _ h => h
  have hIn := ip_In_Sta
  have hS9 : CallFix p m c cX5_mayBegin 2 s args wsX5_mayBegin RX5 := ⟨hx, hb, hml, hown, hts⟩
  have hin5 : ∀ w ∈ u_ws RX5 TX5 32, w ∈ wsX5_mayBegin := by decide +kernel
  refine List.forall_mem_cons.mpr ⟨ip_s_aload_n hx hb dX5_mayBegin_0 rfl rfl, ?_⟩
  refine List.forall_mem_cons.mpr ⟨ip_s_gR0 hx hb hts hin5 hown rfl (by decide) 21 (by decide) (hts (.fieldLink RX5 63 "IcePadsModel" "state" "[I") (by decide +kernel)) (fun _ h9 => h9) hIs 50 71 rfl (by decide) rfl dX5_mayBegin_1 rfl, ?_⟩
  refine List.forall_mem_cons.mpr ⟨ip_s_iload_n hx hb dX5_mayBegin_4 rfl rfl, ?_⟩
  refine List.forall_mem_cons.mpr ⟨ip_s_ldi hx hb hIs dX5_mayBegin_5 rfl, ?_⟩
  refine List.forall_mem_cons.mpr ⟨ip_s_ifne (t := 70) hx hb dX5_mayBegin_6 (by decide) rfl rfl, ?_⟩
  refine List.forall_mem_cons.mpr ⟨ip_s_aload_n hx hb dX5_mayBegin_9 rfl rfl, ?_⟩
  refine List.forall_mem_cons.mpr ⟨ip_s_gR0 hx hb hts hin5 hown rfl (by decide) 18 (by decide) (hts (.fieldLink RX5 54 "IcePadsModel" "ready" "[I") (by decide +kernel)) (fun _ h9 => h9) hIs 50 68 rfl (by decide) rfl dX5_mayBegin_10 rfl, ?_⟩
  refine List.forall_mem_cons.mpr ⟨ip_s_iload_n hx hb dX5_mayBegin_13 rfl rfl, ?_⟩
  refine List.forall_mem_cons.mpr ⟨ip_s_ldi hx hb hIs dX5_mayBegin_14 rfl, ?_⟩
  refine List.forall_mem_cons.mpr ⟨ip_s_aload_n hx hb dX5_mayBegin_15 rfl rfl, ?_⟩
  refine List.forall_mem_cons.mpr ⟨ip_s_gI0 hx hb hts hin5 hown rfl (by decide) 0 (by decide) (hts (.fieldLink RX5 87 "IcePadsModel" "now" "I") (by decide +kernel)) (fun _ h9 => h9) hIs 50 rfl rfl dX5_mayBegin_16 rfl, ?_⟩
  refine List.forall_mem_cons.mpr ⟨ip_s_icgt (t := 70) hx hb dX5_mayBegin_19 (by decide) rfl rfl, ?_⟩
  refine List.forall_mem_cons.mpr ⟨ip_s_aload_n hx hb dX5_mayBegin_22 rfl rfl, ?_⟩
  refine List.forall_mem_cons.mpr ⟨ip_s_gR0 hx hb hts hin5 hown rfl (by decide) 9 (by decide) (hts (.fieldLink RX5 32 "IcePadsModel" "litres" "[I") (by decide +kernel)) (fun _ h9 => h9) hIs 50 59 rfl (by decide) rfl dX5_mayBegin_23 rfl, ?_⟩
  refine List.forall_mem_cons.mpr ⟨ip_s_aload_n hx hb dX5_mayBegin_26 rfl rfl, ?_⟩
  refine List.forall_mem_cons.mpr ⟨ip_s_gR0 hx hb hts hin5 hown rfl (by decide) 20 (by decide) (hts (.fieldLink RX5 60 "IcePadsModel" "fluid" "[I") (by decide +kernel)) (fun _ h9 => h9) hIs 50 70 rfl (by decide) rfl dX5_mayBegin_27 rfl, ?_⟩
  refine List.forall_mem_cons.mpr ⟨ip_s_iload_n hx hb dX5_mayBegin_30 rfl rfl, ?_⟩
  refine List.forall_mem_cons.mpr ⟨ip_s_ldi hx hb hIs dX5_mayBegin_31 rfl, ?_⟩
  refine List.forall_mem_cons.mpr ⟨ip_s_ldi hx hb hIs dX5_mayBegin_32 rfl, ?_⟩
  refine List.forall_mem_cons.mpr ⟨ip_s_bipush hx hb dX5_mayBegin_33 rfl rfl, ?_⟩
  refine List.forall_mem_cons.mpr ⟨ip_s_aload_n hx hb dX5_mayBegin_35 rfl rfl, ?_⟩
  refine List.forall_mem_cons.mpr ⟨ip_s_gR0 hx hb hts hin5 hown rfl (by decide) 16 (by decide) (hts (.fieldLink RX5 48 "IcePadsModel" "size" "[I") (by decide +kernel)) (fun _ h9 => h9) hIs 50 66 rfl (by decide) rfl dX5_mayBegin_36 rfl, ?_⟩
  refine List.forall_mem_cons.mpr ⟨ip_s_iload_n hx hb dX5_mayBegin_39 rfl rfl, ?_⟩
  refine List.forall_mem_cons.mpr ⟨ip_s_ldi hx hb hIs dX5_mayBegin_40 rfl, ?_⟩
  refine List.forall_mem_cons.mpr ⟨ip_s_imul hx hb dX5_mayBegin_41 rfl, ?_⟩
  refine List.forall_mem_cons.mpr ⟨ip_s_iclt (t := 70) hx hb dX5_mayBegin_42 (by decide) rfl rfl, ?_⟩
  refine List.forall_mem_cons.mpr ⟨ip_s_aload_n hx hb dX5_mayBegin_45 rfl rfl, ?_⟩
  refine List.forall_mem_cons.mpr ⟨ip_s_gI0 hx hb hts hin5 hown rfl (by decide) 13 (by decide) (hts (.fieldLink RX5 123 "IcePadsModel" "drain" "I") (by decide +kernel)) (fun _ h9 => h9) hIs 50 rfl rfl dX5_mayBegin_46 rfl, ?_⟩
  refine List.forall_mem_cons.mpr ⟨ip_s_bipush hx hb dX5_mayBegin_49 rfl rfl, ?_⟩
  refine List.forall_mem_cons.mpr ⟨ip_s_aload_n hx hb dX5_mayBegin_51 rfl rfl, ?_⟩
  refine List.forall_mem_cons.mpr ⟨ip_s_gR0 hx hb hts hin5 hown rfl (by decide) 16 (by decide) (hts (.fieldLink RX5 48 "IcePadsModel" "size" "[I") (by decide +kernel)) (fun _ h9 => h9) hIs 50 66 rfl (by decide) rfl dX5_mayBegin_52 rfl, ?_⟩
  refine List.forall_mem_cons.mpr ⟨ip_s_iload_n hx hb dX5_mayBegin_55 rfl rfl, ?_⟩
  refine List.forall_mem_cons.mpr ⟨ip_s_ldi hx hb hIs dX5_mayBegin_56 rfl, ?_⟩
  refine List.forall_mem_cons.mpr ⟨ip_s_imul hx hb dX5_mayBegin_57 rfl, ?_⟩
  refine List.forall_mem_cons.mpr ⟨ip_s_iadd hx hb dX5_mayBegin_58 rfl, ?_⟩
  refine List.forall_mem_cons.mpr ⟨ip_s_aload_n hx hb dX5_mayBegin_59 rfl rfl, ?_⟩
  refine List.forall_mem_cons.mpr ⟨ip_s_gI0 hx hb hts hin5 hown rfl (by decide) 11 (by decide) (hts (.fieldLink RX5 39 "IcePadsModel" "limit" "I") (by decide +kernel)) (fun _ h9 => h9) hIs 50 rfl rfl dX5_mayBegin_60 rfl, ?_⟩
  refine List.forall_mem_cons.mpr ⟨ip_s_icgt (t := 70) hx hb dX5_mayBegin_63 (by decide) rfl rfl, ?_⟩
  refine List.forall_mem_cons.mpr ⟨ip_s_iconst hx hb dX5_mayBegin_66 rfl rfl, ?_⟩
  refine List.forall_mem_cons.mpr ⟨ip_s_go (t := 71) hx hb dX5_mayBegin_67 (by decide) (Nat.le_of_ble_eq_true rfl) (Nat.le_of_ble_eq_true rfl), ?_⟩
  refine List.forall_mem_cons.mpr ⟨ip_s_iconst hx hb dX5_mayBegin_70 rfl rfl, ?_⟩
  refine List.forall_mem_cons.mpr ⟨ip_s_zret hx hb hr hlocks (Nat.le_of_ble_eq_true rfl) (Nat.le_of_ble_eq_true rfl) dX5_mayBegin_71, ?_⟩
  exact fun _ h => absurd h List.not_mem_nil
set_option maxRecDepth 100000 in
set_option maxHeartbeats 4000000 in
theorem vX5_mayBegin (M : ip_M) (a : Nat) (jj : Int32) (S : ip_S) (hS : ip_Sta S) (hp : a = 50 ∧ ip_eM M S ∧ ∃ j f, j < 12 ∧ jj = nI j ∧ f < 4 ∧ M 70 j = nI f) : ip_run (pX5_mayBegin (postX5_mayBegin M [.inr (.inl (some a)), .inl jj] S)) (fun _ => false) (fun _ _ _ _ => False) 90 0 [some (.inr (.inl (some a))), some (.inl jj)] [] S := by
  obtain ⟨rfl, hE, j, f, hj, rfl, hf, hf1⟩ := hp
  obtain ⟨hin12, hcj⟩ := ip_inN (n := 12) (N := 12) hj (by decide) (by decide)
  obtain ⟨hin4, hcf⟩ := ip_inN (n := 4) (N := 4) hf (by decide) (by decide)
  have e50 : S.1 50 0 = M 50 0 := congrFun (hE 50 (by decide)) _
  have e13 : S.1 50 13 = M 50 13 := congrFun (hE 50 (by decide)) _
  have e11 : S.1 50 11 = M 50 11 := congrFun (hE 50 (by decide)) _
  have e71 : S.1 71 (nI j).toNatClampNeg = M 71 j := by rw [hcj]; exact congrFun (hE 71 (by decide)) _
  have e68 : S.1 68 (nI j).toNatClampNeg = M 68 j := by rw [hcj]; exact congrFun (hE 68 (by decide)) _
  have e66 : S.1 66 (nI j).toNatClampNeg = M 66 j := by rw [hcj]; exact congrFun (hE 66 (by decide)) _
  have e70 : S.1 70 (nI j).toNatClampNeg = nI f := by rw [hcj, ← hf1]; exact congrFun (hE 70 (by decide)) _
  have e59 : S.1 59 (nI f).toNatClampNeg = M 59 (M 70 j).toNatClampNeg := by rw [hf1]; exact congrFun (hE 59 (by decide)) _
  refine And.intro hin12 ?_
  refine And.intro (fun q1 => ?_) (fun q1 => ?_)
  · rw [e71] at q1
    refine And.intro (Or.inl rfl) (And.intro ?_ rfl)
    rw [hcj, if_neg (fun z => q1 z.1)]
  rw [e71] at q1
  refine And.intro hin12 ?_
  refine And.intro (fun q2 => ?_) (fun q2 => ?_)
  · rw [e68, e50] at q2
    refine And.intro (Or.inl rfl) (And.intro ?_ rfl)
    rw [hcj, if_neg (fun z => Int32.not_le.mpr q2 z.2.1)]
  rw [e68, e50] at q2
  refine And.intro hin12 ?_
  rw [e70]
  refine And.intro hin4 ?_
  refine And.intro hin12 ?_
  refine And.intro (fun q3 => ?_) (fun q3 => ?_)
  · rw [e59, e66] at q3
    refine And.intro (Or.inl rfl) (And.intro ?_ rfl)
    rw [hcj, if_neg (fun z => Int32.not_le.mpr q3 z.2.2.1)]
  rw [e59, e66] at q3
  refine And.intro hin12 ?_
  refine And.intro (fun q4 => ?_) (fun q4 => ?_)
  · rw [e13, e66, e11] at q4
    refine And.intro (Or.inl rfl) (And.intro ?_ rfl)
    rw [hcj, if_neg (fun z => Int32.not_le.mpr q4 z.2.2.2)]
  · rw [e13, e66, e11] at q4
    refine And.intro (Or.inr rfl) (And.intro ?_ rfl)
    rw [hcj, if_pos ⟨q1, Int32.not_lt.mp q2, Int32.not_lt.mp q3, Int32.not_lt.mp q4⟩]
theorem ctX5_mayBegin (l : Launch) (M : ip_M) : ip_CT l yX5_mayBegin wsX5_mayBegin rmX5_mayBegin ip_Sta (preX5_mayBegin M) (postX5_mayBegin M) := by
  refine ip_of (cc := cX5_mayBegin) (maxL := 2) (ret := (some .boolean)) (by decide +kernel) rfl (fun _ => (0, 0)) rfl ?_ ?_
  · intro as S h
    obtain ⟨a, jj, rfl, hq⟩ := ip_e_ri h
    exact ⟨Nat.le_of_ble_eq_true rfl, by simp⟩
  intro p e s m args below meth c D cA A ad0 as S h hI hx hb hml hown hts hr hlocks hname hA hNx
  obtain ⟨a, jj, rfl, hq⟩ := ip_e_ri h
  refine ip_run_ok (stop := fun _ => false) (tX5_mayBegin hx hb hml hown hts hr hlocks hname hA hNx) (fun _ _ _ _ h => False.elim h) 90 0 _ _ S ?_
  exact vX5_mayBegin M a jj S hI hq
