def preX4_jet (M : ip_M) : List ip_V → ip_S → Prop := ip_h_riiii (fun _ => False) (fun a s rr far f S => a = 0 ∧ ip_cR M S)
def postX4_jet (M : ip_M) : List ip_V → ip_S → List ip_V → ip_S → Prop := ip_h_riiii (fun _ _ _ => True) (fun a s rr far f S r S' => r = [.inl (g_jet M s rr far f).1] ∧ ip_cR (g_jet M s rr far f).2 S' ∧ ip_fC S S')
theorem shX4_jet (M : ip_M) : ∀ as S, ip_Sta S → preX4_jet M as S → ∃ (b : Nat) (as' : List ip_V), as = .inr (.inl (some b)) :: as' ∧ as'.length = 4 ∧ (S.2.2.2 b).1 = 4 := by
  intro as S hI h
  obtain ⟨a, s, rr, far, f, rfl, hq⟩ := ip_e_riiii h
  exact ⟨_, _, rfl, rfl, by rw [hq.1, hI.1 0 (by decide)]; rfl⟩
def rmX4_jet : Room := { frames := 3, cells := 1, slots := 11, locals := 120 }
def pX4_jet (po : List ip_V → ip_S → Prop) : List (Nat × ip_T) := [(0, ip_t_ar 0 1), (1, ip_t_il 4 3), (3, ip_t_callG 2 preX4_fluidAt postX4_fluidAt 6), (6, ip_t_as 5 8), (8, ip_t_ar 5 10), (10, ip_t_null 32 13), (13, ip_t_il 1 14), (14, ip_t_ci 1 15), (15, ip_t_ci 5 16), (16, ip_t_call 3 preX4_within postX4_within 19), (19, ip_t_ifeq 32 22), (22, ip_t_il 3 23), (23, ip_t_ci 1 24), (24, ip_t_ci 20 26), (26, ip_t_call 3 preX4_within postX4_within 29), (29, ip_t_ifne 35 32), (32, ip_t_ci (-100) 34), (34, ip_t_iret po), (35, ip_t_il 2 36), (36, ip_t_call 1 preX4_isMinute postX4_isMinute 39), (39, ip_t_ifeq 50 42), (42, ip_t_il 2 43), (43, ip_t_ar 0 44), (44, ip_t_gI0 0 8 47), (47, ip_t_icge 53 50), (50, ip_t_ci (-100) 52), (52, ip_t_iret po), (53, ip_t_ar 0 54), (54, ip_t_gI0 0 4 57), (57, ip_t_ar 0 58), (58, ip_t_gR0 0 6 61), (61, ip_t_len 62), (62, ip_t_iclt 69 65), (65, ip_t_ci (-300) 68), (68, ip_t_iret po), (69, ip_t_ar 0 70), (70, ip_t_gI0 0 4 73), (73, ip_t_is 6 75), (75, ip_t_ar 0 76), (76, ip_t_gR0 0 6 79), (79, ip_t_il 6 81), (81, ip_t_new 1 84), (84, ip_t_dup 85), (85, ip_t_il 6 87), (87, ip_t_il 1 88), (88, ip_t_il 2 89), (89, ip_t_il 3 90), (90, ip_t_ar 5 92), (92, ip_t_call 6 preX1_init postX1_init 95), (95, ip_t_sta 9 1 96), (96, ip_t_ar 0 97), (97, ip_t_dup 98), (98, ip_t_gI0 0 4 101), (101, ip_t_ci 1 102), (102, ip_t_iadd 103), (103, ip_t_pI0 0 4 106), (106, ip_t_il 6 108), (108, ip_t_iret po)]
set_option maxRecDepth 100000 in
set_option maxHeartbeats 4000000 in
theorem tX4_jet {p : Program} {l : Launch} {e : Env} {s : State} {m : MethodId} {args : Array Value} {below : List Frame} {meth : Method} {c : Code} {D : va_G} {cA : Nat → ClassId} {A : Nat → Prop} {ad0 : Nat → Nat} {S0 : ip_S} {po : List ip_V → ip_S → Prop} (hx : p.tables.exec = Jvm.exec) (hb : c.code = cX4_jet) (hml : c.maxLocals = 7) (hown : s.vm.findClass RX4 = some m.cls) (hts : ∀ w ∈ wsX4_jet, w.before args s = true) (hr : meth.sig.returnType = (some .int)) (hlocks : meth.locks = false) (hname : meth.name = yX4_jet.name) (hA : ∀ q, s.heap.size ≤ q → A q) (hNx : ip_Nx s) : ∀ q ∈ pX4_jet po, ip_snd p l e rmX4_jet s m args below meth c D cA A (MQ below (ip_Q ip_Sta D cA ad0 S0 A po) args s 1 11 A) 7 (fun pc => bif Nat.ble pc 81 then (0, 0) else (1, 11)) ip_Sta ad0 S0 q.1 q.2 := by
  have hIs : ∀ S, ip_Sta S → ip_Sta S := fun _ h => h
  have hIn := ip_In_Sta
  have hS9 : CallFix p m c cX4_jet 7 s args wsX4_jet RX4 := ⟨hx, hb, hml, hown, hts⟩
  have hin1 : ∀ w ∈ u_ws RX1 TX1 11, w ∈ wsX4_jet := by decide +kernel
  have hin4 : ∀ w ∈ u_ws RX4 TX4 14, w ∈ wsX4_jet := by decide +kernel
  refine List.forall_mem_cons.mpr ⟨ip_s_aload_n hx hb dX4_jet_0 rfl rfl, ?_⟩
  refine List.forall_mem_cons.mpr ⟨ip_s_iload hx hb dX4_jet_1 rfl, ?_⟩
  refine List.forall_mem_cons.mpr ⟨ip_s_G (fun M => ip_s_callV hNx hS9 (ctX4_fluidAt l M) (cwV 1 hts gX4_jet_X4_fluidAt rfl rfl rfl (by decide +kernel) ⟨Nat.le_of_ble_eq_true rfl, Nat.le_of_ble_eq_true rfl⟩) (ci := 4) rfl rfl (by decide) (fun as S hI h => shX4_fluidAt M as S hI h) hA dX4_jet_3 ⟨Nat.le_of_ble_eq_true rfl, Nat.le_of_ble_eq_true rfl⟩ rfl), ?_⟩
  refine List.forall_mem_cons.mpr ⟨ip_s_astore hx hb dX4_jet_6 (by decide) rfl, ?_⟩
  refine List.forall_mem_cons.mpr ⟨ip_s_aload hx hb dX4_jet_8 rfl, ?_⟩
  refine List.forall_mem_cons.mpr ⟨ip_s_ifnull (t := 32) hx hb dX4_jet_10 (by decide) rfl rfl, ?_⟩
  refine List.forall_mem_cons.mpr ⟨ip_s_iload_n hx hb dX4_jet_13 rfl rfl, ?_⟩
  refine List.forall_mem_cons.mpr ⟨ip_s_iconst hx hb dX4_jet_14 rfl rfl, ?_⟩
  refine List.forall_mem_cons.mpr ⟨ip_s_iconst hx hb dX4_jet_15 rfl rfl, ?_⟩
  refine List.forall_mem_cons.mpr ⟨ip_s_callS hNx hS9 (ctX4_within l) (va_cwS 3 hts gX4_jet_X4_within rfl rfl rfl (by decide +kernel) ⟨Nat.le_of_ble_eq_true rfl, Nat.le_of_ble_eq_true rfl⟩) (fun as S hI h => shsX4_within as S hI h) hA dX4_jet_16 ⟨Nat.le_of_ble_eq_true rfl, Nat.le_of_ble_eq_true rfl⟩ rfl, ?_⟩
  refine List.forall_mem_cons.mpr ⟨ip_s_ifeq (t := 32) hx hb dX4_jet_19 (by decide) rfl rfl, ?_⟩
  refine List.forall_mem_cons.mpr ⟨ip_s_iload_n hx hb dX4_jet_22 rfl rfl, ?_⟩
  refine List.forall_mem_cons.mpr ⟨ip_s_iconst hx hb dX4_jet_23 rfl rfl, ?_⟩
  refine List.forall_mem_cons.mpr ⟨ip_s_bipush hx hb dX4_jet_24 rfl rfl, ?_⟩
  refine List.forall_mem_cons.mpr ⟨ip_s_callS hNx hS9 (ctX4_within l) (va_cwS 3 hts gX4_jet_X4_within rfl rfl rfl (by decide +kernel) ⟨Nat.le_of_ble_eq_true rfl, Nat.le_of_ble_eq_true rfl⟩) (fun as S hI h => shsX4_within as S hI h) hA dX4_jet_26 ⟨Nat.le_of_ble_eq_true rfl, Nat.le_of_ble_eq_true rfl⟩ rfl, ?_⟩
  refine List.forall_mem_cons.mpr ⟨ip_s_ifne (t := 35) hx hb dX4_jet_29 (by decide) rfl rfl, ?_⟩
  refine List.forall_mem_cons.mpr ⟨ip_s_bipush hx hb dX4_jet_32 rfl rfl, ?_⟩
  refine List.forall_mem_cons.mpr ⟨ip_s_iret hx hb hr hlocks (Nat.le_of_ble_eq_true rfl) (Nat.le_of_ble_eq_true rfl) dX4_jet_34, ?_⟩
  refine List.forall_mem_cons.mpr ⟨ip_s_iload_n hx hb dX4_jet_35 rfl rfl, ?_⟩
  refine List.forall_mem_cons.mpr ⟨ip_s_callS hNx hS9 (ctX4_isMinute l) (va_cwS 1 hts gX4_jet_X4_isMinute rfl rfl rfl (by decide +kernel) ⟨Nat.le_of_ble_eq_true rfl, Nat.le_of_ble_eq_true rfl⟩) (fun as S hI h => shsX4_isMinute as S hI h) hA dX4_jet_36 ⟨Nat.le_of_ble_eq_true rfl, Nat.le_of_ble_eq_true rfl⟩ rfl, ?_⟩
  refine List.forall_mem_cons.mpr ⟨ip_s_ifeq (t := 50) hx hb dX4_jet_39 (by decide) rfl rfl, ?_⟩
  refine List.forall_mem_cons.mpr ⟨ip_s_iload_n hx hb dX4_jet_42 rfl rfl, ?_⟩
  refine List.forall_mem_cons.mpr ⟨ip_s_aload_n hx hb dX4_jet_43 rfl rfl, ?_⟩
  refine List.forall_mem_cons.mpr ⟨ip_s_gI0 hx hb hts hin4 hown rfl (by decide) 8 (by decide) (hts (.fieldLink RX4 56 "IcePads" "now" "I") (by decide +kernel)) (fun _ h9 => h9) hIs 0 rfl rfl dX4_jet_44 rfl, ?_⟩
  refine List.forall_mem_cons.mpr ⟨ip_s_icge (t := 53) hx hb dX4_jet_47 (by decide) rfl rfl, ?_⟩
  refine List.forall_mem_cons.mpr ⟨ip_s_bipush hx hb dX4_jet_50 rfl rfl, ?_⟩
  refine List.forall_mem_cons.mpr ⟨ip_s_iret hx hb hr hlocks (Nat.le_of_ble_eq_true rfl) (Nat.le_of_ble_eq_true rfl) dX4_jet_52, ?_⟩
  refine List.forall_mem_cons.mpr ⟨ip_s_aload_n hx hb dX4_jet_53 rfl rfl, ?_⟩
  refine List.forall_mem_cons.mpr ⟨ip_s_gI0 hx hb hts hin4 hown rfl (by decide) 4 (by decide) (hts (.fieldLink RX4 119 "IcePads" "jetCount" "I") (by decide +kernel)) (fun _ h9 => h9) hIs 0 rfl rfl dX4_jet_54 rfl, ?_⟩
  refine List.forall_mem_cons.mpr ⟨ip_s_aload_n hx hb dX4_jet_57 rfl rfl, ?_⟩
  refine List.forall_mem_cons.mpr ⟨ip_s_gR0 hx hb hts hin4 hown rfl (by decide) 3 (by decide) (hts (.fieldLink RX4 24 "IcePads" "jets" "[LIcePads$Jet;") (by decide +kernel)) (fun _ h9 => h9) hIs 0 6 rfl (by decide) rfl dX4_jet_58 rfl, ?_⟩
  refine List.forall_mem_cons.mpr ⟨ip_s_len hx hb hIs dX4_jet_61 rfl, ?_⟩
  refine List.forall_mem_cons.mpr ⟨ip_s_iclt (t := 69) hx hb dX4_jet_62 (by decide) rfl rfl, ?_⟩
  refine List.forall_mem_cons.mpr ⟨ip_s_sipush hx hb dX4_jet_65 rfl rfl, ?_⟩
  refine List.forall_mem_cons.mpr ⟨ip_s_iret hx hb hr hlocks (Nat.le_of_ble_eq_true rfl) (Nat.le_of_ble_eq_true rfl) dX4_jet_68, ?_⟩
  refine List.forall_mem_cons.mpr ⟨ip_s_aload_n hx hb dX4_jet_69 rfl rfl, ?_⟩
  refine List.forall_mem_cons.mpr ⟨ip_s_gI0 hx hb hts hin4 hown rfl (by decide) 4 (by decide) (hts (.fieldLink RX4 119 "IcePads" "jetCount" "I") (by decide +kernel)) (fun _ h9 => h9) hIs 0 rfl rfl dX4_jet_70 rfl, ?_⟩
  refine List.forall_mem_cons.mpr ⟨ip_s_istore hx hb dX4_jet_73 (by decide) rfl, ?_⟩
  refine List.forall_mem_cons.mpr ⟨ip_s_aload_n hx hb dX4_jet_75 rfl rfl, ?_⟩
  refine List.forall_mem_cons.mpr ⟨ip_s_gR0 hx hb hts hin4 hown rfl (by decide) 3 (by decide) (hts (.fieldLink RX4 24 "IcePads" "jets" "[LIcePads$Jet;") (by decide +kernel)) (fun _ h9 => h9) hIs 0 6 rfl (by decide) rfl dX4_jet_76 rfl, ?_⟩
  refine List.forall_mem_cons.mpr ⟨ip_s_iload hx hb dX4_jet_79 rfl, ?_⟩
  refine List.forall_mem_cons.mpr ⟨ip_s_new hx hb hts hin1 tyX1 tyX1_ok hown (hts (.classLink RX4 22 RX1) (by decide +kernel)) (hts (.instantiable RX1 11) (by decide +kernel)) (hts (.initialized RX1) (by decide +kernel)) hA hIn rfl (by decide) ip_df1 (Nat.le_of_ble_eq_true rfl) (Nat.le_of_ble_eq_true rfl) dX4_jet_81 rfl, ?_⟩
  refine List.forall_mem_cons.mpr ⟨ip_s_dup hx hb dX4_jet_84 rfl, ?_⟩
  refine List.forall_mem_cons.mpr ⟨ip_s_iload hx hb dX4_jet_85 rfl, ?_⟩
  refine List.forall_mem_cons.mpr ⟨ip_s_iload_n hx hb dX4_jet_87 rfl rfl, ?_⟩
  refine List.forall_mem_cons.mpr ⟨ip_s_iload_n hx hb dX4_jet_88 rfl rfl, ?_⟩
  refine List.forall_mem_cons.mpr ⟨ip_s_iload_n hx hb dX4_jet_89 rfl rfl, ?_⟩
  refine List.forall_mem_cons.mpr ⟨ip_s_aload hx hb dX4_jet_90 rfl, ?_⟩
  refine List.forall_mem_cons.mpr ⟨ip_s_callI hNx hS9 (ctX1_init l) (cwI 5 hts gX4_jet_X1_init rfl rfl rfl (hts (.initialized RX1) (by decide +kernel)) (hts (.methodLink RX4 122 yX1_init) (by decide +kernel)) (hts (.instanceMethod yX1_init) (by decide +kernel)) rfl (by decide +kernel) ⟨Nat.le_of_ble_eq_true rfl, Nat.le_of_ble_eq_true rfl⟩) (fun as S hI h => shX1_init as S hI h) hA dX4_jet_92 ⟨Nat.le_of_ble_eq_true rfl, Nat.le_of_ble_eq_true rfl⟩ rfl, ?_⟩
  refine List.forall_mem_cons.mpr ⟨ip_s_sta9 hx hb hIn hIs dX4_jet_95 rfl, ?_⟩
  refine List.forall_mem_cons.mpr ⟨ip_s_aload_n hx hb dX4_jet_96 rfl rfl, ?_⟩
  refine List.forall_mem_cons.mpr ⟨ip_s_dup hx hb dX4_jet_97 rfl, ?_⟩
  refine List.forall_mem_cons.mpr ⟨ip_s_gI0 hx hb hts hin4 hown rfl (by decide) 4 (by decide) (hts (.fieldLink RX4 119 "IcePads" "jetCount" "I") (by decide +kernel)) (fun _ h9 => h9) hIs 0 rfl rfl dX4_jet_98 rfl, ?_⟩
  refine List.forall_mem_cons.mpr ⟨ip_s_iconst hx hb dX4_jet_101 rfl rfl, ?_⟩
  refine List.forall_mem_cons.mpr ⟨ip_s_iadd hx hb dX4_jet_102 rfl, ?_⟩
  refine List.forall_mem_cons.mpr ⟨ip_s_pI0 hx hb hts hin4 hown rfl (by decide) 4 (by decide) (hts (.fieldLink RX4 119 "IcePads" "jetCount" "I") (by decide +kernel)) (fun _ h9 => h9) tyX4 tyX4_ok nmX4 hIn hIs 0 rfl rfl rfl (by decide +kernel) dX4_jet_103 rfl, ?_⟩
  refine List.forall_mem_cons.mpr ⟨ip_s_iload hx hb dX4_jet_106 rfl, ?_⟩
  refine List.forall_mem_cons.mpr ⟨ip_s_iret hx hb hr hlocks (Nat.le_of_ble_eq_true rfl) (Nat.le_of_ble_eq_true rfl) dX4_jet_108, ?_⟩
  exact fun _ h => absurd h List.not_mem_nil
set_option maxRecDepth 100000 in
set_option maxHeartbeats 4000000 in
theorem vX4_jet (M : ip_M) (a : Nat) (s : Int32) (rr : Int32) (far : Int32) (f : Int32) (S : ip_S) (hS : ip_Sta S) (hp : a = 0 ∧ ip_cR M S) : ip_run (pX4_jet (postX4_jet M [.inr (.inl (some a)), .inl s, .inl rr, .inl far, .inl f] S)) (fun _ => false) (fun _ _ _ _ => False) 130 0 [some (.inr (.inl (some a))), some (.inl s), some (.inl rr), some (.inl far), some (.inl f), none, none] [] S := by
  obtain ⟨rfl, hR⟩ := hp
  refine Exists.intro M (And.intro (And.intro rfl hR) ?_)
  rintro r S' ⟨rfl, rfl⟩
  have hR' := hR
  obtain ⟨nf, nj, np, hv, hcS, hcF, hcJ, hcP⟩ := hR'
  by_cases hf : ip_isF M f
  rotate_left
  · rw [if_neg hf]
    refine And.intro ?_ (And.intro ?_ ip_fC.rf) <;> unfold g_jet <;> rw [if_neg (fun z => hf z.2.2.2)]
    exact hR
  rw [if_pos hf]
  obtain ⟨i, hi, rfl⟩ := (ip_isF_vv hv f).mp hf
  have hnf := hv.1.2.1
  have hci : (nI i).toNatClampNeg = i := nI_clamp (by omega)
  rw [hci]
  refine And.intro trivial ?_
  rintro r S' ⟨rfl, rfl⟩
  refine And.intro (fun q1 => ?_) (fun q1 => ?_)
  · refine And.intro ?_ (And.intro ?_ ip_fC.rf) <;> unfold g_jet <;> rw [if_neg (fun z => ip_if0 q1 z.1)]
    exact hR
  have q1 := ip_if1 q1
  refine And.intro trivial ?_
  rintro r S' ⟨rfl, rfl⟩
  refine And.intro (fun q2 => ?_) (fun q2 => ?_)
  rotate_left
  · refine And.intro ?_ (And.intro ?_ ip_fC.rf) <;> unfold g_jet <;> rw [if_neg (fun z => ip_if0 q2 z.2.2.1)]
    exact hR
  have q2 := ip_if1 q2
  refine And.intro trivial ?_
  rintro r S' ⟨rfl, rfl⟩
  have h0n : (0 : Int32) ≤ M 50 0 := by
    rw [ip_leI]
    exact hv.2.2.1.1.1
  refine And.intro (fun q3 => ?_) (fun q3 => ?_)
  · refine And.intro ?_ (And.intro ?_ ip_fC.rf) <;> unfold g_jet <;> rw [if_neg (fun z => ip_if0 q3 ⟨Int32.le_trans h0n z.2.1.1, z.2.1.2⟩)]
    exact hR
  have q3 := ip_if1 q3
  have e8 := hcS.1
  have e4 := hcS.2.2.1
  refine And.intro (fun q4 => ?_) (fun q4 => ?_)
  rotate_left
  · rw [e8] at q4
    refine And.intro ?_ (And.intro ?_ ip_fC.rf) <;> unfold g_jet <;> rw [if_neg (fun z => q4 z.2.1.1)]
    exact hR
  rw [e8] at q4
  have hall : (1 ≤ s ∧ s ≤ 5) ∧ (M 50 0 ≤ rr ∧ rr ≤ 299) ∧ (1 ≤ far ∧ far ≤ 20) ∧ ip_isF M (nI i) := ⟨q1, ⟨q4, q3.2⟩, q2, hf⟩
  have hnj := hv.1.2.2.1
  have hnj12 := hv.1.2.2.2.1
  refine And.intro (fun q5 => ?_) (fun q5 => ?_)
  rotate_left
  · have q5 : ¬ S'.1 0 4 < nI 12 := q5
    rw [e4, hnj, nI_ltI (by omega) (by omega)] at q5
    have e12 : M 50 15 = 12 := by
      rw [hnj, show nj = 12 by omega]
      rfl
    refine And.intro ?_ (And.intro ?_ ip_fC.rf) <;> unfold g_jet <;> rw [if_pos hall, if_pos e12]
    exact hR
  have q5 : S'.1 0 4 < nI 12 := q5
  rw [e4, hnj, nI_ltI (by omega) (by omega)] at q5
  have n12 : ¬ M 50 15 = 12 := by
    rw [hnj]
    intro z
    have := ip_nI_inj (a := nj) (b := 12) (by omega) (by omega) z
    omega
  obtain ⟨hin, hcj⟩ := ip_inN (n := 12) (N := 12) q5 (by decide) (by decide)
  refine Exists.intro (30 + nj) (And.intro (hcJ.2 nj (Nat.le_refl _) q5).2 (And.intro (by omega) ?_))
  rw [e4, hnj]
  refine And.intro (And.intro (by simp [ip_nw]) trivial) ?_
  rintro r S'' ⟨rfl, rfl⟩
  refine And.intro hin (And.intro (by simp [ip_nw, ip_sI, ip_sR]) ?_)
  rw [hcj]
  have b0 : (1 : Int32).toInt = 1 := rfl
  have b1 : (5 : Int32).toInt = 5 := rfl
  have b2 : (20 : Int32).toInt = 20 := rfl
  have b3 : (299 : Int32).toInt = 299 := rfl
  have hs := q1
  have hfar := q2
  have hrr := hall.2.1
  rw [ip_leI, ip_leI] at hs hfar hrr
  rw [b0, b1] at hs
  rw [b0, b2] at hfar
  rw [b3] at hrr
  have hfin := ip_cR_jet hv hcS hcF hcJ hcP q5 hi hs hrr hfar
  have e0 : (ip_jI S' nj s rr far i).1 0 4 = M 50 15 := ip_jI_0.trans e4
  refine And.intro ?_ (And.intro ?_ ?_)
  · unfold g_jet
    rw [if_pos hall, if_neg n12, hnj]
  · unfold g_jet
    rw [if_pos hall, if_neg n12]
    show ip_cR (g_jetM M (M 50 15).toNatClampNeg s rr far (nI i)) (ip_sI (ip_jI S' nj s rr far i) 0 4 ((ip_jI S' nj s rr far i).1 0 4 + 1))
    rw [e0, show (M 50 15).toNatClampNeg = nj by rw [hnj]; exact hcj]
    exact hfin
  · exact ip_jS_fC q5
theorem ctX4_jet (l : Launch) (M : ip_M) : ip_CT l yX4_jet wsX4_jet rmX4_jet ip_Sta (preX4_jet M) (postX4_jet M) := by
  refine ip_of (cc := cX4_jet) (maxL := 7) (ret := (some .int)) (by decide +kernel) rfl (fun pc => bif Nat.ble pc 81 then (0, 0) else (1, 11)) rfl ?_ ?_
  · intro as S h
    obtain ⟨a, s, rr, far, f, rfl, hq⟩ := ip_e_riiii h
    exact ⟨Nat.le_of_ble_eq_true rfl, by simp⟩
  intro p e s m args below meth c D cA A ad0 as S h hI hx hb hml hown hts hr hlocks hname hA hNx
  obtain ⟨a, s, rr, far, f, rfl, hq⟩ := ip_e_riiii h
  refine ip_run_ok (stop := fun _ => false) (tX4_jet hx hb hml hown hts hr hlocks hname hA hNx) (fun _ _ _ _ h => False.elim h) 130 0 _ _ S ?_
  exact vX4_jet M a s rr far f S hI hq

def preX4_fluid (M : ip_M) : List ip_V → ip_S → Prop := ip_h_riiiiiiii (fun _ => False) (fun a kd sa sb sc sd ti pa li S => a = 0 ∧ ip_cR M S)
def postX4_fluid (M : ip_M) : List ip_V → ip_S → List ip_V → ip_S → Prop := ip_h_riiiiiiii (fun _ _ _ => True) (fun a kd sa sb sc sd ti pa li S r S' => r = [.inl (g_fluid M kd sa sb sc sd ti pa li).1] ∧ ip_cR (g_fluid M kd sa sb sc sd ti pa li).2 S' ∧ ip_fC S S')
theorem shX4_fluid (M : ip_M) : ∀ as S, ip_Sta S → preX4_fluid M as S → ∃ (b : Nat) (as' : List ip_V), as = .inr (.inl (some b)) :: as' ∧ as'.length = 8 ∧ (S.2.2.2 b).1 = 4 := by
  intro as S hI h
  obtain ⟨a, kd, sa, sb, sc, sd, ti, pa, li, rfl, hq⟩ := ip_e_riiiiiiii h
  exact ⟨_, _, rfl, rfl, by rw [hq.1, hI.1 0 (by decide)]; rfl⟩
def rmX4_fluid : Room := { frames := 2, cells := 2, slots := 9, locals := 80 }
def pX4_fluid (po : List ip_V → ip_S → Prop) : List (Nat × ip_T) := [(0, ip_t_il 1 1), (1, ip_t_ci 0 2), (2, ip_t_ci 2 3), (3, ip_t_call 3 preX4_within postX4_within 6), (6, ip_t_ifeq 21 9), (9, ip_t_il 2 10), (10, ip_t_il 3 11), (11, ip_t_il 4 13), (13, ip_t_il 5 15), (15, ip_t_call 4 preX4_areSpans postX4_areSpans 18), (18, ip_t_ifne 24 21), (21, ip_t_ci (-100) 23), (23, ip_t_iret po), (24, ip_t_il 1 25), (25, ip_t_ifeq 41 28), (28, ip_t_il 6 30), (30, ip_t_ci 1 31), (31, ip_t_ci 4 32), (32, ip_t_call 3 preX4_within postX4_within 35), (35, ip_t_ifne 41 38), (38, ip_t_ci (-100) 40), (40, ip_t_iret po), (41, ip_t_il 1 42), (42, ip_t_ci 2 43), (43, ip_t_icne 60 46), (46, ip_t_il 7 48), (48, ip_t_ci 1 49), (49, ip_t_ci 10 51), (51, ip_t_call 3 preX4_within postX4_within 54), (54, ip_t_ifne 60 57), (57, ip_t_ci (-100) 59), (59, ip_t_iret po), (60, ip_t_il 8 62), (62, ip_t_ci 0 63), (63, ip_t_ci 2000 66), (66, ip_t_call 3 preX4_within postX4_within 69), (69, ip_t_ifne 75 72), (72, ip_t_ci (-100) 74), (74, ip_t_iret po), (75, ip_t_ar 0 76), (76, ip_t_gI0 0 2 79), (79, ip_t_ar 0 80), (80, ip_t_gR0 0 5 83), (83, ip_t_len 84), (84, ip_t_iclt 91 87), (87, ip_t_ci (-300) 90), (90, ip_t_iret po), (91, ip_t_ar 0 92), (92, ip_t_gI0 0 2 95), (95, ip_t_is 9 97), (97, ip_t_ci 4 98), (98, ip_t_newa 6 4 100), (100, ip_t_dup 101), (101, ip_t_ci 0 102), (102, ip_t_il 2 103), (103, ip_t_stD 104), (104, ip_t_dup 105), (105, ip_t_ci 1 106), (106, ip_t_il 3 107), (107, ip_t_stD 108), (108, ip_t_dup 109), (109, ip_t_ci 2 110), (110, ip_t_il 4 112), (112, ip_t_stD 113), (113, ip_t_dup 114), (114, ip_t_ci 3 115), (115, ip_t_il 5 117), (117, ip_t_stD 118), (118, ip_t_as 10 120), (120, ip_t_ar 0 121), (121, ip_t_gR0 0 5 124), (124, ip_t_il 9 126), (126, ip_t_new 0 129), (129, ip_t_dup 130), (130, ip_t_il 1 131), (131, ip_t_ar 10 133), (133, ip_t_il 6 135), (135, ip_t_il 7 137), (137, ip_t_il 8 139), (139, ip_t_call 6 preX0_init postX0_init 142), (142, ip_t_sta 8 0 143), (143, ip_t_ar 0 144), (144, ip_t_dup 145), (145, ip_t_gI0 0 2 148), (148, ip_t_ci 1 149), (149, ip_t_iadd 150), (150, ip_t_pI0 0 2 153), (153, ip_t_il 9 155), (155, ip_t_iret po)]
set_option maxRecDepth 100000 in
set_option maxHeartbeats 4000000 in
theorem tX4_fluid {p : Program} {l : Launch} {e : Env} {s : State} {m : MethodId} {args : Array Value} {below : List Frame} {meth : Method} {c : Code} {D : va_G} {cA : Nat → ClassId} {A : Nat → Prop} {ad0 : Nat → Nat} {S0 : ip_S} {po : List ip_V → ip_S → Prop} (hx : p.tables.exec = Jvm.exec) (hb : c.code = cX4_fluid) (hml : c.maxLocals = 11) (hown : s.vm.findClass RX4 = some m.cls) (hts : ∀ w ∈ wsX4_fluid, w.before args s = true) (hr : meth.sig.returnType = (some .int)) (hlocks : meth.locks = false) (hname : meth.name = yX4_fluid.name) (hA : ∀ q, s.heap.size ≤ q → A q) (hNx : ip_Nx s) : ∀ q ∈ pX4_fluid po, ip_snd p l e rmX4_fluid s m args below meth c D cA A (MQ below (ip_Q ip_Sta D cA ad0 S0 A po) args s 2 9 A) 11 (fun pc => bif Nat.ble pc 98 then (0, 0) else bif Nat.ble pc 126 then (1, 4) else (2, 9)) ip_Sta ad0 S0 q.1 q.2 := by
  have hIs : ∀ S, ip_Sta S → ip_Sta S := fun _ h => h
  have hIn := ip_In_Sta
  have hS9 : CallFix p m c cX4_fluid 11 s args wsX4_fluid RX4 := ⟨hx, hb, hml, hown, hts⟩
  have hin0 : ∀ w ∈ u_ws RX0 TX0 5, w ∈ wsX4_fluid := by decide +kernel
  have hin4 : ∀ w ∈ u_ws RX4 TX4 14, w ∈ wsX4_fluid := by decide +kernel
  refine List.forall_mem_cons.mpr ⟨ip_s_iload_n hx hb dX4_fluid_0 rfl rfl, ?_⟩
  refine List.forall_mem_cons.mpr ⟨ip_s_iconst hx hb dX4_fluid_1 rfl rfl, ?_⟩
  refine List.forall_mem_cons.mpr ⟨ip_s_iconst hx hb dX4_fluid_2 rfl rfl, ?_⟩
  refine List.forall_mem_cons.mpr ⟨ip_s_callS hNx hS9 (ctX4_within l) (va_cwS 3 hts gX4_fluid_X4_within rfl rfl rfl (by decide +kernel) ⟨Nat.le_of_ble_eq_true rfl, Nat.le_of_ble_eq_true rfl⟩) (fun as S hI h => shsX4_within as S hI h) hA dX4_fluid_3 ⟨Nat.le_of_ble_eq_true rfl, Nat.le_of_ble_eq_true rfl⟩ rfl, ?_⟩
  refine List.forall_mem_cons.mpr ⟨ip_s_ifeq (t := 21) hx hb dX4_fluid_6 (by decide) rfl rfl, ?_⟩
  refine List.forall_mem_cons.mpr ⟨ip_s_iload_n hx hb dX4_fluid_9 rfl rfl, ?_⟩
  refine List.forall_mem_cons.mpr ⟨ip_s_iload_n hx hb dX4_fluid_10 rfl rfl, ?_⟩
  refine List.forall_mem_cons.mpr ⟨ip_s_iload hx hb dX4_fluid_11 rfl, ?_⟩
  refine List.forall_mem_cons.mpr ⟨ip_s_iload hx hb dX4_fluid_13 rfl, ?_⟩
  refine List.forall_mem_cons.mpr ⟨ip_s_callS hNx hS9 (ctX4_areSpans l) (va_cwS 4 hts gX4_fluid_X4_areSpans rfl rfl rfl (by decide +kernel) ⟨Nat.le_of_ble_eq_true rfl, Nat.le_of_ble_eq_true rfl⟩) (fun as S hI h => shsX4_areSpans as S hI h) hA dX4_fluid_15 ⟨Nat.le_of_ble_eq_true rfl, Nat.le_of_ble_eq_true rfl⟩ rfl, ?_⟩
  refine List.forall_mem_cons.mpr ⟨ip_s_ifne (t := 24) hx hb dX4_fluid_18 (by decide) rfl rfl, ?_⟩
  refine List.forall_mem_cons.mpr ⟨ip_s_bipush hx hb dX4_fluid_21 rfl rfl, ?_⟩
  refine List.forall_mem_cons.mpr ⟨ip_s_iret hx hb hr hlocks (Nat.le_of_ble_eq_true rfl) (Nat.le_of_ble_eq_true rfl) dX4_fluid_23, ?_⟩
  refine List.forall_mem_cons.mpr ⟨ip_s_iload_n hx hb dX4_fluid_24 rfl rfl, ?_⟩
  refine List.forall_mem_cons.mpr ⟨ip_s_ifeq (t := 41) hx hb dX4_fluid_25 (by decide) rfl rfl, ?_⟩
  refine List.forall_mem_cons.mpr ⟨ip_s_iload hx hb dX4_fluid_28 rfl, ?_⟩
  refine List.forall_mem_cons.mpr ⟨ip_s_iconst hx hb dX4_fluid_30 rfl rfl, ?_⟩
  refine List.forall_mem_cons.mpr ⟨ip_s_iconst hx hb dX4_fluid_31 rfl rfl, ?_⟩
  refine List.forall_mem_cons.mpr ⟨ip_s_callS hNx hS9 (ctX4_within l) (va_cwS 3 hts gX4_fluid_X4_within rfl rfl rfl (by decide +kernel) ⟨Nat.le_of_ble_eq_true rfl, Nat.le_of_ble_eq_true rfl⟩) (fun as S hI h => shsX4_within as S hI h) hA dX4_fluid_32 ⟨Nat.le_of_ble_eq_true rfl, Nat.le_of_ble_eq_true rfl⟩ rfl, ?_⟩
  refine List.forall_mem_cons.mpr ⟨ip_s_ifne (t := 41) hx hb dX4_fluid_35 (by decide) rfl rfl, ?_⟩
  refine List.forall_mem_cons.mpr ⟨ip_s_bipush hx hb dX4_fluid_38 rfl rfl, ?_⟩
  refine List.forall_mem_cons.mpr ⟨ip_s_iret hx hb hr hlocks (Nat.le_of_ble_eq_true rfl) (Nat.le_of_ble_eq_true rfl) dX4_fluid_40, ?_⟩
  refine List.forall_mem_cons.mpr ⟨ip_s_iload_n hx hb dX4_fluid_41 rfl rfl, ?_⟩
  refine List.forall_mem_cons.mpr ⟨ip_s_iconst hx hb dX4_fluid_42 rfl rfl, ?_⟩
  refine List.forall_mem_cons.mpr ⟨ip_s_icne (t := 60) hx hb dX4_fluid_43 (by decide) rfl rfl, ?_⟩
  refine List.forall_mem_cons.mpr ⟨ip_s_iload hx hb dX4_fluid_46 rfl, ?_⟩
  refine List.forall_mem_cons.mpr ⟨ip_s_iconst hx hb dX4_fluid_48 rfl rfl, ?_⟩
  refine List.forall_mem_cons.mpr ⟨ip_s_bipush hx hb dX4_fluid_49 rfl rfl, ?_⟩
  refine List.forall_mem_cons.mpr ⟨ip_s_callS hNx hS9 (ctX4_within l) (va_cwS 3 hts gX4_fluid_X4_within rfl rfl rfl (by decide +kernel) ⟨Nat.le_of_ble_eq_true rfl, Nat.le_of_ble_eq_true rfl⟩) (fun as S hI h => shsX4_within as S hI h) hA dX4_fluid_51 ⟨Nat.le_of_ble_eq_true rfl, Nat.le_of_ble_eq_true rfl⟩ rfl, ?_⟩
  refine List.forall_mem_cons.mpr ⟨ip_s_ifne (t := 60) hx hb dX4_fluid_54 (by decide) rfl rfl, ?_⟩
  refine List.forall_mem_cons.mpr ⟨ip_s_bipush hx hb dX4_fluid_57 rfl rfl, ?_⟩
  refine List.forall_mem_cons.mpr ⟨ip_s_iret hx hb hr hlocks (Nat.le_of_ble_eq_true rfl) (Nat.le_of_ble_eq_true rfl) dX4_fluid_59, ?_⟩
  refine List.forall_mem_cons.mpr ⟨ip_s_iload hx hb dX4_fluid_60 rfl, ?_⟩
  refine List.forall_mem_cons.mpr ⟨ip_s_iconst hx hb dX4_fluid_62 rfl rfl, ?_⟩
  refine List.forall_mem_cons.mpr ⟨ip_s_sipush hx hb dX4_fluid_63 rfl rfl, ?_⟩
  refine List.forall_mem_cons.mpr ⟨ip_s_callS hNx hS9 (ctX4_within l) (va_cwS 3 hts gX4_fluid_X4_within rfl rfl rfl (by decide +kernel) ⟨Nat.le_of_ble_eq_true rfl, Nat.le_of_ble_eq_true rfl⟩) (fun as S hI h => shsX4_within as S hI h) hA dX4_fluid_66 ⟨Nat.le_of_ble_eq_true rfl, Nat.le_of_ble_eq_true rfl⟩ rfl, ?_⟩
  refine List.forall_mem_cons.mpr ⟨ip_s_ifne (t := 75) hx hb dX4_fluid_69 (by decide) rfl rfl, ?_⟩
  refine List.forall_mem_cons.mpr ⟨ip_s_bipush hx hb dX4_fluid_72 rfl rfl, ?_⟩
  refine List.forall_mem_cons.mpr ⟨ip_s_iret hx hb hr hlocks (Nat.le_of_ble_eq_true rfl) (Nat.le_of_ble_eq_true rfl) dX4_fluid_74, ?_⟩
  refine List.forall_mem_cons.mpr ⟨ip_s_aload_n hx hb dX4_fluid_75 rfl rfl, ?_⟩
  refine List.forall_mem_cons.mpr ⟨ip_s_gI0 hx hb hts hin4 hown rfl (by decide) 2 (by decide) (hts (.fieldLink RX4 85 "IcePads" "fluidCount" "I") (by decide +kernel)) (fun _ h9 => h9) hIs 0 rfl rfl dX4_fluid_76 rfl, ?_⟩
  refine List.forall_mem_cons.mpr ⟨ip_s_aload_n hx hb dX4_fluid_79 rfl rfl, ?_⟩
  refine List.forall_mem_cons.mpr ⟨ip_s_gR0 hx hb hts hin4 hown rfl (by decide) 1 (by decide) (hts (.fieldLink RX4 18 "IcePads" "fluids" "[LIcePads$Fluid;") (by decide +kernel)) (fun _ h9 => h9) hIs 0 5 rfl (by decide) rfl dX4_fluid_80 rfl, ?_⟩
  refine List.forall_mem_cons.mpr ⟨ip_s_len hx hb hIs dX4_fluid_83 rfl, ?_⟩
  refine List.forall_mem_cons.mpr ⟨ip_s_iclt (t := 91) hx hb dX4_fluid_84 (by decide) rfl rfl, ?_⟩
  refine List.forall_mem_cons.mpr ⟨ip_s_sipush hx hb dX4_fluid_87 rfl rfl, ?_⟩
  refine List.forall_mem_cons.mpr ⟨ip_s_iret hx hb hr hlocks (Nat.le_of_ble_eq_true rfl) (Nat.le_of_ble_eq_true rfl) dX4_fluid_90, ?_⟩
  refine List.forall_mem_cons.mpr ⟨ip_s_aload_n hx hb dX4_fluid_91 rfl rfl, ?_⟩
  refine List.forall_mem_cons.mpr ⟨ip_s_gI0 hx hb hts hin4 hown rfl (by decide) 2 (by decide) (hts (.fieldLink RX4 85 "IcePads" "fluidCount" "I") (by decide +kernel)) (fun _ h9 => h9) hIs 0 rfl rfl dX4_fluid_92 rfl, ?_⟩
  refine List.forall_mem_cons.mpr ⟨ip_s_istore hx hb dX4_fluid_95 (by decide) rfl, ?_⟩
  refine List.forall_mem_cons.mpr ⟨ip_s_iconst hx hb dX4_fluid_97 rfl rfl, ?_⟩
  refine List.forall_mem_cons.mpr ⟨ip_s_newi hx hb (hts (.arrayClass .int) (by decide +kernel)) hA hIn (by decide) (Nat.le_of_ble_eq_true rfl) (Nat.le_of_ble_eq_true rfl) dX4_fluid_98 rfl, ?_⟩
  refine List.forall_mem_cons.mpr ⟨ip_s_dup hx hb dX4_fluid_100 rfl, ?_⟩
  refine List.forall_mem_cons.mpr ⟨ip_s_iconst hx hb dX4_fluid_101 rfl rfl, ?_⟩
  refine List.forall_mem_cons.mpr ⟨ip_s_iload_n hx hb dX4_fluid_102 rfl rfl, ?_⟩
  refine List.forall_mem_cons.mpr ⟨ip_s_stD hx hb hIn dX4_fluid_103 rfl, ?_⟩
  refine List.forall_mem_cons.mpr ⟨ip_s_dup hx hb dX4_fluid_104 rfl, ?_⟩
  refine List.forall_mem_cons.mpr ⟨ip_s_iconst hx hb dX4_fluid_105 rfl rfl, ?_⟩
  refine List.forall_mem_cons.mpr ⟨ip_s_iload_n hx hb dX4_fluid_106 rfl rfl, ?_⟩
  refine List.forall_mem_cons.mpr ⟨ip_s_stD hx hb hIn dX4_fluid_107 rfl, ?_⟩
  refine List.forall_mem_cons.mpr ⟨ip_s_dup hx hb dX4_fluid_108 rfl, ?_⟩
  refine List.forall_mem_cons.mpr ⟨ip_s_iconst hx hb dX4_fluid_109 rfl rfl, ?_⟩
  refine List.forall_mem_cons.mpr ⟨ip_s_iload hx hb dX4_fluid_110 rfl, ?_⟩
  refine List.forall_mem_cons.mpr ⟨ip_s_stD hx hb hIn dX4_fluid_112 rfl, ?_⟩
  refine List.forall_mem_cons.mpr ⟨ip_s_dup hx hb dX4_fluid_113 rfl, ?_⟩
  refine List.forall_mem_cons.mpr ⟨ip_s_iconst hx hb dX4_fluid_114 rfl rfl, ?_⟩
  refine List.forall_mem_cons.mpr ⟨ip_s_iload hx hb dX4_fluid_115 rfl, ?_⟩
  refine List.forall_mem_cons.mpr ⟨ip_s_stD hx hb hIn dX4_fluid_117 rfl, ?_⟩
  refine List.forall_mem_cons.mpr ⟨ip_s_astore hx hb dX4_fluid_118 (by decide) rfl, ?_⟩
  refine List.forall_mem_cons.mpr ⟨ip_s_aload_n hx hb dX4_fluid_120 rfl rfl, ?_⟩
  refine List.forall_mem_cons.mpr ⟨ip_s_gR0 hx hb hts hin4 hown rfl (by decide) 1 (by decide) (hts (.fieldLink RX4 18 "IcePads" "fluids" "[LIcePads$Fluid;") (by decide +kernel)) (fun _ h9 => h9) hIs 0 5 rfl (by decide) rfl dX4_fluid_121 rfl, ?_⟩
  refine List.forall_mem_cons.mpr ⟨ip_s_iload hx hb dX4_fluid_124 rfl, ?_⟩
  refine List.forall_mem_cons.mpr ⟨ip_s_new hx hb hts hin0 tyX0 tyX0_ok hown (hts (.classLink RX4 16 RX0) (by decide +kernel)) (hts (.instantiable RX0 5) (by decide +kernel)) (hts (.initialized RX0) (by decide +kernel)) hA hIn rfl (by decide) ip_df0 (Nat.le_of_ble_eq_true rfl) (Nat.le_of_ble_eq_true rfl) dX4_fluid_126 rfl, ?_⟩
  refine List.forall_mem_cons.mpr ⟨ip_s_dup hx hb dX4_fluid_129 rfl, ?_⟩
  refine List.forall_mem_cons.mpr ⟨ip_s_iload_n hx hb dX4_fluid_130 rfl rfl, ?_⟩
  refine List.forall_mem_cons.mpr ⟨ip_s_aload hx hb dX4_fluid_131 rfl, ?_⟩
  refine List.forall_mem_cons.mpr ⟨ip_s_iload hx hb dX4_fluid_133 rfl, ?_⟩
  refine List.forall_mem_cons.mpr ⟨ip_s_iload hx hb dX4_fluid_135 rfl, ?_⟩
  refine List.forall_mem_cons.mpr ⟨ip_s_iload hx hb dX4_fluid_137 rfl, ?_⟩
  refine List.forall_mem_cons.mpr ⟨ip_s_callI hNx hS9 (ctX0_init l) (cwI 5 hts gX4_fluid_X0_init rfl rfl rfl (hts (.initialized RX0) (by decide +kernel)) (hts (.methodLink RX4 88 yX0_init) (by decide +kernel)) (hts (.instanceMethod yX0_init) (by decide +kernel)) rfl (by decide +kernel) ⟨Nat.le_of_ble_eq_true rfl, Nat.le_of_ble_eq_true rfl⟩) (fun as S hI h => shX0_init as S hI h) hA dX4_fluid_139 ⟨Nat.le_of_ble_eq_true rfl, Nat.le_of_ble_eq_true rfl⟩ rfl, ?_⟩
  refine List.forall_mem_cons.mpr ⟨ip_s_sta8 hx hb hIn hIs dX4_fluid_142 rfl, ?_⟩
  refine List.forall_mem_cons.mpr ⟨ip_s_aload_n hx hb dX4_fluid_143 rfl rfl, ?_⟩
  refine List.forall_mem_cons.mpr ⟨ip_s_dup hx hb dX4_fluid_144 rfl, ?_⟩
  refine List.forall_mem_cons.mpr ⟨ip_s_gI0 hx hb hts hin4 hown rfl (by decide) 2 (by decide) (hts (.fieldLink RX4 85 "IcePads" "fluidCount" "I") (by decide +kernel)) (fun _ h9 => h9) hIs 0 rfl rfl dX4_fluid_145 rfl, ?_⟩
  refine List.forall_mem_cons.mpr ⟨ip_s_iconst hx hb dX4_fluid_148 rfl rfl, ?_⟩
  refine List.forall_mem_cons.mpr ⟨ip_s_iadd hx hb dX4_fluid_149 rfl, ?_⟩
  refine List.forall_mem_cons.mpr ⟨ip_s_pI0 hx hb hts hin4 hown rfl (by decide) 2 (by decide) (hts (.fieldLink RX4 85 "IcePads" "fluidCount" "I") (by decide +kernel)) (fun _ h9 => h9) tyX4 tyX4_ok nmX4 hIn hIs 0 rfl rfl rfl (by decide +kernel) dX4_fluid_150 rfl, ?_⟩
  refine List.forall_mem_cons.mpr ⟨ip_s_iload hx hb dX4_fluid_153 rfl, ?_⟩
  refine List.forall_mem_cons.mpr ⟨ip_s_iret hx hb hr hlocks (Nat.le_of_ble_eq_true rfl) (Nat.le_of_ble_eq_true rfl) dX4_fluid_155, ?_⟩
  exact fun _ h => absurd h List.not_mem_nil
abbrev iX4_fluid (M : ip_M) (a : Nat) (kd : Int32) (sa : Int32) (sb : Int32) (sc : Int32) (sd : Int32) (ti : Int32) (pa : Int32) (li : Int32) (S : ip_S) : Nat → ip_N := fun k pc loc st S1 => pc = 75 ∧ st = [] ∧ S1 = S ∧ ((0 ≤ kd ∧ kd ≤ 2) ∧ g_spans sa sb sc sd ∧ (¬ kd = 0 → 1 ≤ ti ∧ ti ≤ 4) ∧ (kd = 2 → 1 ≤ pa ∧ pa ≤ 10) ∧ (0 ≤ li ∧ li ≤ 2000)) ∧ loc = [some (.inr (.inl (some a))), some (.inl kd), some (.inl sa), some (.inl sb), some (.inl sc), some (.inl sd), some (.inl ti), some (.inl pa), some (.inl li), none, none]
set_option maxRecDepth 100000 in
set_option maxHeartbeats 4000000 in
theorem lpX4_fluid (M : ip_M) (a : Nat) (kd : Int32) (sa : Int32) (sb : Int32) (sc : Int32) (sd : Int32) (ti : Int32) (pa : Int32) (li : Int32) (S : ip_S) (hS : ip_Sta S) (hp : a = 0 ∧ ip_cR M S) : ∀ k pc loc st S1, iX4_fluid M a kd sa sb sc sd ti pa li S k pc loc st S1 → ip_run (pX4_fluid (postX4_fluid M [.inr (.inl (some a)), .inl kd, .inl sa, .inl sb, .inl sc, .inl sd, .inl ti, .inl pa, .inl li] S)) (fun pc => Nat.beq pc 75) (fun pc loc st S2 => ∃ k', k' < k ∧ iX4_fluid M a kd sa sb sc sd ti pa li S k' pc loc st S2) 130 pc loc st S1 := by
  obtain ⟨rfl, hR⟩ := hp
  rintro k pc loc st S1 ⟨rfl, rfl, rfl, hall, rfl⟩
  have hR' := hR
  obtain ⟨nf, nj, np, hv, hcS, hcF, hcJ, hcP⟩ := hR'
  have e2 := hcS.2.1
  have hnf := hv.1.1
  have hnf4 := hv.1.2.1
  refine And.intro (fun q5 => ?_) (fun q5 => ?_)
  rotate_left
  · have q5 : ¬ S1.1 0 2 < nI 4 := q5
    rw [e2, hnf, nI_ltI (by omega) (by omega)] at q5
    have e12 : M 50 4 = 4 := by
      rw [hnf, show nf = 4 by omega]
      rfl
    refine And.intro ?_ (And.intro ?_ ip_fC.rf) <;> unfold g_fluid <;> rw [if_pos hall, if_pos e12]
    exact hR
  have q5 : S1.1 0 2 < nI 4 := q5
  rw [e2, hnf, nI_ltI (by omega) (by omega)] at q5
  have n12 : ¬ M 50 4 = 4 := by
    rw [hnf]
    intro z
    have := ip_nI_inj (a := nf) (b := 4) (by omega) (by omega) z
    omega
  obtain ⟨hin, hcj⟩ := ip_inN (n := 4) (N := 4) q5 (by decide) (by decide)
  obtain ⟨fr1, fr2, fr3⟩ := hcF.2 nf (Nat.le_refl _) q5
  refine And.intro rfl (Exists.intro (20 + nf + 4) (And.intro fr3 (And.intro (by omega) ?_)))
  refine Exists.intro 4 (And.intro (by simp [ip_nw]) (And.intro (show vp_in (nI 0) 4 from vp_in_nI (by decide) (by decide)) ?_))
  refine Exists.intro 4 (And.intro (by simp [ip_nw, ip_sI]) (And.intro (show vp_in (nI 1) 4 from vp_in_nI (by decide) (by decide)) ?_))
  refine Exists.intro 4 (And.intro (by simp [ip_nw, ip_sI]) (And.intro (show vp_in (nI 2) 4 from vp_in_nI (by decide) (by decide)) ?_))
  refine Exists.intro 4 (And.intro (by simp [ip_nw, ip_sI]) (And.intro (show vp_in (nI 3) 4 from vp_in_nI (by decide) (by decide)) ?_))
  rw [e2, hnf]
  refine Exists.intro (20 + nf) (And.intro (by
    have h : ¬ 20 + nf = 20 + nf + 4 := by omega
    simp only [ip_nw, ip_sI, h, if_false]
    exact fr2) (And.intro (by omega) ?_))
  refine And.intro (And.intro (by simp [ip_nw]) trivial) ?_
  rintro r S'' ⟨rfl, rfl⟩
  refine And.intro hin (And.intro (by simp [ip_nw, ip_sI, ip_sR]) ?_)
  rw [hcj]
  have hfin := ip_cR_fluid (li := li) hv hcS hcF hcJ hcP q5 hall.1 hall.2.1 hall.2.2.1 hall.2.2.2.1
  have e0 : (ip_fI S1 nf kd sa sb sc sd ti pa li).1 0 2 = M 50 4 := ip_fI_0.trans e2
  refine And.intro ?_ (And.intro ?_ ?_)
  · unfold g_fluid
    rw [if_pos hall, if_neg n12, hnf]
  · unfold g_fluid
    rw [if_pos hall, if_neg n12]
    show ip_cR (g_fluidM M (M 50 4).toNatClampNeg kd sa sb sc sd ti pa li) (ip_sI (ip_fI S1 nf kd sa sb sc sd ti pa li) 0 2 ((ip_fI S1 nf kd sa sb sc sd ti pa li).1 0 2 + 1))
    rw [e0, show (M 50 4).toNatClampNeg = nf by rw [hnf]; exact hcj]
    exact hfin
  · exact ip_fS_fC q5
set_option maxRecDepth 100000 in
set_option maxHeartbeats 4000000 in
theorem vX4_fluid (M : ip_M) (a : Nat) (kd : Int32) (sa : Int32) (sb : Int32) (sc : Int32) (sd : Int32) (ti : Int32) (pa : Int32) (li : Int32) (S : ip_S) (hS : ip_Sta S) (hp : a = 0 ∧ ip_cR M S) : ip_run (pX4_fluid (postX4_fluid M [.inr (.inl (some a)), .inl kd, .inl sa, .inl sb, .inl sc, .inl sd, .inl ti, .inl pa, .inl li] S)) (fun pc => Nat.beq pc 75) (fun pc loc st S2 => ∃ k, iX4_fluid M a kd sa sb sc sd ti pa li S k pc loc st S2) 130 0 [some (.inr (.inl (some a))), some (.inl kd), some (.inl sa), some (.inl sb), some (.inl sc), some (.inl sd), some (.inl ti), some (.inl pa), some (.inl li), none, none] [] S := by
  obtain ⟨rfl, hR⟩ := hp
  refine And.intro trivial ?_
  rintro r S' ⟨rfl, rfl⟩
  refine And.intro (fun q1 => ?_) (fun q1 => ?_)
  · refine And.intro ?_ (And.intro ?_ ip_fC.rf) <;> unfold g_fluid <;> rw [if_neg (fun z => ip_if0 q1 z.1)]
    exact hR
  have q1 := ip_if1 q1
  refine And.intro trivial ?_
  rintro r S' ⟨rfl, rfl⟩
  refine And.intro (fun q2 => ?_) (fun q2 => ?_)
  rotate_left
  · refine And.intro ?_ (And.intro ?_ ip_fC.rf) <;> unfold g_fluid <;> rw [if_neg (fun z => ip_if0 q2 z.2.1)]
    exact hR
  have q2 := ip_if1 q2
  refine And.intro (fun q3 => ?_) (fun q3 => ?_)
  · refine And.intro (fun q6 => ?_) (fun q6 => ?_)
    · refine And.intro trivial ?_
      rintro r S' ⟨rfl, rfl⟩
      refine And.intro (fun q7 => ?_) (fun q7 => ?_)
      rotate_left
      · refine And.intro ?_ (And.intro ?_ ip_fC.rf) <;> unfold g_fluid <;> rw [if_neg (fun z => ip_if0 q7 z.2.2.2.2)]
        exact hR
      have q7 := ip_if1 q7
      exact Exists.intro 0 ⟨rfl, rfl, rfl, ⟨q1, q2, (fun z => absurd q3 z), (fun z => absurd z q6), q7⟩, rfl⟩
    refine And.intro trivial ?_
    rintro r S' ⟨rfl, rfl⟩
    refine And.intro (fun q8 => ?_) (fun q8 => ?_)
    rotate_left
    · refine And.intro ?_ (And.intro ?_ ip_fC.rf) <;> unfold g_fluid <;> rw [if_neg (fun z => ip_if0 q8 (z.2.2.2.1 q6))]
      exact hR
    have q8 := ip_if1 q8
    refine And.intro trivial ?_
    rintro r S' ⟨rfl, rfl⟩
    refine And.intro (fun q7 => ?_) (fun q7 => ?_)
    rotate_left
    · refine And.intro ?_ (And.intro ?_ ip_fC.rf) <;> unfold g_fluid <;> rw [if_neg (fun z => ip_if0 q7 z.2.2.2.2)]
      exact hR
    have q7 := ip_if1 q7
    exact Exists.intro 0 ⟨rfl, rfl, rfl, ⟨q1, q2, (fun z => absurd q3 z), (fun _ => q8), q7⟩, rfl⟩
  refine And.intro trivial ?_
  rintro r S' ⟨rfl, rfl⟩
  refine And.intro (fun q4 => ?_) (fun q4 => ?_)
  rotate_left
  · refine And.intro ?_ (And.intro ?_ ip_fC.rf) <;> unfold g_fluid <;> rw [if_neg (fun z => ip_if0 q4 (z.2.2.1 q3))]
    exact hR
  have q4 := ip_if1 q4
  refine And.intro (fun q6 => ?_) (fun q6 => ?_)
  · refine And.intro trivial ?_
    rintro r S' ⟨rfl, rfl⟩
    refine And.intro (fun q7 => ?_) (fun q7 => ?_)
    rotate_left
    · refine And.intro ?_ (And.intro ?_ ip_fC.rf) <;> unfold g_fluid <;> rw [if_neg (fun z => ip_if0 q7 z.2.2.2.2)]
      exact hR
    have q7 := ip_if1 q7
    exact Exists.intro 0 ⟨rfl, rfl, rfl, ⟨q1, q2, (fun _ => q4), (fun z => absurd z q6), q7⟩, rfl⟩
  refine And.intro trivial ?_
  rintro r S' ⟨rfl, rfl⟩
  refine And.intro (fun q8 => ?_) (fun q8 => ?_)
  rotate_left
  · refine And.intro ?_ (And.intro ?_ ip_fC.rf) <;> unfold g_fluid <;> rw [if_neg (fun z => ip_if0 q8 (z.2.2.2.1 q6))]
    exact hR
  have q8 := ip_if1 q8
  refine And.intro trivial ?_
  rintro r S' ⟨rfl, rfl⟩
  refine And.intro (fun q7 => ?_) (fun q7 => ?_)
  rotate_left
  · refine And.intro ?_ (And.intro ?_ ip_fC.rf) <;> unfold g_fluid <;> rw [if_neg (fun z => ip_if0 q7 z.2.2.2.2)]
    exact hR
  have q7 := ip_if1 q7
  exact Exists.intro 0 ⟨rfl, rfl, rfl, ⟨q1, q2, (fun _ => q4), (fun _ => q8), q7⟩, rfl⟩
theorem ctX4_fluid (l : Launch) (M : ip_M) : ip_CT l yX4_fluid wsX4_fluid rmX4_fluid ip_Sta (preX4_fluid M) (postX4_fluid M) := by
  refine ip_of (cc := cX4_fluid) (maxL := 11) (ret := (some .int)) (by decide +kernel) rfl (fun pc => bif Nat.ble pc 98 then (0, 0) else bif Nat.ble pc 126 then (1, 4) else (2, 9)) rfl ?_ ?_
  · intro as S h
    obtain ⟨a, kd, sa, sb, sc, sd, ti, pa, li, rfl, hq⟩ := ip_e_riiiiiiii h
    exact ⟨Nat.le_of_ble_eq_true rfl, by simp⟩
  intro p e s m args below meth c D cA A ad0 as S h hI hx hb hml hown hts hr hlocks hname hA hNx
  obtain ⟨a, kd, sa, sb, sc, sd, ti, pa, li, rfl, hq⟩ := ip_e_riiiiiiii h
  have ht := tX4_fluid (D := D) (cA := cA) (A := A) (ad0 := ad0) (l := l) (e := e) (below := below) (S0 := S) (po := postX4_fluid M [.inr (.inl (some a)), .inl kd, .inl sa, .inl sb, .inl sc, .inl sd, .inl ti, .inl pa, .inl li] S) hx hb hml hown hts hr hlocks hname hA hNx
  refine ip_run_ok ht (fun pc loc st S2 hh => ?_) 130 0 _ _ S (vX4_fluid M a kd sa sb sc sd ti pa li S hI hq)
  obtain ⟨k, hk⟩ := hh
  exact ip_loop ht (iX4_fluid M a kd sa sb sc sd ti pa li S) (lpX4_fluid M a kd sa sb sc sd ti pa li S hI hq) k pc loc st S2 hk
