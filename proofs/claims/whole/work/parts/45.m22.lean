def preX4_beginOn (M : ip_M) : List ip_V → ip_S → Prop := ip_h_ri (fun _ => False) (fun a pd S => a = 0 ∧ ip_cR M S ∧ ∃ p, p < (M 50 10).toNatClampNeg ∧ pd = nI p)
def postX4_beginOn (M : ip_M) : List ip_V → ip_S → List ip_V → ip_S → Prop := ip_h_ri (fun _ _ _ => True) (fun a pd S r S' => r = [] ∧ ip_cR (g_bg1 M pd.toNatClampNeg) S' ∧ ip_fC S S')
theorem shX4_beginOn (M : ip_M) : ∀ as S, ip_Sta S → preX4_beginOn M as S → ∃ (b : Nat) (as' : List ip_V), as = .inr (.inl (some b)) :: as' ∧ as'.length = 1 ∧ (S.2.2.2 b).1 = 4 := by
  intro as S hI h
  obtain ⟨a, pd, rfl, hq⟩ := ip_e_ri h
  exact ⟨_, _, rfl, rfl, by rw [hq.1, hI.1 0 (by decide)]; rfl⟩
def rmX4_beginOn : Room := { frames := 5, cells := 0, slots := 0, locals := 200 }
def pX4_beginOn (po : List ip_V → ip_S → Prop) : List (Nat × ip_T) := [(0, ip_t_ar 0 1), (1, ip_t_gR0 0 7 4), (4, ip_t_il 1 5), (5, ip_t_lda 9 6), (6, ip_t_null 10 9), (9, ip_t_vret po), (10, ip_t_ar 0 11), (11, ip_t_callG 1 preX4_nextToBegin postX4_nextToBegin 14), (14, ip_t_as 2 15), (15, ip_t_ar 2 16), (16, ip_t_null 19 20), (19, ip_t_vret po), (20, ip_t_ar 2 21), (21, ip_t_gR 1 2 24), (24, ip_t_dup 25), (25, ip_t_gI 0 4 28), (28, ip_t_ar 2 29), (29, ip_t_call 1 preX1_litresNeeded postX1_litresNeeded 32), (32, ip_t_isub 33), (33, ip_t_pI 0 4 36), (36, ip_t_ar 0 37), (37, ip_t_dup 38), (38, ip_t_gI0 0 11 41), (41, ip_t_ar 2 42), (42, ip_t_call 1 preX1_drainNeeded postX1_drainNeeded 45), (45, ip_t_iadd 46), (46, ip_t_pI0 0 11 49), (49, ip_t_ar 0 50), (50, ip_t_dup 51), (51, ip_t_gI0 0 12 54), (54, ip_t_ci 1 55), (55, ip_t_iadd 56), (56, ip_t_pI0 0 12 59), (59, ip_t_ar 0 60), (60, ip_t_gR0 0 7 63), (63, ip_t_il 1 64), (64, ip_t_ar 2 65), (65, ip_t_sta 9 1 66), (66, ip_t_ar 2 67), (67, ip_t_il 1 68), (68, ip_t_ar 0 69), (69, ip_t_gI0 0 8 72), (72, ip_t_ar 0 73), (73, ip_t_ar 2 74), (74, ip_t_gR 1 2 77), (77, ip_t_ar 0 78), (78, ip_t_gI0 0 8 81), (81, ip_t_callG 3 preX4_holdIn postX4_holdIn 84), (84, ip_t_call 4 preX1_begin postX1_begin 87), (87, ip_t_vret po)]
set_option maxRecDepth 100000 in
set_option maxHeartbeats 4000000 in
theorem tX4_beginOn {p : Program} {l : Launch} {e : Env} {s : State} {m : MethodId} {args : Array Value} {below : List Frame} {meth : Method} {c : Code} {D : va_G} {cA : Nat → ClassId} {A : Nat → Prop} {ad0 : Nat → Nat} {S0 : ip_S} {po : List ip_V → ip_S → Prop} (hx : p.tables.exec = Jvm.exec) (hb : c.code = cX4_beginOn) (hml : c.maxLocals = 3) (hown : s.vm.findClass RX4 = some m.cls) (hts : ∀ w ∈ wsX4_beginOn, w.before args s = true) (hr : meth.sig.returnType = none) (hlocks : meth.locks = false) (hname : meth.name = yX4_beginOn.name) (hA : ∀ q, s.heap.size ≤ q → A q) (hNx : ip_Nx s) : ∀ q ∈ pX4_beginOn po, ip_snd p l e rmX4_beginOn s m args below meth c D cA A (MQ below (ip_Q ip_Sta D cA ad0 S0 A po) args s 0 0 A) 3 (fun _ => (0, 0)) ip_Sta ad0 S0 q.1 q.2 := by
  have hIs : ∀ S, ip_Sta S → ip_Sta S := fun _ h => h
  have hIn := ip_In_Sta
  have hS9 : CallFix p m c cX4_beginOn 3 s args wsX4_beginOn RX4 := ⟨hx, hb, hml, hown, hts⟩
  have hin0 : ∀ w ∈ u_ws RX0 TX0 5, w ∈ wsX4_beginOn := by decide +kernel
  have hin1 : ∀ w ∈ u_ws RX1 TX1 11, w ∈ wsX4_beginOn := by decide +kernel
  have hin4 : ∀ w ∈ u_ws RX4 TX4 14, w ∈ wsX4_beginOn := by decide +kernel
  refine List.forall_mem_cons.mpr ⟨ip_s_aload_n hx hb dX4_beginOn_0 rfl rfl, ?_⟩
  refine List.forall_mem_cons.mpr ⟨ip_s_gR0 hx hb hts hin4 hown rfl (by decide) 5 (by decide) (hts (.fieldLink RX4 28 "IcePads" "pads" "[LIcePads$Jet;") (by decide +kernel)) (fun _ h9 => h9) hIs 0 7 rfl (by decide) rfl dX4_beginOn_1 rfl, ?_⟩
  refine List.forall_mem_cons.mpr ⟨ip_s_iload_n hx hb dX4_beginOn_4 rfl rfl, ?_⟩
  refine List.forall_mem_cons.mpr ⟨ip_s_lda9 hx hb hIs dX4_beginOn_5 rfl, ?_⟩
  refine List.forall_mem_cons.mpr ⟨ip_s_ifnull (t := 10) hx hb dX4_beginOn_6 (by decide) rfl rfl, ?_⟩
  refine List.forall_mem_cons.mpr ⟨ip_s_vret hx hb hr hlocks (Nat.le_of_ble_eq_true rfl) (Nat.le_of_ble_eq_true rfl) dX4_beginOn_9, ?_⟩
  refine List.forall_mem_cons.mpr ⟨ip_s_aload_n hx hb dX4_beginOn_10 rfl rfl, ?_⟩
  refine List.forall_mem_cons.mpr ⟨ip_s_G (fun M => ip_s_callV hNx hS9 (ctX4_nextToBegin l M) (cwV 0 hts gX4_beginOn_X4_nextToBegin rfl rfl rfl (by decide +kernel) ⟨Nat.le_of_ble_eq_true rfl, Nat.le_of_ble_eq_true rfl⟩) (ci := 4) rfl rfl (by decide) (fun as S hI h => shX4_nextToBegin M as S hI h) hA dX4_beginOn_11 ⟨Nat.le_of_ble_eq_true rfl, Nat.le_of_ble_eq_true rfl⟩ rfl), ?_⟩
  refine List.forall_mem_cons.mpr ⟨ip_s_astore_n hx hb dX4_beginOn_14 rfl (by decide) rfl, ?_⟩
  refine List.forall_mem_cons.mpr ⟨ip_s_aload_n hx hb dX4_beginOn_15 rfl rfl, ?_⟩
  refine List.forall_mem_cons.mpr ⟨ip_s_ifnonnull (t := 20) hx hb dX4_beginOn_16 (by decide) rfl rfl, ?_⟩
  refine List.forall_mem_cons.mpr ⟨ip_s_vret hx hb hr hlocks (Nat.le_of_ble_eq_true rfl) (Nat.le_of_ble_eq_true rfl) dX4_beginOn_19, ?_⟩
  refine List.forall_mem_cons.mpr ⟨ip_s_aload_n hx hb dX4_beginOn_20 rfl rfl, ?_⟩
  refine List.forall_mem_cons.mpr ⟨ip_s_gR hx hb hts hin1 hown rfl (by decide) 2 (by decide) (hts (.fieldLink RX4 216 "IcePads$Jet" "fluid" "LIcePads$Fluid;") (by decide +kernel)) (fun _ h9 => h9) rfl dX4_beginOn_21 rfl, ?_⟩
  refine List.forall_mem_cons.mpr ⟨ip_s_dup hx hb dX4_beginOn_24 rfl, ?_⟩
  refine List.forall_mem_cons.mpr ⟨ip_s_gI hx hb hts hin0 hown rfl (by decide) 4 (by decide) (hts (.fieldLink RX4 107 "IcePads$Fluid" "litresLeft" "I") (by decide +kernel)) (fun _ h9 => h9) rfl dX4_beginOn_25 rfl, ?_⟩
  refine List.forall_mem_cons.mpr ⟨ip_s_aload_n hx hb dX4_beginOn_28 rfl rfl, ?_⟩
  refine List.forall_mem_cons.mpr ⟨ip_s_callV hNx hS9 (ctX1_litresNeeded l) (cwV 0 hts gX4_beginOn_X1_litresNeeded rfl rfl rfl (by decide +kernel) ⟨Nat.le_of_ble_eq_true rfl, Nat.le_of_ble_eq_true rfl⟩) (ci := 1) rfl rfl (by decide) (fun as S hI h => shX1_litresNeeded as S hI h) hA dX4_beginOn_29 ⟨Nat.le_of_ble_eq_true rfl, Nat.le_of_ble_eq_true rfl⟩ rfl, ?_⟩
  refine List.forall_mem_cons.mpr ⟨ip_s_isub hx hb dX4_beginOn_32 rfl, ?_⟩
  refine List.forall_mem_cons.mpr ⟨ip_s_pI hx hb hts hin0 hown rfl (by decide) 4 (by decide) (hts (.fieldLink RX4 107 "IcePads$Fluid" "litresLeft" "I") (by decide +kernel)) (fun _ h9 => h9) tyX0 tyX0_ok nmX0 hIn rfl rfl (by decide +kernel) dX4_beginOn_33 rfl, ?_⟩
  refine List.forall_mem_cons.mpr ⟨ip_s_aload_n hx hb dX4_beginOn_36 rfl rfl, ?_⟩
  refine List.forall_mem_cons.mpr ⟨ip_s_dup hx hb dX4_beginOn_37 rfl, ?_⟩
  refine List.forall_mem_cons.mpr ⟨ip_s_gI0 hx hb hts hin4 hown rfl (by decide) 11 (by decide) (hts (.fieldLink RX4 179 "IcePads" "drain" "I") (by decide +kernel)) (fun _ h9 => h9) hIs 0 rfl rfl dX4_beginOn_38 rfl, ?_⟩
  refine List.forall_mem_cons.mpr ⟨ip_s_aload_n hx hb dX4_beginOn_41 rfl rfl, ?_⟩
  refine List.forall_mem_cons.mpr ⟨ip_s_callV hNx hS9 (ctX1_drainNeeded l) (cwV 0 hts gX4_beginOn_X1_drainNeeded rfl rfl rfl (by decide +kernel) ⟨Nat.le_of_ble_eq_true rfl, Nat.le_of_ble_eq_true rfl⟩) (ci := 1) rfl rfl (by decide) (fun as S hI h => shX1_drainNeeded as S hI h) hA dX4_beginOn_42 ⟨Nat.le_of_ble_eq_true rfl, Nat.le_of_ble_eq_true rfl⟩ rfl, ?_⟩
  refine List.forall_mem_cons.mpr ⟨ip_s_iadd hx hb dX4_beginOn_45 rfl, ?_⟩
  refine List.forall_mem_cons.mpr ⟨ip_s_pI0 hx hb hts hin4 hown rfl (by decide) 11 (by decide) (hts (.fieldLink RX4 179 "IcePads" "drain" "I") (by decide +kernel)) (fun _ h9 => h9) tyX4 tyX4_ok nmX4 hIn hIs 0 rfl rfl rfl (by decide +kernel) dX4_beginOn_46 rfl, ?_⟩
  refine List.forall_mem_cons.mpr ⟨ip_s_aload_n hx hb dX4_beginOn_49 rfl rfl, ?_⟩
  refine List.forall_mem_cons.mpr ⟨ip_s_dup hx hb dX4_beginOn_50 rfl, ?_⟩
  refine List.forall_mem_cons.mpr ⟨ip_s_gI0 hx hb hts hin4 hown rfl (by decide) 12 (by decide) (hts (.fieldLink RX4 182 "IcePads" "begun" "I") (by decide +kernel)) (fun _ h9 => h9) hIs 0 rfl rfl dX4_beginOn_51 rfl, ?_⟩
  refine List.forall_mem_cons.mpr ⟨ip_s_iconst hx hb dX4_beginOn_54 rfl rfl, ?_⟩
  refine List.forall_mem_cons.mpr ⟨ip_s_iadd hx hb dX4_beginOn_55 rfl, ?_⟩
  refine List.forall_mem_cons.mpr ⟨ip_s_pI0 hx hb hts hin4 hown rfl (by decide) 12 (by decide) (hts (.fieldLink RX4 182 "IcePads" "begun" "I") (by decide +kernel)) (fun _ h9 => h9) tyX4 tyX4_ok nmX4 hIn hIs 0 rfl rfl rfl (by decide +kernel) dX4_beginOn_56 rfl, ?_⟩
  refine List.forall_mem_cons.mpr ⟨ip_s_aload_n hx hb dX4_beginOn_59 rfl rfl, ?_⟩
  refine List.forall_mem_cons.mpr ⟨ip_s_gR0 hx hb hts hin4 hown rfl (by decide) 5 (by decide) (hts (.fieldLink RX4 28 "IcePads" "pads" "[LIcePads$Jet;") (by decide +kernel)) (fun _ h9 => h9) hIs 0 7 rfl (by decide) rfl dX4_beginOn_60 rfl, ?_⟩
  refine List.forall_mem_cons.mpr ⟨ip_s_iload_n hx hb dX4_beginOn_63 rfl rfl, ?_⟩
  refine List.forall_mem_cons.mpr ⟨ip_s_aload_n hx hb dX4_beginOn_64 rfl rfl, ?_⟩
  refine List.forall_mem_cons.mpr ⟨ip_s_sta9 hx hb hIn hIs dX4_beginOn_65 rfl, ?_⟩
  refine List.forall_mem_cons.mpr ⟨ip_s_aload_n hx hb dX4_beginOn_66 rfl rfl, ?_⟩
  refine List.forall_mem_cons.mpr ⟨ip_s_iload_n hx hb dX4_beginOn_67 rfl rfl, ?_⟩
  refine List.forall_mem_cons.mpr ⟨ip_s_aload_n hx hb dX4_beginOn_68 rfl rfl, ?_⟩
  refine List.forall_mem_cons.mpr ⟨ip_s_gI0 hx hb hts hin4 hown rfl (by decide) 8 (by decide) (hts (.fieldLink RX4 56 "IcePads" "now" "I") (by decide +kernel)) (fun _ h9 => h9) hIs 0 rfl rfl dX4_beginOn_69 rfl, ?_⟩
  refine List.forall_mem_cons.mpr ⟨ip_s_aload_n hx hb dX4_beginOn_72 rfl rfl, ?_⟩
  refine List.forall_mem_cons.mpr ⟨ip_s_aload_n hx hb dX4_beginOn_73 rfl rfl, ?_⟩
  refine List.forall_mem_cons.mpr ⟨ip_s_gR hx hb hts hin1 hown rfl (by decide) 2 (by decide) (hts (.fieldLink RX4 216 "IcePads$Jet" "fluid" "LIcePads$Fluid;") (by decide +kernel)) (fun _ h9 => h9) rfl dX4_beginOn_74 rfl, ?_⟩
  refine List.forall_mem_cons.mpr ⟨ip_s_aload_n hx hb dX4_beginOn_77 rfl rfl, ?_⟩
  refine List.forall_mem_cons.mpr ⟨ip_s_gI0 hx hb hts hin4 hown rfl (by decide) 8 (by decide) (hts (.fieldLink RX4 56 "IcePads" "now" "I") (by decide +kernel)) (fun _ h9 => h9) hIs 0 rfl rfl dX4_beginOn_78 rfl, ?_⟩
  refine List.forall_mem_cons.mpr ⟨ip_s_G (fun M => ip_s_callV hNx hS9 (ctX4_holdIn l M) (cwV 2 hts gX4_beginOn_X4_holdIn rfl rfl rfl (by decide +kernel) ⟨Nat.le_of_ble_eq_true rfl, Nat.le_of_ble_eq_true rfl⟩) (ci := 4) rfl rfl (by decide) (fun as S hI h => shX4_holdIn M as S hI h) hA dX4_beginOn_81 ⟨Nat.le_of_ble_eq_true rfl, Nat.le_of_ble_eq_true rfl⟩ rfl), ?_⟩
  refine List.forall_mem_cons.mpr ⟨ip_s_callV hNx hS9 (ctX1_begin l) (cwV 3 hts gX4_beginOn_X1_begin rfl rfl rfl (by decide +kernel) ⟨Nat.le_of_ble_eq_true rfl, Nat.le_of_ble_eq_true rfl⟩) (ci := 1) rfl rfl (by decide) (fun as S hI h => shX1_begin as S hI h) hA dX4_beginOn_84 ⟨Nat.le_of_ble_eq_true rfl, Nat.le_of_ble_eq_true rfl⟩ rfl, ?_⟩
  refine List.forall_mem_cons.mpr ⟨ip_s_vret hx hb hr hlocks (Nat.le_of_ble_eq_true rfl) (Nat.le_of_ble_eq_true rfl) dX4_beginOn_87, ?_⟩
  exact fun _ h => absurd h List.not_mem_nil
set_option maxRecDepth 100000 in
set_option maxHeartbeats 4000000 in
theorem vX4_beginOn (M : ip_M) (a : Nat) (pd : Int32) (S : ip_S) (hS : ip_Sta S) (hp : a = 0 ∧ ip_cR M S ∧ ∃ p, p < (M 50 10).toNatClampNeg ∧ pd = nI p) : ip_run (pX4_beginOn (postX4_beginOn M [.inr (.inl (some a)), .inl pd] S)) (fun _ => false) (fun _ _ _ _ => False) 80 0 [some (.inr (.inl (some a))), some (.inl pd), none] [] S := by
  obtain ⟨rfl, hR, p, hpn, rfl⟩ := hp
  have hR' := hR
  obtain ⟨nf, nj, np, hv, hcS, hcF, hcJ, hcP⟩ := hR'
  rw [ip_vv_np hv] at hpn
  have hnp3 := hv.1.2.2.2.2.2.2
  have hnf4 := hv.1.2.1
  have hn12 := hv.1.2.2.2.1
  have hp3 : p < 3 := by omega
  obtain ⟨hin3, hcp⟩ := ip_inN (n := 3) (N := 3) hp3 (by decide) (by decide)
  refine And.intro hin3 (fun o ho => ?_)
  rw [hcp, hcP p hp3] at ho
  by_cases h0 : M 64 p = 0
  rotate_left
  · rw [if_neg h0] at ho
    subst ho
    refine And.intro rfl (And.intro ?_ ip_fC.rf)
    rw [hcp]
    unfold g_bg1
    rw [if_neg h0]
    exact hR
  rw [if_pos h0] at ho
  subst ho
  refine Exists.intro M (And.intro (And.intro rfl hR) ?_)
  rintro r S' ⟨rfl, rfl⟩
  have hvb := ip_vv_bg hv hpn
  rw [ip_vv_nj hv]
  cases hpk : g_pick M nj with
  | none =>
    refine And.intro rfl (And.intro ?_ ip_fC.rf)
    rw [hcp]
    unfold g_bg1
    rw [if_pos h0, ip_vv_nj hv, hpk]
    exact hR
  | some b =>
    have eg : g_bg1 M p = g_bgM M p b := by
      unfold g_bg1
      rw [if_pos h0, ip_vv_nj hv, hpk]
      rfl
    rw [eg] at hvb
    obtain ⟨hb, hmay⟩ := g_pick_lt hpk
    obtain ⟨j1, j2, j3, j4, j5, j6, j7, j8, j9, j10, j11, j12, j13⟩ := hcJ.1 b hb
    obtain ⟨f, hf, hf1⟩ := (hv.2.2.2.2.1 b hb).2.2.2.2.1
    have hcf : (M 70 b).toNatClampNeg = f := by rw [hf1]; exact nI_clamp (by omega)
    rw [hcf] at j5
    obtain ⟨f1, f2, f3, f4, f5, f6, f7, f8, f9⟩ := hcF.1 f hf
    obtain ⟨s8, s2, s4, s6, s9, s10, s11, s12, t4, t2, t3⟩ := hcS
    refine And.intro j2 (fun o ho => ?_)
    rw [j5] at ho
    subst ho
    refine And.intro f2 ?_
    rw [f8]
    refine And.intro (And.intro j2 trivial) ?_
    rintro r S' ⟨rfl, rfl⟩
    rw [j6]
    refine And.intro f2 ?_
    refine And.intro (And.intro j2 trivial) ?_
    rintro r S'' ⟨rfl, rfl⟩
    rw [show (ip_sI S' (20 + f) 4 (M 59 f - 10 * M 66 b)).1 0 11 = M 50 13 by rw [ip_sI_p (by omega)]; exact s11, show (ip_sI S' (20 + f) 4 (M 59 f - 10 * M 66 b)).1 (30 + b) 3 = M 66 b by rw [ip_sI_p (by omega)]; exact j6]
    refine And.intro hin3 (And.intro j2 ?_)
    rw [hcp, show (ip_sI (ip_sI S' (20 + f) 4 (M 59 f - 10 * M 66 b)) 0 11 (M 50 13 + 8 * M 66 b)).1 0 12 = M 50 26 by rw [ip_sI_k (by decide), ip_sI_p (by omega)]; exact s12]
    have k8 : (ip_sR (ip_sI (ip_sI (ip_sI S' (20 + f) 4 (M 59 f - 10 * M 66 b)) 0 11 (M 50 13 + 8 * M 66 b)) 0 12 (M 50 26 + 1)) 7 p (some (30 + b))).1 0 8 = M 50 0 := by
      show (ip_sI (ip_sI (ip_sI S' (20 + f) 4 (M 59 f - 10 * M 66 b)) 0 11 (M 50 13 + 8 * M 66 b)) 0 12 (M 50 26 + 1)).1 0 8 = M 50 0
      rw [ip_sI_k (by decide), ip_sI_k (by decide), ip_sI_p (by omega)]
      exact s8
    have kP : ∀ q, q ≠ 0 → q ≠ 20 + f → (ip_sR (ip_sI (ip_sI (ip_sI S' (20 + f) 4 (M 59 f - 10 * M 66 b)) 0 11 (M 50 13 + 8 * M 66 b)) 0 12 (M 50 26 + 1)) 7 p (some (30 + b))).1 q = S'.1 q := by
      intro q a1 a2
      show (ip_sI (ip_sI (ip_sI S' (20 + f) 4 (M 59 f - 10 * M 66 b)) 0 11 (M 50 13 + 8 * M 66 b)) 0 12 (M 50 26 + 1)).1 q = S'.1 q
      rw [ip_sIP a1, ip_sIP a1, ip_sIP a2]
    have kf : ∀ k, k ≠ 4 → (ip_sR (ip_sI (ip_sI (ip_sI S' (20 + f) 4 (M 59 f - 10 * M 66 b)) 0 11 (M 50 13 + 8 * M 66 b)) 0 12 (M 50 26 + 1)) 7 p (some (30 + b))).1 (20 + f) k = S'.1 (20 + f) k := by
      intro k a1
      show (ip_sI (ip_sI (ip_sI S' (20 + f) 4 (M 59 f - 10 * M 66 b)) 0 11 (M 50 13 + 8 * M 66 b)) 0 12 (M 50 26 + 1)).1 (20 + f) k = S'.1 (20 + f) k
      rw [ip_sI_p (by omega), ip_sI_p (by omega), ip_sI_k a1]
    have kR : ∀ q, q ≠ 7 → (ip_sR (ip_sI (ip_sI (ip_sI S' (20 + f) 4 (M 59 f - 10 * M 66 b)) 0 11 (M 50 13 + 8 * M 66 b)) 0 12 (M 50 26 + 1)) 7 p (some (30 + b))).2.1 q = S'.2.1 q := fun q a => funext (fun k => if_neg (fun z => a z.1))
    refine And.intro j2 (fun o ho => ?_)
    rw [kR (30 + b) (by omega), j5] at ho
    subst ho
    rw [k8]
    refine Exists.intro M (And.intro (And.intro rfl (And.intro hv.2.1 (And.intro (And.intro ?_ (And.intro ?_ ?_)) (And.intro ⟨f, rfl, f2, ?_, f4, ?_, ?_, ?_, ?_⟩ ?_)))) ?_)
    · rw [kP 4 (by omega) (by omega)]; exact t4
    · rw [kP 2 (by omega) (by omega)]; exact t2
    · rw [kP 3 (by omega) (by omega)]; exact t3
    · rw [kR (20 + f) (by omega)]; exact f3
    · rw [kf 0 (by decide)]; exact f5
    · rw [kf 2 (by decide)]; exact f6
    · rw [kf 3 (by decide)]; exact f7
    · intro j hj
      rw [kP (20 + f + 4) (by omega) (by omega)]; exact f9 j hj
    · exact k8.symm ▸ ip_now hv.2.2.1
    · rintro r S'' ⟨rfl, rfl⟩
      rw [k8]
      refine And.intro (And.intro j2 trivial) ?_
      rintro r S'' ⟨rfl, rfl⟩
      rw [show 20 + f - 20 = f by omega]
      refine And.intro rfl (And.intro ?_ ((((((((ip_fC.rf.sI (by omega) _ _).sI (by omega) _ _).sI (by omega) _ _).sR _ _ _).sI (by show 30 + b < 50 ∧ 30 + b ≠ 10; omega) _ _).sI (by show 30 + b < 50 ∧ 30 + b ≠ 10; omega) _ _).sI (by show 30 + b < 50 ∧ 30 + b ≠ 10; omega) _ _)))
      rw [hcp, eg]
      exact ip_cR_bg hv hvb ⟨s8, s2, s4, s6, s9, s10, s11, s12, t4, t2, t3⟩ hcF hcJ hcP hb hf hcf hpn h0 hmay.1
theorem ctX4_beginOn (l : Launch) (M : ip_M) : ip_CT l yX4_beginOn wsX4_beginOn rmX4_beginOn ip_Sta (preX4_beginOn M) (postX4_beginOn M) := by
  refine ip_of (cc := cX4_beginOn) (maxL := 3) (ret := none) (by decide +kernel) rfl (fun _ => (0, 0)) rfl ?_ ?_
  · intro as S h
    obtain ⟨a, pd, rfl, hq⟩ := ip_e_ri h
    exact ⟨Nat.le_of_ble_eq_true rfl, by simp⟩
  intro p e s m args below meth c D cA A ad0 as S h hI hx hb hml hown hts hr hlocks hname hA hNx
  obtain ⟨a, pd, rfl, hq⟩ := ip_e_ri h
  refine ip_run_ok (stop := fun _ => false) (tX4_beginOn hx hb hml hown hts hr hlocks hname hA hNx) (fun _ _ _ _ h => False.elim h) 80 0 _ _ S ?_
  exact vX4_beginOn M a pd S hI hq
