theorem ip_gpad_none {M : ip_M} {x : Int32} : ∀ n, (∀ p, p < n → ¬ M 64 p = x + 1) → g_pad M x n = -900
  | 0, _ => rfl
  | n + 1, h => by
    rw [g_pad, if_neg (h n (by omega))]
    exact ip_gpad_none n (fun p hp => h p (by omega))
theorem ip_gpad_some {M : ip_M} {x : Int32} {p : Nat} (hp1 : M 64 p = x + 1) : ∀ n, p < n → (∀ q, q < n → M 64 q = x + 1 → q = p) → g_pad M x n = nI p
  | 0, h, _ => absurd h (by omega)
  | n + 1, h, hu => by
    rw [g_pad]
    by_cases hn : M 64 n = x + 1
    · rw [if_pos hn, hu n (by omega) hn]
    · rw [if_neg hn]
      have hpn : p ≠ n := fun e => hn (e ▸ hp1)
      exact ip_gpad_some hp1 n (by omega) (fun q hq => hu q (by omega))
theorem ip_padJ {M : ip_M} {S : ip_S} {nf nj np j : Nat} (hv : ip_vv M nf nj np) (hJ : ip_cJ M S nj np) (hj : j < nj) : g_pad M (nI j) np = S.1 (30 + j) 6 := by
  obtain ⟨-, -, -, -, -, -, -, -, -, j8, -, jon, joff⟩ := hJ.1 j hj
  have h3 := hv.1.2.2.2.2.2.2
  have h12 := hv.1.2.2.2.1
  by_cases h1 : M 71 j = 1
  · obtain ⟨-, p, hp, hp1, hp6⟩ := jon h1
    rw [hp6]
    refine ip_gpad_some (by rw [hp1, nI_1]) np hp (fun q hq hq1 => ?_)
    rw [nI_1] at hq1
    exact hv.2.2.2.2.2.2.2 q p (by omega) (by omega) (hq1.trans hp1.symm) (by rw [hq1]; exact nI_ne0 (by omega) (by omega))
  · rw [joff h1]
    refine ip_gpad_none np (fun p hp hp1 => ?_)
    rw [nI_1] at hp1
    rcases ip_vp_at hv (p := p) (by omega) with h0 | ⟨i, y0, y1, -, y2, y3⟩
    · rw [h0] at hp1
      exact absurd hp1.symm (nI_ne0 (by omega) (by omega))
    · have := ip_nI_inj (a := i + 1) (b := j + 1) (by omega) (by omega) (y2.symm.trans hp1)
      have : i = j := by omega
      subst this
      exact h1 y3

def preX4_about (M : ip_M) : List ip_V → ip_S → Prop := ip_h_rii (fun _ => False) (fun a jj w S => a = 0 ∧ ip_cR M S)
def postX4_about (M : ip_M) : List ip_V → ip_S → List ip_V → ip_S → Prop := ip_h_rii (fun _ _ _ => True) (fun a jj w S r S' => r = [.inl (g_about M jj w)] ∧ S' = S)
theorem shX4_about (M : ip_M) : ∀ as S, ip_Sta S → preX4_about M as S → ∃ (b : Nat) (as' : List ip_V), as = .inr (.inl (some b)) :: as' ∧ as'.length = 2 ∧ (S.2.2.2 b).1 = 4 := by
  intro as S hI h
  obtain ⟨a, jj, w, rfl, hq⟩ := ip_e_rii h
  exact ⟨_, _, rfl, rfl, by rw [hq.1, hI.1 0 (by decide)]; rfl⟩
def rmX4_about : Room := { frames := 3, cells := 0, slots := 0, locals := 120 }
def pX4_about (po : List ip_V → ip_S → Prop) : List (Nat × ip_T) := [(0, ip_t_ar 0 1), (1, ip_t_il 1 2), (2, ip_t_callG 2 preX4_jetAt postX4_jetAt 5), (5, ip_t_as 3 6), (6, ip_t_ar 3 7), (7, ip_t_null 10 13), (10, ip_t_ci (-100) 12), (12, ip_t_iret po), (13, ip_t_il 2 14), (14, ip_t_sw [(0, 56), (1, 61), (2, 66), (3, 71), (4, 76), (5, 81), (6, 86)] 104), (56, ip_t_ar 3 57), (57, ip_t_call 1 preX1_state postX1_state 60), (60, ip_t_iret po), (61, ip_t_ar 3 62), (62, ip_t_gI 1 6 65), (65, ip_t_iret po), (66, ip_t_ar 3 67), (67, ip_t_gI 1 7 70), (70, ip_t_iret po), (71, ip_t_ar 3 72), (72, ip_t_gI 1 5 75), (75, ip_t_iret po), (76, ip_t_ar 3 77), (77, ip_t_gI 1 9 80), (80, ip_t_iret po), (81, ip_t_ar 3 82), (82, ip_t_gI 1 8 85), (85, ip_t_iret po), (86, ip_t_ar 3 87), (87, ip_t_call 1 preX1_isGone postX1_isGone 90), (90, ip_t_ifeq 100 93), (93, ip_t_ar 3 94), (94, ip_t_call 1 preX1_late postX1_late 97), (97, ip_t_go 103), (100, ip_t_ci (-900) 103), (103, ip_t_iret po), (104, ip_t_ci (-100) 106), (106, ip_t_iret po)]
set_option maxRecDepth 100000 in
set_option maxHeartbeats 4000000 in
theorem tX4_about {p : Program} {l : Launch} {e : Env} {s : State} {m : MethodId} {args : Array Value} {below : List Frame} {meth : Method} {c : Code} {D : va_G} {cA : Nat → ClassId} {A : Nat → Prop} {ad0 : Nat → Nat} {S0 : ip_S} {po : List ip_V → ip_S → Prop} (hx : p.tables.exec = Jvm.exec) (hb : c.code = cX4_about) (hml : c.maxLocals = 4) (hown : s.vm.findClass RX4 = some m.cls) (hts : ∀ w ∈ wsX4_about, w.before args s = true) (hr : meth.sig.returnType = (some .int)) (hlocks : meth.locks = false) (hname : meth.name = yX4_about.name) (hA : ∀ q, s.heap.size ≤ q → A q) (hNx : ip_Nx s) : ∀ q ∈ pX4_about po, ip_snd p l e rmX4_about s m args below meth c D cA A (MQ below (ip_Q ip_Sta D cA ad0 S0 A po) args s 0 0 A) 4 (fun _ => (0, 0)) ip_Sta ad0 S0 q.1 q.2 := by
  have hIs : ∀ S, ip_Sta S → ip_Sta S := fun _ h => h
  have hIn := ip_In_Sta
  have hS9 : CallFix p m c cX4_about 4 s args wsX4_about RX4 := ⟨hx, hb, hml, hown, hts⟩
  have hin1 : ∀ w ∈ u_ws RX1 TX1 11, w ∈ wsX4_about := by decide +kernel
  refine List.forall_mem_cons.mpr ⟨ip_s_aload_n hx hb dX4_about_0 rfl rfl, ?_⟩
  refine List.forall_mem_cons.mpr ⟨ip_s_iload_n hx hb dX4_about_1 rfl rfl, ?_⟩
  refine List.forall_mem_cons.mpr ⟨ip_s_G (fun M => ip_s_callV hNx hS9 (ctX4_jetAt l M) (cwV 1 hts gX4_about_X4_jetAt rfl rfl rfl (by decide +kernel) ⟨Nat.le_of_ble_eq_true rfl, Nat.le_of_ble_eq_true rfl⟩) (ci := 4) rfl rfl (by decide) (fun as S hI h => shX4_jetAt M as S hI h) hA dX4_about_2 ⟨Nat.le_of_ble_eq_true rfl, Nat.le_of_ble_eq_true rfl⟩ rfl), ?_⟩
  refine List.forall_mem_cons.mpr ⟨ip_s_astore_n hx hb dX4_about_5 rfl (by decide) rfl, ?_⟩
  refine List.forall_mem_cons.mpr ⟨ip_s_aload_n hx hb dX4_about_6 rfl rfl, ?_⟩
  refine List.forall_mem_cons.mpr ⟨ip_s_ifnonnull (t := 13) hx hb dX4_about_7 (by decide) rfl rfl, ?_⟩
  refine List.forall_mem_cons.mpr ⟨ip_s_bipush hx hb dX4_about_10 rfl rfl, ?_⟩
  refine List.forall_mem_cons.mpr ⟨ip_s_iret hx hb hr hlocks (Nat.le_of_ble_eq_true rfl) (Nat.le_of_ble_eq_true rfl) dX4_about_12, ?_⟩
  refine List.forall_mem_cons.mpr ⟨ip_s_iload_n hx hb dX4_about_13 rfl rfl, ?_⟩
  refine List.forall_mem_cons.mpr ⟨ip_s_sw (ts := [(0, 56), (1, 61), (2, 66), (3, 71), (4, 76), (5, 81), (6, 86)]) (d := 104) hx hb 7 dX4_about_14 (by decide) (by decide +kernel) (by decide +kernel) (by decide) rfl (fun _ _ => rfl), ?_⟩
  refine List.forall_mem_cons.mpr ⟨ip_s_aload_n hx hb dX4_about_56 rfl rfl, ?_⟩
  refine List.forall_mem_cons.mpr ⟨ip_s_callV hNx hS9 (ctX1_state l) (cwV 0 hts gX4_about_X1_state rfl rfl rfl (by decide +kernel) ⟨Nat.le_of_ble_eq_true rfl, Nat.le_of_ble_eq_true rfl⟩) (ci := 1) rfl rfl (by decide) (fun as S hI h => shX1_state as S hI h) hA dX4_about_57 ⟨Nat.le_of_ble_eq_true rfl, Nat.le_of_ble_eq_true rfl⟩ rfl, ?_⟩
  refine List.forall_mem_cons.mpr ⟨ip_s_iret hx hb hr hlocks (Nat.le_of_ble_eq_true rfl) (Nat.le_of_ble_eq_true rfl) dX4_about_60, ?_⟩
  refine List.forall_mem_cons.mpr ⟨ip_s_aload_n hx hb dX4_about_61 rfl rfl, ?_⟩
  refine List.forall_mem_cons.mpr ⟨ip_s_gI hx hb hts hin1 hown rfl (by decide) 6 (by decide) (hts (.fieldLink RX4 135 "IcePads$Jet" "pad" "I") (by decide +kernel)) (fun _ h9 => h9) rfl dX4_about_62 rfl, ?_⟩
  refine List.forall_mem_cons.mpr ⟨ip_s_iret hx hb hr hlocks (Nat.le_of_ble_eq_true rfl) (Nat.le_of_ble_eq_true rfl) dX4_about_65, ?_⟩
  refine List.forall_mem_cons.mpr ⟨ip_s_aload_n hx hb dX4_about_66 rfl rfl, ?_⟩
  refine List.forall_mem_cons.mpr ⟨ip_s_gI hx hb hts hin1 hown rfl (by decide) 7 (by decide) (hts (.fieldLink RX4 138 "IcePads$Jet" "start" "I") (by decide +kernel)) (fun _ h9 => h9) rfl dX4_about_67 rfl, ?_⟩
  refine List.forall_mem_cons.mpr ⟨ip_s_iret hx hb hr hlocks (Nat.le_of_ble_eq_true rfl) (Nat.le_of_ble_eq_true rfl) dX4_about_70, ?_⟩
  refine List.forall_mem_cons.mpr ⟨ip_s_aload_n hx hb dX4_about_71 rfl rfl, ?_⟩
  refine List.forall_mem_cons.mpr ⟨ip_s_gI hx hb hts hin1 hown rfl (by decide) 5 (by decide) (hts (.fieldLink RX4 141 "IcePads$Jet" "ready" "I") (by decide +kernel)) (fun _ h9 => h9) rfl dX4_about_72 rfl, ?_⟩
  refine List.forall_mem_cons.mpr ⟨ip_s_iret hx hb hr hlocks (Nat.le_of_ble_eq_true rfl) (Nat.le_of_ble_eq_true rfl) dX4_about_75, ?_⟩
  refine List.forall_mem_cons.mpr ⟨ip_s_aload_n hx hb dX4_about_76 rfl rfl, ?_⟩
  refine List.forall_mem_cons.mpr ⟨ip_s_gI hx hb hts hin1 hown rfl (by decide) 9 (by decide) (hts (.fieldLink RX4 144 "IcePads$Jet" "turnsBack" "I") (by decide +kernel)) (fun _ h9 => h9) rfl dX4_about_77 rfl, ?_⟩
  refine List.forall_mem_cons.mpr ⟨ip_s_iret hx hb hr hlocks (Nat.le_of_ble_eq_true rfl) (Nat.le_of_ble_eq_true rfl) dX4_about_80, ?_⟩
  refine List.forall_mem_cons.mpr ⟨ip_s_aload_n hx hb dX4_about_81 rfl rfl, ?_⟩
  refine List.forall_mem_cons.mpr ⟨ip_s_gI hx hb hts hin1 hown rfl (by decide) 8 (by decide) (hts (.fieldLink RX4 147 "IcePads$Jet" "flew" "I") (by decide +kernel)) (fun _ h9 => h9) rfl dX4_about_82 rfl, ?_⟩
  refine List.forall_mem_cons.mpr ⟨ip_s_iret hx hb hr hlocks (Nat.le_of_ble_eq_true rfl) (Nat.le_of_ble_eq_true rfl) dX4_about_85, ?_⟩
  refine List.forall_mem_cons.mpr ⟨ip_s_aload_n hx hb dX4_about_86 rfl rfl, ?_⟩
  refine List.forall_mem_cons.mpr ⟨ip_s_callV hNx hS9 (ctX1_isGone l) (cwV 0 hts gX4_about_X1_isGone rfl rfl rfl (by decide +kernel) ⟨Nat.le_of_ble_eq_true rfl, Nat.le_of_ble_eq_true rfl⟩) (ci := 1) rfl rfl (by decide) (fun as S hI h => shX1_isGone as S hI h) hA dX4_about_87 ⟨Nat.le_of_ble_eq_true rfl, Nat.le_of_ble_eq_true rfl⟩ rfl, ?_⟩
  refine List.forall_mem_cons.mpr ⟨ip_s_ifeq (t := 100) hx hb dX4_about_90 (by decide) rfl rfl, ?_⟩
  refine List.forall_mem_cons.mpr ⟨ip_s_aload_n hx hb dX4_about_93 rfl rfl, ?_⟩
  refine List.forall_mem_cons.mpr ⟨ip_s_callV hNx hS9 (ctX1_late l) (cwV 0 hts gX4_about_X1_late rfl rfl rfl (by decide +kernel) ⟨Nat.le_of_ble_eq_true rfl, Nat.le_of_ble_eq_true rfl⟩) (ci := 1) rfl rfl (by decide) (fun as S hI h => shX1_late as S hI h) hA dX4_about_94 ⟨Nat.le_of_ble_eq_true rfl, Nat.le_of_ble_eq_true rfl⟩ rfl, ?_⟩
  refine List.forall_mem_cons.mpr ⟨ip_s_go (t := 103) hx hb dX4_about_97 (by decide) (Nat.le_of_ble_eq_true rfl) (Nat.le_of_ble_eq_true rfl), ?_⟩
  refine List.forall_mem_cons.mpr ⟨ip_s_sipush hx hb dX4_about_100 rfl rfl, ?_⟩
  refine List.forall_mem_cons.mpr ⟨ip_s_iret hx hb hr hlocks (Nat.le_of_ble_eq_true rfl) (Nat.le_of_ble_eq_true rfl) dX4_about_103, ?_⟩
  refine List.forall_mem_cons.mpr ⟨ip_s_bipush hx hb dX4_about_104 rfl rfl, ?_⟩
  refine List.forall_mem_cons.mpr ⟨ip_s_iret hx hb hr hlocks (Nat.le_of_ble_eq_true rfl) (Nat.le_of_ble_eq_true rfl) dX4_about_106, ?_⟩
  exact fun _ h => absurd h List.not_mem_nil
set_option maxRecDepth 100000 in
set_option maxHeartbeats 4000000 in
theorem vX4_about (M : ip_M) (a : Nat) (jj : Int32) (w : Int32) (S : ip_S) (hS : ip_Sta S) (hp : a = 0 ∧ ip_cR M S) : ip_run (pX4_about (postX4_about M [.inr (.inl (some a)), .inl jj, .inl w] S)) (fun _ => false) (fun _ _ _ _ => False) 40 0 [some (.inr (.inl (some a))), some (.inl jj), some (.inl w), none] [] S := by
  obtain ⟨rfl, hR⟩ := hp
  refine Exists.intro M (And.intro (And.intro rfl hR) ?_)
  rintro r S' ⟨rfl, rfl⟩
  obtain ⟨nf, nj, np, hv, hcS, hcF, hcJ, hcP⟩ := hR
  by_cases hq : 0 ≤ jj ∧ jj ≤ M 50 15 - 1
  rotate_left
  · rw [if_neg hq]
    refine And.intro ?_ rfl
    unfold g_about
    rw [if_neg hq]
  rw [if_pos hq]
  have hn12 := hv.1.2.2.2.1
  obtain ⟨j, hj, rfl⟩ := (ip_idx hv.1.2.2.1 (by omega) jj).mp hq
  have hcj : (nI j).toNatClampNeg = j := nI_clamp (by omega)
  rw [hcj]
  obtain ⟨st1, st2⟩ := ip_stJ hv hcJ hj
  have hpad := ip_padJ hv hcJ hj
  obtain ⟨j1, j2, j3, j4, j5, j6, j7, j8, j9, j10, j11, j12, j13⟩ := hcJ.1 j hj
  refine And.intro (fun c0 => ?_) (fun c0 => ?_)
  · refine And.intro (And.intro j2 trivial) ?_
    rintro r S' ⟨rfl, rfl⟩
    rw [st1]
    refine And.intro ?_ rfl
    unfold g_about
    rw [if_pos hq, if_pos c0, hcj]
  refine And.intro (fun c1 => ?_) (fun c1 => ?_)
  · refine And.intro j2 ?_
    refine And.intro ?_ rfl
    unfold g_about
    rw [if_pos hq, if_neg c0, if_pos c1, ip_vv_np hv, hpad]
  refine And.intro (fun c2 => ?_) (fun c2 => ?_)
  · refine And.intro j2 ?_
    refine And.intro ?_ rfl
    unfold g_about
    rw [if_pos hq, if_neg c0, if_neg c1, if_pos c2, hcj, j9]
  refine And.intro (fun c3 => ?_) (fun c3 => ?_)
  · refine And.intro j2 ?_
    refine And.intro ?_ rfl
    unfold g_about
    rw [if_pos hq, if_neg c0, if_neg c1, if_neg c2, if_pos c3, hcj, j8]
  refine And.intro (fun c4 => ?_) (fun c4 => ?_)
  · refine And.intro j2 ?_
    refine And.intro ?_ rfl
    unfold g_about
    rw [if_pos hq, if_neg c0, if_neg c1, if_neg c2, if_neg c3, if_pos c4, hcj, j11]
  refine And.intro (fun c5 => ?_) (fun c5 => ?_)
  · refine And.intro j2 ?_
    refine And.intro ?_ rfl
    unfold g_about
    rw [if_pos hq, if_neg c0, if_neg c1, if_neg c2, if_neg c3, if_neg c4, if_pos c5, hcj, j10]
  refine And.intro (fun c6 => ?_) (fun c6 => ?_)
  · refine And.intro (And.intro j2 trivial) ?_
    rintro r S' ⟨rfl, rfl⟩
    refine And.intro (fun q2 => ?_) (fun q2 => ?_)
    · have h9 : S'.1 (30 + j) 8 = -900 := Classical.byContradiction (fun z => by rw [if_neg z] at q2; exact absurd q2 (by decide))
      refine And.intro ?_ rfl
      unfold g_about
      rw [if_pos hq, if_neg c0, if_neg c1, if_neg c2, if_neg c3, if_neg c4, if_neg c5, if_pos c6, hcj, if_neg (st2.mp h9)]
    · have h9 : ¬ S'.1 (30 + j) 8 = -900 := fun z => by rw [if_pos z] at q2; exact q2 rfl
      have h2 : M 71 j = 2 := Classical.byContradiction (fun z => h9 (st2.mpr z))
      refine And.intro (And.intro j2 trivial) ?_
      rintro r S' ⟨rfl, rfl⟩
      rw [j10, j4, j6, j7]
      refine And.intro ?_ rfl
      unfold g_about
      rw [if_pos hq, if_neg c0, if_neg c1, if_neg c2, if_neg c3, if_neg c4, if_neg c5, if_pos c6, hcj, if_pos h2]
      rfl
  · refine And.intro ?_ rfl
    unfold g_about
    rw [if_pos hq, if_neg c0, if_neg c1, if_neg c2, if_neg c3, if_neg c4, if_neg c5, if_neg c6]
theorem ctX4_about (l : Launch) (M : ip_M) : ip_CT l yX4_about wsX4_about rmX4_about ip_Sta (preX4_about M) (postX4_about M) := by
  refine ip_of (cc := cX4_about) (maxL := 4) (ret := (some .int)) (by decide +kernel) rfl (fun _ => (0, 0)) rfl ?_ ?_
  · intro as S h
    obtain ⟨a, jj, w, rfl, hq⟩ := ip_e_rii h
    exact ⟨Nat.le_of_ble_eq_true rfl, by simp⟩
  intro p e s m args below meth c D cA A ad0 as S h hI hx hb hml hown hts hr hlocks hname hA hNx
  obtain ⟨a, jj, w, rfl, hq⟩ := ip_e_rii h
  refine ip_run_ok (stop := fun _ => false) (tX4_about hx hb hml hown hts hr hlocks hname hA hNx) (fun _ _ _ _ h => False.elim h) 40 0 _ _ S ?_
  exact vX4_about M a jj w S hI hq

def preX4_mayBegin (M : ip_M) : List ip_V → ip_S → Prop := ip_h_rr (fun _ => False) (fun a jt S => a = 0 ∧ ip_cR M S ∧ ∃ j, jt = 30 + j ∧ j < (M 50 15).toNatClampNeg)
def postX4_mayBegin (M : ip_M) : List ip_V → ip_S → List ip_V → ip_S → Prop := ip_h_rr (fun _ _ _ => True) (fun a jt S r S' => r = [.inl (if g_may M (jt - 30) then 1 else 0)] ∧ S' = S)
theorem shX4_mayBegin (M : ip_M) : ∀ as S, ip_Sta S → preX4_mayBegin M as S → ∃ (b : Nat) (as' : List ip_V), as = .inr (.inl (some b)) :: as' ∧ as'.length = 1 ∧ (S.2.2.2 b).1 = 4 := by
  intro as S hI h
  obtain ⟨a, jt, rfl, hq⟩ := ip_e_rr h
  exact ⟨_, _, rfl, rfl, by rw [hq.1, hI.1 0 (by decide)]; rfl⟩
def rmX4_mayBegin : Room := { frames := 3, cells := 0, slots := 0, locals := 120 }
def pX4_mayBegin (po : List ip_V → ip_S → Prop) : List (Nat × ip_T) := [(0, ip_t_ar 1 1), (1, ip_t_call 1 preX1_state postX1_state 4), (4, ip_t_ifne 52 7), (7, ip_t_ar 1 8), (8, ip_t_gI 1 5 11), (11, ip_t_ar 0 12), (12, ip_t_gI0 0 8 15), (15, ip_t_icgt 52 18), (18, ip_t_ar 1 19), (19, ip_t_gR 1 2 22), (22, ip_t_gI 0 4 25), (25, ip_t_ar 1 26), (26, ip_t_call 1 preX1_litresNeeded postX1_litresNeeded 29), (29, ip_t_iclt 52 32), (32, ip_t_ar 0 33), (33, ip_t_gI0 0 11 36), (36, ip_t_ar 1 37), (37, ip_t_call 1 preX1_drainNeeded postX1_drainNeeded 40), (40, ip_t_iadd 41), (41, ip_t_ar 0 42), (42, ip_t_gI0 0 9 45), (45, ip_t_icgt 52 48), (48, ip_t_ci 1 49), (49, ip_t_go 53), (52, ip_t_ci 0 53), (53, ip_t_zret po)]
set_option maxRecDepth 100000 in
set_option maxHeartbeats 4000000 in
theorem tX4_mayBegin {p : Program} {l : Launch} {e : Env} {s : State} {m : MethodId} {args : Array Value} {below : List Frame} {meth : Method} {c : Code} {D : va_G} {cA : Nat → ClassId} {A : Nat → Prop} {ad0 : Nat → Nat} {S0 : ip_S} {po : List ip_V → ip_S → Prop} (hx : p.tables.exec = Jvm.exec) (hb : c.code = cX4_mayBegin) (hml : c.maxLocals = 2) (hown : s.vm.findClass RX4 = some m.cls) (hts : ∀ w ∈ wsX4_mayBegin, w.before args s = true) (hr : meth.sig.returnType = (some .boolean)) (hlocks : meth.locks = false) (hname : meth.name = yX4_mayBegin.name) (hA : ∀ q, s.heap.size ≤ q → A q) (hNx : ip_Nx s) : ∀ q ∈ pX4_mayBegin po, ip_snd p l e rmX4_mayBegin s m args below meth c D cA A (MQ below (ip_Q ip_Sta D cA ad0 S0 A po) args s 0 0 A) 2 (fun _ => (0, 0)) ip_Sta ad0 S0 q.1 q.2 := by
  have hIs : ∀ S, ip_Sta S → ip_Sta S := fun _ h => h
  have hIn := ip_In_Sta
  have hS9 : CallFix p m c cX4_mayBegin 2 s args wsX4_mayBegin RX4 := ⟨hx, hb, hml, hown, hts⟩
  have hin0 : ∀ w ∈ u_ws RX0 TX0 5, w ∈ wsX4_mayBegin := by decide +kernel
  have hin1 : ∀ w ∈ u_ws RX1 TX1 11, w ∈ wsX4_mayBegin := by decide +kernel
  have hin4 : ∀ w ∈ u_ws RX4 TX4 14, w ∈ wsX4_mayBegin := by decide +kernel
  refine List.forall_mem_cons.mpr ⟨ip_s_aload_n hx hb dX4_mayBegin_0 rfl rfl, ?_⟩
  refine List.forall_mem_cons.mpr ⟨ip_s_callV hNx hS9 (ctX1_state l) (cwV 0 hts gX4_mayBegin_X1_state rfl rfl rfl (by decide +kernel) ⟨Nat.le_of_ble_eq_true rfl, Nat.le_of_ble_eq_true rfl⟩) (ci := 1) rfl rfl (by decide) (fun as S hI h => shX1_state as S hI h) hA dX4_mayBegin_1 ⟨Nat.le_of_ble_eq_true rfl, Nat.le_of_ble_eq_true rfl⟩ rfl, ?_⟩
  refine List.forall_mem_cons.mpr ⟨ip_s_ifne (t := 52) hx hb dX4_mayBegin_4 (by decide) rfl rfl, ?_⟩
  refine List.forall_mem_cons.mpr ⟨ip_s_aload_n hx hb dX4_mayBegin_7 rfl rfl, ?_⟩
  refine List.forall_mem_cons.mpr ⟨ip_s_gI hx hb hts hin1 hown rfl (by decide) 5 (by decide) (hts (.fieldLink RX4 141 "IcePads$Jet" "ready" "I") (by decide +kernel)) (fun _ h9 => h9) rfl dX4_mayBegin_8 rfl, ?_⟩
  refine List.forall_mem_cons.mpr ⟨ip_s_aload_n hx hb dX4_mayBegin_11 rfl rfl, ?_⟩
  refine List.forall_mem_cons.mpr ⟨ip_s_gI0 hx hb hts hin4 hown rfl (by decide) 8 (by decide) (hts (.fieldLink RX4 56 "IcePads" "now" "I") (by decide +kernel)) (fun _ h9 => h9) hIs 0 rfl rfl dX4_mayBegin_12 rfl, ?_⟩
  refine List.forall_mem_cons.mpr ⟨ip_s_icgt (t := 52) hx hb dX4_mayBegin_15 (by decide) rfl rfl, ?_⟩
  refine List.forall_mem_cons.mpr ⟨ip_s_aload_n hx hb dX4_mayBegin_18 rfl rfl, ?_⟩
  refine List.forall_mem_cons.mpr ⟨ip_s_gR hx hb hts hin1 hown rfl (by decide) 2 (by decide) (hts (.fieldLink RX4 216 "IcePads$Jet" "fluid" "LIcePads$Fluid;") (by decide +kernel)) (fun _ h9 => h9) rfl dX4_mayBegin_19 rfl, ?_⟩
  refine List.forall_mem_cons.mpr ⟨ip_s_gI hx hb hts hin0 hown rfl (by decide) 4 (by decide) (hts (.fieldLink RX4 107 "IcePads$Fluid" "litresLeft" "I") (by decide +kernel)) (fun _ h9 => h9) rfl dX4_mayBegin_22 rfl, ?_⟩
  refine List.forall_mem_cons.mpr ⟨ip_s_aload_n hx hb dX4_mayBegin_25 rfl rfl, ?_⟩
  refine List.forall_mem_cons.mpr ⟨ip_s_callV hNx hS9 (ctX1_litresNeeded l) (cwV 0 hts gX4_mayBegin_X1_litresNeeded rfl rfl rfl (by decide +kernel) ⟨Nat.le_of_ble_eq_true rfl, Nat.le_of_ble_eq_true rfl⟩) (ci := 1) rfl rfl (by decide) (fun as S hI h => shX1_litresNeeded as S hI h) hA dX4_mayBegin_26 ⟨Nat.le_of_ble_eq_true rfl, Nat.le_of_ble_eq_true rfl⟩ rfl, ?_⟩
  refine List.forall_mem_cons.mpr ⟨ip_s_iclt (t := 52) hx hb dX4_mayBegin_29 (by decide) rfl rfl, ?_⟩
  refine List.forall_mem_cons.mpr ⟨ip_s_aload_n hx hb dX4_mayBegin_32 rfl rfl, ?_⟩
  refine List.forall_mem_cons.mpr ⟨ip_s_gI0 hx hb hts hin4 hown rfl (by decide) 11 (by decide) (hts (.fieldLink RX4 179 "IcePads" "drain" "I") (by decide +kernel)) (fun _ h9 => h9) hIs 0 rfl rfl dX4_mayBegin_33 rfl, ?_⟩
  refine List.forall_mem_cons.mpr ⟨ip_s_aload_n hx hb dX4_mayBegin_36 rfl rfl, ?_⟩
  refine List.forall_mem_cons.mpr ⟨ip_s_callV hNx hS9 (ctX1_drainNeeded l) (cwV 0 hts gX4_mayBegin_X1_drainNeeded rfl rfl rfl (by decide +kernel) ⟨Nat.le_of_ble_eq_true rfl, Nat.le_of_ble_eq_true rfl⟩) (ci := 1) rfl rfl (by decide) (fun as S hI h => shX1_drainNeeded as S hI h) hA dX4_mayBegin_37 ⟨Nat.le_of_ble_eq_true rfl, Nat.le_of_ble_eq_true rfl⟩ rfl, ?_⟩
  refine List.forall_mem_cons.mpr ⟨ip_s_iadd hx hb dX4_mayBegin_40 rfl, ?_⟩
  refine List.forall_mem_cons.mpr ⟨ip_s_aload_n hx hb dX4_mayBegin_41 rfl rfl, ?_⟩
  refine List.forall_mem_cons.mpr ⟨ip_s_gI0 hx hb hts hin4 hown rfl (by decide) 9 (by decide) (hts (.fieldLink RX4 42 "IcePads" "limit" "I") (by decide +kernel)) (fun _ h9 => h9) hIs 0 rfl rfl dX4_mayBegin_42 rfl, ?_⟩
  refine List.forall_mem_cons.mpr ⟨ip_s_icgt (t := 52) hx hb dX4_mayBegin_45 (by decide) rfl rfl, ?_⟩
  refine List.forall_mem_cons.mpr ⟨ip_s_iconst hx hb dX4_mayBegin_48 rfl rfl, ?_⟩
  refine List.forall_mem_cons.mpr ⟨ip_s_go (t := 53) hx hb dX4_mayBegin_49 (by decide) (Nat.le_of_ble_eq_true rfl) (Nat.le_of_ble_eq_true rfl), ?_⟩
  refine List.forall_mem_cons.mpr ⟨ip_s_iconst hx hb dX4_mayBegin_52 rfl rfl, ?_⟩
  refine List.forall_mem_cons.mpr ⟨ip_s_zret hx hb hr hlocks (Nat.le_of_ble_eq_true rfl) (Nat.le_of_ble_eq_true rfl) dX4_mayBegin_53, ?_⟩
  exact fun _ h => absurd h List.not_mem_nil
set_option maxRecDepth 100000 in
set_option maxHeartbeats 4000000 in
theorem vX4_mayBegin (M : ip_M) (a : Nat) (jt : Nat) (S : ip_S) (hS : ip_Sta S) (hp : a = 0 ∧ ip_cR M S ∧ ∃ j, jt = 30 + j ∧ j < (M 50 15).toNatClampNeg) : ip_run (pX4_mayBegin (postX4_mayBegin M [.inr (.inl (some a)), .inr (.inl (some jt))] S)) (fun _ => false) (fun _ _ _ _ => False) 50 0 [some (.inr (.inl (some a))), some (.inr (.inl (some jt)))] [] S := by
  obtain ⟨rfl, ⟨nf, nj, np, hv, hcS, hcF, hcJ, hcP⟩, j, rfl, hj⟩ := hp
  rw [ip_vv_nj hv] at hj
  have ejj : 30 + j - 30 = j := by omega
  obtain ⟨st1, st2⟩ := ip_stJ hv hcJ hj
  obtain ⟨j1, j2, j3, j4, j5, j6, j7, j8, j9, j10, j11, j12, j13⟩ := hcJ.1 j hj
  obtain ⟨f, hf, hf1⟩ := (hv.2.2.2.2.1 j hj).2.2.2.2.1
  have hcf : (M 70 j).toNatClampNeg = f := by rw [hf1]; exact nI_clamp (by have := hv.1.2.1; omega)
  obtain ⟨f1, f2, f3, f4, f5, f6, f7, f8, f9⟩ := hcF.1 f hf
  obtain ⟨s8, s2, s4, s6, s9, s10, s11, s12, -⟩ := hcS
  refine And.intro (And.intro j2 trivial) ?_
  rintro r S' ⟨rfl, rfl⟩
  rw [st1]
  refine And.intro (fun q1 => ?_) (fun q1 => ?_)
  · refine And.intro (Or.inl rfl) (And.intro ?_ rfl)
    rw [ejj, if_neg (fun z => q1 z.1)]
  refine And.intro j2 ?_
  rw [j8]
  refine And.intro (fun q2 => ?_) (fun q2 => ?_)
  · rw [s8] at q2
    refine And.intro (Or.inl rfl) (And.intro ?_ rfl)
    rw [ejj, if_neg (fun z => Int32.not_le.mpr q2 z.2.1)]
  rw [s8] at q2
  refine And.intro j2 (fun o ho => ?_)
  rw [j5, hcf] at ho
  subst ho
  refine And.intro f2 ?_
  rw [f8]
  refine And.intro (And.intro j2 trivial) ?_
  rintro r S' ⟨rfl, rfl⟩
  rw [j6]
  refine And.intro (fun q3 => ?_) (fun q3 => ?_)
  · refine And.intro (Or.inl rfl) (And.intro ?_ rfl)
    rw [ejj, if_neg (fun z => Int32.not_le.mpr q3 (by have := z.2.2.1; rw [hcf] at this; exact this))]
  refine And.intro (And.intro j2 trivial) ?_
  rintro r S' ⟨rfl, rfl⟩
  rw [j6]
  refine And.intro (fun q4 => ?_) (fun q4 => ?_)
  · rw [s11, s9] at q4
    refine And.intro (Or.inl rfl) (And.intro ?_ rfl)
    rw [ejj, if_neg (fun z => Int32.not_le.mpr q4 z.2.2.2)]
  · rw [s11, s9] at q4
    refine And.intro (Or.inr rfl) (And.intro ?_ rfl)
    rw [ejj, if_pos ⟨q1, Int32.not_lt.mp q2, by rw [hcf]; exact Int32.not_lt.mp q3, Int32.not_lt.mp q4⟩]
theorem ctX4_mayBegin (l : Launch) (M : ip_M) : ip_CT l yX4_mayBegin wsX4_mayBegin rmX4_mayBegin ip_Sta (preX4_mayBegin M) (postX4_mayBegin M) := by
  refine ip_of (cc := cX4_mayBegin) (maxL := 2) (ret := (some .boolean)) (by decide +kernel) rfl (fun _ => (0, 0)) rfl ?_ ?_
  · intro as S h
    obtain ⟨a, jt, rfl, hq⟩ := ip_e_rr h
    exact ⟨Nat.le_of_ble_eq_true rfl, by simp⟩
  intro p e s m args below meth c D cA A ad0 as S h hI hx hb hml hown hts hr hlocks hname hA hNx
  obtain ⟨a, jt, rfl, hq⟩ := ip_e_rr h
  refine ip_run_ok (stop := fun _ => false) (tX4_mayBegin hx hb hml hown hts hr hlocks hname hA hNx) (fun _ _ _ _ h => False.elim h) 50 0 _ _ S ?_
  exact vX4_mayBegin M a jt S hI hq

def preX4_nextToBegin (M : ip_M) : List ip_V → ip_S → Prop := ip_h_r (fun _ => False) (fun a S => a = 0 ∧ ip_cR M S)
def postX4_nextToBegin (M : ip_M) : List ip_V → ip_S → List ip_V → ip_S → Prop := ip_h_r (fun _ _ _ => True) (fun a S r S' => r = [.inr (.inl ((g_pick M (M 50 15).toNatClampNeg).map (fun b => 30 + b)))] ∧ S' = S)
theorem shX4_nextToBegin (M : ip_M) : ∀ as S, ip_Sta S → preX4_nextToBegin M as S → ∃ (b : Nat) (as' : List ip_V), as = .inr (.inl (some b)) :: as' ∧ as'.length = 0 ∧ (S.2.2.2 b).1 = 4 := by
  intro as S hI h
  obtain ⟨a, rfl, hq⟩ := ip_e_r h
  exact ⟨_, _, rfl, rfl, by rw [hq.1, hI.1 0 (by decide)]; rfl⟩
def rmX4_nextToBegin : Room := { frames := 4, cells := 0, slots := 0, locals := 160 }
def pX4_nextToBegin (po : List ip_V → ip_S → Prop) : List (Nat × ip_T) := [(0, ip_t_nul 1), (1, ip_t_as 1 2), (2, ip_t_ci 0 3), (3, ip_t_is 2 4), (4, ip_t_il 2 5), (5, ip_t_ar 0 6), (6, ip_t_gI0 0 4 9), (9, ip_t_icge 57 12), (12, ip_t_ar 0 13), (13, ip_t_gR0 0 6 16), (16, ip_t_il 2 17), (17, ip_t_lda 9 18), (18, ip_t_as 3 19), (19, ip_t_ar 3 20), (20, ip_t_null 51 23), (23, ip_t_ar 0 24), (24, ip_t_ar 3 25), (25, ip_t_callG 2 preX4_mayBegin postX4_mayBegin 28), (28, ip_t_ifne 34 31), (31, ip_t_go 51), (34, ip_t_ar 1 35), (35, ip_t_null 49 38), (38, ip_t_ar 3 39), (39, ip_t_gI 1 5 42), (42, ip_t_ar 1 43), (43, ip_t_gI 1 5 46), (46, ip_t_icge 51 49), (49, ip_t_ar 3 50), (50, ip_t_as 1 51), (51, ip_t_inc 2 1 54), (54, ip_t_go 4), (57, ip_t_ar 1 58), (58, ip_t_aret po)]
set_option maxRecDepth 100000 in
set_option maxHeartbeats 4000000 in
theorem tX4_nextToBegin {p : Program} {l : Launch} {e : Env} {s : State} {m : MethodId} {args : Array Value} {below : List Frame} {meth : Method} {c : Code} {D : va_G} {cA : Nat → ClassId} {A : Nat → Prop} {ad0 : Nat → Nat} {S0 : ip_S} {po : List ip_V → ip_S → Prop} (hx : p.tables.exec = Jvm.exec) (hb : c.code = cX4_nextToBegin) (hml : c.maxLocals = 4) (hown : s.vm.findClass RX4 = some m.cls) (hts : ∀ w ∈ wsX4_nextToBegin, w.before args s = true) (hr : meth.sig.returnType = (some (.object "IcePads$Jet"))) (hlocks : meth.locks = false) (hname : meth.name = yX4_nextToBegin.name) (hA : ∀ q, s.heap.size ≤ q → A q) (hNx : ip_Nx s) : ∀ q ∈ pX4_nextToBegin po, ip_snd p l e rmX4_nextToBegin s m args below meth c D cA A (MQ below (ip_Q ip_Sta D cA ad0 S0 A po) args s 0 0 A) 4 (fun _ => (0, 0)) ip_Sta ad0 S0 q.1 q.2 := by
  have hIs : ∀ S, ip_Sta S → ip_Sta S := fun _ h => h
  have hIn := ip_In_Sta
  have hS9 : CallFix p m c cX4_nextToBegin 4 s args wsX4_nextToBegin RX4 := ⟨hx, hb, hml, hown, hts⟩
  have hin1 : ∀ w ∈ u_ws RX1 TX1 11, w ∈ wsX4_nextToBegin := by decide +kernel
  have hin4 : ∀ w ∈ u_ws RX4 TX4 14, w ∈ wsX4_nextToBegin := by decide +kernel
  refine List.forall_mem_cons.mpr ⟨ip_s_nul hx hb dX4_nextToBegin_0 rfl, ?_⟩
  refine List.forall_mem_cons.mpr ⟨ip_s_astore_n hx hb dX4_nextToBegin_1 rfl (by decide) rfl, ?_⟩
  refine List.forall_mem_cons.mpr ⟨ip_s_iconst hx hb dX4_nextToBegin_2 rfl rfl, ?_⟩
  refine List.forall_mem_cons.mpr ⟨ip_s_istore_n hx hb dX4_nextToBegin_3 rfl (by decide) rfl, ?_⟩
  refine List.forall_mem_cons.mpr ⟨ip_s_iload_n hx hb dX4_nextToBegin_4 rfl rfl, ?_⟩
  refine List.forall_mem_cons.mpr ⟨ip_s_aload_n hx hb dX4_nextToBegin_5 rfl rfl, ?_⟩
  refine List.forall_mem_cons.mpr ⟨ip_s_gI0 hx hb hts hin4 hown rfl (by decide) 4 (by decide) (hts (.fieldLink RX4 119 "IcePads" "jetCount" "I") (by decide +kernel)) (fun _ h9 => h9) hIs 0 rfl rfl dX4_nextToBegin_6 rfl, ?_⟩
  refine List.forall_mem_cons.mpr ⟨ip_s_icge (t := 57) hx hb dX4_nextToBegin_9 (by decide) rfl rfl, ?_⟩
  refine List.forall_mem_cons.mpr ⟨ip_s_aload_n hx hb dX4_nextToBegin_12 rfl rfl, ?_⟩
  refine List.forall_mem_cons.mpr ⟨ip_s_gR0 hx hb hts hin4 hown rfl (by decide) 3 (by decide) (hts (.fieldLink RX4 24 "IcePads" "jets" "[LIcePads$Jet;") (by decide +kernel)) (fun _ h9 => h9) hIs 0 6 rfl (by decide) rfl dX4_nextToBegin_13 rfl, ?_⟩
  refine List.forall_mem_cons.mpr ⟨ip_s_iload_n hx hb dX4_nextToBegin_16 rfl rfl, ?_⟩
  refine List.forall_mem_cons.mpr ⟨ip_s_lda9 hx hb hIs dX4_nextToBegin_17 rfl, ?_⟩
  refine List.forall_mem_cons.mpr ⟨ip_s_astore_n hx hb dX4_nextToBegin_18 rfl (by decide) rfl, ?_⟩
  refine List.forall_mem_cons.mpr ⟨ip_s_aload_n hx hb dX4_nextToBegin_19 rfl rfl, ?_⟩
  refine List.forall_mem_cons.mpr ⟨ip_s_ifnull (t := 51) hx hb dX4_nextToBegin_20 (by decide) rfl rfl, ?_⟩
  refine List.forall_mem_cons.mpr ⟨ip_s_aload_n hx hb dX4_nextToBegin_23 rfl rfl, ?_⟩
  refine List.forall_mem_cons.mpr ⟨ip_s_aload_n hx hb dX4_nextToBegin_24 rfl rfl, ?_⟩
  refine List.forall_mem_cons.mpr ⟨ip_s_G (fun M => ip_s_callV hNx hS9 (ctX4_mayBegin l M) (cwV 1 hts gX4_nextToBegin_X4_mayBegin rfl rfl rfl (by decide +kernel) ⟨Nat.le_of_ble_eq_true rfl, Nat.le_of_ble_eq_true rfl⟩) (ci := 4) rfl rfl (by decide) (fun as S hI h => shX4_mayBegin M as S hI h) hA dX4_nextToBegin_25 ⟨Nat.le_of_ble_eq_true rfl, Nat.le_of_ble_eq_true rfl⟩ rfl), ?_⟩
  refine List.forall_mem_cons.mpr ⟨ip_s_ifne (t := 34) hx hb dX4_nextToBegin_28 (by decide) rfl rfl, ?_⟩
  refine List.forall_mem_cons.mpr ⟨ip_s_go (t := 51) hx hb dX4_nextToBegin_31 (by decide) (Nat.le_of_ble_eq_true rfl) (Nat.le_of_ble_eq_true rfl), ?_⟩
  refine List.forall_mem_cons.mpr ⟨ip_s_aload_n hx hb dX4_nextToBegin_34 rfl rfl, ?_⟩
  refine List.forall_mem_cons.mpr ⟨ip_s_ifnull (t := 49) hx hb dX4_nextToBegin_35 (by decide) rfl rfl, ?_⟩
  refine List.forall_mem_cons.mpr ⟨ip_s_aload_n hx hb dX4_nextToBegin_38 rfl rfl, ?_⟩
  refine List.forall_mem_cons.mpr ⟨ip_s_gI hx hb hts hin1 hown rfl (by decide) 5 (by decide) (hts (.fieldLink RX4 141 "IcePads$Jet" "ready" "I") (by decide +kernel)) (fun _ h9 => h9) rfl dX4_nextToBegin_39 rfl, ?_⟩
  refine List.forall_mem_cons.mpr ⟨ip_s_aload_n hx hb dX4_nextToBegin_42 rfl rfl, ?_⟩
  refine List.forall_mem_cons.mpr ⟨ip_s_gI hx hb hts hin1 hown rfl (by decide) 5 (by decide) (hts (.fieldLink RX4 141 "IcePads$Jet" "ready" "I") (by decide +kernel)) (fun _ h9 => h9) rfl dX4_nextToBegin_43 rfl, ?_⟩
  refine List.forall_mem_cons.mpr ⟨ip_s_icge (t := 51) hx hb dX4_nextToBegin_46 (by decide) rfl rfl, ?_⟩
  refine List.forall_mem_cons.mpr ⟨ip_s_aload_n hx hb dX4_nextToBegin_49 rfl rfl, ?_⟩
  refine List.forall_mem_cons.mpr ⟨ip_s_astore_n hx hb dX4_nextToBegin_50 rfl (by decide) rfl, ?_⟩
  refine List.forall_mem_cons.mpr ⟨ip_s_iinc hx hb dX4_nextToBegin_51 rfl (by decide) rfl, ?_⟩
  refine List.forall_mem_cons.mpr ⟨ip_s_go (t := 4) hx hb dX4_nextToBegin_54 (by decide) (Nat.le_of_ble_eq_true rfl) (Nat.le_of_ble_eq_true rfl), ?_⟩
  refine List.forall_mem_cons.mpr ⟨ip_s_aload_n hx hb dX4_nextToBegin_57 rfl rfl, ?_⟩
  refine List.forall_mem_cons.mpr ⟨ip_s_aret hx hb hr (Or.inl ⟨_, rfl⟩) hlocks (Nat.le_of_ble_eq_true rfl) (Nat.le_of_ble_eq_true rfl) dX4_nextToBegin_58, ?_⟩
  exact fun _ h => absurd h List.not_mem_nil
abbrev iX4_nextToBegin (M : ip_M) (a : Nat) (S : ip_S) : Nat → ip_N := fun k pc loc st S1 => ∃ (nj j : Nat) (x2 : Int32) (o : Option Nat) (x3 : Option ip_V), M 50 15 = nI nj ∧ nj ≤ 12 ∧ x2 = nI j ∧ j ≤ nj ∧ k + j = nj ∧ pc = 4 ∧ st = [] ∧ S1 = S ∧ loc = [some (.inr (.inl (some a))), some (.inr (.inl o)), some (.inl x2), x3] ∧ o = (g_pick M j).map (fun b => 30 + b)
set_option maxRecDepth 100000 in
set_option maxHeartbeats 4000000 in
theorem lpX4_nextToBegin (M : ip_M) (a : Nat) (S : ip_S) (hS : ip_Sta S) (hp : a = 0 ∧ ip_cR M S) : ∀ k pc loc st S1, iX4_nextToBegin M a S k pc loc st S1 → ip_run (pX4_nextToBegin (postX4_nextToBegin M [.inr (.inl (some a))] S)) (fun pc => Nat.beq pc 4) (fun pc loc st S2 => ∃ k', k' < k ∧ iX4_nextToBegin M a S k' pc loc st S2) 50 pc loc st S1 := by
  obtain ⟨rfl, hR⟩ := hp
  have hR' := hR
  obtain ⟨nf, nj0, np, hv, hcS, hcF, hcJ, hcP⟩ := hR'
  rintro k pc loc st S1 ⟨nj, j, x2, o, x3, hnj, hn12, rfl, hj, hk, rfl, rfl, rfl, rfl, rfl⟩
  have e4 := hcS.2.2.1
  have enj : nj = nj0 := ip_nI_inj (by omega) (by have := hv.1.2.2.2.1; omega) (hnj.symm.trans hv.1.2.2.1)
  subst enj
  have hcn : (M 50 15).toNatClampNeg = nj := by rw [hnj]; exact nI_clamp (by omega)
  refine And.intro (fun q => ?_) (fun q => ?_)
  · rw [e4, hnj, nI_leI (by omega) (by omega)] at q
    have hjj : j = nj := Nat.le_antisymm hj q
    subst hjj
    refine And.intro ?_ rfl
    rw [hcn]
  · rw [e4, hnj, nI_leI (by omega) (by omega)] at q
    have hjl : j < nj := Nat.lt_of_not_le q
    obtain ⟨hin, hcj⟩ := ip_inN (N := 12) hjl hn12 (by decide)
    have hk1 : k - 1 < k := by omega
    have hk2 : k - 1 + (j + 1) = nj := by omega
    have ejj : 30 + j - 30 = j := by omega
    obtain ⟨j1, j2, j3, j4, j5, j6, j7, j8, j9, j10, j11, j12, j13⟩ := hcJ.1 j hjl
    refine And.intro hin (fun o ho => ?_)
    rw [hcj, j1] at ho
    subst ho
    refine Exists.intro M (And.intro (And.intro rfl (And.intro hR ⟨j, rfl, by rw [hcn]; exact hjl⟩)) ?_)
    rintro r S' ⟨rfl, rfl⟩
    rw [ejj]
    refine And.intro (fun q2 => ?_) (fun q2 => ?_)
    · have q2 := ip_if1 q2
      cases ho : g_pick M j with
      | none =>
        refine Exists.intro (k - 1) (And.intro hk1 ⟨nj, j + 1, _, _, _, hnj, hn12, nI_1 j, hjl, hk2, rfl, rfl, rfl, rfl, ?_⟩)
        rw [g_pick, ho]
        simp only [if_pos q2, Option.map_some]
      | some b =>
        have hb := (g_pick_lt ho).1
        obtain ⟨b1, b2, b3, b4, b5, b6, b7, b8, -⟩ := hcJ.1 b (by omega)
        refine And.intro j2 ?_
        refine And.intro b2 ?_
        rw [j8, b8]
        refine And.intro (fun q3 => ?_) (fun q3 => ?_)
        · refine Exists.intro (k - 1) (And.intro hk1 ⟨nj, j + 1, _, _, _, hnj, hn12, nI_1 j, hjl, hk2, rfl, rfl, rfl, rfl, ?_⟩)
          rw [g_pick, ho]
          simp only [if_neg (fun z : g_may M j ∧ M 68 j < M 68 b => Int32.not_lt.mpr q3 z.2), Option.map_some]
        · refine Exists.intro (k - 1) (And.intro hk1 ⟨nj, j + 1, _, _, _, hnj, hn12, nI_1 j, hjl, hk2, rfl, rfl, rfl, rfl, ?_⟩)
          rw [g_pick, ho]
          simp only [if_pos (show g_may M j ∧ M 68 j < M 68 b from ⟨q2, Int32.not_le.mp q3⟩), Option.map_some]
    · have q2 := ip_if0 q2
      refine Exists.intro (k - 1) (And.intro hk1 ⟨nj, j + 1, _, _, _, hnj, hn12, nI_1 j, hjl, hk2, rfl, rfl, rfl, rfl, ?_⟩)
      rw [g_pick]
      cases ho : g_pick M j with
      | none => simp only [if_neg q2]
      | some b => simp only [if_neg (fun z : g_may M j ∧ M 68 j < M 68 b => q2 z.1)]
set_option maxRecDepth 100000 in
set_option maxHeartbeats 4000000 in
theorem vX4_nextToBegin (M : ip_M) (a : Nat) (S : ip_S) (hS : ip_Sta S) (hp : a = 0 ∧ ip_cR M S) : ip_run (pX4_nextToBegin (postX4_nextToBegin M [.inr (.inl (some a))] S)) (fun pc => Nat.beq pc 4) (fun pc loc st S2 => ∃ k, iX4_nextToBegin M a S k pc loc st S2) 50 0 [some (.inr (.inl (some a))), none, none, none] [] S := by
  obtain ⟨rfl, nf, nj, np, hv, hcS, hcF, hcJ, hcP⟩ := hp
  exact Exists.intro nj ⟨nj, 0, 0, none, none, hv.1.2.2.1, hv.1.2.2.2.1, rfl, Nat.zero_le _, rfl, rfl, rfl, rfl, rfl, rfl⟩
theorem ctX4_nextToBegin (l : Launch) (M : ip_M) : ip_CT l yX4_nextToBegin wsX4_nextToBegin rmX4_nextToBegin ip_Sta (preX4_nextToBegin M) (postX4_nextToBegin M) := by
  refine ip_of (cc := cX4_nextToBegin) (maxL := 4) (ret := (some (.object "IcePads$Jet"))) (by decide +kernel) rfl (fun _ => (0, 0)) rfl ?_ ?_
  · intro as S h
    obtain ⟨a, rfl, hq⟩ := ip_e_r h
    exact ⟨Nat.le_of_ble_eq_true rfl, by simp⟩
  intro p e s m args below meth c D cA A ad0 as S h hI hx hb hml hown hts hr hlocks hname hA hNx
  obtain ⟨a, rfl, hq⟩ := ip_e_r h
  have ht := tX4_nextToBegin (D := D) (cA := cA) (A := A) (ad0 := ad0) (l := l) (e := e) (below := below) (S0 := S) (po := postX4_nextToBegin M [.inr (.inl (some a))] S) hx hb hml hown hts hr hlocks hname hA hNx
  refine ip_run_ok ht (fun pc loc st S2 hh => ?_) 50 0 _ _ S (vX4_nextToBegin M a S hI hq)
  obtain ⟨k, hk⟩ := hh
  exact ip_loop ht (iX4_nextToBegin M a S) (lpX4_nextToBegin M a S hI hq) k pc loc st S2 hk
