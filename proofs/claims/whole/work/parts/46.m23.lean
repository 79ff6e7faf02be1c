theorem ip_vv_uniq {M : ip_M} {a b c a' b' c' : Nat} (h : ip_vv M a b c) (h' : ip_vv M a' b' c') : a = a' ∧ b = b' ∧ c = c' := by
  obtain ⟨n1, n2, n3, n4, n5, n6, n7⟩ := h.1
  obtain ⟨m1, m2, m3, m4, m5, m6, m7⟩ := h'.1
  exact ⟨ip_nI_inj (by omega) (by omega) (n1.symm.trans m1), ip_nI_inj (by omega) (by omega) (n3.symm.trans m3), ip_nI_inj (by omega) (by omega) (n5.symm.trans m5)⟩
theorem ip_maxdr {d r : Int32} (hd : 0 ≤ d.toInt ∧ d.toInt ≤ 1000) (hr : 0 ≤ r.toInt ∧ r.toInt ≤ 50) : (if 0 < d - r then d - r else 0) = (if r < d then d - r else 0) := by
  have h0 : (0 : Int32).toInt = 0 := rfl
  have e : (d - r).toInt = d.toInt - r.toInt := ip_subI (by omega) (by omega)
  by_cases h : r < d
  · rw [if_pos h, if_pos]
    rw [ip_ltI] at h ⊢
    rw [e, h0]
    omega
  · rw [if_neg h, if_neg]
    rw [ip_ltI] at h ⊢
    rw [e, h0]
    omega
theorem ip_cR_dr {M : ip_M} {S : ip_S} (h : ip_cR M S) : ip_cR (g_dr M) (ip_sI S 0 11 (if M 50 12 < M 50 13 then M 50 13 - M 50 12 else 0)) := by
  obtain ⟨nf, nj, np, hv, hS, hF, hJ, hP⟩ := h
  have hd := ip_vv_dr hv
  unfold g_dr at hd ⊢
  exact ip_cR_0 hd hF hJ hP (ip_cS_0 hS (by omega))
theorem ip_cR_now {M : ip_M} {S : ip_S} {nf nj np : Nat} (h : ip_cR M S) (hv0 : ip_vv M nf nj np) (hL : ip_Lt M np) (hn : (M 50 0).toInt ≤ 298) : ip_cR (ip_u M 50 0 (M 50 0 + 1)) (ip_sI S 0 8 (M 50 0 + 1)) := by
  obtain ⟨nf', nj', np', hv, hS, hF, hJ, hP⟩ := h
  obtain ⟨rfl, rfl, rfl⟩ := ip_vv_uniq hv0 hv
  exact ip_cR_0 (ip_vv_now hv hL hn) hF hJ hP (ip_cS_0 hS (by omega))

def preX4_passMinute (M : ip_M) : List ip_V → ip_S → Prop := ip_h_r (fun _ => False) (fun a S => a = 0 ∧ ip_cR M S ∧ (M 50 0).toInt ≤ 298)
def postX4_passMinute (M : ip_M) : List ip_V → ip_S → List ip_V → ip_S → Prop := ip_h_r (fun _ _ _ => True) (fun a S r S' => r = [] ∧ ip_cR (g_min M) S' ∧ ip_fC S S')
theorem shX4_passMinute (M : ip_M) : ∀ as S, ip_Sta S → preX4_passMinute M as S → ∃ (b : Nat) (as' : List ip_V), as = .inr (.inl (some b)) :: as' ∧ as'.length = 0 ∧ (S.2.2.2 b).1 = 4 := by
  intro as S hI h
  obtain ⟨a, rfl, hq⟩ := ip_e_r h
  exact ⟨_, _, rfl, rfl, by rw [hq.1, hI.1 0 (by decide)]; rfl⟩
def rmX4_passMinute : Room := { frames := 6, cells := 0, slots := 0, locals := 240 }
def pX4_passMinute (po : List ip_V → ip_S → Prop) : List (Nat × ip_T) := [(0, ip_t_ar 0 1), (1, ip_t_ci 0 2), (2, ip_t_ar 0 3), (3, ip_t_gI0 0 11 6), (6, ip_t_ar 0 7), (7, ip_t_gI0 0 10 10), (10, ip_t_isub 11), (11, ip_t_max 14), (14, ip_t_pI0 0 11 17), (17, ip_t_ci 0 18), (18, ip_t_is 1 19), (19, ip_t_il 1 20), (20, ip_t_ar 0 21), (21, ip_t_gI0 0 6 24), (24, ip_t_icge 38 27), (27, ip_t_ar 0 28), (28, ip_t_il 1 29), (29, ip_t_callG 2 preX4_endOn postX4_endOn 32), (32, ip_t_inc 1 1 35), (35, ip_t_go 19), (38, ip_t_ci 0 39), (39, ip_t_is 1 40), (40, ip_t_il 1 41), (41, ip_t_ar 0 42), (42, ip_t_gI0 0 6 45), (45, ip_t_icge 59 48), (48, ip_t_ar 0 49), (49, ip_t_il 1 50), (50, ip_t_callG 2 preX4_beginOn postX4_beginOn 53), (53, ip_t_inc 1 1 56), (56, ip_t_go 40), (59, ip_t_ar 0 60), (60, ip_t_dup 61), (61, ip_t_gI0 0 8 64), (64, ip_t_ci 1 65), (65, ip_t_iadd 66), (66, ip_t_pI0 0 8 69), (69, ip_t_vret po)]
set_option maxRecDepth 100000 in
set_option maxHeartbeats 4000000 in
theorem tX4_passMinute {p : Program} {l : Launch} {e : Env} {s : State} {m : MethodId} {args : Array Value} {below : List Frame} {meth : Method} {c : Code} {D : va_G} {cA : Nat → ClassId} {A : Nat → Prop} {ad0 : Nat → Nat} {S0 : ip_S} {po : List ip_V → ip_S → Prop} (hx : p.tables.exec = Jvm.exec) (hb : c.code = cX4_passMinute) (hml : c.maxLocals = 2) (hown : s.vm.findClass RX4 = some m.cls) (hts : ∀ w ∈ wsX4_passMinute, w.before args s = true) (hr : meth.sig.returnType = none) (hlocks : meth.locks = false) (hname : meth.name = yX4_passMinute.name) (hA : ∀ q, s.heap.size ≤ q → A q) (hNx : ip_Nx s) : ∀ q ∈ pX4_passMinute po, ip_snd p l e rmX4_passMinute s m args below meth c D cA A (MQ below (ip_Q ip_Sta D cA ad0 S0 A po) args s 0 0 A) 2 (fun _ => (0, 0)) ip_Sta ad0 S0 q.1 q.2 := by
  have hIs : ∀ S, ip_Sta S → ip_Sta S := fun _ h => h
  have hIn := ip_In_Sta
  have hS9 : CallFix p m c cX4_passMinute 2 s args wsX4_passMinute RX4 := ⟨hx, hb, hml, hown, hts⟩
  have hin4 : ∀ w ∈ u_ws RX4 TX4 14, w ∈ wsX4_passMinute := by decide +kernel
  refine List.forall_mem_cons.mpr ⟨ip_s_aload_n hx hb dX4_passMinute_0 rfl rfl, ?_⟩
  refine List.forall_mem_cons.mpr ⟨ip_s_iconst hx hb dX4_passMinute_1 rfl rfl, ?_⟩
  refine List.forall_mem_cons.mpr ⟨ip_s_aload_n hx hb dX4_passMinute_2 rfl rfl, ?_⟩
  refine List.forall_mem_cons.mpr ⟨ip_s_gI0 hx hb hts hin4 hown rfl (by decide) 11 (by decide) (hts (.fieldLink RX4 179 "IcePads" "drain" "I") (by decide +kernel)) (fun _ h9 => h9) hIs 0 rfl rfl dX4_passMinute_3 rfl, ?_⟩
  refine List.forall_mem_cons.mpr ⟨ip_s_aload_n hx hb dX4_passMinute_6 rfl rfl, ?_⟩
  refine List.forall_mem_cons.mpr ⟨ip_s_gI0 hx hb hts hin4 hown rfl (by decide) 10 (by decide) (hts (.fieldLink RX4 45 "IcePads" "rate" "I") (by decide +kernel)) (fun _ h9 => h9) hIs 0 rfl rfl dX4_passMinute_7 rfl, ?_⟩
  refine List.forall_mem_cons.mpr ⟨ip_s_isub hx hb dX4_passMinute_10 rfl, ?_⟩
  refine List.forall_mem_cons.mpr ⟨ip_s_max hx hb hml hown (hts (.methodLink RX4 195 Lib.Math.max.name) (by decide +kernel)) (hts (.static Lib.Math.max.name) (by decide +kernel)) (hts (.initialized "java/lang/Math") (by decide +kernel)) (hts (.code Lib.Math.max.name Lib.Math.max.code 2 (some .int)) (by decide +kernel)) ⟨Nat.le_of_ble_eq_true rfl, Nat.le_of_ble_eq_true rfl⟩ ⟨Nat.zero_le _, Nat.zero_le _⟩ dX4_passMinute_11 rfl, ?_⟩
  refine List.forall_mem_cons.mpr ⟨ip_s_pI0 hx hb hts hin4 hown rfl (by decide) 11 (by decide) (hts (.fieldLink RX4 179 "IcePads" "drain" "I") (by decide +kernel)) (fun _ h9 => h9) tyX4 tyX4_ok nmX4 hIn hIs 0 rfl rfl rfl (by decide +kernel) dX4_passMinute_14 rfl, ?_⟩
  refine List.forall_mem_cons.mpr ⟨ip_s_iconst hx hb dX4_passMinute_17 rfl rfl, ?_⟩
  refine List.forall_mem_cons.mpr ⟨ip_s_istore_n hx hb dX4_passMinute_18 rfl (by decide) rfl, ?_⟩
  refine List.forall_mem_cons.mpr ⟨ip_s_iload_n hx hb dX4_passMinute_19 rfl rfl, ?_⟩
  refine List.forall_mem_cons.mpr ⟨ip_s_aload_n hx hb dX4_passMinute_20 rfl rfl, ?_⟩
  refine List.forall_mem_cons.mpr ⟨ip_s_gI0 hx hb hts hin4 hown rfl (by decide) 6 (by decide) (hts (.fieldLink RX4 38 "IcePads" "padCount" "I") (by decide +kernel)) (fun _ h9 => h9) hIs 0 rfl rfl dX4_passMinute_21 rfl, ?_⟩
  refine List.forall_mem_cons.mpr ⟨ip_s_icge (t := 38) hx hb dX4_passMinute_24 (by decide) rfl rfl, ?_⟩
  refine List.forall_mem_cons.mpr ⟨ip_s_aload_n hx hb dX4_passMinute_27 rfl rfl, ?_⟩
  refine List.forall_mem_cons.mpr ⟨ip_s_iload_n hx hb dX4_passMinute_28 rfl rfl, ?_⟩
  refine List.forall_mem_cons.mpr ⟨ip_s_G (fun M => ip_s_callV hNx hS9 (ctX4_endOn l M) (cwV 1 hts gX4_passMinute_X4_endOn rfl rfl rfl (by decide +kernel) ⟨Nat.le_of_ble_eq_true rfl, Nat.le_of_ble_eq_true rfl⟩) (ci := 4) rfl rfl (by decide) (fun as S hI h => shX4_endOn M as S hI h) hA dX4_passMinute_29 ⟨Nat.le_of_ble_eq_true rfl, Nat.le_of_ble_eq_true rfl⟩ rfl), ?_⟩
  refine List.forall_mem_cons.mpr ⟨ip_s_iinc hx hb dX4_passMinute_32 rfl (by decide) rfl, ?_⟩
  refine List.forall_mem_cons.mpr ⟨ip_s_go (t := 19) hx hb dX4_passMinute_35 (by decide) (Nat.le_of_ble_eq_true rfl) (Nat.le_of_ble_eq_true rfl), ?_⟩
  refine List.forall_mem_cons.mpr ⟨ip_s_iconst hx hb dX4_passMinute_38 rfl rfl, ?_⟩
  refine List.forall_mem_cons.mpr ⟨ip_s_istore_n hx hb dX4_passMinute_39 rfl (by decide) rfl, ?_⟩
  refine List.forall_mem_cons.mpr ⟨ip_s_iload_n hx hb dX4_passMinute_40 rfl rfl, ?_⟩
  refine List.forall_mem_cons.mpr ⟨ip_s_aload_n hx hb dX4_passMinute_41 rfl rfl, ?_⟩
  refine List.forall_mem_cons.mpr ⟨ip_s_gI0 hx hb hts hin4 hown rfl (by decide) 6 (by decide) (hts (.fieldLink RX4 38 "IcePads" "padCount" "I") (by decide +kernel)) (fun _ h9 => h9) hIs 0 rfl rfl dX4_passMinute_42 rfl, ?_⟩
  refine List.forall_mem_cons.mpr ⟨ip_s_icge (t := 59) hx hb dX4_passMinute_45 (by decide) rfl rfl, ?_⟩
  refine List.forall_mem_cons.mpr ⟨ip_s_aload_n hx hb dX4_passMinute_48 rfl rfl, ?_⟩
  refine List.forall_mem_cons.mpr ⟨ip_s_iload_n hx hb dX4_passMinute_49 rfl rfl, ?_⟩
  refine List.forall_mem_cons.mpr ⟨ip_s_G (fun M => ip_s_callV hNx hS9 (ctX4_beginOn l M) (cwV 1 hts gX4_passMinute_X4_beginOn rfl rfl rfl (by decide +kernel) ⟨Nat.le_of_ble_eq_true rfl, Nat.le_of_ble_eq_true rfl⟩) (ci := 4) rfl rfl (by decide) (fun as S hI h => shX4_beginOn M as S hI h) hA dX4_passMinute_50 ⟨Nat.le_of_ble_eq_true rfl, Nat.le_of_ble_eq_true rfl⟩ rfl), ?_⟩
  refine List.forall_mem_cons.mpr ⟨ip_s_iinc hx hb dX4_passMinute_53 rfl (by decide) rfl, ?_⟩
  refine List.forall_mem_cons.mpr ⟨ip_s_go (t := 40) hx hb dX4_passMinute_56 (by decide) (Nat.le_of_ble_eq_true rfl) (Nat.le_of_ble_eq_true rfl), ?_⟩
  refine List.forall_mem_cons.mpr ⟨ip_s_aload_n hx hb dX4_passMinute_59 rfl rfl, ?_⟩
  refine List.forall_mem_cons.mpr ⟨ip_s_dup hx hb dX4_passMinute_60 rfl, ?_⟩
  refine List.forall_mem_cons.mpr ⟨ip_s_gI0 hx hb hts hin4 hown rfl (by decide) 8 (by decide) (hts (.fieldLink RX4 56 "IcePads" "now" "I") (by decide +kernel)) (fun _ h9 => h9) hIs 0 rfl rfl dX4_passMinute_61 rfl, ?_⟩
  refine List.forall_mem_cons.mpr ⟨ip_s_iconst hx hb dX4_passMinute_64 rfl rfl, ?_⟩
  refine List.forall_mem_cons.mpr ⟨ip_s_iadd hx hb dX4_passMinute_65 rfl, ?_⟩
  refine List.forall_mem_cons.mpr ⟨ip_s_pI0 hx hb hts hin4 hown rfl (by decide) 8 (by decide) (hts (.fieldLink RX4 56 "IcePads" "now" "I") (by decide +kernel)) (fun _ h9 => h9) tyX4 tyX4_ok nmX4 hIn hIs 0 rfl rfl rfl (by decide +kernel) dX4_passMinute_66 rfl, ?_⟩
  refine List.forall_mem_cons.mpr ⟨ip_s_vret hx hb hr hlocks (Nat.le_of_ble_eq_true rfl) (Nat.le_of_ble_eq_true rfl) dX4_passMinute_69, ?_⟩
  exact fun _ h => absurd h List.not_mem_nil
abbrev iX4_passMinute (M : ip_M) (a : Nat) (S : ip_S) : Nat → ip_N := fun k pc loc st S1 => ∃ (nf nj np p : Nat) (x1 : Int32), ip_vv M nf nj np ∧ x1 = nI p ∧ p ≤ np ∧ st = [] ∧ loc = [some (.inr (.inl (some a))), some (.inl x1)] ∧ ip_fC S S1 ∧ ((pc = 19 ∧ k + p = 2 * np + 1 ∧ ip_cR (g_lvs (g_dr M) p) S1) ∨ (pc = 40 ∧ k + p = np ∧ ip_cR (g_bgs (g_lvs (g_dr M) np) p) S1))
set_option maxRecDepth 100000 in
set_option maxHeartbeats 4000000 in
theorem lpX4_passMinute (M : ip_M) (a : Nat) (S : ip_S) (hS : ip_Sta S) (hp : a = 0 ∧ ip_cR M S ∧ (M 50 0).toInt ≤ 298) : ∀ k pc loc st S1, iX4_passMinute M a S k pc loc st S1 → ip_run (pX4_passMinute (postX4_passMinute M [.inr (.inl (some a))] S)) (fun pc => Nat.beq pc 19 || Nat.beq pc 40) (fun pc loc st S2 => ∃ k', k' < k ∧ iX4_passMinute M a S k' pc loc st S2) 60 pc loc st S1 := by
  obtain ⟨rfl, hR0, hn⟩ := hp
  rintro k pc loc st S1 ⟨nf, nj, np, p, x1, hv, rfl, hpn, rfl, rfl, hfC, ⟨rfl, hk, hT⟩ | ⟨rfl, hk, hT⟩⟩
  · have h3 := hv.1.2.2.2.2.2.2
    obtain ⟨a1, a2, a3⟩ := ip_lvs (ip_vv_dr hv) p (by omega)
    have hT' := hT
    obtain ⟨nf', nj', np', hv', hcS, -⟩ := hT'
    have e6 : S1.1 0 6 = nI np := hcS.2.2.2.1.trans a1.1.2.2.2.2.1
    refine And.intro (fun q => ?_) (fun q => ?_)
    · rw [e6, nI_leI (by omega) (by omega)] at q
      have hpp : p = np := Nat.le_antisymm hpn q
      subst hpp
      exact Exists.intro p (And.intro (by omega) ⟨nf, nj, p, 0, 0, hv, rfl, Nat.zero_le _, rfl, rfl, hfC, Or.inr ⟨rfl, rfl, hT⟩⟩)
    · rw [e6, nI_leI (by omega) (by omega)] at q
      have hp3 : p < 3 := by omega
      refine Exists.intro (g_lvs (g_dr M) p) (And.intro (And.intro rfl (And.intro hT ⟨p, hp3, rfl⟩)) ?_)
      rintro r S2 ⟨rfl, hS2, hf2⟩
      rw [nI_clamp (by omega)] at hS2
      exact Exists.intro (k - 1) (And.intro (by omega) ⟨nf, nj, np, p + 1, _, hv, nI_1 p, by omega, rfl, rfl, hfC.tr hf2, Or.inl ⟨rfl, by omega, hS2⟩⟩)
  · have h3 := hv.1.2.2.2.2.2.2
    obtain ⟨a1, a2, a3⟩ := ip_lvs (ip_vv_dr hv) np h3
    obtain ⟨b1, b2, b3⟩ := ip_bgs a1 a2 p hpn
    have hT' := hT
    obtain ⟨nf', nj', np', hv', hcS, -⟩ := hT'
    have e6 : S1.1 0 6 = nI np := hcS.2.2.2.1.trans b1.1.2.2.2.2.1
    refine And.intro (fun q => ?_) (fun q => ?_)
    · rw [e6, nI_leI (by omega) (by omega)] at q
      have hpp : p = np := Nat.le_antisymm hpn q
      subst hpp
      obtain ⟨m1, m2, m3⟩ := ip_mid hv
      have em : g_mid M = g_bgs (g_lvs (g_dr M) p) p := by
        unfold g_mid
        rw [ip_vv_np hv]
      rw [← em] at hT hcS
      have hfin := ip_cR_now hT m1 m2 (by rw [m3]; exact hn)
      refine And.intro rfl (And.intro ?_ (hfC.sI (by decide) _ _))
      show ip_cR (g_min M) (ip_sI S1 0 8 (S1.1 0 8 + 1))
      rw [hcS.1]
      exact hfin
    · rw [e6, nI_leI (by omega) (by omega)] at q
      have hcn : (g_bgs (g_lvs (g_dr M) np) p 50 10).toNatClampNeg = np := ip_vv_np b1
      refine Exists.intro (g_bgs (g_lvs (g_dr M) np) p) (And.intro (And.intro rfl (And.intro hT ⟨p, by rw [hcn]; omega, rfl⟩)) ?_)
      rintro r S2 ⟨rfl, hS2, hf2⟩
      rw [nI_clamp (by omega)] at hS2
      exact Exists.intro (k - 1) (And.intro (by omega) ⟨nf, nj, np, p + 1, _, hv, nI_1 p, by omega, rfl, rfl, hfC.tr hf2, Or.inr ⟨rfl, by omega, hS2⟩⟩)
set_option maxRecDepth 100000 in
set_option maxHeartbeats 4000000 in
theorem vX4_passMinute (M : ip_M) (a : Nat) (S : ip_S) (hS : ip_Sta S) (hp : a = 0 ∧ ip_cR M S ∧ (M 50 0).toInt ≤ 298) : ip_run (pX4_passMinute (postX4_passMinute M [.inr (.inl (some a))] S)) (fun pc => Nat.beq pc 19 || Nat.beq pc 40) (fun pc loc st S2 => ∃ k, iX4_passMinute M a S k pc loc st S2) 60 0 [some (.inr (.inl (some a))), none] [] S := by
  obtain ⟨rfl, hR, hn⟩ := hp
  have hR' := hR
  obtain ⟨nf, nj, np, hv, hcS, hcF, hcJ, hcP⟩ := hR'
  obtain ⟨s8, s2, s4, s6, s9, s10, s11, s12, -⟩ := hcS
  refine Exists.intro (2 * np + 1) ⟨nf, nj, np, 0, 0, hv, rfl, Nat.zero_le _, rfl, rfl, ip_fC.rf.sI (by decide) _ _, Or.inl ⟨rfl, rfl, ?_⟩⟩
  show ip_cR (g_dr M) (ip_sI S 0 11 (if 0 < S.1 0 11 - S.1 0 10 then S.1 0 11 - S.1 0 10 else 0))
  rw [s11, s10, ip_maxdr hv.2.2.1.2.2.2 hv.2.2.1.2.2.1]
  exact ip_cR_dr hR
theorem ctX4_passMinute (l : Launch) (M : ip_M) : ip_CT l yX4_passMinute wsX4_passMinute rmX4_passMinute ip_Sta (preX4_passMinute M) (postX4_passMinute M) := by
  refine ip_of (cc := cX4_passMinute) (maxL := 2) (ret := none) (by decide +kernel) rfl (fun _ => (0, 0)) rfl ?_ ?_
  · intro as S h
    obtain ⟨a, rfl, hq⟩ := ip_e_r h
    exact ⟨Nat.le_of_ble_eq_true rfl, by simp⟩
  intro p e s m args below meth c D cA A ad0 as S h hI hx hb hml hown hts hr hlocks hname hA hNx
  obtain ⟨a, rfl, hq⟩ := ip_e_r h
  have ht := tX4_passMinute (D := D) (cA := cA) (A := A) (ad0 := ad0) (l := l) (e := e) (below := below) (S0 := S) (po := postX4_passMinute M [.inr (.inl (some a))] S) hx hb hml hown hts hr hlocks hname hA hNx
  refine ip_run_ok ht (fun pc loc st S2 hh => ?_) 60 0 _ _ S (vX4_passMinute M a S hI hq)
  obtain ⟨k, hk⟩ := hh
  exact ip_loop ht (iX4_passMinute M a S) (lpX4_passMinute M a S hI hq) k pc loc st S2 hk
