def g_minutes (M : ip_M) (n : Int32) : Int32 × ip_M := if 1 ≤ n ∧ n ≤ 60 then (if 300 ≤ M 50 0 + n then (-200, M) else (g_mins M n.toNatClampNeg 50 0, g_mins M n.toNatClampNeg)) else (-100, M)
theorem ip_lv_pre {M : ip_M} {nf nj np : Nat} (hv : ip_vv M nf nj np) {p : Nat} (hp : p < 3) : M 64 p = 0 ∨ ∃ j, j < 12 ∧ M 64 p = nI (j + 1) := by
  rcases ip_vp_at hv hp with h | ⟨j, h1, -, -, h2, -⟩
  · exact Or.inl h
  · exact Or.inr ⟨j, h1, h2⟩
theorem g_bgs_10 {M : ip_M} {nf nj np p : Nat} (hv : ip_vv M nf nj np) (hL : ip_Lt M np) (hp : p ≤ np) : g_bgs M p 50 10 = M 50 10 := (ip_bgs hv hL p hp).2.2 10 (by decide) (by decide)
theorem ip_np_of {M : ip_M} {np : Nat} (h : M 50 10 = nI np) (S : ip_S) (hE : ip_eM M S) : S.1 50 10 = nI np := by rw [← h]; exact congrFun (hE 50 (by decide)) _

def preX5_oneMinute (M : ip_M) : List ip_V → ip_S → Prop := ip_h_r (fun _ => False) (fun a S => a = 50 ∧ ip_eM M S ∧ ∃ nf nj np, ip_vv M nf nj np)
def postX5_oneMinute (M : ip_M) : List ip_V → ip_S → List ip_V → ip_S → Prop := ip_h_r (fun _ _ _ => True) (fun a S r S' => r = [] ∧ ip_EM (g_min M) S S')
theorem shX5_oneMinute (M : ip_M) : ∀ as S, ip_Sta S → preX5_oneMinute M as S → ∃ (b : Nat) (as' : List ip_V), as = .inr (.inl (some b)) :: as' ∧ as'.length = 0 ∧ (S.2.2.2 b).1 = 5 := by
  intro as S hI h
  obtain ⟨a, rfl, hq⟩ := ip_e_r h
  exact ⟨_, _, rfl, rfl, by rw [hq.1, hI.1 50 (by decide)]; rfl⟩
def rmX5_oneMinute : Room := { frames := 4, cells := 0, slots := 0, locals := 160 }
def pX5_oneMinute (po : List ip_V → ip_S → Prop) : List (Nat × ip_T) := [(0, ip_t_ar 0 1), (1, ip_t_ar 0 2), (2, ip_t_gI0 50 13 5), (5, ip_t_ar 0 6), (6, ip_t_gI0 50 12 9), (9, ip_t_icle 24 12), (12, ip_t_ar 0 13), (13, ip_t_gI0 50 13 16), (16, ip_t_ar 0 17), (17, ip_t_gI0 50 12 20), (20, ip_t_isub 21), (21, ip_t_go 25), (24, ip_t_ci 0 25), (25, ip_t_pI0 50 13 28), (28, ip_t_ci 0 29), (29, ip_t_is 1 30), (30, ip_t_il 1 31), (31, ip_t_ar 0 32), (32, ip_t_gI0 50 10 35), (35, ip_t_icge 49 38), (38, ip_t_ar 0 39), (39, ip_t_il 1 40), (40, ip_t_callG 2 preX5_leaves postX5_leaves 43), (43, ip_t_inc 1 1 46), (46, ip_t_go 30), (49, ip_t_ci 0 50), (50, ip_t_is 1 51), (51, ip_t_il 1 52), (52, ip_t_ar 0 53), (53, ip_t_gI0 50 10 56), (56, ip_t_icge 70 59), (59, ip_t_ar 0 60), (60, ip_t_il 1 61), (61, ip_t_callG 2 preX5_begins postX5_begins 64), (64, ip_t_inc 1 1 67), (67, ip_t_go 51), (70, ip_t_ar 0 71), (71, ip_t_dup 72), (72, ip_t_gI0 50 0 75), (75, ip_t_ci 1 76), (76, ip_t_iadd 77), (77, ip_t_pI0 50 0 80), (80, ip_t_vret po)]
set_option maxRecDepth 100000 in
set_option maxHeartbeats 4000000 in
theorem tX5_oneMinute {p : Program} {l : Launch} {e : Env} {s : State} {m : MethodId} {args : Array Value} {below : List Frame} {meth : Method} {c : Code} {D : va_G} {cA : Nat → ClassId} {A : Nat → Prop} {ad0 : Nat → Nat} {S0 : ip_S} {po : List ip_V → ip_S → Prop} (hx : p.tables.exec = Jvm.exec) (hb : c.code = cX5_oneMinute) (hml : c.maxLocals = 2) (hown : s.vm.findClass RX5 = some m.cls) (hts : ∀ w ∈ wsX5_oneMinute, w.before args s = true) (hr : meth.sig.returnType = none) (hlocks : meth.locks = false) (hname : meth.name = yX5_oneMinute.name) (hA : ∀ q, s.heap.size ≤ q → A q) (hNx : ip_Nx s) : ∀ q ∈ pX5_oneMinute po, ip_snd p l e rmX5_oneMinute s m args below meth c D cA A (MQ below (ip_Q ip_Sta D cA ad0 S0 A po) args s 0 0 A) 2 (fun _ => (0, 0)) ip_Sta ad0 S0 q.1 q.2 := by
  have hIs : ∀ S, ip_Sta S → ip_Sta S := fun _ h => h
  have hIn := ip_In_Sta
  have hS9 : CallFix p m c cX5_oneMinute 2 s args wsX5_oneMinute RX5 := ⟨hx, hb, hml, hown, hts⟩
  have hin5 : ∀ w ∈ u_ws RX5 TX5 32, w ∈ wsX5_oneMinute := by decide +kernel
  refine List.forall_mem_cons.mpr ⟨ip_s_aload_n hx hb dX5_oneMinute_0 rfl rfl, ?_⟩
  refine List.forall_mem_cons.mpr ⟨ip_s_aload_n hx hb dX5_oneMinute_1 rfl rfl, ?_⟩
  refine List.forall_mem_cons.mpr ⟨ip_s_gI0 hx hb hts hin5 hown rfl (by decide) 13 (by decide) (hts (.fieldLink RX5 123 "IcePadsModel" "drain" "I") (by decide +kernel)) (fun _ h9 => h9) hIs 50 rfl rfl dX5_oneMinute_2 rfl, ?_⟩
  refine List.forall_mem_cons.mpr ⟨ip_s_aload_n hx hb dX5_oneMinute_5 rfl rfl, ?_⟩
  refine List.forall_mem_cons.mpr ⟨ip_s_gI0 hx hb hts hin5 hown rfl (by decide) 12 (by decide) (hts (.fieldLink RX5 42 "IcePadsModel" "rate" "I") (by decide +kernel)) (fun _ h9 => h9) hIs 50 rfl rfl dX5_oneMinute_6 rfl, ?_⟩
  refine List.forall_mem_cons.mpr ⟨ip_s_icle (t := 24) hx hb dX5_oneMinute_9 (by decide) rfl rfl, ?_⟩
  refine List.forall_mem_cons.mpr ⟨ip_s_aload_n hx hb dX5_oneMinute_12 rfl rfl, ?_⟩
  refine List.forall_mem_cons.mpr ⟨ip_s_gI0 hx hb hts hin5 hown rfl (by decide) 13 (by decide) (hts (.fieldLink RX5 123 "IcePadsModel" "drain" "I") (by decide +kernel)) (fun _ h9 => h9) hIs 50 rfl rfl dX5_oneMinute_13 rfl, ?_⟩
  refine List.forall_mem_cons.mpr ⟨ip_s_aload_n hx hb dX5_oneMinute_16 rfl rfl, ?_⟩
  refine List.forall_mem_cons.mpr ⟨ip_s_gI0 hx hb hts hin5 hown rfl (by decide) 12 (by decide) (hts (.fieldLink RX5 42 "IcePadsModel" "rate" "I") (by decide +kernel)) (fun _ h9 => h9) hIs 50 rfl rfl dX5_oneMinute_17 rfl, ?_⟩
  refine List.forall_mem_cons.mpr ⟨ip_s_isub hx hb dX5_oneMinute_20 rfl, ?_⟩
  refine List.forall_mem_cons.mpr ⟨ip_s_go (t := 25) hx hb dX5_oneMinute_21 (by decide) (Nat.le_of_ble_eq_true rfl) (Nat.le_of_ble_eq_true rfl), ?_⟩
  refine List.forall_mem_cons.mpr ⟨ip_s_iconst hx hb dX5_oneMinute_24 rfl rfl, ?_⟩
  refine List.forall_mem_cons.mpr ⟨ip_s_pI0 hx hb hts hin5 hown rfl (by decide) 13 (by decide) (hts (.fieldLink RX5 123 "IcePadsModel" "drain" "I") (by decide +kernel)) (fun _ h9 => h9) tyX5 tyX5_ok nmX5 hIn hIs 50 rfl rfl rfl (by decide +kernel) dX5_oneMinute_25 rfl, ?_⟩
  refine List.forall_mem_cons.mpr ⟨ip_s_iconst hx hb dX5_oneMinute_28 rfl rfl, ?_⟩
  refine List.forall_mem_cons.mpr ⟨ip_s_istore_n hx hb dX5_oneMinute_29 rfl (by decide) rfl, ?_⟩
  refine List.forall_mem_cons.mpr ⟨ip_s_iload_n hx hb dX5_oneMinute_30 rfl rfl, ?_⟩
  refine List.forall_mem_cons.mpr ⟨ip_s_aload_n hx hb dX5_oneMinute_31 rfl rfl, ?_⟩
  refine List.forall_mem_cons.mpr ⟨ip_s_gI0 hx hb hts hin5 hown rfl (by decide) 10 (by decide) (hts (.fieldLink RX5 35 "IcePadsModel" "pads" "I") (by decide +kernel)) (fun _ h9 => h9) hIs 50 rfl rfl dX5_oneMinute_32 rfl, ?_⟩
  refine List.forall_mem_cons.mpr ⟨ip_s_icge (t := 49) hx hb dX5_oneMinute_35 (by decide) rfl rfl, ?_⟩
  refine List.forall_mem_cons.mpr ⟨ip_s_aload_n hx hb dX5_oneMinute_38 rfl rfl, ?_⟩
  refine List.forall_mem_cons.mpr ⟨ip_s_iload_n hx hb dX5_oneMinute_39 rfl rfl, ?_⟩
  refine List.forall_mem_cons.mpr ⟨ip_s_G (fun M => ip_s_callV hNx hS9 (ctX5_leaves l M) (cwV 1 hts gX5_oneMinute_X5_leaves rfl rfl rfl (by decide +kernel) ⟨Nat.le_of_ble_eq_true rfl, Nat.le_of_ble_eq_true rfl⟩) (ci := 5) rfl rfl (by decide) (fun as S hI h => shX5_leaves M as S hI h) hA dX5_oneMinute_40 ⟨Nat.le_of_ble_eq_true rfl, Nat.le_of_ble_eq_true rfl⟩ rfl), ?_⟩
  refine List.forall_mem_cons.mpr ⟨ip_s_iinc hx hb dX5_oneMinute_43 rfl (by decide) rfl, ?_⟩
  refine List.forall_mem_cons.mpr ⟨ip_s_go (t := 30) hx hb dX5_oneMinute_46 (by decide) (Nat.le_of_ble_eq_true rfl) (Nat.le_of_ble_eq_true rfl), ?_⟩
  refine List.forall_mem_cons.mpr ⟨ip_s_iconst hx hb dX5_oneMinute_49 rfl rfl, ?_⟩
  refine List.forall_mem_cons.mpr ⟨ip_s_istore_n hx hb dX5_oneMinute_50 rfl (by decide) rfl, ?_⟩
  refine List.forall_mem_cons.mpr ⟨ip_s_iload_n hx hb dX5_oneMinute_51 rfl rfl, ?_⟩
  refine List.forall_mem_cons.mpr ⟨ip_s_aload_n hx hb dX5_oneMinute_52 rfl rfl, ?_⟩
  refine List.forall_mem_cons.mpr ⟨ip_s_gI0 hx hb hts hin5 hown rfl (by decide) 10 (by decide) (hts (.fieldLink RX5 35 "IcePadsModel" "pads" "I") (by decide +kernel)) (fun _ h9 => h9) hIs 50 rfl rfl dX5_oneMinute_53 rfl, ?_⟩
  refine List.forall_mem_cons.mpr ⟨ip_s_icge (t := 70) hx hb dX5_oneMinute_56 (by decide) rfl rfl, ?_⟩
  refine List.forall_mem_cons.mpr ⟨ip_s_aload_n hx hb dX5_oneMinute_59 rfl rfl, ?_⟩
  refine List.forall_mem_cons.mpr ⟨ip_s_iload_n hx hb dX5_oneMinute_60 rfl rfl, ?_⟩
  refine List.forall_mem_cons.mpr ⟨ip_s_G (fun M => ip_s_callV hNx hS9 (ctX5_begins l M) (cwV 1 hts gX5_oneMinute_X5_begins rfl rfl rfl (by decide +kernel) ⟨Nat.le_of_ble_eq_true rfl, Nat.le_of_ble_eq_true rfl⟩) (ci := 5) rfl rfl (by decide) (fun as S hI h => shX5_begins M as S hI h) hA dX5_oneMinute_61 ⟨Nat.le_of_ble_eq_true rfl, Nat.le_of_ble_eq_true rfl⟩ rfl), ?_⟩
  refine List.forall_mem_cons.mpr ⟨ip_s_iinc hx hb dX5_oneMinute_64 rfl (by decide) rfl, ?_⟩
  refine List.forall_mem_cons.mpr ⟨ip_s_go (t := 51) hx hb dX5_oneMinute_67 (by decide) (Nat.le_of_ble_eq_true rfl) (Nat.le_of_ble_eq_true rfl), ?_⟩
  refine List.forall_mem_cons.mpr ⟨ip_s_aload_n hx hb dX5_oneMinute_70 rfl rfl, ?_⟩
  refine List.forall_mem_cons.mpr ⟨ip_s_dup hx hb dX5_oneMinute_71 rfl, ?_⟩
  refine List.forall_mem_cons.mpr ⟨ip_s_gI0 hx hb hts hin5 hown rfl (by decide) 0 (by decide) (hts (.fieldLink RX5 87 "IcePadsModel" "now" "I") (by decide +kernel)) (fun _ h9 => h9) hIs 50 rfl rfl dX5_oneMinute_72 rfl, ?_⟩
  refine List.forall_mem_cons.mpr ⟨ip_s_iconst hx hb dX5_oneMinute_75 rfl rfl, ?_⟩
  refine List.forall_mem_cons.mpr ⟨ip_s_iadd hx hb dX5_oneMinute_76 rfl, ?_⟩
  refine List.forall_mem_cons.mpr ⟨ip_s_pI0 hx hb hts hin5 hown rfl (by decide) 0 (by decide) (hts (.fieldLink RX5 87 "IcePadsModel" "now" "I") (by decide +kernel)) (fun _ h9 => h9) tyX5 tyX5_ok nmX5 hIn hIs 50 rfl rfl rfl (by decide +kernel) dX5_oneMinute_77 rfl, ?_⟩
  refine List.forall_mem_cons.mpr ⟨ip_s_vret hx hb hr hlocks (Nat.le_of_ble_eq_true rfl) (Nat.le_of_ble_eq_true rfl) dX5_oneMinute_80, ?_⟩
  exact fun _ h => absurd h List.not_mem_nil
abbrev iX5_oneMinute (M : ip_M) (a : Nat) (S : ip_S) : Nat → ip_N := fun k pc loc st S1 => ∃ (nf nj np p : Nat) (x1 : Int32), ip_vv M nf nj np ∧ x1 = nI p ∧ p ≤ np ∧ st = [] ∧ loc = [some (.inr (.inl (some a))), some (.inl x1)] ∧ ((pc = 30 ∧ k + p = 2 * np + 1 ∧ ip_EM (g_lvs (g_dr M) p) S S1) ∨ (pc = 51 ∧ k + p = np ∧ ip_EM (g_bgs (g_lvs (g_dr M) np) p) S S1))
set_option maxRecDepth 100000 in
set_option maxHeartbeats 4000000 in
theorem lpX5_oneMinute (M : ip_M) (a : Nat) (S : ip_S) (hS : ip_Sta S) (hp : a = 50 ∧ ip_eM M S ∧ ∃ nf nj np, ip_vv M nf nj np) : ∀ k pc loc st S1, iX5_oneMinute M a S k pc loc st S1 → ip_run (pX5_oneMinute (postX5_oneMinute M [.inr (.inl (some a))] S)) (fun pc => Nat.beq pc 30 || Nat.beq pc 51) (fun pc loc st S2 => ∃ k', k' < k ∧ iX5_oneMinute M a S k' pc loc st S2) 60 pc loc st S1 := by
  obtain ⟨rfl, hE, nf0, nj0, np0, hv0⟩ := hp
  rintro k pc loc st S1 ⟨nf, nj, np, p, x1, hv, rfl, hpn, rfl, rfl, ⟨rfl, hk, hT⟩ | ⟨rfl, hk, hT⟩⟩
  · have h3 := hv.1.2.2.2.2.2.2
    obtain ⟨a1, a2, a3⟩ := ip_lvs (ip_vv_dr hv) p (by omega)
    have e10 : S1.1 50 10 = nI np := ip_np_of a1.1.2.2.2.2.1 S1 hT.1
    refine And.intro (fun q => ?_) (fun q => ?_)
    · rw [e10, nI_leI (by omega) (by omega)] at q
      have hpp : p = np := Nat.le_antisymm hpn q
      subst hpp
      exact Exists.intro p (And.intro (by omega) ⟨nf, nj, p, 0, 0, hv, rfl, Nat.zero_le _, rfl, rfl, Or.inr ⟨rfl, rfl, hT⟩⟩)
    · rw [e10, nI_leI (by omega) (by omega)] at q
      have hp3 : p < 3 := by omega
      refine Exists.intro (g_lvs (g_dr M) p) (And.intro (And.intro rfl (And.intro hT.1 ⟨p, hp3, rfl, ip_lv_pre a1 hp3⟩)) ?_)
      rintro r S' ⟨rfl, hS'⟩
      rw [nI_clamp (by omega)] at hS'
      exact Exists.intro (k - 1) (And.intro (by omega) ⟨nf, nj, np, p + 1, _, hv, nI_1 p, by omega, rfl, rfl, Or.inl ⟨rfl, by omega, hT.tr hS'⟩⟩)
  · have h3 := hv.1.2.2.2.2.2.2
    obtain ⟨a1, a2, a3⟩ := ip_lvs (ip_vv_dr hv) np h3
    obtain ⟨b1, b2, b3⟩ := ip_bgs a1 a2 p hpn
    have e10 : S1.1 50 10 = nI np := ip_np_of b1.1.2.2.2.2.1 S1 hT.1
    refine And.intro (fun q => ?_) (fun q => ?_)
    · rw [e10, nI_leI (by omega) (by omega)] at q
      have hpp : p = np := Nat.le_antisymm hpn q
      subst hpp
      refine And.intro rfl ?_
      have e0 : S1.1 50 0 = g_bgs (g_lvs (g_dr M) p) p 50 0 := congrFun (hT.1 50 (by decide)) _
      unfold g_min g_mid
      rw [ip_vv_np hv, e0]
      exact hT.u (by decide) _ _
    · rw [e10, nI_leI (by omega) (by omega)] at q
      have hp3 : p < 3 := by omega
      refine Exists.intro (g_bgs (g_lvs (g_dr M) np) p) (And.intro (And.intro rfl (And.intro hT.1 (And.intro ⟨nf, nj, np, b1⟩ ⟨p, hp3, rfl⟩))) ?_)
      rintro r S' ⟨rfl, hS'⟩
      rw [nI_clamp (by omega)] at hS'
      exact Exists.intro (k - 1) (And.intro (by omega) ⟨nf, nj, np, p + 1, _, hv, nI_1 p, by omega, rfl, rfl, Or.inr ⟨rfl, by omega, hT.tr hS'⟩⟩)
set_option maxRecDepth 100000 in
set_option maxHeartbeats 4000000 in
theorem vX5_oneMinute (M : ip_M) (a : Nat) (S : ip_S) (hS : ip_Sta S) (hp : a = 50 ∧ ip_eM M S ∧ ∃ nf nj np, ip_vv M nf nj np) : ip_run (pX5_oneMinute (postX5_oneMinute M [.inr (.inl (some a))] S)) (fun pc => Nat.beq pc 30 || Nat.beq pc 51) (fun pc loc st S2 => ∃ k, iX5_oneMinute M a S k pc loc st S2) 60 0 [some (.inr (.inl (some a))), none] [] S := by
  obtain ⟨rfl, hE, nf, nj, np, hv⟩ := hp
  have e13 : S.1 50 13 = M 50 13 := congrFun (hE 50 (by decide)) _
  have e12 : S.1 50 12 = M 50 12 := congrFun (hE 50 (by decide)) _
  refine And.intro (fun q => ?_) (fun q => ?_)
  · rw [e13, e12] at q
    refine Exists.intro (2 * np + 1) ⟨nf, nj, np, 0, 0, hv, rfl, Nat.zero_le _, rfl, rfl, Or.inl ⟨rfl, rfl, ?_⟩⟩
    have t := (ip_EM.rf hE).u (p := 50) (by decide) 13 0
    show ip_EM (g_dr M) S _
    unfold g_dr
    rw [if_neg (Int32.not_lt.mpr q)]
    exact t
  · rw [e13, e12] at q
    refine Exists.intro (2 * np + 1) ⟨nf, nj, np, 0, 0, hv, rfl, Nat.zero_le _, rfl, rfl, Or.inl ⟨rfl, rfl, ?_⟩⟩
    have t := (ip_EM.rf hE).u (p := 50) (by decide) 13 (M 50 13 - M 50 12)
    show ip_EM (g_dr M) S _
    unfold g_dr
    rw [if_pos (Int32.not_le.mp q), e13, e12]
    exact t
theorem ctX5_oneMinute (l : Launch) (M : ip_M) : ip_CT l yX5_oneMinute wsX5_oneMinute rmX5_oneMinute ip_Sta (preX5_oneMinute M) (postX5_oneMinute M) := by
  refine ip_of (cc := cX5_oneMinute) (maxL := 2) (ret := none) (by decide +kernel) rfl (fun _ => (0, 0)) rfl ?_ ?_
  · intro as S h
    obtain ⟨a, rfl, hq⟩ := ip_e_r h
    exact ⟨Nat.le_of_ble_eq_true rfl, by simp⟩
  intro p e s m args below meth c D cA A ad0 as S h hI hx hb hml hown hts hr hlocks hname hA hNx
  obtain ⟨a, rfl, hq⟩ := ip_e_r h
  have ht := tX5_oneMinute (D := D) (cA := cA) (A := A) (ad0 := ad0) (l := l) (e := e) (below := below) (S0 := S) (po := postX5_oneMinute M [.inr (.inl (some a))] S) hx hb hml hown hts hr hlocks hname hA hNx
  refine ip_run_ok ht (fun pc loc st S2 hh => ?_) 60 0 _ _ S (vX5_oneMinute M a S hI hq)
  obtain ⟨k, hk⟩ := hh
  exact ip_loop ht (iX5_oneMinute M a S) (lpX5_oneMinute M a S hI hq) k pc loc st S2 hk

def preX5_minutes (M : ip_M) : List ip_V → ip_S → Prop := ip_h_ri (fun _ => False) (fun a n S => a = 50 ∧ ip_eM M S ∧ ∃ nf nj np, ip_vv M nf nj np)
def postX5_minutes (M : ip_M) : List ip_V → ip_S → List ip_V → ip_S → Prop := ip_h_ri (fun _ _ _ => True) (fun a n S r S' => r = [.inl (g_minutes M n).1] ∧ ip_EM (g_minutes M n).2 S S')
theorem shX5_minutes (M : ip_M) : ∀ as S, ip_Sta S → preX5_minutes M as S → ∃ (b : Nat) (as' : List ip_V), as = .inr (.inl (some b)) :: as' ∧ as'.length = 1 ∧ (S.2.2.2 b).1 = 5 := by
  intro as S hI h
  obtain ⟨a, n, rfl, hq⟩ := ip_e_ri h
  exact ⟨_, _, rfl, rfl, by rw [hq.1, hI.1 50 (by decide)]; rfl⟩
def rmX5_minutes : Room := { frames := 5, cells := 0, slots := 0, locals := 200 }
def pX5_minutes (po : List ip_V → ip_S → Prop) : List (Nat × ip_T) := [(0, ip_t_il 1 1), (1, ip_t_ci 1 2), (2, ip_t_ci 60 4), (4, ip_t_call 3 preX5_in postX5_in 7), (7, ip_t_ifne 13 10), (10, ip_t_ci (-100) 12), (12, ip_t_iret po), (13, ip_t_ar 0 14), (14, ip_t_gI0 50 0 17), (17, ip_t_il 1 18), (18, ip_t_iadd 19), (19, ip_t_ci 300 22), (22, ip_t_iclt 29 25), (25, ip_t_ci (-200) 28), (28, ip_t_iret po), (29, ip_t_ci 0 30), (30, ip_t_is 2 31), (31, ip_t_il 2 32), (32, ip_t_il 1 33), (33, ip_t_icge 46 36), (36, ip_t_ar 0 37), (37, ip_t_callG 1 preX5_oneMinute postX5_oneMinute 40), (40, ip_t_inc 2 1 43), (43, ip_t_go 31), (46, ip_t_ar 0 47), (47, ip_t_gI0 50 0 50), (50, ip_t_iret po)]
set_option maxRecDepth 100000 in
set_option maxHeartbeats 4000000 in
theorem tX5_minutes {p : Program} {l : Launch} {e : Env} {s : State} {m : MethodId} {args : Array Value} {below : List Frame} {meth : Method} {c : Code} {D : va_G} {cA : Nat → ClassId} {A : Nat → Prop} {ad0 : Nat → Nat} {S0 : ip_S} {po : List ip_V → ip_S → Prop} (hx : p.tables.exec = Jvm.exec) (hb : c.code = cX5_minutes) (hml : c.maxLocals = 3) (hown : s.vm.findClass RX5 = some m.cls) (hts : ∀ w ∈ wsX5_minutes, w.before args s = true) (hr : meth.sig.returnType = (some .int)) (hlocks : meth.locks = false) (hname : meth.name = yX5_minutes.name) (hA : ∀ q, s.heap.size ≤ q → A q) (hNx : ip_Nx s) : ∀ q ∈ pX5_minutes po, ip_snd p l e rmX5_minutes s m args below meth c D cA A (MQ below (ip_Q ip_Sta D cA ad0 S0 A po) args s 0 0 A) 3 (fun _ => (0, 0)) ip_Sta ad0 S0 q.1 q.2 := by
  have hIs : ∀ S, ip_Sta S → ip_Sta S := fun _ h => h
  have hIn := ip_In_Sta
  have hS9 : CallFix p m c cX5_minutes 3 s args wsX5_minutes RX5 := ⟨hx, hb, hml, hown, hts⟩
  have hin5 : ∀ w ∈ u_ws RX5 TX5 32, w ∈ wsX5_minutes := by decide +kernel
  refine List.forall_mem_cons.mpr ⟨ip_s_iload_n hx hb dX5_minutes_0 rfl rfl, ?_⟩
  refine List.forall_mem_cons.mpr ⟨ip_s_iconst hx hb dX5_minutes_1 rfl rfl, ?_⟩
  refine List.forall_mem_cons.mpr ⟨ip_s_bipush hx hb dX5_minutes_2 rfl rfl, ?_⟩
  refine List.forall_mem_cons.mpr ⟨ip_s_callS hNx hS9 (ctX5_in l) (va_cwS 3 hts gX5_minutes_X5_in rfl rfl rfl (by decide +kernel) ⟨Nat.le_of_ble_eq_true rfl, Nat.le_of_ble_eq_true rfl⟩) (fun as S hI h => shsX5_in as S hI h) hA dX5_minutes_4 ⟨Nat.le_of_ble_eq_true rfl, Nat.le_of_ble_eq_true rfl⟩ rfl, ?_⟩
  refine List.forall_mem_cons.mpr ⟨ip_s_ifne (t := 13) hx hb dX5_minutes_7 (by decide) rfl rfl, ?_⟩
  refine List.forall_mem_cons.mpr ⟨ip_s_bipush hx hb dX5_minutes_10 rfl rfl, ?_⟩
  refine List.forall_mem_cons.mpr ⟨ip_s_iret hx hb hr hlocks (Nat.le_of_ble_eq_true rfl) (Nat.le_of_ble_eq_true rfl) dX5_minutes_12, ?_⟩
  refine List.forall_mem_cons.mpr ⟨ip_s_aload_n hx hb dX5_minutes_13 rfl rfl, ?_⟩
  refine List.forall_mem_cons.mpr ⟨ip_s_gI0 hx hb hts hin5 hown rfl (by decide) 0 (by decide) (hts (.fieldLink RX5 87 "IcePadsModel" "now" "I") (by decide +kernel)) (fun _ h9 => h9) hIs 50 rfl rfl dX5_minutes_14 rfl, ?_⟩
  refine List.forall_mem_cons.mpr ⟨ip_s_iload_n hx hb dX5_minutes_17 rfl rfl, ?_⟩
  refine List.forall_mem_cons.mpr ⟨ip_s_iadd hx hb dX5_minutes_18 rfl, ?_⟩
  refine List.forall_mem_cons.mpr ⟨ip_s_sipush hx hb dX5_minutes_19 rfl rfl, ?_⟩
  refine List.forall_mem_cons.mpr ⟨ip_s_iclt (t := 29) hx hb dX5_minutes_22 (by decide) rfl rfl, ?_⟩
  refine List.forall_mem_cons.mpr ⟨ip_s_sipush hx hb dX5_minutes_25 rfl rfl, ?_⟩
  refine List.forall_mem_cons.mpr ⟨ip_s_iret hx hb hr hlocks (Nat.le_of_ble_eq_true rfl) (Nat.le_of_ble_eq_true rfl) dX5_minutes_28, ?_⟩
  refine List.forall_mem_cons.mpr ⟨ip_s_iconst hx hb dX5_minutes_29 rfl rfl, ?_⟩
  refine List.forall_mem_cons.mpr ⟨ip_s_istore_n hx hb dX5_minutes_30 rfl (by decide) rfl, ?_⟩
  refine List.forall_mem_cons.mpr ⟨ip_s_iload_n hx hb dX5_minutes_31 rfl rfl, ?_⟩
  refine List.forall_mem_cons.mpr ⟨ip_s_iload_n hx hb dX5_minutes_32 rfl rfl, ?_⟩
  refine List.forall_mem_cons.mpr ⟨ip_s_icge (t := 46) hx hb dX5_minutes_33 (by decide) rfl rfl, ?_⟩
  refine List.forall_mem_cons.mpr ⟨ip_s_aload_n hx hb dX5_minutes_36 rfl rfl, ?_⟩
  refine List.forall_mem_cons.mpr ⟨ip_s_G (fun M => ip_s_callV hNx hS9 (ctX5_oneMinute l M) (cwV 0 hts gX5_minutes_X5_oneMinute rfl rfl rfl (by decide +kernel) ⟨Nat.le_of_ble_eq_true rfl, Nat.le_of_ble_eq_true rfl⟩) (ci := 5) rfl rfl (by decide) (fun as S hI h => shX5_oneMinute M as S hI h) hA dX5_minutes_37 ⟨Nat.le_of_ble_eq_true rfl, Nat.le_of_ble_eq_true rfl⟩ rfl), ?_⟩
  refine List.forall_mem_cons.mpr ⟨ip_s_iinc hx hb dX5_minutes_40 rfl (by decide) rfl, ?_⟩
  refine List.forall_mem_cons.mpr ⟨ip_s_go (t := 31) hx hb dX5_minutes_43 (by decide) (Nat.le_of_ble_eq_true rfl) (Nat.le_of_ble_eq_true rfl), ?_⟩
  refine List.forall_mem_cons.mpr ⟨ip_s_aload_n hx hb dX5_minutes_46 rfl rfl, ?_⟩
  refine List.forall_mem_cons.mpr ⟨ip_s_gI0 hx hb hts hin5 hown rfl (by decide) 0 (by decide) (hts (.fieldLink RX5 87 "IcePadsModel" "now" "I") (by decide +kernel)) (fun _ h9 => h9) hIs 50 rfl rfl dX5_minutes_47 rfl, ?_⟩
  refine List.forall_mem_cons.mpr ⟨ip_s_iret hx hb hr hlocks (Nat.le_of_ble_eq_true rfl) (Nat.le_of_ble_eq_true rfl) dX5_minutes_50, ?_⟩
  exact fun _ h => absurd h List.not_mem_nil
abbrev iX5_minutes (M : ip_M) (a : Nat) (n : Int32) (S : ip_S) : Nat → ip_N := fun k pc loc st S1 => ∃ (nf nj np i m : Nat) (x2 : Int32), ip_vv M nf nj np ∧ n = nI m ∧ m ≤ 60 ∧ (M 50 0).toInt + m ≤ 299 ∧ (1 ≤ n ∧ n ≤ 60) ∧ ¬ 300 ≤ M 50 0 + n ∧ x2 = nI i ∧ i ≤ m ∧ k + i = m ∧ pc = 31 ∧ st = [] ∧ loc = [some (.inr (.inl (some a))), some (.inl n), some (.inl x2)] ∧ ip_EM (g_mins M i) S S1
set_option maxRecDepth 100000 in
set_option maxHeartbeats 4000000 in
theorem lpX5_minutes (M : ip_M) (a : Nat) (n : Int32) (S : ip_S) (hS : ip_Sta S) (hp : a = 50 ∧ ip_eM M S ∧ ∃ nf nj np, ip_vv M nf nj np) : ∀ k pc loc st S1, iX5_minutes M a n S k pc loc st S1 → ip_run (pX5_minutes (postX5_minutes M [.inr (.inl (some a)), .inl n] S)) (fun pc => Nat.beq pc 31) (fun pc loc st S2 => ∃ k', k' < k ∧ iX5_minutes M a n S k' pc loc st S2) 60 pc loc st S1 := by
  obtain ⟨rfl, hE, nf0, nj0, np0, hv0⟩ := hp
  rintro k pc loc st S1 ⟨nf, nj, np, i, m, x2, hv, rfl, hm60, hmn, hq, hq2, rfl, him, hk, rfl, rfl, rfl, hT⟩
  refine And.intro (fun q => ?_) (fun q => ?_)
  · rw [nI_leI (by omega) (by omega)] at q
    have hi : i = m := Nat.le_antisymm him q
    subst hi
    have e0 : S1.1 50 0 = g_mins M i 50 0 := congrFun (hT.1 50 (by decide)) _
    have hcm : (nI i).toNatClampNeg = i := nI_clamp (by omega)
    refine And.intro ?_ ?_ <;> unfold g_minutes <;> rw [if_pos hq, if_neg hq2, hcm]
    · rw [e0]
    · exact hT
  · rw [nI_leI (by omega) (by omega)] at q
    have hvi := (ip_vv_mins hv i (by omega)).1
    refine Exists.intro (g_mins M i) (And.intro (And.intro rfl (And.intro hT.1 ⟨nf, nj, np, hvi⟩)) ?_)
    rintro r S' ⟨rfl, hS'⟩
    exact Exists.intro (k - 1) (And.intro (by omega) ⟨nf, nj, np, i + 1, m, _, hv, rfl, hm60, hmn, hq, hq2, nI_1 i, by omega, by omega, rfl, rfl, rfl, hT.tr hS'⟩)
set_option maxRecDepth 100000 in
set_option maxHeartbeats 4000000 in
theorem vX5_minutes (M : ip_M) (a : Nat) (n : Int32) (S : ip_S) (hS : ip_Sta S) (hp : a = 50 ∧ ip_eM M S ∧ ∃ nf nj np, ip_vv M nf nj np) : ip_run (pX5_minutes (postX5_minutes M [.inr (.inl (some a)), .inl n] S)) (fun pc => Nat.beq pc 31) (fun pc loc st S2 => ∃ k, iX5_minutes M a n S k pc loc st S2) 60 0 [some (.inr (.inl (some a))), some (.inl n), none] [] S := by
  obtain ⟨rfl, hE, nf, nj, np, hv⟩ := hp
  have e0 : S.1 50 0 = M 50 0 := congrFun (hE 50 (by decide)) _
  refine And.intro trivial ?_
  rintro r S' ⟨rfl, rfl⟩
  refine And.intro (fun q => ?_) (fun q => ?_)
  · have q := ip_if1 q
    refine And.intro (fun q2 => ?_) (fun q2 => ?_)
    · rw [e0] at q2
      have h300 : (300 : Int32).toInt = 300 := rfl
      have h1 : (1 : Int32).toInt = 1 := rfl
      have h60 : (60 : Int32).toInt = 60 := rfl
      have hn0 := hv.2.2.1.1
      have q' := q
      rw [ip_leI, ip_leI, h1, h60] at q'
      obtain ⟨m, hm, hm1, hm2⟩ := ip_small (by omega) q'
      have hq2 := q2
      rw [ip_ltI, h300, ip_addI (by omega) (by omega)] at hq2
      have hni : n.toInt = m := by rw [hm]; exact nI_toInt (by omega)
      exact Exists.intro m ⟨nf, nj, np, 0, m, 0, hv, hm, by omega, by omega, q, Int32.not_le.mpr q2, rfl, Nat.zero_le _, rfl, rfl, rfl, rfl, ip_EM.rf hE⟩
    · rw [e0] at q2
      refine And.intro ?_ ?_ <;> unfold g_minutes <;> rw [if_pos q, if_pos (Int32.not_lt.mp q2)]
      exact ip_EM.rf hE
  · refine And.intro ?_ ?_ <;> unfold g_minutes <;> rw [if_neg (ip_if0 q)]
    exact ip_EM.rf hE
theorem ctX5_minutes (l : Launch) (M : ip_M) : ip_CT l yX5_minutes wsX5_minutes rmX5_minutes ip_Sta (preX5_minutes M) (postX5_minutes M) := by
  refine ip_of (cc := cX5_minutes) (maxL := 3) (ret := (some .int)) (by decide +kernel) rfl (fun _ => (0, 0)) rfl ?_ ?_
  · intro as S h
    obtain ⟨a, n, rfl, hq⟩ := ip_e_ri h
    exact ⟨Nat.le_of_ble_eq_true rfl, by simp⟩
  intro p e s m args below meth c D cA A ad0 as S h hI hx hb hml hown hts hr hlocks hname hA hNx
  obtain ⟨a, n, rfl, hq⟩ := ip_e_ri h
  have ht := tX5_minutes (D := D) (cA := cA) (A := A) (ad0 := ad0) (l := l) (e := e) (below := below) (S0 := S) (po := postX5_minutes M [.inr (.inl (some a)), .inl n] S) hx hb hml hown hts hr hlocks hname hA hNx
  refine ip_run_ok ht (fun pc loc st S2 hh => ?_) 60 0 _ _ S (vX5_minutes M a n S hI hq)
  obtain ⟨k, hk⟩ := hh
  exact ip_loop ht (iX5_minutes M a n S) (lpX5_minutes M a n S hI hq) k pc loc st S2 hk
