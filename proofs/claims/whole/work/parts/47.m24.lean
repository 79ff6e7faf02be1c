def preX4_minutes (M : ip_M) : List ip_V → ip_S → Prop := ip_h_ri (fun _ => False) (fun a n S => a = 0 ∧ ip_cR M S)
def postX4_minutes (M : ip_M) : List ip_V → ip_S → List ip_V → ip_S → Prop := ip_h_ri (fun _ _ _ => True) (fun a n S r S' => r = [.inl (g_minutes M n).1] ∧ ip_cR (g_minutes M n).2 S' ∧ ip_fC S S')
theorem shX4_minutes (M : ip_M) : ∀ as S, ip_Sta S → preX4_minutes M as S → ∃ (b : Nat) (as' : List ip_V), as = .inr (.inl (some b)) :: as' ∧ as'.length = 1 ∧ (S.2.2.2 b).1 = 4 := by
  intro as S hI h
  obtain ⟨a, n, rfl, hq⟩ := ip_e_ri h
  exact ⟨_, _, rfl, rfl, by rw [hq.1, hI.1 0 (by decide)]; rfl⟩
def rmX4_minutes : Room := { frames := 7, cells := 0, slots := 0, locals := 280 }
def pX4_minutes (po : List ip_V → ip_S → Prop) : List (Nat × ip_T) := [(0, ip_t_il 1 1), (1, ip_t_ci 1 2), (2, ip_t_ci 60 4), (4, ip_t_call 3 preX4_within postX4_within 7), (7, ip_t_ifne 13 10), (10, ip_t_ci (-100) 12), (12, ip_t_iret po), (13, ip_t_ar 0 14), (14, ip_t_gI0 0 8 17), (17, ip_t_il 1 18), (18, ip_t_iadd 19), (19, ip_t_ci 300 22), (22, ip_t_iclt 29 25), (25, ip_t_ci (-200) 28), (28, ip_t_iret po), (29, ip_t_ci 0 30), (30, ip_t_is 2 31), (31, ip_t_il 2 32), (32, ip_t_il 1 33), (33, ip_t_icge 46 36), (36, ip_t_ar 0 37), (37, ip_t_callG 1 preX4_passMinute postX4_passMinute 40), (40, ip_t_inc 2 1 43), (43, ip_t_go 31), (46, ip_t_ar 0 47), (47, ip_t_gI0 0 8 50), (50, ip_t_iret po)]
set_option maxRecDepth 100000 in
set_option maxHeartbeats 4000000 in
theorem tX4_minutes {p : Program} {l : Launch} {e : Env} {s : State} {m : MethodId} {args : Array Value} {below : List Frame} {meth : Method} {c : Code} {D : va_G} {cA : Nat → ClassId} {A : Nat → Prop} {ad0 : Nat → Nat} {S0 : ip_S} {po : List ip_V → ip_S → Prop} (hx : p.tables.exec = Jvm.exec) (hb : c.code = cX4_minutes) (hml : c.maxLocals = 3) (hown : s.vm.findClass RX4 = some m.cls) (hts : ∀ w ∈ wsX4_minutes, w.before args s = true) (hr : meth.sig.returnType = (some .int)) (hlocks : meth.locks = false) (hname : meth.name = yX4_minutes.name) (hA : ∀ q, s.heap.size ≤ q → A q) (hNx : ip_Nx s) : ∀ q ∈ pX4_minutes po, ip_snd p l e rmX4_minutes s m args below meth c D cA A (MQ below (ip_Q ip_Sta D cA ad0 S0 A po) args s 0 0 A) 3 (fun _ => (0, 0)) ip_Sta ad0 S0 q.1 q.2 := by
  have hIs : ∀ S, ip_Sta S → ip_Sta S := fun _ h => h
  have hIn := ip_In_Sta
  have hS9 : CallFix p m c cX4_minutes 3 s args wsX4_minutes RX4 := ⟨hx, hb, hml, hown, hts⟩
  have hin4 : ∀ w ∈ u_ws RX4 TX4 14, w ∈ wsX4_minutes := by decide +kernel
  refine List.forall_mem_cons.mpr ⟨ip_s_iload_n hx hb dX4_minutes_0 rfl rfl, ?_⟩
  refine List.forall_mem_cons.mpr ⟨ip_s_iconst hx hb dX4_minutes_1 rfl rfl, ?_⟩
  refine List.forall_mem_cons.mpr ⟨ip_s_bipush hx hb dX4_minutes_2 rfl rfl, ?_⟩
  refine List.forall_mem_cons.mpr ⟨ip_s_callS hNx hS9 (ctX4_within l) (va_cwS 3 hts gX4_minutes_X4_within rfl rfl rfl (by decide +kernel) ⟨Nat.le_of_ble_eq_true rfl, Nat.le_of_ble_eq_true rfl⟩) (fun as S hI h => shsX4_within as S hI h) hA dX4_minutes_4 ⟨Nat.le_of_ble_eq_true rfl, Nat.le_of_ble_eq_true rfl⟩ rfl, ?_⟩
  refine List.forall_mem_cons.mpr ⟨ip_s_ifne (t := 13) hx hb dX4_minutes_7 (by decide) rfl rfl, ?_⟩
  refine List.forall_mem_cons.mpr ⟨ip_s_bipush hx hb dX4_minutes_10 rfl rfl, ?_⟩
  refine List.forall_mem_cons.mpr ⟨ip_s_iret hx hb hr hlocks (Nat.le_of_ble_eq_true rfl) (Nat.le_of_ble_eq_true rfl) dX4_minutes_12, ?_⟩
  refine List.forall_mem_cons.mpr ⟨ip_s_aload_n hx hb dX4_minutes_13 rfl rfl, ?_⟩
  refine List.forall_mem_cons.mpr ⟨ip_s_gI0 hx hb hts hin4 hown rfl (by decide) 8 (by decide) (hts (.fieldLink RX4 56 "IcePads" "now" "I") (by decide +kernel)) (fun _ h9 => h9) hIs 0 rfl rfl dX4_minutes_14 rfl, ?_⟩
  refine List.forall_mem_cons.mpr ⟨ip_s_iload_n hx hb dX4_minutes_17 rfl rfl, ?_⟩
  refine List.forall_mem_cons.mpr ⟨ip_s_iadd hx hb dX4_minutes_18 rfl, ?_⟩
  refine List.forall_mem_cons.mpr ⟨ip_s_sipush hx hb dX4_minutes_19 rfl rfl, ?_⟩
  refine List.forall_mem_cons.mpr ⟨ip_s_iclt (t := 29) hx hb dX4_minutes_22 (by decide) rfl rfl, ?_⟩
  refine List.forall_mem_cons.mpr ⟨ip_s_sipush hx hb dX4_minutes_25 rfl rfl, ?_⟩
  refine List.forall_mem_cons.mpr ⟨ip_s_iret hx hb hr hlocks (Nat.le_of_ble_eq_true rfl) (Nat.le_of_ble_eq_true rfl) dX4_minutes_28, ?_⟩
  refine List.forall_mem_cons.mpr ⟨ip_s_iconst hx hb dX4_minutes_29 rfl rfl, ?_⟩
  refine List.forall_mem_cons.mpr ⟨ip_s_istore_n hx hb dX4_minutes_30 rfl (by decide) rfl, ?_⟩
  refine List.forall_mem_cons.mpr ⟨ip_s_iload_n hx hb dX4_minutes_31 rfl rfl, ?_⟩
  refine List.forall_mem_cons.mpr ⟨ip_s_iload_n hx hb dX4_minutes_32 rfl rfl, ?_⟩
  refine List.forall_mem_cons.mpr ⟨ip_s_icge (t := 46) hx hb dX4_minutes_33 (by decide) rfl rfl, ?_⟩
  refine List.forall_mem_cons.mpr ⟨ip_s_aload_n hx hb dX4_minutes_36 rfl rfl, ?_⟩
  refine List.forall_mem_cons.mpr ⟨ip_s_G (fun M => ip_s_callV hNx hS9 (ctX4_passMinute l M) (cwV 0 hts gX4_minutes_X4_passMinute rfl rfl rfl (by decide +kernel) ⟨Nat.le_of_ble_eq_true rfl, Nat.le_of_ble_eq_true rfl⟩) (ci := 4) rfl rfl (by decide) (fun as S hI h => shX4_passMinute M as S hI h) hA dX4_minutes_37 ⟨Nat.le_of_ble_eq_true rfl, Nat.le_of_ble_eq_true rfl⟩ rfl), ?_⟩
  refine List.forall_mem_cons.mpr ⟨ip_s_iinc hx hb dX4_minutes_40 rfl (by decide) rfl, ?_⟩
  refine List.forall_mem_cons.mpr ⟨ip_s_go (t := 31) hx hb dX4_minutes_43 (by decide) (Nat.le_of_ble_eq_true rfl) (Nat.le_of_ble_eq_true rfl), ?_⟩
  refine List.forall_mem_cons.mpr ⟨ip_s_aload_n hx hb dX4_minutes_46 rfl rfl, ?_⟩
  refine List.forall_mem_cons.mpr ⟨ip_s_gI0 hx hb hts hin4 hown rfl (by decide) 8 (by decide) (hts (.fieldLink RX4 56 "IcePads" "now" "I") (by decide +kernel)) (fun _ h9 => h9) hIs 0 rfl rfl dX4_minutes_47 rfl, ?_⟩
  refine List.forall_mem_cons.mpr ⟨ip_s_iret hx hb hr hlocks (Nat.le_of_ble_eq_true rfl) (Nat.le_of_ble_eq_true rfl) dX4_minutes_50, ?_⟩
  exact fun _ h => absurd h List.not_mem_nil
abbrev iX4_minutes (M : ip_M) (a : Nat) (n : Int32) (S : ip_S) : Nat → ip_N := fun k pc loc st S1 => ∃ (nf nj np i m : Nat) (x2 : Int32), ip_vv M nf nj np ∧ n = nI m ∧ m ≤ 60 ∧ (M 50 0).toInt + m ≤ 299 ∧ (1 ≤ n ∧ n ≤ 60) ∧ ¬ 300 ≤ M 50 0 + n ∧ x2 = nI i ∧ i ≤ m ∧ k + i = m ∧ pc = 31 ∧ st = [] ∧ loc = [some (.inr (.inl (some a))), some (.inl n), some (.inl x2)] ∧ ip_cR (g_mins M i) S1 ∧ ip_fC S S1
set_option maxRecDepth 100000 in
set_option maxHeartbeats 4000000 in
theorem lpX4_minutes (M : ip_M) (a : Nat) (n : Int32) (S : ip_S) (hS : ip_Sta S) (hp : a = 0 ∧ ip_cR M S) : ∀ k pc loc st S1, iX4_minutes M a n S k pc loc st S1 → ip_run (pX4_minutes (postX4_minutes M [.inr (.inl (some a)), .inl n] S)) (fun pc => Nat.beq pc 31) (fun pc loc st S2 => ∃ k', k' < k ∧ iX4_minutes M a n S k' pc loc st S2) 60 pc loc st S1 := by
  obtain ⟨rfl, hR0⟩ := hp
  rintro k pc loc st S1 ⟨nf, nj, np, i, m, x2, hv, rfl, hm60, hmn, hq, hq2, rfl, him, hk, rfl, rfl, rfl, hT, hfC⟩
  obtain ⟨hvi, hni⟩ := ip_vv_mins hv i (by omega)
  refine And.intro (fun q => ?_) (fun q => ?_)
  · rw [nI_leI (by omega) (by omega)] at q
    have hi : i = m := Nat.le_antisymm him q
    subst hi
    have hT' := hT
    obtain ⟨nf', nj', np', hv', hcS, -⟩ := hT'
    have hcm : (nI i).toNatClampNeg = i := nI_clamp (by omega)
    refine And.intro ?_ (And.intro ?_ hfC) <;> unfold g_minutes <;> rw [if_pos hq, if_neg hq2, hcm]
    · rw [hcS.1]
    · exact hT
  · rw [nI_leI (by omega) (by omega)] at q
    refine Exists.intro (g_mins M i) (And.intro (And.intro rfl (And.intro hT (by rw [hni]; omega))) ?_)
    rintro r S2 ⟨rfl, hS2, hf2⟩
    exact Exists.intro (k - 1) (And.intro (by omega) ⟨nf, nj, np, i + 1, m, _, hv, rfl, hm60, hmn, hq, hq2, nI_1 i, by omega, by omega, rfl, rfl, rfl, hS2, hfC.tr hf2⟩)
set_option maxRecDepth 100000 in
set_option maxHeartbeats 4000000 in
theorem vX4_minutes (M : ip_M) (a : Nat) (n : Int32) (S : ip_S) (hS : ip_Sta S) (hp : a = 0 ∧ ip_cR M S) : ip_run (pX4_minutes (postX4_minutes M [.inr (.inl (some a)), .inl n] S)) (fun pc => Nat.beq pc 31) (fun pc loc st S2 => ∃ k, iX4_minutes M a n S k pc loc st S2) 60 0 [some (.inr (.inl (some a))), some (.inl n), none] [] S := by
  obtain ⟨rfl, hR⟩ := hp
  have hR' := hR
  obtain ⟨nf, nj, np, hv, hcS, hcF, hcJ, hcP⟩ := hR'
  have e0 := hcS.1
  refine And.intro trivial ?_
  rintro r S' ⟨rfl, rfl⟩
  refine And.intro (fun q => ?_) (fun q => ?_)
  · have q := ip_if1 q
    refine And.intro (fun q2 => ?_) (fun q2 => ?_)
    · rw [e0] at q2
      have h300 : (300 : Int32).toInt = 300 := rfl
      have h1 : (1 : Int32).toInt = 1 := rfl
      have h60 : (60 : Int32).toInt = 60 := rfl
      have hn0 := hv.2.2.1.1
      have q' := q
      rw [ip_leI, ip_leI, h1, h60] at q'
      obtain ⟨m, hm, hm1, hm2⟩ := ip_small (by omega) q'
      have hq2 := q2
      rw [ip_ltI, h300, ip_addI (by omega) (by omega)] at hq2
      have hni : n.toInt = m := by rw [hm]; exact nI_toInt (by omega)
      exact Exists.intro m ⟨nf, nj, np, 0, m, 0, hv, hm, by omega, by omega, q, Int32.not_le.mpr q2, rfl, Nat.zero_le _, rfl, rfl, rfl, rfl, hR, ip_fC.rf⟩
    · rw [e0] at q2
      refine And.intro ?_ (And.intro ?_ ip_fC.rf) <;> unfold g_minutes <;> rw [if_pos q, if_pos (Int32.not_lt.mp q2)]
      exact hR
  · refine And.intro ?_ (And.intro ?_ ip_fC.rf) <;> unfold g_minutes <;> rw [if_neg (ip_if0 q)]
    exact hR
theorem ctX4_minutes (l : Launch) (M : ip_M) : ip_CT l yX4_minutes wsX4_minutes rmX4_minutes ip_Sta (preX4_minutes M) (postX4_minutes M) := by
  refine ip_of (cc := cX4_minutes) (maxL := 3) (ret := (some .int)) (by decide +kernel) rfl (fun _ => (0, 0)) rfl ?_ ?_
  · intro as S h
    obtain ⟨a, n, rfl, hq⟩ := ip_e_ri h
    exact ⟨Nat.le_of_ble_eq_true rfl, by simp⟩
  intro p e s m args below meth c D cA A ad0 as S h hI hx hb hml hown hts hr hlocks hname hA hNx
  obtain ⟨a, n, rfl, hq⟩ := ip_e_ri h
  have ht := tX4_minutes (D := D) (cA := cA) (A := A) (ad0 := ad0) (l := l) (e := e) (below := below) (S0 := S) (po := postX4_minutes M [.inr (.inl (some a)), .inl n] S) hx hb hml hown hts hr hlocks hname hA hNx
  refine ip_run_ok ht (fun pc loc st S2 hh => ?_) 60 0 _ _ S (vX4_minutes M a n S hI hq)
  obtain ⟨k, hk⟩ := hh
  exact ip_loop ht (iX4_minutes M a n S) (lpX4_minutes M a n S hI hq) k pc loc st S2 hk
