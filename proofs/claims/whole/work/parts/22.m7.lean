def preX5_hold (M : ip_M) : List ip_V → ip_S → Prop := ip_h_rii (fun _ => False) (fun a f m S => a = 50 ∧ ip_eM M S ∧ ip_VV M)
def postX5_hold (M : ip_M) : List ip_V → ip_S → List ip_V → ip_S → Prop := ip_h_rii (fun _ _ _ => True) (fun a f m S r S' => r = [.inl (if ip_isF M f ∧ 0 ≤ m ∧ m ≤ 299 then g_hold M f.toNatClampNeg m.toNatClampNeg else -100)] ∧ S' = (if ip_isF M f ∧ 0 ≤ m ∧ m ≤ 299 then ip_sJ S 50 27 (S.2.2.1 50 27 + g_tb M f.toNatClampNeg) else S))
theorem shX5_hold (M : ip_M) : ∀ as S, ip_Sta S → preX5_hold M as S → ∃ (b : Nat) (as' : List ip_V), as = .inr (.inl (some b)) :: as' ∧ as'.length = 2 ∧ (S.2.2.2 b).1 = 5 := by
  intro as S hI h
  obtain ⟨a, f, m, rfl, hq⟩ := ip_e_rii h
  exact ⟨_, _, rfl, rfl, by rw [hq.1, hI.1 50 (by decide)]; rfl⟩
def rmX5_hold : Room := { frames := 3, cells := 0, slots := 0, locals := 120 }
def pX5_hold (po : List ip_V → ip_S → Prop) : List (Nat × ip_T) := [(0, ip_t_ar 0 1), (1, ip_t_il 1 2), (2, ip_t_callG 2 preX5_isFluid postX5_isFluid 5), (5, ip_t_ifeq 19 8), (8, ip_t_il 2 9), (9, ip_t_ci 0 10), (10, ip_t_ci 299 13), (13, ip_t_call 3 preX5_in postX5_in 16), (16, ip_t_ifne 22 19), (19, ip_t_ci (-100) 21), (21, ip_t_iret po), (22, ip_t_ar 0 23), (23, ip_t_dup 24), (24, ip_t_gJ0 50 27 27), (27, ip_t_ar 0 28), (28, ip_t_gR0 50 55 31), (31, ip_t_il 1 32), (32, ip_t_ld 6 33), (33, ip_t_ifne 40 36), (36, ip_t_cl 1 37), (37, ip_t_go 59), (40, ip_t_ar 0 41), (41, ip_t_gR0 50 55 44), (44, ip_t_il 1 45), (45, ip_t_ld 6 46), (46, ip_t_ci 1 47), (47, ip_t_icne 56 50), (50, ip_t_cl 11 53), (53, ip_t_go 59), (56, ip_t_cl 111 59), (59, ip_t_ladd 60), (60, ip_t_pJ0 50 27 63), (63, ip_t_ar 0 64), (64, ip_t_il 1 65), (65, ip_t_il 2 66), (66, ip_t_callG 3 preX5_holdOf postX5_holdOf 69), (69, ip_t_iret po)]
set_option maxRecDepth 100000 in
set_option maxHeartbeats 4000000 in
theorem tX5_hold {p : Program} {l : Launch} {e : Env} {s : State} {m : MethodId} {args : Array Value} {below : List Frame} {meth : Method} {c : Code} {D : va_G} {cA : Nat → ClassId} {A : Nat → Prop} {ad0 : Nat → Nat} {S0 : ip_S} {po : List ip_V → ip_S → Prop} (hx : p.tables.exec = Jvm.exec) (hb : c.code = cX5_hold) (hml : c.maxLocals = 3) (hown : s.vm.findClass RX5 = some m.cls) (hts : ∀ w ∈ wsX5_hold, w.before args s = true) (hr : meth.sig.returnType = (some .int)) (hlocks : meth.locks = false) (hname : meth.name = yX5_hold.name) (hA : ∀ q, s.heap.size ≤ q → A q) (hNx : ip_Nx s) : ∀ q ∈ pX5_hold po, ip_snd p l e rmX5_hold s m args below meth c D cA A (MQ below (ip_Q ip_Sta D cA ad0 S0 A po) args s 0 0 A) 3 (fun _ => (0, 0)) ip_Sta ad0 S0 q.1 q.2 := by
  have hIs : ∀ S, ip_Sta S → ip_Sta S := fun _ h => h
  have hIn := ip_In_Sta
  have hS9 : CallFix p m c cX5_hold 3 s args wsX5_hold RX5 := ⟨hx, hb, hml, hown, hts⟩
  have hin5 : ∀ w ∈ u_ws RX5 TX5 32, w ∈ wsX5_hold := by decide +kernel
  refine List.forall_mem_cons.mpr ⟨ip_s_aload_n hx hb dX5_hold_0 rfl rfl, ?_⟩
  refine List.forall_mem_cons.mpr ⟨ip_s_iload_n hx hb dX5_hold_1 rfl rfl, ?_⟩
  refine List.forall_mem_cons.mpr ⟨ip_s_G (fun M => ip_s_callV hNx hS9 (ctX5_isFluid l M) (cwV 1 hts gX5_hold_X5_isFluid rfl rfl rfl (by decide +kernel) ⟨Nat.le_of_ble_eq_true rfl, Nat.le_of_ble_eq_true rfl⟩) (ci := 5) rfl rfl (by decide) (fun as S hI h => shX5_isFluid M as S hI h) hA dX5_hold_2 ⟨Nat.le_of_ble_eq_true rfl, Nat.le_of_ble_eq_true rfl⟩ rfl), ?_⟩
  refine List.forall_mem_cons.mpr ⟨ip_s_ifeq (t := 19) hx hb dX5_hold_5 (by decide) rfl rfl, ?_⟩
  refine List.forall_mem_cons.mpr ⟨ip_s_iload_n hx hb dX5_hold_8 rfl rfl, ?_⟩
  refine List.forall_mem_cons.mpr ⟨ip_s_iconst hx hb dX5_hold_9 rfl rfl, ?_⟩
  refine List.forall_mem_cons.mpr ⟨ip_s_sipush hx hb dX5_hold_10 rfl rfl, ?_⟩
  refine List.forall_mem_cons.mpr ⟨ip_s_callS hNx hS9 (ctX5_in l) (va_cwS 3 hts gX5_hold_X5_in rfl rfl rfl (by decide +kernel) ⟨Nat.le_of_ble_eq_true rfl, Nat.le_of_ble_eq_true rfl⟩) (fun as S hI h => shsX5_in as S hI h) hA dX5_hold_13 ⟨Nat.le_of_ble_eq_true rfl, Nat.le_of_ble_eq_true rfl⟩ rfl, ?_⟩
  refine List.forall_mem_cons.mpr ⟨ip_s_ifne (t := 22) hx hb dX5_hold_16 (by decide) rfl rfl, ?_⟩
  refine List.forall_mem_cons.mpr ⟨ip_s_bipush hx hb dX5_hold_19 rfl rfl, ?_⟩
  refine List.forall_mem_cons.mpr ⟨ip_s_iret hx hb hr hlocks (Nat.le_of_ble_eq_true rfl) (Nat.le_of_ble_eq_true rfl) dX5_hold_21, ?_⟩
  refine List.forall_mem_cons.mpr ⟨ip_s_aload_n hx hb dX5_hold_22 rfl rfl, ?_⟩
  refine List.forall_mem_cons.mpr ⟨ip_s_dup hx hb dX5_hold_23 rfl, ?_⟩
  refine List.forall_mem_cons.mpr ⟨ip_s_gJ0 hx hb hts hin5 hown rfl (by decide) 27 (by decide) (hts (.fieldLink RX5 108 "IcePadsModel" "trace" "J") (by decide +kernel)) (fun _ h9 => h9) hIs 50 rfl rfl dX5_hold_24 rfl, ?_⟩
  refine List.forall_mem_cons.mpr ⟨ip_s_aload_n hx hb dX5_hold_27 rfl rfl, ?_⟩
  refine List.forall_mem_cons.mpr ⟨ip_s_gR0 hx hb hts hin5 hown rfl (by decide) 5 (by decide) (hts (.fieldLink RX5 20 "IcePadsModel" "kind" "[I") (by decide +kernel)) (fun _ h9 => h9) hIs 50 55 rfl (by decide) rfl dX5_hold_28 rfl, ?_⟩
  refine List.forall_mem_cons.mpr ⟨ip_s_iload_n hx hb dX5_hold_31 rfl rfl, ?_⟩
  refine List.forall_mem_cons.mpr ⟨ip_s_ldi hx hb hIs dX5_hold_32 rfl, ?_⟩
  refine List.forall_mem_cons.mpr ⟨ip_s_ifne (t := 40) hx hb dX5_hold_33 (by decide) rfl rfl, ?_⟩
  refine List.forall_mem_cons.mpr ⟨ip_s_lconst hx hb dX5_hold_36 rfl rfl, ?_⟩
  refine List.forall_mem_cons.mpr ⟨ip_s_go (t := 59) hx hb dX5_hold_37 (by decide) (Nat.le_of_ble_eq_true rfl) (Nat.le_of_ble_eq_true rfl), ?_⟩
  refine List.forall_mem_cons.mpr ⟨ip_s_aload_n hx hb dX5_hold_40 rfl rfl, ?_⟩
  refine List.forall_mem_cons.mpr ⟨ip_s_gR0 hx hb hts hin5 hown rfl (by decide) 5 (by decide) (hts (.fieldLink RX5 20 "IcePadsModel" "kind" "[I") (by decide +kernel)) (fun _ h9 => h9) hIs 50 55 rfl (by decide) rfl dX5_hold_41 rfl, ?_⟩
  refine List.forall_mem_cons.mpr ⟨ip_s_iload_n hx hb dX5_hold_44 rfl rfl, ?_⟩
  refine List.forall_mem_cons.mpr ⟨ip_s_ldi hx hb hIs dX5_hold_45 rfl, ?_⟩
  refine List.forall_mem_cons.mpr ⟨ip_s_iconst hx hb dX5_hold_46 rfl rfl, ?_⟩
  refine List.forall_mem_cons.mpr ⟨ip_s_icne (t := 56) hx hb dX5_hold_47 (by decide) rfl rfl, ?_⟩
  refine List.forall_mem_cons.mpr ⟨ip_s_ldc2 hx hb hown (hts (.constantLong RX5 112 (11)) (by decide +kernel)) dX5_hold_50 rfl, ?_⟩
  refine List.forall_mem_cons.mpr ⟨ip_s_go (t := 59) hx hb dX5_hold_53 (by decide) (Nat.le_of_ble_eq_true rfl) (Nat.le_of_ble_eq_true rfl), ?_⟩
  refine List.forall_mem_cons.mpr ⟨ip_s_ldc2 hx hb hown (hts (.constantLong RX5 114 (111)) (by decide +kernel)) dX5_hold_56 rfl, ?_⟩
  refine List.forall_mem_cons.mpr ⟨ip_s_ladd hx hb dX5_hold_59 rfl, ?_⟩
  refine List.forall_mem_cons.mpr ⟨ip_s_pJ0 hx hb hts hin5 hown rfl (by decide) 27 (by decide) (hts (.fieldLink RX5 108 "IcePadsModel" "trace" "J") (by decide +kernel)) (fun _ h9 => h9) tyX5 tyX5_ok nmX5 hIn hIs 50 rfl rfl rfl (by decide +kernel) dX5_hold_60 rfl, ?_⟩
  refine List.forall_mem_cons.mpr ⟨ip_s_aload_n hx hb dX5_hold_63 rfl rfl, ?_⟩
  refine List.forall_mem_cons.mpr ⟨ip_s_iload_n hx hb dX5_hold_64 rfl rfl, ?_⟩
  refine List.forall_mem_cons.mpr ⟨ip_s_iload_n hx hb dX5_hold_65 rfl rfl, ?_⟩
  refine List.forall_mem_cons.mpr ⟨ip_s_G (fun M => ip_s_callV hNx hS9 (ctX5_holdOf l M) (cwV 2 hts gX5_hold_X5_holdOf rfl rfl rfl (by decide +kernel) ⟨Nat.le_of_ble_eq_true rfl, Nat.le_of_ble_eq_true rfl⟩) (ci := 5) rfl rfl (by decide) (fun as S hI h => shX5_holdOf M as S hI h) hA dX5_hold_66 ⟨Nat.le_of_ble_eq_true rfl, Nat.le_of_ble_eq_true rfl⟩ rfl), ?_⟩
  refine List.forall_mem_cons.mpr ⟨ip_s_iret hx hb hr hlocks (Nat.le_of_ble_eq_true rfl) (Nat.le_of_ble_eq_true rfl) dX5_hold_69, ?_⟩
  exact fun _ h => absurd h List.not_mem_nil
set_option maxRecDepth 100000 in
set_option maxHeartbeats 4000000 in
theorem vX5_hold (M : ip_M) (a : Nat) (f : Int32) (m : Int32) (S : ip_S) (hS : ip_Sta S) (hp : a = 50 ∧ ip_eM M S ∧ ip_VV M) : ip_run (pX5_hold (postX5_hold M [.inr (.inl (some a)), .inl f, .inl m] S)) (fun _ => false) (fun _ _ _ _ => False) 70 0 [some (.inr (.inl (some a))), some (.inl f), some (.inl m)] [] S := by
  obtain ⟨rfl, hE, nf, nj, np, hv⟩ := hp
  refine Exists.intro M (And.intro (And.intro rfl hE) ?_)
  rintro r S' ⟨rfl, rfl⟩
  refine And.intro (fun q1 => ?_) (fun q1 => ?_)
  · have q1 := ip_if0 q1
    refine And.intro ?_ ?_ <;> rw [if_neg (fun z => q1 z.1)]
  have q1 := ip_if1 q1
  refine And.intro trivial ?_
  rintro r S' ⟨rfl, rfl⟩
  refine And.intro (fun q2 => ?_) (fun q2 => ?_)
  · have q2 := ip_if1 q2
    obtain ⟨i, hi, rfl⟩ := (ip_isF_vv hv f).mp q1
    obtain ⟨hin4, hci⟩ := ip_inN (N := 4) hi hv.1.2.1 (by decide)
    have e55 : S'.1 55 (nI i).toNatClampNeg = M 55 i := by rw [hci]; exact congrFun (hE 55 (by decide)) _
    refine And.intro hin4 ?_
    refine And.intro (fun q3 => ?_) (fun q3 => ?_)
    · rw [e55] at q3
      refine And.intro hin4 ?_
      refine And.intro (fun q4 => ?_) (fun q4 => ?_)
      · rw [e55] at q4
        refine Exists.intro M (And.intro (And.intro rfl (And.intro hE (And.intro ⟨hv.2.1, i, Nat.lt_of_lt_of_le hi hv.1.2.1, rfl, (hv.2.2.2.1 i hi).1⟩ q2))) ?_)
        rintro r S' ⟨rfl, rfl⟩
        refine And.intro ?_ ?_
        · rw [if_pos ⟨q1, q2⟩]
        · rw [if_pos ⟨q1, q2⟩]
          unfold g_tb
          rw [hci, if_neg q3, if_neg q4]
      · rw [e55] at q4
        refine Exists.intro M (And.intro (And.intro rfl (And.intro hE (And.intro ⟨hv.2.1, i, Nat.lt_of_lt_of_le hi hv.1.2.1, rfl, (hv.2.2.2.1 i hi).1⟩ q2))) ?_)
        rintro r S' ⟨rfl, rfl⟩
        refine And.intro ?_ ?_
        · rw [if_pos ⟨q1, q2⟩]
        · rw [if_pos ⟨q1, q2⟩]
          unfold g_tb
          rw [hci, if_neg q3, if_pos q4]
    · rw [e55] at q3
      refine Exists.intro M (And.intro (And.intro rfl (And.intro hE (And.intro ⟨hv.2.1, i, Nat.lt_of_lt_of_le hi hv.1.2.1, rfl, (hv.2.2.2.1 i hi).1⟩ q2))) ?_)
      rintro r S' ⟨rfl, rfl⟩
      refine And.intro ?_ ?_
      · rw [if_pos ⟨q1, q2⟩]
      · rw [if_pos ⟨q1, q2⟩]
        unfold g_tb
        rw [hci, if_pos q3]
  · have q2 := ip_if0 q2
    refine And.intro ?_ ?_ <;> rw [if_neg (fun z => q2 z.2)]
theorem ctX5_hold (l : Launch) (M : ip_M) : ip_CT l yX5_hold wsX5_hold rmX5_hold ip_Sta (preX5_hold M) (postX5_hold M) := by
  refine ip_of (cc := cX5_hold) (maxL := 3) (ret := (some .int)) (by decide +kernel) rfl (fun _ => (0, 0)) rfl ?_ ?_
  · intro as S h
    obtain ⟨a, f, m, rfl, hq⟩ := ip_e_rii h
    exact ⟨Nat.le_of_ble_eq_true rfl, by simp⟩
  intro p e s m args below meth c D cA A ad0 as S h hI hx hb hml hown hts hr hlocks hname hA hNx
  obtain ⟨a, f, m, rfl, hq⟩ := ip_e_rii h
  refine ip_run_ok (stop := fun _ => false) (tX5_hold hx hb hml hown hts hr hlocks hname hA hNx) (fun _ _ _ _ h => False.elim h) 70 0 _ _ S ?_
  exact vX5_hold M a f m S hI hq

def preX5_fill (M : ip_M) : List ip_V → ip_S → Prop := ip_h_rii (fun _ => False) (fun a f n S => a = 50 ∧ ip_eM M S ∧ ip_VV M)
def postX5_fill (M : ip_M) : List ip_V → ip_S → List ip_V → ip_S → Prop := ip_h_rii (fun _ _ _ => True) (fun a f n S r S' => r = [.inl (g_fill M f n).1] ∧ ip_EM (g_fill M f n).2 S S')
theorem shX5_fill (M : ip_M) : ∀ as S, ip_Sta S → preX5_fill M as S → ∃ (b : Nat) (as' : List ip_V), as = .inr (.inl (some b)) :: as' ∧ as'.length = 2 ∧ (S.2.2.2 b).1 = 5 := by
  intro as S hI h
  obtain ⟨a, f, n, rfl, hq⟩ := ip_e_rii h
  exact ⟨_, _, rfl, rfl, by rw [hq.1, hI.1 50 (by decide)]; rfl⟩
def rmX5_fill : Room := { frames := 3, cells := 0, slots := 0, locals := 120 }
def pX5_fill (po : List ip_V → ip_S → Prop) : List (Nat × ip_T) := [(0, ip_t_ar 0 1), (1, ip_t_il 1 2), (2, ip_t_callG 2 preX5_isFluid postX5_isFluid 5), (5, ip_t_ifeq 19 8), (8, ip_t_il 2 9), (9, ip_t_ci 0 10), (10, ip_t_ci 2000 13), (13, ip_t_call 3 preX5_in postX5_in 16), (16, ip_t_ifne 22 19), (19, ip_t_ci (-100) 21), (21, ip_t_iret po), (22, ip_t_ar 0 23), (23, ip_t_gR0 50 59 26), (26, ip_t_il 1 27), (27, ip_t_ld 6 28), (28, ip_t_is 3 29), (29, ip_t_ar 0 30), (30, ip_t_gR0 50 59 33), (33, ip_t_il 1 34), (34, ip_t_il 2 35), (35, ip_t_st 36), (36, ip_t_il 3 37), (37, ip_t_iret po)]
set_option maxRecDepth 100000 in
set_option maxHeartbeats 4000000 in
theorem tX5_fill {p : Program} {l : Launch} {e : Env} {s : State} {m : MethodId} {args : Array Value} {below : List Frame} {meth : Method} {c : Code} {D : va_G} {cA : Nat → ClassId} {A : Nat → Prop} {ad0 : Nat → Nat} {S0 : ip_S} {po : List ip_V → ip_S → Prop} (hx : p.tables.exec = Jvm.exec) (hb : c.code = cX5_fill) (hml : c.maxLocals = 4) (hown : s.vm.findClass RX5 = some m.cls) (hts : ∀ w ∈ wsX5_fill, w.before args s = true) (hr : meth.sig.returnType = (some .int)) (hlocks : meth.locks = false) (hname : meth.name = yX5_fill.name) (hA : ∀ q, s.heap.size ≤ q → A q) (hNx : ip_Nx s) : ∀ q ∈ pX5_fill po, ip_snd p l e rmX5_fill s m args below meth c D cA A (MQ below (ip_Q ip_Sta D cA ad0 S0 A po) args s 0 0 A) 4 (fun _ => (0, 0)) ip_Sta ad0 S0 q.1 q.2 := by
  have hIs : ∀ S, ip_Sta S → ip_Sta S := fun _ h => h
  have hIn := ip_In_Sta
  have hS9 : CallFix p m c cX5_fill 4 s args wsX5_fill RX5 := ⟨hx, hb, hml, hown, hts⟩
  have hin5 : ∀ w ∈ u_ws RX5 TX5 32, w ∈ wsX5_fill := by decide +kernel
  refine List.forall_mem_cons.mpr ⟨ip_s_aload_n hx hb dX5_fill_0 rfl rfl, ?_⟩
  refine List.forall_mem_cons.mpr ⟨ip_s_iload_n hx hb dX5_fill_1 rfl rfl, ?_⟩
  refine List.forall_mem_cons.mpr ⟨ip_s_G (fun M => ip_s_callV hNx hS9 (ctX5_isFluid l M) (cwV 1 hts gX5_fill_X5_isFluid rfl rfl rfl (by decide +kernel) ⟨Nat.le_of_ble_eq_true rfl, Nat.le_of_ble_eq_true rfl⟩) (ci := 5) rfl rfl (by decide) (fun as S hI h => shX5_isFluid M as S hI h) hA dX5_fill_2 ⟨Nat.le_of_ble_eq_true rfl, Nat.le_of_ble_eq_true rfl⟩ rfl), ?_⟩
  refine List.forall_mem_cons.mpr ⟨ip_s_ifeq (t := 19) hx hb dX5_fill_5 (by decide) rfl rfl, ?_⟩
  refine List.forall_mem_cons.mpr ⟨ip_s_iload_n hx hb dX5_fill_8 rfl rfl, ?_⟩
  refine List.forall_mem_cons.mpr ⟨ip_s_iconst hx hb dX5_fill_9 rfl rfl, ?_⟩
  refine List.forall_mem_cons.mpr ⟨ip_s_sipush hx hb dX5_fill_10 rfl rfl, ?_⟩
  refine List.forall_mem_cons.mpr ⟨ip_s_callS hNx hS9 (ctX5_in l) (va_cwS 3 hts gX5_fill_X5_in rfl rfl rfl (by decide +kernel) ⟨Nat.le_of_ble_eq_true rfl, Nat.le_of_ble_eq_true rfl⟩) (fun as S hI h => shsX5_in as S hI h) hA dX5_fill_13 ⟨Nat.le_of_ble_eq_true rfl, Nat.le_of_ble_eq_true rfl⟩ rfl, ?_⟩
  refine List.forall_mem_cons.mpr ⟨ip_s_ifne (t := 22) hx hb dX5_fill_16 (by decide) rfl rfl, ?_⟩
  refine List.forall_mem_cons.mpr ⟨ip_s_bipush hx hb dX5_fill_19 rfl rfl, ?_⟩
  refine List.forall_mem_cons.mpr ⟨ip_s_iret hx hb hr hlocks (Nat.le_of_ble_eq_true rfl) (Nat.le_of_ble_eq_true rfl) dX5_fill_21, ?_⟩
  refine List.forall_mem_cons.mpr ⟨ip_s_aload_n hx hb dX5_fill_22 rfl rfl, ?_⟩
  refine List.forall_mem_cons.mpr ⟨ip_s_gR0 hx hb hts hin5 hown rfl (by decide) 9 (by decide) (hts (.fieldLink RX5 32 "IcePadsModel" "litres" "[I") (by decide +kernel)) (fun _ h9 => h9) hIs 50 59 rfl (by decide) rfl dX5_fill_23 rfl, ?_⟩
  refine List.forall_mem_cons.mpr ⟨ip_s_iload_n hx hb dX5_fill_26 rfl rfl, ?_⟩
  refine List.forall_mem_cons.mpr ⟨ip_s_ldi hx hb hIs dX5_fill_27 rfl, ?_⟩
  refine List.forall_mem_cons.mpr ⟨ip_s_istore_n hx hb dX5_fill_28 rfl (by decide) rfl, ?_⟩
  refine List.forall_mem_cons.mpr ⟨ip_s_aload_n hx hb dX5_fill_29 rfl rfl, ?_⟩
  refine List.forall_mem_cons.mpr ⟨ip_s_gR0 hx hb hts hin5 hown rfl (by decide) 9 (by decide) (hts (.fieldLink RX5 32 "IcePadsModel" "litres" "[I") (by decide +kernel)) (fun _ h9 => h9) hIs 50 59 rfl (by decide) rfl dX5_fill_30 rfl, ?_⟩
  refine List.forall_mem_cons.mpr ⟨ip_s_iload_n hx hb dX5_fill_33 rfl rfl, ?_⟩
  refine List.forall_mem_cons.mpr ⟨ip_s_iload_n hx hb dX5_fill_34 rfl rfl, ?_⟩
  refine List.forall_mem_cons.mpr ⟨ip_s_sti hx hb hIn hIs dX5_fill_35 rfl, ?_⟩
  refine List.forall_mem_cons.mpr ⟨ip_s_iload_n hx hb dX5_fill_36 rfl rfl, ?_⟩
  refine List.forall_mem_cons.mpr ⟨ip_s_iret hx hb hr hlocks (Nat.le_of_ble_eq_true rfl) (Nat.le_of_ble_eq_true rfl) dX5_fill_37, ?_⟩
  exact fun _ h => absurd h List.not_mem_nil
set_option maxRecDepth 100000 in
set_option maxHeartbeats 4000000 in
theorem vX5_fill (M : ip_M) (a : Nat) (f : Int32) (n : Int32) (S : ip_S) (hS : ip_Sta S) (hp : a = 50 ∧ ip_eM M S ∧ ip_VV M) : ip_run (pX5_fill (postX5_fill M [.inr (.inl (some a)), .inl f, .inl n] S)) (fun _ => false) (fun _ _ _ _ => False) 60 0 [some (.inr (.inl (some a))), some (.inl f), some (.inl n), none] [] S := by
  obtain ⟨rfl, hE, nf, nj, np, hv⟩ := hp
  refine Exists.intro M (And.intro (And.intro rfl hE) ?_)
  rintro r S' ⟨rfl, rfl⟩
  refine And.intro (fun q1 => ?_) (fun q1 => ?_)
  · have q1 := ip_if0 q1
    refine And.intro ?_ ?_ <;> unfold g_fill <;> rw [if_neg (fun z => q1 z.1)]
    exact ip_EM.rf hE
  have q1 := ip_if1 q1
  refine And.intro trivial ?_
  rintro r S' ⟨rfl, rfl⟩
  refine And.intro (fun q2 => ?_) (fun q2 => ?_)
  · have q2 := ip_if1 q2
    obtain ⟨i, hi, rfl⟩ := (ip_isF_vv hv f).mp q1
    obtain ⟨hin4, hci⟩ := ip_inN (N := 4) hi hv.1.2.1 (by decide)
    have e59 : S'.1 59 (nI i).toNatClampNeg = M 59 (nI i).toNatClampNeg := congrFun (hE 59 (by decide)) _
    refine And.intro hin4 ?_
    refine And.intro hin4 ?_
    refine And.intro ?_ ?_ <;> unfold g_fill <;> rw [if_pos ⟨q1, q2⟩]
    · rw [e59]
    · exact (ip_EM.rf hE).u (by decide) _ _
  · have q2 := ip_if0 q2
    refine And.intro ?_ ?_ <;> unfold g_fill <;> rw [if_neg (fun z => q2 z.2)]
    exact ip_EM.rf hE
theorem ctX5_fill (l : Launch) (M : ip_M) : ip_CT l yX5_fill wsX5_fill rmX5_fill ip_Sta (preX5_fill M) (postX5_fill M) := by
  refine ip_of (cc := cX5_fill) (maxL := 4) (ret := (some .int)) (by decide +kernel) rfl (fun _ => (0, 0)) rfl ?_ ?_
  · intro as S h
    obtain ⟨a, f, n, rfl, hq⟩ := ip_e_rii h
    exact ⟨Nat.le_of_ble_eq_true rfl, by simp⟩
  intro p e s m args below meth c D cA A ad0 as S h hI hx hb hml hown hts hr hlocks hname hA hNx
  obtain ⟨a, f, n, rfl, hq⟩ := ip_e_rii h
  refine ip_run_ok (stop := fun _ => false) (tX5_fill hx hb hml hown hts hr hlocks hname hA hNx) (fun _ _ _ _ h => False.elim h) 60 0 _ _ S ?_
  exact vX5_fill M a f n S hI hq

def preX5_litres (M : ip_M) : List ip_V → ip_S → Prop := ip_h_ri (fun _ => False) (fun a f S => a = 50 ∧ ip_eM M S ∧ ip_VV M)
def postX5_litres (M : ip_M) : List ip_V → ip_S → List ip_V → ip_S → Prop := ip_h_ri (fun _ _ _ => True) (fun a f S r S' => r = [.inl (g_litres M f)] ∧ S' = S)
theorem shX5_litres (M : ip_M) : ∀ as S, ip_Sta S → preX5_litres M as S → ∃ (b : Nat) (as' : List ip_V), as = .inr (.inl (some b)) :: as' ∧ as'.length = 1 ∧ (S.2.2.2 b).1 = 5 := by
  intro as S hI h
  obtain ⟨a, f, rfl, hq⟩ := ip_e_ri h
  exact ⟨_, _, rfl, rfl, by rw [hq.1, hI.1 50 (by decide)]; rfl⟩
def rmX5_litres : Room := { frames := 3, cells := 0, slots := 0, locals := 120 }
def pX5_litres (po : List ip_V → ip_S → Prop) : List (Nat × ip_T) := [(0, ip_t_ar 0 1), (1, ip_t_il 1 2), (2, ip_t_callG 2 preX5_isFluid postX5_isFluid 5), (5, ip_t_ifeq 17 8), (8, ip_t_ar 0 9), (9, ip_t_gR0 50 59 12), (12, ip_t_il 1 13), (13, ip_t_ld 6 14), (14, ip_t_go 19), (17, ip_t_ci (-100) 19), (19, ip_t_iret po)]
set_option maxRecDepth 100000 in
set_option maxHeartbeats 4000000 in
theorem tX5_litres {p : Program} {l : Launch} {e : Env} {s : State} {m : MethodId} {args : Array Value} {below : List Frame} {meth : Method} {c : Code} {D : va_G} {cA : Nat → ClassId} {A : Nat → Prop} {ad0 : Nat → Nat} {S0 : ip_S} {po : List ip_V → ip_S → Prop} (hx : p.tables.exec = Jvm.exec) (hb : c.code = cX5_litres) (hml : c.maxLocals = 2) (hown : s.vm.findClass RX5 = some m.cls) (hts : ∀ w ∈ wsX5_litres, w.before args s = true) (hr : meth.sig.returnType = (some .int)) (hlocks : meth.locks = false) (hname : meth.name = yX5_litres.name) (hA : ∀ q, s.heap.size ≤ q → A q) (hNx : ip_Nx s) : ∀ q ∈ pX5_litres po, ip_snd p l e rmX5_litres s m args below meth c D cA A (MQ below (ip_Q ip_Sta D cA ad0 S0 A po) args s 0 0 A) 2 (fun _ => (0, 0)) ip_Sta ad0 S0 q.1 q.2 := by
  have hIs : ∀ S, ip_Sta S → ip_Sta S := fun _ h => h
  have hIn := ip_In_Sta
  have hS9 : CallFix p m c cX5_litres 2 s args wsX5_litres RX5 := ⟨hx, hb, hml, hown, hts⟩
  have hin5 : ∀ w ∈ u_ws RX5 TX5 32, w ∈ wsX5_litres := by decide +kernel
  refine List.forall_mem_cons.mpr ⟨ip_s_aload_n hx hb dX5_litres_0 rfl rfl, ?_⟩
  refine List.forall_mem_cons.mpr ⟨ip_s_iload_n hx hb dX5_litres_1 rfl rfl, ?_⟩
  refine List.forall_mem_cons.mpr ⟨ip_s_G (fun M => ip_s_callV hNx hS9 (ctX5_isFluid l M) (cwV 1 hts gX5_litres_X5_isFluid rfl rfl rfl (by decide +kernel) ⟨Nat.le_of_ble_eq_true rfl, Nat.le_of_ble_eq_true rfl⟩) (ci := 5) rfl rfl (by decide) (fun as S hI h => shX5_isFluid M as S hI h) hA dX5_litres_2 ⟨Nat.le_of_ble_eq_true rfl, Nat.le_of_ble_eq_true rfl⟩ rfl), ?_⟩
  refine List.forall_mem_cons.mpr ⟨ip_s_ifeq (t := 17) hx hb dX5_litres_5 (by decide) rfl rfl, ?_⟩
  refine List.forall_mem_cons.mpr ⟨ip_s_aload_n hx hb dX5_litres_8 rfl rfl, ?_⟩
  refine List.forall_mem_cons.mpr ⟨ip_s_gR0 hx hb hts hin5 hown rfl (by decide) 9 (by decide) (hts (.fieldLink RX5 32 "IcePadsModel" "litres" "[I") (by decide +kernel)) (fun _ h9 => h9) hIs 50 59 rfl (by decide) rfl dX5_litres_9 rfl, ?_⟩
  refine List.forall_mem_cons.mpr ⟨ip_s_iload_n hx hb dX5_litres_12 rfl rfl, ?_⟩
  refine List.forall_mem_cons.mpr ⟨ip_s_ldi hx hb hIs dX5_litres_13 rfl, ?_⟩
  refine List.forall_mem_cons.mpr ⟨ip_s_go (t := 19) hx hb dX5_litres_14 (by decide) (Nat.le_of_ble_eq_true rfl) (Nat.le_of_ble_eq_true rfl), ?_⟩
  refine List.forall_mem_cons.mpr ⟨ip_s_bipush hx hb dX5_litres_17 rfl rfl, ?_⟩
  refine List.forall_mem_cons.mpr ⟨ip_s_iret hx hb hr hlocks (Nat.le_of_ble_eq_true rfl) (Nat.le_of_ble_eq_true rfl) dX5_litres_19, ?_⟩
  exact fun _ h => absurd h List.not_mem_nil
set_option maxRecDepth 100000 in
set_option maxHeartbeats 4000000 in
theorem vX5_litres (M : ip_M) (a : Nat) (f : Int32) (S : ip_S) (hS : ip_Sta S) (hp : a = 50 ∧ ip_eM M S ∧ ip_VV M) : ip_run (pX5_litres (postX5_litres M [.inr (.inl (some a)), .inl f] S)) (fun _ => false) (fun _ _ _ _ => False) 40 0 [some (.inr (.inl (some a))), some (.inl f)] [] S := by
  obtain ⟨rfl, hE, nf, nj, np, hv⟩ := hp
  refine Exists.intro M (And.intro (And.intro rfl hE) ?_)
  rintro r S' ⟨rfl, rfl⟩
  refine And.intro (fun q1 => ?_) (fun q1 => ?_)
  · have q1 := ip_if0 q1
    refine And.intro ?_ rfl
    unfold g_litres
    rw [if_neg q1]
  have q1 := ip_if1 q1
  obtain ⟨i, hi, rfl⟩ := (ip_isF_vv hv f).mp q1
  obtain ⟨hin4, hci⟩ := ip_inN (N := 4) hi hv.1.2.1 (by decide)
  have e59 : S'.1 59 (nI i).toNatClampNeg = M 59 (nI i).toNatClampNeg := congrFun (hE 59 (by decide)) _
  refine And.intro hin4 ?_
  refine And.intro ?_ rfl
  unfold g_litres
  rw [if_pos q1, e59]
theorem ctX5_litres (l : Launch) (M : ip_M) : ip_CT l yX5_litres wsX5_litres rmX5_litres ip_Sta (preX5_litres M) (postX5_litres M) := by
  refine ip_of (cc := cX5_litres) (maxL := 2) (ret := (some .int)) (by decide +kernel) rfl (fun _ => (0, 0)) rfl ?_ ?_
  · intro as S h
    obtain ⟨a, f, rfl, hq⟩ := ip_e_ri h
    exact ⟨Nat.le_of_ble_eq_true rfl, by simp⟩
  intro p e s m args below meth c D cA A ad0 as S h hI hx hb hml hown hts hr hlocks hname hA hNx
  obtain ⟨a, f, rfl, hq⟩ := ip_e_ri h
  refine ip_run_ok (stop := fun _ => false) (tX5_litres hx hb hml hown hts hr hlocks hname hA hNx) (fun _ _ _ _ h => False.elim h) 40 0 _ _ S ?_
  exact vX5_litres M a f S hI hq

def preX5_trace : List ip_V → ip_S → Prop := ip_h_r (fun _ => False) (fun a S => a = 50 ∧ True)
def postX5_trace : List ip_V → ip_S → List ip_V → ip_S → Prop := ip_h_r (fun _ _ _ => True) (fun a S r S' => r = [.inr (.inr (S.2.2.1 50 27))] ∧ S' = S)
theorem shX5_trace : ∀ as S, ip_Sta S → preX5_trace as S → ∃ (b : Nat) (as' : List ip_V), as = .inr (.inl (some b)) :: as' ∧ as'.length = 0 ∧ (S.2.2.2 b).1 = 5 := by
  intro as S hI h
  obtain ⟨a, rfl, hq⟩ := ip_e_r h
  exact ⟨_, _, rfl, rfl, by rw [hq.1, hI.1 50 (by decide)]; rfl⟩
def rmX5_trace : Room := { frames := 1, cells := 0, slots := 0, locals := 40 }
def pX5_trace (po : List ip_V → ip_S → Prop) : List (Nat × ip_T) := [(0, ip_t_ar 0 1), (1, ip_t_gJ0 50 27 4), (4, ip_t_lret po)]
set_option maxRecDepth 100000 in
set_option maxHeartbeats 4000000 in
theorem tX5_trace {p : Program} {l : Launch} {e : Env} {s : State} {m : MethodId} {args : Array Value} {below : List Frame} {meth : Method} {c : Code} {D : va_G} {cA : Nat → ClassId} {A : Nat → Prop} {ad0 : Nat → Nat} {S0 : ip_S} {po : List ip_V → ip_S → Prop} (hx : p.tables.exec = Jvm.exec) (hb : c.code = cX5_trace) (hml : c.maxLocals = 1) (hown : s.vm.findClass RX5 = some m.cls) (hts : ∀ w ∈ wsX5_trace, w.before args s = true) (hr : meth.sig.returnType = (some .long)) (hlocks : meth.locks = false) (hname : meth.name = yX5_trace.name) (hA : ∀ q, s.heap.size ≤ q → A q) (hNx : ip_Nx s) : ∀ q ∈ pX5_trace po, ip_snd p l e rmX5_trace s m args below meth c D cA A (MQ below (ip_Q ip_Sta D cA ad0 S0 A po) args s 0 0 A) 1 (fun _ => (0, 0)) ip_Sta ad0 S0 q.1 q.2 := by
  have hIs : ∀ S, ip_Sta S → ip_Sta S := fun _ h => h
  have hIn := ip_In_Sta
  have hS9 : CallFix p m c cX5_trace 1 s args wsX5_trace RX5 := ⟨hx, hb, hml, hown, hts⟩
  have hin5 : ∀ w ∈ u_ws RX5 TX5 32, w ∈ wsX5_trace := by decide +kernel
  refine List.forall_mem_cons.mpr ⟨ip_s_aload_n hx hb dX5_trace_0 rfl rfl, ?_⟩
  refine List.forall_mem_cons.mpr ⟨ip_s_gJ0 hx hb hts hin5 hown rfl (by decide) 27 (by decide) (hts (.fieldLink RX5 108 "IcePadsModel" "trace" "J") (by decide +kernel)) (fun _ h9 => h9) hIs 50 rfl rfl dX5_trace_1 rfl, ?_⟩
  refine List.forall_mem_cons.mpr ⟨ip_s_lret hx hb hr hlocks (Nat.le_of_ble_eq_true rfl) (Nat.le_of_ble_eq_true rfl) dX5_trace_4, ?_⟩
  exact fun _ h => absurd h List.not_mem_nil
set_option maxRecDepth 100000 in
set_option maxHeartbeats 4000000 in
theorem vX5_trace (a : Nat) (S : ip_S) (hS : ip_Sta S) (hp : a = 50 ∧ True) : ip_run (pX5_trace (postX5_trace [.inr (.inl (some a))] S)) (fun _ => false) (fun _ _ _ _ => False) 20 0 [some (.inr (.inl (some a)))] [] S := by
  obtain ⟨rfl, -⟩ := hp
  exact And.intro rfl rfl
theorem ctX5_trace (l : Launch) : ip_CT l yX5_trace wsX5_trace rmX5_trace ip_Sta (preX5_trace) (postX5_trace) := by
  refine ip_of (cc := cX5_trace) (maxL := 1) (ret := (some .long)) (by decide +kernel) rfl (fun _ => (0, 0)) rfl ?_ ?_
  · intro as S h
    obtain ⟨a, rfl, hq⟩ := ip_e_r h
    exact ⟨Nat.le_of_ble_eq_true rfl, by simp⟩
  intro p e s m args below meth c D cA A ad0 as S h hI hx hb hml hown hts hr hlocks hname hA hNx
  obtain ⟨a, rfl, hq⟩ := ip_e_r h
  refine ip_run_ok (stop := fun _ => false) (tX5_trace hx hb hml hown hts hr hlocks hname hA hNx) (fun _ _ _ _ h => False.elim h) 20 0 _ _ S ?_
  exact vX5_trace a S hI hq

def preX5_set (M : ip_M) : List ip_V → ip_S → Prop := ip_h_rii (fun _ => False) (fun a w v S => a = 50 ∧ ip_eM M S)
def postX5_set (M : ip_M) : List ip_V → ip_S → List ip_V → ip_S → Prop := ip_h_rii (fun _ _ _ => True) (fun a w v S r S' => r = [.inl (g_set M w v).1] ∧ ip_EM (g_set M w v).2 S S')
theorem shX5_set (M : ip_M) : ∀ as S, ip_Sta S → preX5_set M as S → ∃ (b : Nat) (as' : List ip_V), as = .inr (.inl (some b)) :: as' ∧ as'.length = 2 ∧ (S.2.2.2 b).1 = 5 := by
  intro as S hI h
  obtain ⟨a, w, v, rfl, hq⟩ := ip_e_rii h
  exact ⟨_, _, rfl, rfl, by rw [hq.1, hI.1 50 (by decide)]; rfl⟩
def rmX5_set : Room := { frames := 2, cells := 0, slots := 0, locals := 80 }
def pX5_set (po : List ip_V → ip_S → Prop) : List (Nat × ip_T) := [(0, ip_t_ci (-100) 2), (2, ip_t_is 3 3), (3, ip_t_il 1 4), (4, ip_t_ifne 56 7), (7, ip_t_il 2 8), (8, ip_t_ci 1 9), (9, ip_t_ci 3 10), (10, ip_t_call 3 preX5_in postX5_in 13), (13, ip_t_ifeq 56 16), (16, ip_t_ar 0 17), (17, ip_t_gR0 50 64 20), (20, ip_t_ci 0 21), (21, ip_t_ld 6 22), (22, ip_t_ar 0 23), (23, ip_t_gR0 50 64 26), (26, ip_t_ci 1 27), (27, ip_t_ld 6 28), (28, ip_t_iadd 29), (29, ip_t_ar 0 30), (30, ip_t_gR0 50 64 33), (33, ip_t_ci 2 34), (34, ip_t_ld 6 35), (35, ip_t_iadd 36), (36, ip_t_ifle 43 39), (39, ip_t_ci (-200) 42), (42, ip_t_iret po), (43, ip_t_ar 0 44), (44, ip_t_gI0 50 10 47), (47, ip_t_is 3 48), (48, ip_t_ar 0 49), (49, ip_t_il 2 50), (50, ip_t_pI0 50 10 53), (53, ip_t_go 111), (56, ip_t_il 1 57), (57, ip_t_ci 1 58), (58, ip_t_icne 86 61), (61, ip_t_il 2 62), (62, ip_t_ci 10 64), (64, ip_t_ci 1000 67), (67, ip_t_call 3 preX5_in postX5_in 70), (70, ip_t_ifeq 86 73), (73, ip_t_ar 0 74), (74, ip_t_gI0 50 11 77), (77, ip_t_is 3 78), (78, ip_t_ar 0 79), (79, ip_t_il 2 80), (80, ip_t_pI0 50 11 83), (83, ip_t_go 111), (86, ip_t_il 1 87), (87, ip_t_ci 2 88), (88, ip_t_icne 111 91), (91, ip_t_il 2 92), (92, ip_t_ci 0 93), (93, ip_t_ci 50 95), (95, ip_t_call 3 preX5_in postX5_in 98), (98, ip_t_ifeq 111 101), (101, ip_t_ar 0 102), (102, ip_t_gI0 50 12 105), (105, ip_t_is 3 106), (106, ip_t_ar 0 107), (107, ip_t_il 2 108), (108, ip_t_pI0 50 12 111), (111, ip_t_il 3 112), (112, ip_t_iret po)]
set_option maxRecDepth 100000 in
set_option maxHeartbeats 4000000 in
theorem tX5_set {p : Program} {l : Launch} {e : Env} {s : State} {m : MethodId} {args : Array Value} {below : List Frame} {meth : Method} {c : Code} {D : va_G} {cA : Nat → ClassId} {A : Nat → Prop} {ad0 : Nat → Nat} {S0 : ip_S} {po : List ip_V → ip_S → Prop} (hx : p.tables.exec = Jvm.exec) (hb : c.code = cX5_set) (hml : c.maxLocals = 4) (hown : s.vm.findClass RX5 = some m.cls) (hts : ∀ w ∈ wsX5_set, w.before args s = true) (hr : meth.sig.returnType = (some .int)) (hlocks : meth.locks = false) (hname : meth.name = yX5_set.name) (hA : ∀ q, s.heap.size ≤ q → A q) (hNx : ip_Nx s) : ∀ q ∈ pX5_set po, ip_snd p l e rmX5_set s m args below meth c D cA A (MQ below (ip_Q ip_Sta D cA ad0 S0 A po) args s 0 0 A) 4 (fun _ => (0, 0)) ip_Sta ad0 S0 q.1 q.2 := by
  have hIs : ∀ S, ip_Sta S → ip_Sta S := fun _ h => h
  have hIn := ip_In_Sta
  have hS9 : CallFix p m c cX5_set 4 s args wsX5_set RX5 := ⟨hx, hb, hml, hown, hts⟩
  have hin5 : ∀ w ∈ u_ws RX5 TX5 32, w ∈ wsX5_set := by decide +kernel
  refine List.forall_mem_cons.mpr ⟨ip_s_bipush hx hb dX5_set_0 rfl rfl, ?_⟩
  refine List.forall_mem_cons.mpr ⟨ip_s_istore_n hx hb dX5_set_2 rfl (by decide) rfl, ?_⟩
  refine List.forall_mem_cons.mpr ⟨ip_s_iload_n hx hb dX5_set_3 rfl rfl, ?_⟩
  refine List.forall_mem_cons.mpr ⟨ip_s_ifne (t := 56) hx hb dX5_set_4 (by decide) rfl rfl, ?_⟩
  refine List.forall_mem_cons.mpr ⟨ip_s_iload_n hx hb dX5_set_7 rfl rfl, ?_⟩
  refine List.forall_mem_cons.mpr ⟨ip_s_iconst hx hb dX5_set_8 rfl rfl, ?_⟩
  refine List.forall_mem_cons.mpr ⟨ip_s_iconst hx hb dX5_set_9 rfl rfl, ?_⟩
  refine List.forall_mem_cons.mpr ⟨ip_s_callS hNx hS9 (ctX5_in l) (va_cwS 3 hts gX5_set_X5_in rfl rfl rfl (by decide +kernel) ⟨Nat.le_of_ble_eq_true rfl, Nat.le_of_ble_eq_true rfl⟩) (fun as S hI h => shsX5_in as S hI h) hA dX5_set_10 ⟨Nat.le_of_ble_eq_true rfl, Nat.le_of_ble_eq_true rfl⟩ rfl, ?_⟩
  refine List.forall_mem_cons.mpr ⟨ip_s_ifeq (t := 56) hx hb dX5_set_13 (by decide) rfl rfl, ?_⟩
  refine List.forall_mem_cons.mpr ⟨ip_s_aload_n hx hb dX5_set_16 rfl rfl, ?_⟩
  refine List.forall_mem_cons.mpr ⟨ip_s_gR0 hx hb hts hin5 hown rfl (by decide) 14 (by decide) (hts (.fieldLink RX5 45 "IcePadsModel" "onPad" "[I") (by decide +kernel)) (fun _ h9 => h9) hIs 50 64 rfl (by decide) rfl dX5_set_17 rfl, ?_⟩
  refine List.forall_mem_cons.mpr ⟨ip_s_iconst hx hb dX5_set_20 rfl rfl, ?_⟩
  refine List.forall_mem_cons.mpr ⟨ip_s_ldi hx hb hIs dX5_set_21 rfl, ?_⟩
  refine List.forall_mem_cons.mpr ⟨ip_s_aload_n hx hb dX5_set_22 rfl rfl, ?_⟩
  refine List.forall_mem_cons.mpr ⟨ip_s_gR0 hx hb hts hin5 hown rfl (by decide) 14 (by decide) (hts (.fieldLink RX5 45 "IcePadsModel" "onPad" "[I") (by decide +kernel)) (fun _ h9 => h9) hIs 50 64 rfl (by decide) rfl dX5_set_23 rfl, ?_⟩
  refine List.forall_mem_cons.mpr ⟨ip_s_iconst hx hb dX5_set_26 rfl rfl, ?_⟩
  refine List.forall_mem_cons.mpr ⟨ip_s_ldi hx hb hIs dX5_set_27 rfl, ?_⟩
  refine List.forall_mem_cons.mpr ⟨ip_s_iadd hx hb dX5_set_28 rfl, ?_⟩
  refine List.forall_mem_cons.mpr ⟨ip_s_aload_n hx hb dX5_set_29 rfl rfl, ?_⟩
  refine List.forall_mem_cons.mpr ⟨ip_s_gR0 hx hb hts hin5 hown rfl (by decide) 14 (by decide) (hts (.fieldLink RX5 45 "IcePadsModel" "onPad" "[I") (by decide +kernel)) (fun _ h9 => h9) hIs 50 64 rfl (by decide) rfl dX5_set_30 rfl, ?_⟩
  refine List.forall_mem_cons.mpr ⟨ip_s_iconst hx hb dX5_set_33 rfl rfl, ?_⟩
  refine List.forall_mem_cons.mpr ⟨ip_s_ldi hx hb hIs dX5_set_34 rfl, ?_⟩
  refine List.forall_mem_cons.mpr ⟨ip_s_iadd hx hb dX5_set_35 rfl, ?_⟩
  refine List.forall_mem_cons.mpr ⟨ip_s_ifle (t := 43) hx hb dX5_set_36 (by decide) rfl rfl, ?_⟩
  refine List.forall_mem_cons.mpr ⟨ip_s_sipush hx hb dX5_set_39 rfl rfl, ?_⟩
  refine List.forall_mem_cons.mpr ⟨ip_s_iret hx hb hr hlocks (Nat.le_of_ble_eq_true rfl) (Nat.le_of_ble_eq_true rfl) dX5_set_42, ?_⟩
  refine List.forall_mem_cons.mpr ⟨ip_s_aload_n hx hb dX5_set_43 rfl rfl, ?_⟩
  refine List.forall_mem_cons.mpr ⟨ip_s_gI0 hx hb hts hin5 hown rfl (by decide) 10 (by decide) (hts (.fieldLink RX5 35 "IcePadsModel" "pads" "I") (by decide +kernel)) (fun _ h9 => h9) hIs 50 rfl rfl dX5_set_44 rfl, ?_⟩
  refine List.forall_mem_cons.mpr ⟨ip_s_istore_n hx hb dX5_set_47 rfl (by decide) rfl, ?_⟩
  refine List.forall_mem_cons.mpr ⟨ip_s_aload_n hx hb dX5_set_48 rfl rfl, ?_⟩
  refine List.forall_mem_cons.mpr ⟨ip_s_iload_n hx hb dX5_set_49 rfl rfl, ?_⟩
  refine List.forall_mem_cons.mpr ⟨ip_s_pI0 hx hb hts hin5 hown rfl (by decide) 10 (by decide) (hts (.fieldLink RX5 35 "IcePadsModel" "pads" "I") (by decide +kernel)) (fun _ h9 => h9) tyX5 tyX5_ok nmX5 hIn hIs 50 rfl rfl rfl (by decide +kernel) dX5_set_50 rfl, ?_⟩
  refine List.forall_mem_cons.mpr ⟨ip_s_go (t := 111) hx hb dX5_set_53 (by decide) (Nat.le_of_ble_eq_true rfl) (Nat.le_of_ble_eq_true rfl), ?_⟩
  refine List.forall_mem_cons.mpr ⟨ip_s_iload_n hx hb dX5_set_56 rfl rfl, ?_⟩
  refine List.forall_mem_cons.mpr ⟨ip_s_iconst hx hb dX5_set_57 rfl rfl, ?_⟩
  refine List.forall_mem_cons.mpr ⟨ip_s_icne (t := 86) hx hb dX5_set_58 (by decide) rfl rfl, ?_⟩
  refine List.forall_mem_cons.mpr ⟨ip_s_iload_n hx hb dX5_set_61 rfl rfl, ?_⟩
  refine List.forall_mem_cons.mpr ⟨ip_s_bipush hx hb dX5_set_62 rfl rfl, ?_⟩
  refine List.forall_mem_cons.mpr ⟨ip_s_sipush hx hb dX5_set_64 rfl rfl, ?_⟩
  refine List.forall_mem_cons.mpr ⟨ip_s_callS hNx hS9 (ctX5_in l) (va_cwS 3 hts gX5_set_X5_in rfl rfl rfl (by decide +kernel) ⟨Nat.le_of_ble_eq_true rfl, Nat.le_of_ble_eq_true rfl⟩) (fun as S hI h => shsX5_in as S hI h) hA dX5_set_67 ⟨Nat.le_of_ble_eq_true rfl, Nat.le_of_ble_eq_true rfl⟩ rfl, ?_⟩
  refine List.forall_mem_cons.mpr ⟨ip_s_ifeq (t := 86) hx hb dX5_set_70 (by decide) rfl rfl, ?_⟩
  refine List.forall_mem_cons.mpr ⟨ip_s_aload_n hx hb dX5_set_73 rfl rfl, ?_⟩
  refine List.forall_mem_cons.mpr ⟨ip_s_gI0 hx hb hts hin5 hown rfl (by decide) 11 (by decide) (hts (.fieldLink RX5 39 "IcePadsModel" "limit" "I") (by decide +kernel)) (fun _ h9 => h9) hIs 50 rfl rfl dX5_set_74 rfl, ?_⟩
  refine List.forall_mem_cons.mpr ⟨ip_s_istore_n hx hb dX5_set_77 rfl (by decide) rfl, ?_⟩
  refine List.forall_mem_cons.mpr ⟨ip_s_aload_n hx hb dX5_set_78 rfl rfl, ?_⟩
  refine List.forall_mem_cons.mpr ⟨ip_s_iload_n hx hb dX5_set_79 rfl rfl, ?_⟩
  refine List.forall_mem_cons.mpr ⟨ip_s_pI0 hx hb hts hin5 hown rfl (by decide) 11 (by decide) (hts (.fieldLink RX5 39 "IcePadsModel" "limit" "I") (by decide +kernel)) (fun _ h9 => h9) tyX5 tyX5_ok nmX5 hIn hIs 50 rfl rfl rfl (by decide +kernel) dX5_set_80 rfl, ?_⟩
  refine List.forall_mem_cons.mpr ⟨ip_s_go (t := 111) hx hb dX5_set_83 (by decide) (Nat.le_of_ble_eq_true rfl) (Nat.le_of_ble_eq_true rfl), ?_⟩
  refine List.forall_mem_cons.mpr ⟨ip_s_iload_n hx hb dX5_set_86 rfl rfl, ?_⟩
  refine List.forall_mem_cons.mpr ⟨ip_s_iconst hx hb dX5_set_87 rfl rfl, ?_⟩
  refine List.forall_mem_cons.mpr ⟨ip_s_icne (t := 111) hx hb dX5_set_88 (by decide) rfl rfl, ?_⟩
  refine List.forall_mem_cons.mpr ⟨ip_s_iload_n hx hb dX5_set_91 rfl rfl, ?_⟩
  refine List.forall_mem_cons.mpr ⟨ip_s_iconst hx hb dX5_set_92 rfl rfl, ?_⟩
  refine List.forall_mem_cons.mpr ⟨ip_s_bipush hx hb dX5_set_93 rfl rfl, ?_⟩
  refine List.forall_mem_cons.mpr ⟨ip_s_callS hNx hS9 (ctX5_in l) (va_cwS 3 hts gX5_set_X5_in rfl rfl rfl (by decide +kernel) ⟨Nat.le_of_ble_eq_true rfl, Nat.le_of_ble_eq_true rfl⟩) (fun as S hI h => shsX5_in as S hI h) hA dX5_set_95 ⟨Nat.le_of_ble_eq_true rfl, Nat.le_of_ble_eq_true rfl⟩ rfl, ?_⟩
  refine List.forall_mem_cons.mpr ⟨ip_s_ifeq (t := 111) hx hb dX5_set_98 (by decide) rfl rfl, ?_⟩
  refine List.forall_mem_cons.mpr ⟨ip_s_aload_n hx hb dX5_set_101 rfl rfl, ?_⟩
  refine List.forall_mem_cons.mpr ⟨ip_s_gI0 hx hb hts hin5 hown rfl (by decide) 12 (by decide) (hts (.fieldLink RX5 42 "IcePadsModel" "rate" "I") (by decide +kernel)) (fun _ h9 => h9) hIs 50 rfl rfl dX5_set_102 rfl, ?_⟩
  refine List.forall_mem_cons.mpr ⟨ip_s_istore_n hx hb dX5_set_105 rfl (by decide) rfl, ?_⟩
  refine List.forall_mem_cons.mpr ⟨ip_s_aload_n hx hb dX5_set_106 rfl rfl, ?_⟩
  refine List.forall_mem_cons.mpr ⟨ip_s_iload_n hx hb dX5_set_107 rfl rfl, ?_⟩
  refine List.forall_mem_cons.mpr ⟨ip_s_pI0 hx hb hts hin5 hown rfl (by decide) 12 (by decide) (hts (.fieldLink RX5 42 "IcePadsModel" "rate" "I") (by decide +kernel)) (fun _ h9 => h9) tyX5 tyX5_ok nmX5 hIn hIs 50 rfl rfl rfl (by decide +kernel) dX5_set_108 rfl, ?_⟩
  refine List.forall_mem_cons.mpr ⟨ip_s_iload_n hx hb dX5_set_111 rfl rfl, ?_⟩
  refine List.forall_mem_cons.mpr ⟨ip_s_iret hx hb hr hlocks (Nat.le_of_ble_eq_true rfl) (Nat.le_of_ble_eq_true rfl) dX5_set_112, ?_⟩
  exact fun _ h => absurd h List.not_mem_nil
set_option maxRecDepth 100000 in
set_option maxHeartbeats 4000000 in
theorem vX5_set (M : ip_M) (a : Nat) (w : Int32) (v : Int32) (S : ip_S) (hS : ip_Sta S) (hp : a = 50 ∧ ip_eM M S) : ip_run (pX5_set (postX5_set M [.inr (.inl (some a)), .inl w, .inl v] S)) (fun _ => false) (fun _ _ _ _ => False) 80 0 [some (.inr (.inl (some a))), some (.inl w), some (.inl v), none] [] S := by
  obtain ⟨rfl, hE⟩ := hp
  have e10 : S.1 50 10 = M 50 10 := congrFun (hE 50 (by decide)) _
  have e11 : S.1 50 11 = M 50 11 := congrFun (hE 50 (by decide)) _
  have e12 : S.1 50 12 = M 50 12 := congrFun (hE 50 (by decide)) _
  have hg0 : w = 0 ∧ 1 ≤ v ∧ v ≤ 3 → (0 < M 64 0 + M 64 1 + M 64 2) → g_set M w v = (-200, M) := fun h h2 => by unfold g_set; rw [if_pos h, if_pos h2]
  have hg1 : w = 0 ∧ 1 ≤ v ∧ v ≤ 3 → ¬ (0 < M 64 0 + M 64 1 + M 64 2) → g_set M w v = (M 50 10, ip_u M 50 10 v) := fun h h2 => by unfold g_set; rw [if_pos h, if_neg h2]
  have hg2 : ¬ (w = 0 ∧ 1 ≤ v ∧ v ≤ 3) → (w = 1 ∧ 10 ≤ v ∧ v ≤ 1000) → g_set M w v = (M 50 11, ip_u M 50 11 v) := fun h h2 => by unfold g_set; rw [if_neg h, if_pos h2]
  have hg3 : ¬ (w = 0 ∧ 1 ≤ v ∧ v ≤ 3) → ¬ (w = 1 ∧ 10 ≤ v ∧ v ≤ 1000) → (w = 2 ∧ 0 ≤ v ∧ v ≤ 50) → g_set M w v = (M 50 12, ip_u M 50 12 v) := fun h h1 h2 => by unfold g_set; rw [if_neg h, if_neg h1, if_pos h2]
  have hg4 : ¬ (w = 0 ∧ 1 ≤ v ∧ v ≤ 3) → ¬ (w = 1 ∧ 10 ≤ v ∧ v ≤ 1000) → ¬ (w = 2 ∧ 0 ≤ v ∧ v ≤ 50) → g_set M w v = (-100, M) := fun h h1 h2 => by unfold g_set; rw [if_neg h, if_neg h1, if_neg h2]
  have h01 : (0 : Int32) ≠ 1 := by decide
  have h02 : (0 : Int32) ≠ 2 := by decide
  have h12 : (1 : Int32) ≠ 2 := by decide
  refine And.intro (fun q1 => ?_) (fun q1 => ?_)
  · refine And.intro (fun q2 => ?_) (fun q2 => ?_)
    · refine And.intro (fun q3 => ?_) (fun q3 => ?_)
      · refine And.intro ?_ ?_ <;> rw [hg4 (fun z => q1 z.1) (fun z => q2 z.1) (fun z => q3 z.1)]
        exact ip_EM.rf hE
      · refine And.intro trivial ?_
        rintro r S' ⟨rfl, rfl⟩
        refine And.intro (fun q4 => ?_) (fun q4 => ?_)
        · refine And.intro ?_ ?_ <;> rw [hg4 (fun z => q1 z.1) (fun z => q2 z.1) (fun z => ip_if0 q4 z.2)]
          exact ip_EM.rf hE
        · refine And.intro ?_ ?_ <;> rw [hg3 (fun z => q1 z.1) (fun z => q2 z.1) ⟨q3, ip_if1 q4⟩]
          · rw [e12]
          · exact (ip_EM.rf hE).u (by decide) _ _
    · refine And.intro trivial ?_
      rintro r S' ⟨rfl, rfl⟩
      refine And.intro (fun q4 => ?_) (fun q4 => ?_)
      · refine And.intro (fun q5 => ?_) (fun q5 => ?_)
        · refine And.intro ?_ ?_ <;> rw [hg4 (fun z => q1 z.1) (fun z => ip_if0 q4 z.2) (fun z => q5 z.1)]
          exact ip_EM.rf hE
        · exact absurd (q2.symm.trans q5) h12
      · refine And.intro ?_ ?_ <;> rw [hg2 (fun z => q1 z.1) ⟨q2, ip_if1 q4⟩]
        · rw [e11]
        · exact (ip_EM.rf hE).u (by decide) _ _
  · refine And.intro trivial ?_
    rintro r S' ⟨rfl, rfl⟩
    refine And.intro (fun q2 => ?_) (fun q2 => ?_)
    · refine And.intro (fun q3 => ?_) (fun q3 => ?_)
      · refine And.intro (fun q4 => ?_) (fun q4 => ?_)
        · refine And.intro ?_ ?_ <;> rw [hg4 (fun z => ip_if0 q2 z.2) (fun z => q3 z.1) (fun z => q4 z.1)]
          exact ip_EM.rf hE
        · exact absurd (q1.symm.trans q4) h02
      · exact absurd (q1.symm.trans q3) h01
    · have e0 : S'.1 64 0 = M 64 0 := congrFun (hE 64 (by decide)) _
      have e1 : S'.1 64 1 = M 64 1 := congrFun (hE 64 (by decide)) _
      have e2 : S'.1 64 2 = M 64 2 := congrFun (hE 64 (by decide)) _
      refine And.intro (vp_in_nI (n := 0) (by decide) (by decide)) ?_
      refine And.intro (vp_in_nI (n := 1) (by decide) (by decide)) ?_
      refine And.intro (vp_in_nI (n := 2) (by decide) (by decide)) ?_
      refine And.intro (fun q3 => ?_) (fun q3 => ?_)
      · have q3 : S'.1 64 0 + S'.1 64 1 + S'.1 64 2 ≤ 0 := q3
        rw [e0, e1, e2] at q3
        refine And.intro ?_ ?_ <;> rw [hg1 ⟨q1, ip_if1 q2⟩ (Int32.not_lt.mpr q3)]
        · rw [e10]
        · exact (ip_EM.rf hE).u (by decide) _ _
      · have q3 : ¬ S'.1 64 0 + S'.1 64 1 + S'.1 64 2 ≤ 0 := q3
        rw [e0, e1, e2] at q3
        refine And.intro ?_ ?_ <;> rw [hg0 ⟨q1, ip_if1 q2⟩ (Int32.not_le.mp q3)]
        exact ip_EM.rf hE
theorem ctX5_set (l : Launch) (M : ip_M) : ip_CT l yX5_set wsX5_set rmX5_set ip_Sta (preX5_set M) (postX5_set M) := by
  refine ip_of (cc := cX5_set) (maxL := 4) (ret := (some .int)) (by decide +kernel) rfl (fun _ => (0, 0)) rfl ?_ ?_
  · intro as S h
    obtain ⟨a, w, v, rfl, hq⟩ := ip_e_rii h
    exact ⟨Nat.le_of_ble_eq_true rfl, by simp⟩
  intro p e s m args below meth c D cA A ad0 as S h hI hx hb hml hown hts hr hlocks hname hA hNx
  obtain ⟨a, w, v, rfl, hq⟩ := ip_e_rii h
  refine ip_run_ok (stop := fun _ => false) (tX5_set hx hb hml hown hts hr hlocks hname hA hNx) (fun _ _ _ _ h => False.elim h) 80 0 _ _ S ?_
  exact vX5_set M a w v S hI hq
