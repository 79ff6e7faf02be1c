def preX5_known (M : ip_M) : List ip_V → ip_S → Prop := ip_h_rii (fun _ => False) (fun a m w S => a = 50 ∧ ip_eM M S ∧ ip_VV M)
def postX5_known (M : ip_M) : List ip_V → ip_S → List ip_V → ip_S → Prop := ip_h_rii (fun _ _ _ => True) (fun a m w S r S' => r = [.inl (g_known M m w)] ∧ S' = S)
theorem shX5_known (M : ip_M) : ∀ as S, ip_Sta S → preX5_known M as S → ∃ (b : Nat) (as' : List ip_V), as = .inr (.inl (some b)) :: as' ∧ as'.length = 2 ∧ (S.2.2.2 b).1 = 5 := by
  intro as S hI h
  obtain ⟨a, m, w, rfl, hq⟩ := ip_e_rii h
  exact ⟨_, _, rfl, rfl, by rw [hq.1, hI.1 50 (by decide)]; rfl⟩
def rmX5_known : Room := { frames := 2, cells := 0, slots := 0, locals := 80 }
def pX5_known (po : List ip_V → ip_S → Prop) : List (Nat × ip_T) := [(0, ip_t_il 1 1), (1, ip_t_ci 0 2), (2, ip_t_ci 299 5), (5, ip_t_call 3 preX5_in postX5_in 8), (8, ip_t_ifeq 20 11), (11, ip_t_il 2 12), (12, ip_t_ci 0 13), (13, ip_t_ci 2 14), (14, ip_t_call 3 preX5_in postX5_in 17), (17, ip_t_ifne 23 20), (20, ip_t_ci (-100) 22), (22, ip_t_iret po), (23, ip_t_il 2 24), (24, ip_t_ifne 35 27), (27, ip_t_ar 0 28), (28, ip_t_il 1 29), (29, ip_t_callG 2 preX5_coldOf postX5_coldOf 32), (32, ip_t_go 62), (35, ip_t_il 2 36), (36, ip_t_ci 1 37), (37, ip_t_icne 48 40), (40, ip_t_ar 0 41), (41, ip_t_il 1 42), (42, ip_t_callG 2 preX5_fallOf postX5_fallOf 45), (45, ip_t_go 62), (48, ip_t_ar 0 49), (49, ip_t_gR0 50 51 52), (52, ip_t_il 1 53), (53, ip_t_ld 7 54), (54, ip_t_ifeq 61 57), (57, ip_t_ci 1 58), (58, ip_t_go 62), (61, ip_t_ci 0 62), (62, ip_t_iret po)]
set_option maxRecDepth 100000 in
set_option maxHeartbeats 4000000 in
theorem tX5_known {p : Program} {l : Launch} {e : Env} {s : State} {m : MethodId} {args : Array Value} {below : List Frame} {meth : Method} {c : Code} {D : va_G} {cA : Nat → ClassId} {A : Nat → Prop} {ad0 : Nat → Nat} {S0 : ip_S} {po : List ip_V → ip_S → Prop} (hx : p.tables.exec = Jvm.exec) (hb : c.code = cX5_known) (hml : c.maxLocals = 3) (hown : s.vm.findClass RX5 = some m.cls) (hts : ∀ w ∈ wsX5_known, w.before args s = true) (hr : meth.sig.returnType = (some .int)) (hlocks : meth.locks = false) (hname : meth.name = yX5_known.name) (hA : ∀ q, s.heap.size ≤ q → A q) (hNx : ip_Nx s) : ∀ q ∈ pX5_known po, ip_snd p l e rmX5_known s m args below meth c D cA A (MQ below (ip_Q ip_Sta D cA ad0 S0 A po) args s 0 0 A) 3 (fun _ => (0, 0)) ip_Sta ad0 S0 q.1 q.2 := by
  have hIs : ∀ S, ip_Sta S → ip_Sta S := fun _ h => h
  have hIn := ip_In_Sta
  have hS9 : CallFix p m c cX5_known 3 s args wsX5_known RX5 := ⟨hx, hb, hml, hown, hts⟩
  have hin5 : ∀ w ∈ u_ws RX5 TX5 32, w ∈ wsX5_known := by decide +kernel
  refine List.forall_mem_cons.mpr ⟨ip_s_iload_n hx hb dX5_known_0 rfl rfl, ?_⟩
  refine List.forall_mem_cons.mpr ⟨ip_s_iconst hx hb dX5_known_1 rfl rfl, ?_⟩
  refine List.forall_mem_cons.mpr ⟨ip_s_sipush hx hb dX5_known_2 rfl rfl, ?_⟩
  refine List.forall_mem_cons.mpr ⟨ip_s_callS hNx hS9 (ctX5_in l) (va_cwS 3 hts gX5_known_X5_in rfl rfl rfl (by decide +kernel) ⟨Nat.le_of_ble_eq_true rfl, Nat.le_of_ble_eq_true rfl⟩) (fun as S hI h => shsX5_in as S hI h) hA dX5_known_5 ⟨Nat.le_of_ble_eq_true rfl, Nat.le_of_ble_eq_true rfl⟩ rfl, ?_⟩
  refine List.forall_mem_cons.mpr ⟨ip_s_ifeq (t := 20) hx hb dX5_known_8 (by decide) rfl rfl, ?_⟩
  refine List.forall_mem_cons.mpr ⟨ip_s_iload_n hx hb dX5_known_11 rfl rfl, ?_⟩
  refine List.forall_mem_cons.mpr ⟨ip_s_iconst hx hb dX5_known_12 rfl rfl, ?_⟩
  refine List.forall_mem_cons.mpr ⟨ip_s_iconst hx hb dX5_known_13 rfl rfl, ?_⟩
  refine List.forall_mem_cons.mpr ⟨ip_s_callS hNx hS9 (ctX5_in l) (va_cwS 3 hts gX5_known_X5_in rfl rfl rfl (by decide +kernel) ⟨Nat.le_of_ble_eq_true rfl, Nat.le_of_ble_eq_true rfl⟩) (fun as S hI h => shsX5_in as S hI h) hA dX5_known_14 ⟨Nat.le_of_ble_eq_true rfl, Nat.le_of_ble_eq_true rfl⟩ rfl, ?_⟩
  refine List.forall_mem_cons.mpr ⟨ip_s_ifne (t := 23) hx hb dX5_known_17 (by decide) rfl rfl, ?_⟩
  refine List.forall_mem_cons.mpr ⟨ip_s_bipush hx hb dX5_known_20 rfl rfl, ?_⟩
  refine List.forall_mem_cons.mpr ⟨ip_s_iret hx hb hr hlocks (Nat.le_of_ble_eq_true rfl) (Nat.le_of_ble_eq_true rfl) dX5_known_22, ?_⟩
  refine List.forall_mem_cons.mpr ⟨ip_s_iload_n hx hb dX5_known_23 rfl rfl, ?_⟩
  refine List.forall_mem_cons.mpr ⟨ip_s_ifne (t := 35) hx hb dX5_known_24 (by decide) rfl rfl, ?_⟩
  refine List.forall_mem_cons.mpr ⟨ip_s_aload_n hx hb dX5_known_27 rfl rfl, ?_⟩
  refine List.forall_mem_cons.mpr ⟨ip_s_iload_n hx hb dX5_known_28 rfl rfl, ?_⟩
  refine List.forall_mem_cons.mpr ⟨ip_s_G (fun M => ip_s_callV hNx hS9 (ctX5_coldOf l M) (cwV 1 hts gX5_known_X5_coldOf rfl rfl rfl (by decide +kernel) ⟨Nat.le_of_ble_eq_true rfl, Nat.le_of_ble_eq_true rfl⟩) (ci := 5) rfl rfl (by decide) (fun as S hI h => shX5_coldOf M as S hI h) hA dX5_known_29 ⟨Nat.le_of_ble_eq_true rfl, Nat.le_of_ble_eq_true rfl⟩ rfl), ?_⟩
  refine List.forall_mem_cons.mpr ⟨ip_s_go (t := 62) hx hb dX5_known_32 (by decide) (Nat.le_of_ble_eq_true rfl) (Nat.le_of_ble_eq_true rfl), ?_⟩
  refine List.forall_mem_cons.mpr ⟨ip_s_iload_n hx hb dX5_known_35 rfl rfl, ?_⟩
  refine List.forall_mem_cons.mpr ⟨ip_s_iconst hx hb dX5_known_36 rfl rfl, ?_⟩
  refine List.forall_mem_cons.mpr ⟨ip_s_icne (t := 48) hx hb dX5_known_37 (by decide) rfl rfl, ?_⟩
  refine List.forall_mem_cons.mpr ⟨ip_s_aload_n hx hb dX5_known_40 rfl rfl, ?_⟩
  refine List.forall_mem_cons.mpr ⟨ip_s_iload_n hx hb dX5_known_41 rfl rfl, ?_⟩
  refine List.forall_mem_cons.mpr ⟨ip_s_G (fun M => ip_s_callV hNx hS9 (ctX5_fallOf l M) (cwV 1 hts gX5_known_X5_fallOf rfl rfl rfl (by decide +kernel) ⟨Nat.le_of_ble_eq_true rfl, Nat.le_of_ble_eq_true rfl⟩) (ci := 5) rfl rfl (by decide) (fun as S hI h => shX5_fallOf M as S hI h) hA dX5_known_42 ⟨Nat.le_of_ble_eq_true rfl, Nat.le_of_ble_eq_true rfl⟩ rfl), ?_⟩
  refine List.forall_mem_cons.mpr ⟨ip_s_go (t := 62) hx hb dX5_known_45 (by decide) (Nat.le_of_ble_eq_true rfl) (Nat.le_of_ble_eq_true rfl), ?_⟩
  refine List.forall_mem_cons.mpr ⟨ip_s_aload_n hx hb dX5_known_48 rfl rfl, ?_⟩
  refine List.forall_mem_cons.mpr ⟨ip_s_gR0 hx hb hts hin5 hown rfl (by decide) 1 (by decide) (hts (.fieldLink RX5 7 "IcePadsModel" "isTold" "[Z") (by decide +kernel)) (fun _ h9 => h9) hIs 50 51 rfl (by decide) rfl dX5_known_49 rfl, ?_⟩
  refine List.forall_mem_cons.mpr ⟨ip_s_iload_n hx hb dX5_known_52 rfl rfl, ?_⟩
  refine List.forall_mem_cons.mpr ⟨ip_s_ldz hx hb hIs dX5_known_53 rfl, ?_⟩
  refine List.forall_mem_cons.mpr ⟨ip_s_ifeq (t := 61) hx hb dX5_known_54 (by decide) rfl rfl, ?_⟩
  refine List.forall_mem_cons.mpr ⟨ip_s_iconst hx hb dX5_known_57 rfl rfl, ?_⟩
  refine List.forall_mem_cons.mpr ⟨ip_s_go (t := 62) hx hb dX5_known_58 (by decide) (Nat.le_of_ble_eq_true rfl) (Nat.le_of_ble_eq_true rfl), ?_⟩
  refine List.forall_mem_cons.mpr ⟨ip_s_iconst hx hb dX5_known_61 rfl rfl, ?_⟩
  refine List.forall_mem_cons.mpr ⟨ip_s_iret hx hb hr hlocks (Nat.le_of_ble_eq_true rfl) (Nat.le_of_ble_eq_true rfl) dX5_known_62, ?_⟩
  exact fun _ h => absurd h List.not_mem_nil
set_option maxRecDepth 100000 in
set_option maxHeartbeats 4000000 in
theorem vX5_known (M : ip_M) (a : Nat) (m : Int32) (w : Int32) (S : ip_S) (hS : ip_Sta S) (hp : a = 50 ∧ ip_eM M S ∧ ip_VV M) : ip_run (pX5_known (postX5_known M [.inr (.inl (some a)), .inl m, .inl w] S)) (fun _ => false) (fun _ _ _ _ => False) 60 0 [some (.inr (.inl (some a))), some (.inl m), some (.inl w)] [] S := by
  obtain ⟨rfl, hE, nf, nj, np, hv⟩ := hp
  refine And.intro trivial ?_
  rintro r S' ⟨rfl, rfl⟩
  refine And.intro (fun q1 => ?_) (fun q1 => ?_)
  · refine And.intro ?_ rfl
    unfold g_known
    rw [if_neg (ip_if0 q1)]
  have q1 := ip_if1 q1
  have e1 : S'.1 51 m.toNatClampNeg = M 51 m.toNatClampNeg := congrFun (hE 51 (by decide)) _
  refine And.intro trivial ?_
  rintro r S' ⟨rfl, rfl⟩
  refine And.intro (fun q2 => ?_) (fun q2 => ?_)
  · have q2 := ip_w2.mp (ip_if1 q2)
    refine And.intro (fun q3 => ?_) (fun q3 => ?_)
    · refine And.intro (fun q4 => ?_) (fun q4 => ?_)
      · have q5 : w = 2 := by rcases q2 with h | h | h; exact absurd h q3; exact absurd h q4; exact h
        refine And.intro (ip_in q1 rfl) ?_
        refine And.intro (fun q6 => ?_) (fun q6 => ?_)
        · rw [e1] at q6
          refine And.intro ?_ rfl
          unfold g_known
          rw [if_pos q1, if_neg q3, if_neg q4, if_pos q5, if_pos q6]
        · rw [e1] at q6
          refine And.intro ?_ rfl
          unfold g_known
          rw [if_pos q1, if_neg q3, if_neg q4, if_pos q5, if_neg q6]
      · refine Exists.intro M (And.intro (And.intro rfl (And.intro hE (And.intro hv.2.1 q1))) ?_)
        rintro r S' ⟨rfl, rfl⟩
        refine And.intro ?_ rfl
        unfold g_known
        rw [if_pos q1, if_neg q3, if_pos q4]
    · refine Exists.intro M (And.intro (And.intro rfl (And.intro hE (And.intro hv.2.1 q1))) ?_)
      rintro r S' ⟨rfl, rfl⟩
      refine And.intro ?_ rfl
      unfold g_known
      rw [if_pos q1, if_pos q3]
  · have q2 := ip_if0 q2
    refine And.intro ?_ rfl
    unfold g_known
    rw [if_pos q1, if_neg (fun z => q2 (ip_w2.mpr (Or.inl z))), if_neg (fun z => q2 (ip_w2.mpr (Or.inr (Or.inl z)))), if_neg (fun z => q2 (ip_w2.mpr (Or.inr (Or.inr z))))]
theorem ctX5_known (l : Launch) (M : ip_M) : ip_CT l yX5_known wsX5_known rmX5_known ip_Sta (preX5_known M) (postX5_known M) := by
  refine ip_of (cc := cX5_known) (maxL := 3) (ret := (some .int)) (by decide +kernel) rfl (fun _ => (0, 0)) rfl ?_ ?_
  · intro as S h
    obtain ⟨a, m, w, rfl, hq⟩ := ip_e_rii h
    exact ⟨Nat.le_of_ble_eq_true rfl, by simp⟩
  intro p e s m args below meth c D cA A ad0 as S h hI hx hb hml hown hts hr hlocks hname hA hNx
  obtain ⟨a, m, w, rfl, hq⟩ := ip_e_rii h
  refine ip_run_ok (stop := fun _ => false) (tX5_known hx hb hml hown hts hr hlocks hname hA hNx) (fun _ _ _ _ h => False.elim h) 60 0 _ _ S ?_
  exact vX5_known M a m w S hI hq

def preX5_isFluid (M : ip_M) : List ip_V → ip_S → Prop := ip_h_ri (fun _ => False) (fun a f S => a = 50 ∧ ip_eM M S)
def postX5_isFluid (M : ip_M) : List ip_V → ip_S → List ip_V → ip_S → Prop := ip_h_ri (fun _ _ _ => True) (fun a f S r S' => r = [.inl (if ip_isF M f then 1 else 0)] ∧ S' = S)
theorem shX5_isFluid (M : ip_M) : ∀ as S, ip_Sta S → preX5_isFluid M as S → ∃ (b : Nat) (as' : List ip_V), as = .inr (.inl (some b)) :: as' ∧ as'.length = 1 ∧ (S.2.2.2 b).1 = 5 := by
  intro as S hI h
  obtain ⟨a, f, rfl, hq⟩ := ip_e_ri h
  exact ⟨_, _, rfl, rfl, by rw [hq.1, hI.1 50 (by decide)]; rfl⟩
def rmX5_isFluid : Room := { frames := 2, cells := 0, slots := 0, locals := 80 }
def pX5_isFluid (po : List ip_V → ip_S → Prop) : List (Nat × ip_T) := [(0, ip_t_il 1 1), (1, ip_t_ci 0 2), (2, ip_t_ar 0 3), (3, ip_t_gI0 50 4 6), (6, ip_t_ci 1 7), (7, ip_t_isub 8), (8, ip_t_call 3 preX5_in postX5_in 11), (11, ip_t_zret po)]
set_option maxRecDepth 100000 in
set_option maxHeartbeats 4000000 in
theorem tX5_isFluid {p : Program} {l : Launch} {e : Env} {s : State} {m : MethodId} {args : Array Value} {below : List Frame} {meth : Method} {c : Code} {D : va_G} {cA : Nat → ClassId} {A : Nat → Prop} {ad0 : Nat → Nat} {S0 : ip_S} {po : List ip_V → ip_S → Prop} (hx : p.tables.exec = Jvm.exec) (hb : c.code = cX5_isFluid) (hml : c.maxLocals = 2) (hown : s.vm.findClass RX5 = some m.cls) (hts : ∀ w ∈ wsX5_isFluid, w.before args s = true) (hr : meth.sig.returnType = (some .boolean)) (hlocks : meth.locks = false) (hname : meth.name = yX5_isFluid.name) (hA : ∀ q, s.heap.size ≤ q → A q) (hNx : ip_Nx s) : ∀ q ∈ pX5_isFluid po, ip_snd p l e rmX5_isFluid s m args below meth c D cA A (MQ below (ip_Q ip_Sta D cA ad0 S0 A po) args s 0 0 A) 2 (fun _ => (0, 0)) ip_Sta ad0 S0 q.1 q.2 := by
  have hIs : ∀ S, ip_Sta S → ip_Sta S := fun _ h => h
  have hIn := ip_In_Sta
  have hS9 : CallFix p m c cX5_isFluid 2 s args wsX5_isFluid RX5 := ⟨hx, hb, hml, hown, hts⟩
  have hin5 : ∀ w ∈ u_ws RX5 TX5 32, w ∈ wsX5_isFluid := by decide +kernel
  refine List.forall_mem_cons.mpr ⟨ip_s_iload_n hx hb dX5_isFluid_0 rfl rfl, ?_⟩
  refine List.forall_mem_cons.mpr ⟨ip_s_iconst hx hb dX5_isFluid_1 rfl rfl, ?_⟩
  refine List.forall_mem_cons.mpr ⟨ip_s_aload_n hx hb dX5_isFluid_2 rfl rfl, ?_⟩
  refine List.forall_mem_cons.mpr ⟨ip_s_gI0 hx hb hts hin5 hown rfl (by decide) 4 (by decide) (hts (.fieldLink RX5 101 "IcePadsModel" "fluids" "I") (by decide +kernel)) (fun _ h9 => h9) hIs 50 rfl rfl dX5_isFluid_3 rfl, ?_⟩
  refine List.forall_mem_cons.mpr ⟨ip_s_iconst hx hb dX5_isFluid_6 rfl rfl, ?_⟩
  refine List.forall_mem_cons.mpr ⟨ip_s_isub hx hb dX5_isFluid_7 rfl, ?_⟩
  refine List.forall_mem_cons.mpr ⟨ip_s_callS hNx hS9 (ctX5_in l) (va_cwS 3 hts gX5_isFluid_X5_in rfl rfl rfl (by decide +kernel) ⟨Nat.le_of_ble_eq_true rfl, Nat.le_of_ble_eq_true rfl⟩) (fun as S hI h => shsX5_in as S hI h) hA dX5_isFluid_8 ⟨Nat.le_of_ble_eq_true rfl, Nat.le_of_ble_eq_true rfl⟩ rfl, ?_⟩
  refine List.forall_mem_cons.mpr ⟨ip_s_zret hx hb hr hlocks (Nat.le_of_ble_eq_true rfl) (Nat.le_of_ble_eq_true rfl) dX5_isFluid_11, ?_⟩
  exact fun _ h => absurd h List.not_mem_nil
set_option maxRecDepth 100000 in
set_option maxHeartbeats 4000000 in
theorem vX5_isFluid (M : ip_M) (a : Nat) (f : Int32) (S : ip_S) (hS : ip_Sta S) (hp : a = 50 ∧ ip_eM M S) : ip_run (pX5_isFluid (postX5_isFluid M [.inr (.inl (some a)), .inl f] S)) (fun _ => false) (fun _ _ _ _ => False) 30 0 [some (.inr (.inl (some a))), some (.inl f)] [] S := by
  obtain ⟨rfl, hE⟩ := hp
  have e1 : S.1 50 4 = M 50 4 := congrFun (hE 50 (by decide)) _
  refine And.intro trivial ?_
  rintro r S' ⟨rfl, rfl⟩
  refine And.intro ip_01 (And.intro ?_ rfl)
  rw [e1]
theorem ctX5_isFluid (l : Launch) (M : ip_M) : ip_CT l yX5_isFluid wsX5_isFluid rmX5_isFluid ip_Sta (preX5_isFluid M) (postX5_isFluid M) := by
  refine ip_of (cc := cX5_isFluid) (maxL := 2) (ret := (some .boolean)) (by decide +kernel) rfl (fun _ => (0, 0)) rfl ?_ ?_
  · intro as S h
    obtain ⟨a, f, rfl, hq⟩ := ip_e_ri h
    exact ⟨Nat.le_of_ble_eq_true rfl, by simp⟩
  intro p e s m args below meth c D cA A ad0 as S h hI hx hb hml hown hts hr hlocks hname hA hNx
  obtain ⟨a, f, rfl, hq⟩ := ip_e_ri h
  refine ip_run_ok (stop := fun _ => false) (tX5_isFluid hx hb hml hown hts hr hlocks hname hA hNx) (fun _ _ _ _ h => False.elim h) 30 0 _ _ S ?_
  exact vX5_isFluid M a f S hI hq

def preX5_holdOf (M : ip_M) : List ip_V → ip_S → Prop := ip_h_rii (fun _ => False) (fun a f m S => a = 50 ∧ ip_eM M S ∧ (ip_vw M ∧ ∃ i, i < 4 ∧ f = nI i ∧ (M 55 i = 0 ∨ M 55 i = 1 ∨ M 55 i = 2)) ∧ 0 ≤ m ∧ m ≤ 299)
def postX5_holdOf (M : ip_M) : List ip_V → ip_S → List ip_V → ip_S → Prop := ip_h_rii (fun _ _ _ => True) (fun a f m S r S' => r = [.inl (g_hold M f.toNatClampNeg m.toNatClampNeg)] ∧ S' = S)
theorem shX5_holdOf (M : ip_M) : ∀ as S, ip_Sta S → preX5_holdOf M as S → ∃ (b : Nat) (as' : List ip_V), as = .inr (.inl (some b)) :: as' ∧ as'.length = 2 ∧ (S.2.2.2 b).1 = 5 := by
  intro as S hI h
  obtain ⟨a, f, m, rfl, hq⟩ := ip_e_rii h
  exact ⟨_, _, rfl, rfl, by rw [hq.1, hI.1 50 (by decide)]; rfl⟩
def rmX5_holdOf : Room := { frames := 2, cells := 0, slots := 0, locals := 80 }
def pX5_holdOf (po : List ip_V → ip_S → Prop) : List (Nat × ip_T) := [(0, ip_t_ar 0 1), (1, ip_t_gR0 50 56 4), (4, ip_t_ci 4 5), (5, ip_t_il 1 6), (6, ip_t_imul 7), (7, ip_t_ar 0 8), (8, ip_t_il 2 9), (9, ip_t_callG 2 preX5_fallOf postX5_fallOf 12), (12, ip_t_iadd 13), (13, ip_t_ld 6 14), (14, ip_t_is 3 15), (15, ip_t_ar 0 16), (16, ip_t_il 2 17), (17, ip_t_callG 2 preX5_coldOf postX5_coldOf 20), (20, ip_t_ci (-10) 22), (22, ip_t_icge 31 25), (25, ip_t_il 3 26), (26, ip_t_ci 2 27), (27, ip_t_idiv 28), (28, ip_t_go 32), (31, ip_t_il 3 32), (32, ip_t_is 3 33), (33, ip_t_ar 0 34), (34, ip_t_gR0 50 55 37), (37, ip_t_il 1 38), (38, ip_t_ld 6 39), (39, ip_t_ifle 53 42), (42, ip_t_il 3 43), (43, ip_t_ar 0 44), (44, ip_t_gR0 50 57 47), (47, ip_t_il 1 48), (48, ip_t_ld 6 49), (49, ip_t_imul 50), (50, ip_t_go 54), (53, ip_t_il 3 54), (54, ip_t_is 3 55), (55, ip_t_ar 0 56), (56, ip_t_gR0 50 55 59), (59, ip_t_il 1 60), (60, ip_t_ld 6 61), (61, ip_t_ci 2 62), (62, ip_t_icne 79 65), (65, ip_t_il 3 66), (66, ip_t_ar 0 67), (67, ip_t_gR0 50 58 70), (70, ip_t_il 1 71), (71, ip_t_ld 6 72), (72, ip_t_imul 73), (73, ip_t_ci 10 75), (75, ip_t_idiv 76), (76, ip_t_go 80), (79, ip_t_il 3 80), (80, ip_t_iret po)]
set_option maxRecDepth 100000 in
set_option maxHeartbeats 4000000 in
theorem tX5_holdOf {p : Program} {l : Launch} {e : Env} {s : State} {m : MethodId} {args : Array Value} {below : List Frame} {meth : Method} {c : Code} {D : va_G} {cA : Nat → ClassId} {A : Nat → Prop} {ad0 : Nat → Nat} {S0 : ip_S} {po : List ip_V → ip_S → Prop} (hx : p.tables.exec = Jvm.exec) (hb : c.code = cX5_holdOf) (hml : c.maxLocals = 4) (hown : s.vm.findClass RX5 = some m.cls) (hts : ∀ w ∈ wsX5_holdOf, w.before args s = true) (hr : meth.sig.returnType = (some .int)) (hlocks : meth.locks = false) (hname : meth.name = yX5_holdOf.name) (hA : ∀ q, s.heap.size ≤ q → A q) (hNx : ip_Nx s) : ∀ q ∈ pX5_holdOf po, ip_snd p l e rmX5_holdOf s m args below meth c D cA A (MQ below (ip_Q ip_Sta D cA ad0 S0 A po) args s 0 0 A) 4 (fun _ => (0, 0)) ip_Sta ad0 S0 q.1 q.2 := by
  have hIs : ∀ S, ip_Sta S → ip_Sta S := fun _ h => h
  have hIn := ip_In_Sta
  have hS9 : CallFix p m c cX5_holdOf 4 s args wsX5_holdOf RX5 := ⟨hx, hb, hml, hown, hts⟩
  have hin5 : ∀ w ∈ u_ws RX5 TX5 32, w ∈ wsX5_holdOf := by decide +kernel
  refine List.forall_mem_cons.mpr ⟨ip_s_aload_n hx hb dX5_holdOf_0 rfl rfl, ?_⟩
  refine List.forall_mem_cons.mpr ⟨ip_s_gR0 hx hb hts hin5 hown rfl (by decide) 6 (by decide) (hts (.fieldLink RX5 23 "IcePadsModel" "span" "[I") (by decide +kernel)) (fun _ h9 => h9) hIs 50 56 rfl (by decide) rfl dX5_holdOf_1 rfl, ?_⟩
  refine List.forall_mem_cons.mpr ⟨ip_s_iconst hx hb dX5_holdOf_4 rfl rfl, ?_⟩
  refine List.forall_mem_cons.mpr ⟨ip_s_iload_n hx hb dX5_holdOf_5 rfl rfl, ?_⟩
  refine List.forall_mem_cons.mpr ⟨ip_s_imul hx hb dX5_holdOf_6 rfl, ?_⟩
  refine List.forall_mem_cons.mpr ⟨ip_s_aload_n hx hb dX5_holdOf_7 rfl rfl, ?_⟩
  refine List.forall_mem_cons.mpr ⟨ip_s_iload_n hx hb dX5_holdOf_8 rfl rfl, ?_⟩
  refine List.forall_mem_cons.mpr ⟨ip_s_G (fun M => ip_s_callV hNx hS9 (ctX5_fallOf l M) (cwV 1 hts gX5_holdOf_X5_fallOf rfl rfl rfl (by decide +kernel) ⟨Nat.le_of_ble_eq_true rfl, Nat.le_of_ble_eq_true rfl⟩) (ci := 5) rfl rfl (by decide) (fun as S hI h => shX5_fallOf M as S hI h) hA dX5_holdOf_9 ⟨Nat.le_of_ble_eq_true rfl, Nat.le_of_ble_eq_true rfl⟩ rfl), ?_⟩
  refine List.forall_mem_cons.mpr ⟨ip_s_iadd hx hb dX5_holdOf_12 rfl, ?_⟩
  refine List.forall_mem_cons.mpr ⟨ip_s_ldi hx hb hIs dX5_holdOf_13 rfl, ?_⟩
  refine List.forall_mem_cons.mpr ⟨ip_s_istore_n hx hb dX5_holdOf_14 rfl (by decide) rfl, ?_⟩
  refine List.forall_mem_cons.mpr ⟨ip_s_aload_n hx hb dX5_holdOf_15 rfl rfl, ?_⟩
  refine List.forall_mem_cons.mpr ⟨ip_s_iload_n hx hb dX5_holdOf_16 rfl rfl, ?_⟩
  refine List.forall_mem_cons.mpr ⟨ip_s_G (fun M => ip_s_callV hNx hS9 (ctX5_coldOf l M) (cwV 1 hts gX5_holdOf_X5_coldOf rfl rfl rfl (by decide +kernel) ⟨Nat.le_of_ble_eq_true rfl, Nat.le_of_ble_eq_true rfl⟩) (ci := 5) rfl rfl (by decide) (fun as S hI h => shX5_coldOf M as S hI h) hA dX5_holdOf_17 ⟨Nat.le_of_ble_eq_true rfl, Nat.le_of_ble_eq_true rfl⟩ rfl), ?_⟩
  refine List.forall_mem_cons.mpr ⟨ip_s_bipush hx hb dX5_holdOf_20 rfl rfl, ?_⟩
  refine List.forall_mem_cons.mpr ⟨ip_s_icge (t := 31) hx hb dX5_holdOf_22 (by decide) rfl rfl, ?_⟩
  refine List.forall_mem_cons.mpr ⟨ip_s_iload_n hx hb dX5_holdOf_25 rfl rfl, ?_⟩
  refine List.forall_mem_cons.mpr ⟨ip_s_iconst hx hb dX5_holdOf_26 rfl rfl, ?_⟩
  refine List.forall_mem_cons.mpr ⟨ip_s_idiv hx hb dX5_holdOf_27 rfl, ?_⟩
  refine List.forall_mem_cons.mpr ⟨ip_s_go (t := 32) hx hb dX5_holdOf_28 (by decide) (Nat.le_of_ble_eq_true rfl) (Nat.le_of_ble_eq_true rfl), ?_⟩
  refine List.forall_mem_cons.mpr ⟨ip_s_iload_n hx hb dX5_holdOf_31 rfl rfl, ?_⟩
  refine List.forall_mem_cons.mpr ⟨ip_s_istore_n hx hb dX5_holdOf_32 rfl (by decide) rfl, ?_⟩
  refine List.forall_mem_cons.mpr ⟨ip_s_aload_n hx hb dX5_holdOf_33 rfl rfl, ?_⟩
  refine List.forall_mem_cons.mpr ⟨ip_s_gR0 hx hb hts hin5 hown rfl (by decide) 5 (by decide) (hts (.fieldLink RX5 20 "IcePadsModel" "kind" "[I") (by decide +kernel)) (fun _ h9 => h9) hIs 50 55 rfl (by decide) rfl dX5_holdOf_34 rfl, ?_⟩
  refine List.forall_mem_cons.mpr ⟨ip_s_iload_n hx hb dX5_holdOf_37 rfl rfl, ?_⟩
  refine List.forall_mem_cons.mpr ⟨ip_s_ldi hx hb hIs dX5_holdOf_38 rfl, ?_⟩
  refine List.forall_mem_cons.mpr ⟨ip_s_ifle (t := 53) hx hb dX5_holdOf_39 (by decide) rfl rfl, ?_⟩
  refine List.forall_mem_cons.mpr ⟨ip_s_iload_n hx hb dX5_holdOf_42 rfl rfl, ?_⟩
  refine List.forall_mem_cons.mpr ⟨ip_s_aload_n hx hb dX5_holdOf_43 rfl rfl, ?_⟩
  refine List.forall_mem_cons.mpr ⟨ip_s_gR0 hx hb hts hin5 hown rfl (by decide) 7 (by decide) (hts (.fieldLink RX5 26 "IcePadsModel" "times" "[I") (by decide +kernel)) (fun _ h9 => h9) hIs 50 57 rfl (by decide) rfl dX5_holdOf_44 rfl, ?_⟩
  refine List.forall_mem_cons.mpr ⟨ip_s_iload_n hx hb dX5_holdOf_47 rfl rfl, ?_⟩
  refine List.forall_mem_cons.mpr ⟨ip_s_ldi hx hb hIs dX5_holdOf_48 rfl, ?_⟩
  refine List.forall_mem_cons.mpr ⟨ip_s_imul hx hb dX5_holdOf_49 rfl, ?_⟩
  refine List.forall_mem_cons.mpr ⟨ip_s_go (t := 54) hx hb dX5_holdOf_50 (by decide) (Nat.le_of_ble_eq_true rfl) (Nat.le_of_ble_eq_true rfl), ?_⟩
  refine List.forall_mem_cons.mpr ⟨ip_s_iload_n hx hb dX5_holdOf_53 rfl rfl, ?_⟩
  refine List.forall_mem_cons.mpr ⟨ip_s_istore_n hx hb dX5_holdOf_54 rfl (by decide) rfl, ?_⟩
  refine List.forall_mem_cons.mpr ⟨ip_s_aload_n hx hb dX5_holdOf_55 rfl rfl, ?_⟩
  refine List.forall_mem_cons.mpr ⟨ip_s_gR0 hx hb hts hin5 hown rfl (by decide) 5 (by decide) (hts (.fieldLink RX5 20 "IcePadsModel" "kind" "[I") (by decide +kernel)) (fun _ h9 => h9) hIs 50 55 rfl (by decide) rfl dX5_holdOf_56 rfl, ?_⟩
  refine List.forall_mem_cons.mpr ⟨ip_s_iload_n hx hb dX5_holdOf_59 rfl rfl, ?_⟩
  refine List.forall_mem_cons.mpr ⟨ip_s_ldi hx hb hIs dX5_holdOf_60 rfl, ?_⟩
  refine List.forall_mem_cons.mpr ⟨ip_s_iconst hx hb dX5_holdOf_61 rfl rfl, ?_⟩
  refine List.forall_mem_cons.mpr ⟨ip_s_icne (t := 79) hx hb dX5_holdOf_62 (by decide) rfl rfl, ?_⟩
  refine List.forall_mem_cons.mpr ⟨ip_s_iload_n hx hb dX5_holdOf_65 rfl rfl, ?_⟩
  refine List.forall_mem_cons.mpr ⟨ip_s_aload_n hx hb dX5_holdOf_66 rfl rfl, ?_⟩
  refine List.forall_mem_cons.mpr ⟨ip_s_gR0 hx hb hts hin5 hown rfl (by decide) 8 (by decide) (hts (.fieldLink RX5 29 "IcePadsModel" "parts" "[I") (by decide +kernel)) (fun _ h9 => h9) hIs 50 58 rfl (by decide) rfl dX5_holdOf_67 rfl, ?_⟩
  refine List.forall_mem_cons.mpr ⟨ip_s_iload_n hx hb dX5_holdOf_70 rfl rfl, ?_⟩
  refine List.forall_mem_cons.mpr ⟨ip_s_ldi hx hb hIs dX5_holdOf_71 rfl, ?_⟩
  refine List.forall_mem_cons.mpr ⟨ip_s_imul hx hb dX5_holdOf_72 rfl, ?_⟩
  refine List.forall_mem_cons.mpr ⟨ip_s_bipush hx hb dX5_holdOf_73 rfl rfl, ?_⟩
  refine List.forall_mem_cons.mpr ⟨ip_s_idiv hx hb dX5_holdOf_75 rfl, ?_⟩
  refine List.forall_mem_cons.mpr ⟨ip_s_go (t := 80) hx hb dX5_holdOf_76 (by decide) (Nat.le_of_ble_eq_true rfl) (Nat.le_of_ble_eq_true rfl), ?_⟩
  refine List.forall_mem_cons.mpr ⟨ip_s_iload_n hx hb dX5_holdOf_79 rfl rfl, ?_⟩
  refine List.forall_mem_cons.mpr ⟨ip_s_iret hx hb hr hlocks (Nat.le_of_ble_eq_true rfl) (Nat.le_of_ble_eq_true rfl) dX5_holdOf_80, ?_⟩
  exact fun _ h => absurd h List.not_mem_nil
set_option maxRecDepth 100000 in
set_option maxHeartbeats 4000000 in
theorem vX5_holdOf (M : ip_M) (a : Nat) (f : Int32) (m : Int32) (S : ip_S) (hS : ip_Sta S) (hp : a = 50 ∧ ip_eM M S ∧ (ip_vw M ∧ ∃ i, i < 4 ∧ f = nI i ∧ (M 55 i = 0 ∨ M 55 i = 1 ∨ M 55 i = 2)) ∧ 0 ≤ m ∧ m ≤ 299) : ip_run (pX5_holdOf (postX5_holdOf M [.inr (.inl (some a)), .inl f, .inl m] S)) (fun _ => false) (fun _ _ _ _ => False) 80 0 [some (.inr (.inl (some a))), some (.inl f), some (.inl m), none] [] S := by
  obtain ⟨rfl, hE, ⟨hw, i, hi4, rfl, hk⟩, hm⟩ := hp
  obtain ⟨hin4, hci⟩ := ip_inN (n := 4) (N := 4) hi4 (by decide) (by decide)
  obtain ⟨fl, hfl, hf1, hf2⟩ := ip_fallN hw m.toNatClampNeg
  have hix : (4 : Int32) * nI i + nI fl = nI (4 * i + fl) := by
    rw [show (4 : Int32) = nI 4 from rfl, pk_mul, nI_add]
  have hin16 : vp_in ((4 : Int32) * nI i + nI fl) 16 := by rw [hix]; exact vp_in_nI (by omega) (by decide)
  have hc16 : ((4 : Int32) * nI i + nI fl).toNatClampNeg = 4 * i + fl := by rw [hix]; exact nI_clamp (by omega)
  have e55 : S.1 55 (nI i).toNatClampNeg = M 55 i := by rw [hci]; exact congrFun (hE 55 (by decide)) _
  have e57 : S.1 57 (nI i).toNatClampNeg = M 57 i := by rw [hci]; exact congrFun (hE 57 (by decide)) _
  have e58 : S.1 58 (nI i).toNatClampNeg = M 58 i := by rw [hci]; exact congrFun (hE 58 (by decide)) _
  have e56 : S.1 56 ((4 : Int32) * nI i + nI fl).toNatClampNeg = M 56 (4 * i + fl) := by rw [hc16]; exact congrFun (hE 56 (by decide)) _
  have hfin : g_hold M (nI i).toNatClampNeg m.toNatClampNeg = ip_hold (M 55 i) (M 57 i) (M 58 i) (M 56 (4 * i + fl)) (ip_cold (M 51) (M 52) m.toNatClampNeg) := by
    unfold g_hold
    rw [hci, hf2]
  refine Exists.intro M (And.intro (And.intro rfl (And.intro hE (And.intro hw hm))) ?_)
  rintro r S' ⟨rfl, rfl⟩
  rw [hf1]
  refine And.intro hin16 ?_
  refine Exists.intro M (And.intro (And.intro rfl (And.intro hE (And.intro hw hm))) ?_)
  rintro r S' ⟨rfl, rfl⟩
  refine And.intro (fun q1 => ?_) (fun q1 => ?_)
  · refine And.intro hin4 ?_
    refine And.intro (fun q2 => ?_) (fun q2 => ?_)
    · refine And.intro hin4 ?_
      refine And.intro (fun q3 => ?_) (fun q3 => ?_)
      · refine And.intro ?_ rfl
        rw [e55] at q2 q3
        rw [hfin, ← ip_holdM hk, if_neg q3, if_neg (Int32.not_lt.mpr q2), if_neg (Int32.not_lt.mpr q1), e56]
      · rw [e55] at q2 q3
        rw [q3] at q2
        exact absurd q2 (by decide)
    · refine And.intro hin4 ?_
      refine And.intro hin4 ?_
      refine And.intro (fun q3 => ?_) (fun q3 => ?_)
      · refine And.intro ?_ rfl
        rw [e55] at q2 q3
        rw [hfin, ← ip_holdM hk, if_neg q3, if_pos (Int32.not_le.mp q2), if_neg (Int32.not_lt.mpr q1), e56, e57]
      · refine And.intro hin4 ?_
        refine And.intro (by decide) ?_
        refine And.intro ?_ rfl
        rw [e55] at q2 q3
        rw [hfin, ← ip_holdM hk, if_pos q3, if_pos (Int32.not_le.mp q2), if_neg (Int32.not_lt.mpr q1), e56, e57, e58]
  · refine And.intro (by decide) ?_
    refine And.intro hin4 ?_
    refine And.intro (fun q2 => ?_) (fun q2 => ?_)
    · refine And.intro hin4 ?_
      refine And.intro (fun q3 => ?_) (fun q3 => ?_)
      · refine And.intro ?_ rfl
        rw [e55] at q2 q3
        rw [hfin, ← ip_holdM hk, if_neg q3, if_neg (Int32.not_lt.mpr q2), if_pos (Int32.not_le.mp q1), e56]
      · rw [e55] at q2 q3
        rw [q3] at q2
        exact absurd q2 (by decide)
    · refine And.intro hin4 ?_
      refine And.intro hin4 ?_
      refine And.intro (fun q3 => ?_) (fun q3 => ?_)
      · refine And.intro ?_ rfl
        rw [e55] at q2 q3
        rw [hfin, ← ip_holdM hk, if_neg q3, if_pos (Int32.not_le.mp q2), if_pos (Int32.not_le.mp q1), e56, e57]
      · refine And.intro hin4 ?_
        refine And.intro (by decide) ?_
        refine And.intro ?_ rfl
        rw [e55] at q2 q3
        rw [hfin, ← ip_holdM hk, if_pos q3, if_pos (Int32.not_le.mp q2), if_pos (Int32.not_le.mp q1), e56, e57, e58]
theorem ctX5_holdOf (l : Launch) (M : ip_M) : ip_CT l yX5_holdOf wsX5_holdOf rmX5_holdOf ip_Sta (preX5_holdOf M) (postX5_holdOf M) := by
  refine ip_of (cc := cX5_holdOf) (maxL := 4) (ret := (some .int)) (by decide +kernel) rfl (fun _ => (0, 0)) rfl ?_ ?_
  · intro as S h
    obtain ⟨a, f, m, rfl, hq⟩ := ip_e_rii h
    exact ⟨Nat.le_of_ble_eq_true rfl, by simp⟩
  intro p e s m args below meth c D cA A ad0 as S h hI hx hb hml hown hts hr hlocks hname hA hNx
  obtain ⟨a, f, m, rfl, hq⟩ := ip_e_rii h
  refine ip_run_ok (stop := fun _ => false) (tX5_holdOf hx hb hml hown hts hr hlocks hname hA hNx) (fun _ _ _ _ h => False.elim h) 80 0 _ _ S ?_
  exact vX5_holdOf M a f m S hI hq
