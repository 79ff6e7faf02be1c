def preX5_in : List ip_V → ip_S → Prop := ip_h_iii (fun _ => False) (fun n lo hi S => True)
def postX5_in : List ip_V → ip_S → List ip_V → ip_S → Prop := ip_h_iii (fun _ _ _ => True) (fun n lo hi S r S' => r = [.inl (if lo ≤ n ∧ n ≤ hi then 1 else 0)] ∧ S' = S)
theorem shsX5_in : ∀ as S, ip_Sta S → preX5_in as S → as.length = 3 := by
  intro as S hI h
  obtain ⟨n, lo, hi, rfl, hq⟩ := ip_e_iii h
  rfl
def rmX5_in : Room := { frames := 1, cells := 0, slots := 0, locals := 40 }
def pX5_in (po : List ip_V → ip_S → Prop) : List (Nat × ip_T) := [(0, ip_t_il 0 1), (1, ip_t_il 1 2), (2, ip_t_iclt 14 5), (5, ip_t_il 0 6), (6, ip_t_il 2 7), (7, ip_t_icgt 14 10), (10, ip_t_ci 1 11), (11, ip_t_go 15), (14, ip_t_ci 0 15), (15, ip_t_zret po)]
set_option maxRecDepth 100000 in
set_option maxHeartbeats 4000000 in
theorem tX5_in {p : Program} {l : Launch} {e : Env} {s : State} {m : MethodId} {args : Array Value} {below : List Frame} {meth : Method} {c : Code} {D : va_G} {cA : Nat → ClassId} {A : Nat → Prop} {ad0 : Nat → Nat} {S0 : ip_S} {po : List ip_V → ip_S → Prop} (hx : p.tables.exec = Jvm.exec) (hb : c.code = cX5_in) (hml : c.maxLocals = 3) (hown : s.vm.findClass RX5 = some m.cls) (hts : ∀ w ∈ wsX5_in, w.before args s = true) (hr : meth.sig.returnType = (some .boolean)) (hlocks : meth.locks = false) (hname : meth.name = yX5_in.name) (hA : ∀ q, s.heap.size ≤ q → A q) (hNx : ip_Nx s) : ∀ q ∈ pX5_in po, ip_snd p l e rmX5_in s m args below meth c D cA A (MQ below (ip_Q ip_Sta D cA ad0 S0 A po) args s 0 0 A) 3 (fun _ => (0, 0)) ip_Sta ad0 S0 q.1 q.2 := by
  have hIs : ∀ S, ip_Sta S → ip_Sta S := fun _ h => h
  have hIn := ip_In_Sta
  have hS9 : CallFix p m c cX5_in 3 s args wsX5_in RX5 := ⟨hx, hb, hml, hown, hts⟩
  refine List.forall_mem_cons.mpr ⟨ip_s_iload_n hx hb dX5_in_0 rfl rfl, ?_⟩
  refine List.forall_mem_cons.mpr ⟨ip_s_iload_n hx hb dX5_in_1 rfl rfl, ?_⟩
  refine List.forall_mem_cons.mpr ⟨ip_s_iclt (t := 14) hx hb dX5_in_2 (by decide) rfl rfl, ?_⟩
  refine List.forall_mem_cons.mpr ⟨ip_s_iload_n hx hb dX5_in_5 rfl rfl, ?_⟩
  refine List.forall_mem_cons.mpr ⟨ip_s_iload_n hx hb dX5_in_6 rfl rfl, ?_⟩
  refine List.forall_mem_cons.mpr ⟨ip_s_icgt (t := 14) hx hb dX5_in_7 (by decide) rfl rfl, ?_⟩
  refine List.forall_mem_cons.mpr ⟨ip_s_iconst hx hb dX5_in_10 rfl rfl, ?_⟩
  refine List.forall_mem_cons.mpr ⟨ip_s_go (t := 15) hx hb dX5_in_11 (by decide) (Nat.le_of_ble_eq_true rfl) (Nat.le_of_ble_eq_true rfl), ?_⟩
  refine List.forall_mem_cons.mpr ⟨ip_s_iconst hx hb dX5_in_14 rfl rfl, ?_⟩
  refine List.forall_mem_cons.mpr ⟨ip_s_zret hx hb hr hlocks (Nat.le_of_ble_eq_true rfl) (Nat.le_of_ble_eq_true rfl) dX5_in_15, ?_⟩
  exact fun _ h => absurd h List.not_mem_nil
set_option maxRecDepth 100000 in
set_option maxHeartbeats 4000000 in
theorem vX5_in (n : Int32) (lo : Int32) (hi : Int32) (S : ip_S) (hS : ip_Sta S) (hp : True) : ip_run (pX5_in (postX5_in [.inl n, .inl lo, .inl hi] S)) (fun _ => false) (fun _ _ _ _ => False) 20 0 [some (.inl n), some (.inl lo), some (.inl hi)] [] S := by
  refine And.intro (fun h1 => ?_) (fun h1 => ?_)
  · refine And.intro (Or.inl rfl) (And.intro ?_ rfl)
    rw [if_neg (fun h => Int32.not_le.mpr h1 h.1)]
  · refine And.intro (fun h2 => ?_) (fun h2 => ?_)
    · refine And.intro (Or.inl rfl) (And.intro ?_ rfl)
      rw [if_neg (fun h => Int32.not_le.mpr h2 h.2)]
    · refine And.intro (Or.inr rfl) (And.intro ?_ rfl)
      rw [if_pos ⟨Int32.not_lt.mp h1, Int32.not_lt.mp h2⟩]
theorem ctX5_in (l : Launch) : ip_CT l yX5_in wsX5_in rmX5_in ip_Sta (preX5_in) (postX5_in) := by
  refine ip_of (cc := cX5_in) (maxL := 3) (ret := (some .boolean)) (by decide +kernel) rfl (fun _ => (0, 0)) rfl ?_ ?_
  · intro as S h
    obtain ⟨n, lo, hi, rfl, hq⟩ := ip_e_iii h
    exact ⟨Nat.le_of_ble_eq_true rfl, by simp⟩
  intro p e s m args below meth c D cA A ad0 as S h hI hx hb hml hown hts hr hlocks hname hA hNx
  obtain ⟨n, lo, hi, rfl, hq⟩ := ip_e_iii h
  refine ip_run_ok (stop := fun _ => false) (tX5_in hx hb hml hown hts hr hlocks hname hA hNx) (fun _ _ _ _ h => False.elim h) 20 0 _ _ S ?_
  exact vX5_in n lo hi S hI hq

def g_weather (M : ip_M) (m c f : Int32) : Int32 × ip_M := if (0 ≤ m ∧ m ≤ 299) ∧ (-30 ≤ c ∧ c ≤ 5) ∧ (0 ≤ f ∧ f ≤ 3) then (if m < M 50 0 then (-200, M) else (1, ip_u (ip_u (ip_u M 51 m.toNatClampNeg 1) 52 m.toNatClampNeg c) 53 m.toNatClampNeg f)) else (-100, M)
def g_loses (M : ip_M) (m : Int32) : Int32 × ip_M := if 0 ≤ m ∧ m ≤ 299 then (if m < M 50 0 then (-200, M) else (if M 51 m.toNatClampNeg = 0 then 0 else 1, ip_u M 51 m.toNatClampNeg 0)) else (-100, M)

def preX5_weather (M : ip_M) : List ip_V → ip_S → Prop := ip_h_riii (fun _ => False) (fun a m c f S => a = 50 ∧ ip_eM M S)
def postX5_weather (M : ip_M) : List ip_V → ip_S → List ip_V → ip_S → Prop := ip_h_riii (fun _ _ _ => True) (fun a m c f S r S' => r = [.inl (g_weather M m c f).1] ∧ ip_EM (g_weather M m c f).2 S S')
theorem shX5_weather (M : ip_M) : ∀ as S, ip_Sta S → preX5_weather M as S → ∃ (b : Nat) (as' : List ip_V), as = .inr (.inl (some b)) :: as' ∧ as'.length = 3 ∧ (S.2.2.2 b).1 = 5 := by
  intro as S hI h
  obtain ⟨a, m, c, f, rfl, hq⟩ := ip_e_riii h
  exact ⟨_, _, rfl, rfl, by rw [hq.1, hI.1 50 (by decide)]; rfl⟩
def rmX5_weather : Room := { frames := 2, cells := 0, slots := 0, locals := 80 }
def pX5_weather (po : List ip_V → ip_S → Prop) : List (Nat × ip_T) := [(0, ip_t_il 1 1), (1, ip_t_ci 0 2), (2, ip_t_ci 299 5), (5, ip_t_call 3 preX5_in postX5_in 8), (8, ip_t_ifeq 30 11), (11, ip_t_il 2 12), (12, ip_t_ci (-30) 14), (14, ip_t_ci 5 15), (15, ip_t_call 3 preX5_in postX5_in 18), (18, ip_t_ifeq 30 21), (21, ip_t_il 3 22), (22, ip_t_ci 0 23), (23, ip_t_ci 3 24), (24, ip_t_call 3 preX5_in postX5_in 27), (27, ip_t_ifne 33 30), (30, ip_t_ci (-100) 32), (32, ip_t_iret po), (33, ip_t_il 1 34), (34, ip_t_ar 0 35), (35, ip_t_gI0 50 0 38), (38, ip_t_icge 45 41), (41, ip_t_ci (-200) 44), (44, ip_t_iret po), (45, ip_t_ar 0 46), (46, ip_t_gR0 50 51 49), (49, ip_t_il 1 50), (50, ip_t_ci 1 51), (51, ip_t_stz 52), (52, ip_t_ar 0 53), (53, ip_t_gR0 50 52 56), (56, ip_t_il 1 57), (57, ip_t_il 2 58), (58, ip_t_st 59), (59, ip_t_ar 0 60), (60, ip_t_gR0 50 53 63), (63, ip_t_il 1 64), (64, ip_t_il 3 65), (65, ip_t_st 66), (66, ip_t_ci 1 67), (67, ip_t_iret po)]
set_option maxRecDepth 100000 in
set_option maxHeartbeats 4000000 in
theorem tX5_weather {p : Program} {l : Launch} {e : Env} {s : State} {m : MethodId} {args : Array Value} {below : List Frame} {meth : Method} {c : Code} {D : va_G} {cA : Nat → ClassId} {A : Nat → Prop} {ad0 : Nat → Nat} {S0 : ip_S} {po : List ip_V → ip_S → Prop} (hx : p.tables.exec = Jvm.exec) (hb : c.code = cX5_weather) (hml : c.maxLocals = 4) (hown : s.vm.findClass RX5 = some m.cls) (hts : ∀ w ∈ wsX5_weather, w.before args s = true) (hr : meth.sig.returnType = (some .int)) (hlocks : meth.locks = false) (hname : meth.name = yX5_weather.name) (hA : ∀ q, s.heap.size ≤ q → A q) (hNx : ip_Nx s) : ∀ q ∈ pX5_weather po, ip_snd p l e rmX5_weather s m args below meth c D cA A (MQ below (ip_Q ip_Sta D cA ad0 S0 A po) args s 0 0 A) 4 (fun _ => (0, 0)) ip_Sta ad0 S0 q.1 q.2 := by
  have hIs : ∀ S, ip_Sta S → ip_Sta S := fun _ h => h
  have hIn := ip_In_Sta
  have hS9 : CallFix p m c cX5_weather 4 s args wsX5_weather RX5 := ⟨hx, hb, hml, hown, hts⟩
  have hin5 : ∀ w ∈ u_ws RX5 TX5 32, w ∈ wsX5_weather := by decide +kernel
  refine List.forall_mem_cons.mpr ⟨ip_s_iload_n hx hb dX5_weather_0 rfl rfl, ?_⟩
  refine List.forall_mem_cons.mpr ⟨ip_s_iconst hx hb dX5_weather_1 rfl rfl, ?_⟩
  refine List.forall_mem_cons.mpr ⟨ip_s_sipush hx hb dX5_weather_2 rfl rfl, ?_⟩
  refine List.forall_mem_cons.mpr ⟨ip_s_callS hNx hS9 (ctX5_in l) (va_cwS 3 hts gX5_weather_X5_in rfl rfl rfl (by decide +kernel) ⟨Nat.le_of_ble_eq_true rfl, Nat.le_of_ble_eq_true rfl⟩) (fun as S hI h => shsX5_in as S hI h) hA dX5_weather_5 ⟨Nat.le_of_ble_eq_true rfl, Nat.le_of_ble_eq_true rfl⟩ rfl, ?_⟩
  refine List.forall_mem_cons.mpr ⟨ip_s_ifeq (t := 30) hx hb dX5_weather_8 (by decide) rfl rfl, ?_⟩
  refine List.forall_mem_cons.mpr ⟨ip_s_iload_n hx hb dX5_weather_11 rfl rfl, ?_⟩
  refine List.forall_mem_cons.mpr ⟨ip_s_bipush hx hb dX5_weather_12 rfl rfl, ?_⟩
  refine List.forall_mem_cons.mpr ⟨ip_s_iconst hx hb dX5_weather_14 rfl rfl, ?_⟩
  refine List.forall_mem_cons.mpr ⟨ip_s_callS hNx hS9 (ctX5_in l) (va_cwS 3 hts gX5_weather_X5_in rfl rfl rfl (by decide +kernel) ⟨Nat.le_of_ble_eq_true rfl, Nat.le_of_ble_eq_true rfl⟩) (fun as S hI h => shsX5_in as S hI h) hA dX5_weather_15 ⟨Nat.le_of_ble_eq_true rfl, Nat.le_of_ble_eq_true rfl⟩ rfl, ?_⟩
  refine List.forall_mem_cons.mpr ⟨ip_s_ifeq (t := 30) hx hb dX5_weather_18 (by decide) rfl rfl, ?_⟩
  refine List.forall_mem_cons.mpr ⟨ip_s_iload_n hx hb dX5_weather_21 rfl rfl, ?_⟩
  refine List.forall_mem_cons.mpr ⟨ip_s_iconst hx hb dX5_weather_22 rfl rfl, ?_⟩
  refine List.forall_mem_cons.mpr ⟨ip_s_iconst hx hb dX5_weather_23 rfl rfl, ?_⟩
  refine List.forall_mem_cons.mpr ⟨ip_s_callS hNx hS9 (ctX5_in l) (va_cwS 3 hts gX5_weather_X5_in rfl rfl rfl (by decide +kernel) ⟨Nat.le_of_ble_eq_true rfl, Nat.le_of_ble_eq_true rfl⟩) (fun as S hI h => shsX5_in as S hI h) hA dX5_weather_24 ⟨Nat.le_of_ble_eq_true rfl, Nat.le_of_ble_eq_true rfl⟩ rfl, ?_⟩
  refine List.forall_mem_cons.mpr ⟨ip_s_ifne (t := 33) hx hb dX5_weather_27 (by decide) rfl rfl, ?_⟩
  refine List.forall_mem_cons.mpr ⟨ip_s_bipush hx hb dX5_weather_30 rfl rfl, ?_⟩
  refine List.forall_mem_cons.mpr ⟨ip_s_iret hx hb hr hlocks (Nat.le_of_ble_eq_true rfl) (Nat.le_of_ble_eq_true rfl) dX5_weather_32, ?_⟩
  refine List.forall_mem_cons.mpr ⟨ip_s_iload_n hx hb dX5_weather_33 rfl rfl, ?_⟩
  refine List.forall_mem_cons.mpr ⟨ip_s_aload_n hx hb dX5_weather_34 rfl rfl, ?_⟩
  refine List.forall_mem_cons.mpr ⟨ip_s_gI0 hx hb hts hin5 hown rfl (by decide) 0 (by decide) (hts (.fieldLink RX5 87 "IcePadsModel" "now" "I") (by decide +kernel)) (fun _ h9 => h9) hIs 50 rfl rfl dX5_weather_35 rfl, ?_⟩
  refine List.forall_mem_cons.mpr ⟨ip_s_icge (t := 45) hx hb dX5_weather_38 (by decide) rfl rfl, ?_⟩
  refine List.forall_mem_cons.mpr ⟨ip_s_sipush hx hb dX5_weather_41 rfl rfl, ?_⟩
  refine List.forall_mem_cons.mpr ⟨ip_s_iret hx hb hr hlocks (Nat.le_of_ble_eq_true rfl) (Nat.le_of_ble_eq_true rfl) dX5_weather_44, ?_⟩
  refine List.forall_mem_cons.mpr ⟨ip_s_aload_n hx hb dX5_weather_45 rfl rfl, ?_⟩
  refine List.forall_mem_cons.mpr ⟨ip_s_gR0 hx hb hts hin5 hown rfl (by decide) 1 (by decide) (hts (.fieldLink RX5 7 "IcePadsModel" "isTold" "[Z") (by decide +kernel)) (fun _ h9 => h9) hIs 50 51 rfl (by decide) rfl dX5_weather_46 rfl, ?_⟩
  refine List.forall_mem_cons.mpr ⟨ip_s_iload_n hx hb dX5_weather_49 rfl rfl, ?_⟩
  refine List.forall_mem_cons.mpr ⟨ip_s_iconst hx hb dX5_weather_50 rfl rfl, ?_⟩
  refine List.forall_mem_cons.mpr ⟨ip_s_stz hx hb hIn hIs dX5_weather_51 rfl, ?_⟩
  refine List.forall_mem_cons.mpr ⟨ip_s_aload_n hx hb dX5_weather_52 rfl rfl, ?_⟩
  refine List.forall_mem_cons.mpr ⟨ip_s_gR0 hx hb hts hin5 hown rfl (by decide) 2 (by decide) (hts (.fieldLink RX5 13 "IcePadsModel" "cold" "[I") (by decide +kernel)) (fun _ h9 => h9) hIs 50 52 rfl (by decide) rfl dX5_weather_53 rfl, ?_⟩
  refine List.forall_mem_cons.mpr ⟨ip_s_iload_n hx hb dX5_weather_56 rfl rfl, ?_⟩
  refine List.forall_mem_cons.mpr ⟨ip_s_iload_n hx hb dX5_weather_57 rfl rfl, ?_⟩
  refine List.forall_mem_cons.mpr ⟨ip_s_sti hx hb hIn hIs dX5_weather_58 rfl, ?_⟩
  refine List.forall_mem_cons.mpr ⟨ip_s_aload_n hx hb dX5_weather_59 rfl rfl, ?_⟩
  refine List.forall_mem_cons.mpr ⟨ip_s_gR0 hx hb hts hin5 hown rfl (by decide) 3 (by decide) (hts (.fieldLink RX5 17 "IcePadsModel" "fall" "[I") (by decide +kernel)) (fun _ h9 => h9) hIs 50 53 rfl (by decide) rfl dX5_weather_60 rfl, ?_⟩
  refine List.forall_mem_cons.mpr ⟨ip_s_iload_n hx hb dX5_weather_63 rfl rfl, ?_⟩
  refine List.forall_mem_cons.mpr ⟨ip_s_iload_n hx hb dX5_weather_64 rfl rfl, ?_⟩
  refine List.forall_mem_cons.mpr ⟨ip_s_sti hx hb hIn hIs dX5_weather_65 rfl, ?_⟩
  refine List.forall_mem_cons.mpr ⟨ip_s_iconst hx hb dX5_weather_66 rfl rfl, ?_⟩
  refine List.forall_mem_cons.mpr ⟨ip_s_iret hx hb hr hlocks (Nat.le_of_ble_eq_true rfl) (Nat.le_of_ble_eq_true rfl) dX5_weather_67, ?_⟩
  exact fun _ h => absurd h List.not_mem_nil
set_option maxRecDepth 100000 in
set_option maxHeartbeats 4000000 in
theorem vX5_weather (M : ip_M) (a : Nat) (m : Int32) (c : Int32) (f : Int32) (S : ip_S) (hS : ip_Sta S) (hp : a = 50 ∧ ip_eM M S) : ip_run (pX5_weather (postX5_weather M [.inr (.inl (some a)), .inl m, .inl c, .inl f] S)) (fun _ => false) (fun _ _ _ _ => False) 60 0 [some (.inr (.inl (some a))), some (.inl m), some (.inl c), some (.inl f)] [] S := by
  obtain ⟨rfl, hE⟩ := hp
  refine And.intro trivial ?_
  rintro r S' ⟨rfl, rfl⟩
  refine And.intro (fun q1 => ?_) (fun q1 => ?_)
  · refine And.intro ?_ ?_ <;> unfold g_weather <;> rw [if_neg (fun z => ip_if0 q1 z.1)]
    exact ip_EM.rf hE
  have q1 := ip_if1 q1
  refine And.intro trivial ?_
  rintro r S' ⟨rfl, rfl⟩
  refine And.intro (fun q2 => ?_) (fun q2 => ?_)
  · refine And.intro ?_ ?_ <;> unfold g_weather <;> rw [if_neg (fun z => ip_if0 q2 z.2.1)]
    exact ip_EM.rf hE
  have q2 := ip_if1 q2
  refine And.intro trivial ?_
  rintro r S' ⟨rfl, rfl⟩
  refine And.intro (fun q3 => ?_) (fun q3 => ?_)
  · have q3 := ip_if1 q3
    have hin : vp_in m 300 := ip_in q1 rfl
    have e0 : S'.1 50 0 = M 50 0 := congrFun (hE 50 (by decide)) 0
    refine And.intro (fun q4 => ?_) (fun q4 => ?_)
    · rw [e0] at q4
      refine And.intro hin ?_
      refine And.intro hin ?_
      refine And.intro hin ?_
      refine And.intro ?_ ?_ <;> unfold g_weather <;> rw [if_pos ⟨q1, q2, q3⟩, if_neg (Int32.not_lt.mpr q4)]
      exact ((((ip_EM.rf hE).u (by decide) _ _).u (by decide) _ _).u (by decide) _ _)
    · rw [e0] at q4
      refine And.intro ?_ ?_ <;> unfold g_weather <;> rw [if_pos ⟨q1, q2, q3⟩, if_pos (Int32.not_le.mp q4)]
      exact ip_EM.rf hE
  · refine And.intro ?_ ?_ <;> unfold g_weather <;> rw [if_neg (fun z => ip_if0 q3 z.2.2)]
    exact ip_EM.rf hE
theorem ctX5_weather (l : Launch) (M : ip_M) : ip_CT l yX5_weather wsX5_weather rmX5_weather ip_Sta (preX5_weather M) (postX5_weather M) := by
  refine ip_of (cc := cX5_weather) (maxL := 4) (ret := (some .int)) (by decide +kernel) rfl (fun _ => (0, 0)) rfl ?_ ?_
  · intro as S h
    obtain ⟨a, m, c, f, rfl, hq⟩ := ip_e_riii h
    exact ⟨Nat.le_of_ble_eq_true rfl, by simp⟩
  intro p e s m args below meth c D cA A ad0 as S h hI hx hb hml hown hts hr hlocks hname hA hNx
  obtain ⟨a, m, c, f, rfl, hq⟩ := ip_e_riii h
  refine ip_run_ok (stop := fun _ => false) (tX5_weather hx hb hml hown hts hr hlocks hname hA hNx) (fun _ _ _ _ h => False.elim h) 60 0 _ _ S ?_
  exact vX5_weather M a m c f S hI hq

def preX5_loses (M : ip_M) : List ip_V → ip_S → Prop := ip_h_ri (fun _ => False) (fun a m S => a = 50 ∧ ip_eM M S)
def postX5_loses (M : ip_M) : List ip_V → ip_S → List ip_V → ip_S → Prop := ip_h_ri (fun _ _ _ => True) (fun a m S r S' => r = [.inl (g_loses M m).1] ∧ ip_EM (g_loses M m).2 S S')
theorem shX5_loses (M : ip_M) : ∀ as S, ip_Sta S → preX5_loses M as S → ∃ (b : Nat) (as' : List ip_V), as = .inr (.inl (some b)) :: as' ∧ as'.length = 1 ∧ (S.2.2.2 b).1 = 5 := by
  intro as S hI h
  obtain ⟨a, m, rfl, hq⟩ := ip_e_ri h
  exact ⟨_, _, rfl, rfl, by rw [hq.1, hI.1 50 (by decide)]; rfl⟩
def rmX5_loses : Room := { frames := 2, cells := 0, slots := 0, locals := 80 }
def pX5_loses (po : List ip_V → ip_S → Prop) : List (Nat × ip_T) := [(0, ip_t_il 1 1), (1, ip_t_ci 0 2), (2, ip_t_ci 299 5), (5, ip_t_call 3 preX5_in postX5_in 8), (8, ip_t_ifne 14 11), (11, ip_t_ci (-100) 13), (13, ip_t_iret po), (14, ip_t_il 1 15), (15, ip_t_ar 0 16), (16, ip_t_gI0 50 0 19), (19, ip_t_icge 26 22), (22, ip_t_ci (-200) 25), (25, ip_t_iret po), (26, ip_t_ar 0 27), (27, ip_t_gR0 50 51 30), (30, ip_t_il 1 31), (31, ip_t_ld 7 32), (32, ip_t_ifeq 39 35), (35, ip_t_ci 1 36), (36, ip_t_go 40), (39, ip_t_ci 0 40), (40, ip_t_is 2 41), (41, ip_t_ar 0 42), (42, ip_t_gR0 50 51 45), (45, ip_t_il 1 46), (46, ip_t_ci 0 47), (47, ip_t_stz 48), (48, ip_t_il 2 49), (49, ip_t_iret po)]
set_option maxRecDepth 100000 in
set_option maxHeartbeats 4000000 in
theorem tX5_loses {p : Program} {l : Launch} {e : Env} {s : State} {m : MethodId} {args : Array Value} {below : List Frame} {meth : Method} {c : Code} {D : va_G} {cA : Nat → ClassId} {A : Nat → Prop} {ad0 : Nat → Nat} {S0 : ip_S} {po : List ip_V → ip_S → Prop} (hx : p.tables.exec = Jvm.exec) (hb : c.code = cX5_loses) (hml : c.maxLocals = 3) (hown : s.vm.findClass RX5 = some m.cls) (hts : ∀ w ∈ wsX5_loses, w.before args s = true) (hr : meth.sig.returnType = (some .int)) (hlocks : meth.locks = false) (hname : meth.name = yX5_loses.name) (hA : ∀ q, s.heap.size ≤ q → A q) (hNx : ip_Nx s) : ∀ q ∈ pX5_loses po, ip_snd p l e rmX5_loses s m args below meth c D cA A (MQ below (ip_Q ip_Sta D cA ad0 S0 A po) args s 0 0 A) 3 (fun _ => (0, 0)) ip_Sta ad0 S0 q.1 q.2 := by
  have hIs : ∀ S, ip_Sta S → ip_Sta S := fun _ h => h
  have hIn := ip_In_Sta
  have hS9 : CallFix p m c cX5_loses 3 s args wsX5_loses RX5 := ⟨hx, hb, hml, hown, hts⟩
  have hin5 : ∀ w ∈ u_ws RX5 TX5 32, w ∈ wsX5_loses := by decide +kernel
  refine List.forall_mem_cons.mpr ⟨ip_s_iload_n hx hb dX5_loses_0 rfl rfl, ?_⟩
  refine List.forall_mem_cons.mpr ⟨ip_s_iconst hx hb dX5_loses_1 rfl rfl, ?_⟩
  refine List.forall_mem_cons.mpr ⟨ip_s_sipush hx hb dX5_loses_2 rfl rfl, ?_⟩
  refine List.forall_mem_cons.mpr ⟨ip_s_callS hNx hS9 (ctX5_in l) (va_cwS 3 hts gX5_loses_X5_in rfl rfl rfl (by decide +kernel) ⟨Nat.le_of_ble_eq_true rfl, Nat.le_of_ble_eq_true rfl⟩) (fun as S hI h => shsX5_in as S hI h) hA dX5_loses_5 ⟨Nat.le_of_ble_eq_true rfl, Nat.le_of_ble_eq_true rfl⟩ rfl, ?_⟩
  refine List.forall_mem_cons.mpr ⟨ip_s_ifne (t := 14) hx hb dX5_loses_8 (by decide) rfl rfl, ?_⟩
  refine List.forall_mem_cons.mpr ⟨ip_s_bipush hx hb dX5_loses_11 rfl rfl, ?_⟩
  refine List.forall_mem_cons.mpr ⟨ip_s_iret hx hb hr hlocks (Nat.le_of_ble_eq_true rfl) (Nat.le_of_ble_eq_true rfl) dX5_loses_13, ?_⟩
  refine List.forall_mem_cons.mpr ⟨ip_s_iload_n hx hb dX5_loses_14 rfl rfl, ?_⟩
  refine List.forall_mem_cons.mpr ⟨ip_s_aload_n hx hb dX5_loses_15 rfl rfl, ?_⟩
  refine List.forall_mem_cons.mpr ⟨ip_s_gI0 hx hb hts hin5 hown rfl (by decide) 0 (by decide) (hts (.fieldLink RX5 87 "IcePadsModel" "now" "I") (by decide +kernel)) (fun _ h9 => h9) hIs 50 rfl rfl dX5_loses_16 rfl, ?_⟩
  refine List.forall_mem_cons.mpr ⟨ip_s_icge (t := 26) hx hb dX5_loses_19 (by decide) rfl rfl, ?_⟩
  refine List.forall_mem_cons.mpr ⟨ip_s_sipush hx hb dX5_loses_22 rfl rfl, ?_⟩
  refine List.forall_mem_cons.mpr ⟨ip_s_iret hx hb hr hlocks (Nat.le_of_ble_eq_true rfl) (Nat.le_of_ble_eq_true rfl) dX5_loses_25, ?_⟩
  refine List.forall_mem_cons.mpr ⟨ip_s_aload_n hx hb dX5_loses_26 rfl rfl, ?_⟩
  refine List.forall_mem_cons.mpr ⟨ip_s_gR0 hx hb hts hin5 hown rfl (by decide) 1 (by decide) (hts (.fieldLink RX5 7 "IcePadsModel" "isTold" "[Z") (by decide +kernel)) (fun _ h9 => h9) hIs 50 51 rfl (by decide) rfl dX5_loses_27 rfl, ?_⟩
  refine List.forall_mem_cons.mpr ⟨ip_s_iload_n hx hb dX5_loses_30 rfl rfl, ?_⟩
  refine List.forall_mem_cons.mpr ⟨ip_s_ldz hx hb hIs dX5_loses_31 rfl, ?_⟩
  refine List.forall_mem_cons.mpr ⟨ip_s_ifeq (t := 39) hx hb dX5_loses_32 (by decide) rfl rfl, ?_⟩
  refine List.forall_mem_cons.mpr ⟨ip_s_iconst hx hb dX5_loses_35 rfl rfl, ?_⟩
  refine List.forall_mem_cons.mpr ⟨ip_s_go (t := 40) hx hb dX5_loses_36 (by decide) (Nat.le_of_ble_eq_true rfl) (Nat.le_of_ble_eq_true rfl), ?_⟩
  refine List.forall_mem_cons.mpr ⟨ip_s_iconst hx hb dX5_loses_39 rfl rfl, ?_⟩
  refine List.forall_mem_cons.mpr ⟨ip_s_istore_n hx hb dX5_loses_40 rfl (by decide) rfl, ?_⟩
  refine List.forall_mem_cons.mpr ⟨ip_s_aload_n hx hb dX5_loses_41 rfl rfl, ?_⟩
  refine List.forall_mem_cons.mpr ⟨ip_s_gR0 hx hb hts hin5 hown rfl (by decide) 1 (by decide) (hts (.fieldLink RX5 7 "IcePadsModel" "isTold" "[Z") (by decide +kernel)) (fun _ h9 => h9) hIs 50 51 rfl (by decide) rfl dX5_loses_42 rfl, ?_⟩
  refine List.forall_mem_cons.mpr ⟨ip_s_iload_n hx hb dX5_loses_45 rfl rfl, ?_⟩
  refine List.forall_mem_cons.mpr ⟨ip_s_iconst hx hb dX5_loses_46 rfl rfl, ?_⟩
  refine List.forall_mem_cons.mpr ⟨ip_s_stz hx hb hIn hIs dX5_loses_47 rfl, ?_⟩
  refine List.forall_mem_cons.mpr ⟨ip_s_iload_n hx hb dX5_loses_48 rfl rfl, ?_⟩
  refine List.forall_mem_cons.mpr ⟨ip_s_iret hx hb hr hlocks (Nat.le_of_ble_eq_true rfl) (Nat.le_of_ble_eq_true rfl) dX5_loses_49, ?_⟩
  exact fun _ h => absurd h List.not_mem_nil
set_option maxRecDepth 100000 in
set_option maxHeartbeats 4000000 in
theorem vX5_loses (M : ip_M) (a : Nat) (m : Int32) (S : ip_S) (hS : ip_Sta S) (hp : a = 50 ∧ ip_eM M S) : ip_run (pX5_loses (postX5_loses M [.inr (.inl (some a)), .inl m] S)) (fun _ => false) (fun _ _ _ _ => False) 60 0 [some (.inr (.inl (some a))), some (.inl m), none] [] S := by
  obtain ⟨rfl, hE⟩ := hp
  refine And.intro trivial ?_
  rintro r S' ⟨rfl, rfl⟩
  refine And.intro (fun q1 => ?_) (fun q1 => ?_)
  · have q1 := ip_if1 q1
    have hin : vp_in m 300 := ip_in q1 rfl
    have e0 : S'.1 50 0 = M 50 0 := congrFun (hE 50 (by decide)) 0
    refine And.intro (fun q4 => ?_) (fun q4 => ?_)
    · rw [e0] at q4
      have e1 : S'.1 51 m.toNatClampNeg = M 51 m.toNatClampNeg := congrFun (hE 51 (by decide)) _
      refine And.intro hin ?_
      refine And.intro (fun q5 => ?_) (fun q5 => ?_)
      · rw [e1] at q5
        refine And.intro hin ?_
        refine And.intro ?_ ?_ <;> unfold g_loses <;> rw [if_pos q1, if_neg (Int32.not_lt.mpr q4)]
        · rw [if_pos q5]
        · exact ((ip_EM.rf hE).u (by decide) _ _)
      · rw [e1] at q5
        refine And.intro hin ?_
        refine And.intro ?_ ?_ <;> unfold g_loses <;> rw [if_pos q1, if_neg (Int32.not_lt.mpr q4)]
        · rw [if_neg q5]
        · exact ((ip_EM.rf hE).u (by decide) _ _)
    · rw [e0] at q4
      refine And.intro ?_ ?_ <;> unfold g_loses <;> rw [if_pos q1, if_pos (Int32.not_le.mp q4)]
      exact ip_EM.rf hE
  · refine And.intro ?_ ?_ <;> unfold g_loses <;> rw [if_neg (ip_if0 q1)]
    exact ip_EM.rf hE
theorem ctX5_loses (l : Launch) (M : ip_M) : ip_CT l yX5_loses wsX5_loses rmX5_loses ip_Sta (preX5_loses M) (postX5_loses M) := by
  refine ip_of (cc := cX5_loses) (maxL := 3) (ret := (some .int)) (by decide +kernel) rfl (fun _ => (0, 0)) rfl ?_ ?_
  · intro as S h
    obtain ⟨a, m, rfl, hq⟩ := ip_e_ri h
    exact ⟨Nat.le_of_ble_eq_true rfl, by simp⟩
  intro p e s m args below meth c D cA A ad0 as S h hI hx hb hml hown hts hr hlocks hname hA hNx
  obtain ⟨a, m, rfl, hq⟩ := ip_e_ri h
  refine ip_run_ok (stop := fun _ => false) (tX5_loses hx hb hml hown hts hr hlocks hname hA hNx) (fun _ _ _ _ h => False.elim h) 60 0 _ _ S ?_
  exact vX5_loses M a m S hI hq
