def preX4_weather (M : ip_M) : List ip_V → ip_S → Prop := ip_h_riii (fun _ => False) (fun a m c f S => a = 0 ∧ ip_cR M S)
def postX4_weather (M : ip_M) : List ip_V → ip_S → List ip_V → ip_S → Prop := ip_h_riii (fun _ _ _ => True) (fun a m c f S r S' => r = [.inl (g_weather M m c f).1] ∧ ip_cR (g_weather M m c f).2 S' ∧ ip_fC S S')
theorem shX4_weather (M : ip_M) : ∀ as S, ip_Sta S → preX4_weather M as S → ∃ (b : Nat) (as' : List ip_V), as = .inr (.inl (some b)) :: as' ∧ as'.length = 3 ∧ (S.2.2.2 b).1 = 4 := by
  intro as S hI h
  obtain ⟨a, m, c, f, rfl, hq⟩ := ip_e_riii h
  exact ⟨_, _, rfl, rfl, by rw [hq.1, hI.1 0 (by decide)]; rfl⟩
def rmX4_weather : Room := { frames := 4, cells := 0, slots := 0, locals := 160 }
def pX4_weather (po : List ip_V → ip_S → Prop) : List (Nat × ip_T) := [(0, ip_t_il 1 1), (1, ip_t_call 1 preX4_isMinute postX4_isMinute 4), (4, ip_t_ifeq 26 7), (7, ip_t_il 2 8), (8, ip_t_ci (-30) 10), (10, ip_t_ci 5 11), (11, ip_t_call 3 preX4_within postX4_within 14), (14, ip_t_ifeq 26 17), (17, ip_t_il 3 18), (18, ip_t_ci 0 19), (19, ip_t_ci 3 20), (20, ip_t_call 3 preX4_within postX4_within 23), (23, ip_t_ifne 29 26), (26, ip_t_ci (-100) 28), (28, ip_t_iret po), (29, ip_t_il 1 30), (30, ip_t_ar 0 31), (31, ip_t_gI0 0 8 34), (34, ip_t_icge 41 37), (37, ip_t_ci (-200) 40), (40, ip_t_iret po), (41, ip_t_ar 0 42), (42, ip_t_gR0 0 1 45), (45, ip_t_il 1 46), (46, ip_t_il 2 47), (47, ip_t_il 3 48), (48, ip_t_call 4 preX3_tell postX3_tell 51), (51, ip_t_ci 1 52), (52, ip_t_iret po)]
set_option maxRecDepth 100000 in
set_option maxHeartbeats 4000000 in
theorem tX4_weather {p : Program} {l : Launch} {e : Env} {s : State} {m : MethodId} {args : Array Value} {below : List Frame} {meth : Method} {c : Code} {D : va_G} {cA : Nat → ClassId} {A : Nat → Prop} {ad0 : Nat → Nat} {S0 : ip_S} {po : List ip_V → ip_S → Prop} (hx : p.tables.exec = Jvm.exec) (hb : c.code = cX4_weather) (hml : c.maxLocals = 4) (hown : s.vm.findClass RX4 = some m.cls) (hts : ∀ w ∈ wsX4_weather, w.before args s = true) (hr : meth.sig.returnType = (some .int)) (hlocks : meth.locks = false) (hname : meth.name = yX4_weather.name) (hA : ∀ q, s.heap.size ≤ q → A q) (hNx : ip_Nx s) : ∀ q ∈ pX4_weather po, ip_snd p l e rmX4_weather s m args below meth c D cA A (MQ below (ip_Q ip_Sta D cA ad0 S0 A po) args s 0 0 A) 4 (fun _ => (0, 0)) ip_Sta ad0 S0 q.1 q.2 := by
  have hIs : ∀ S, ip_Sta S → ip_Sta S := fun _ h => h
  have hIn := ip_In_Sta
  have hS9 : CallFix p m c cX4_weather 4 s args wsX4_weather RX4 := ⟨hx, hb, hml, hown, hts⟩
  have hin4 : ∀ w ∈ u_ws RX4 TX4 14, w ∈ wsX4_weather := by decide +kernel
  refine List.forall_mem_cons.mpr ⟨ip_s_iload_n hx hb dX4_weather_0 rfl rfl, ?_⟩
  refine List.forall_mem_cons.mpr ⟨ip_s_callS hNx hS9 (ctX4_isMinute l) (va_cwS 1 hts gX4_weather_X4_isMinute rfl rfl rfl (by decide +kernel) ⟨Nat.le_of_ble_eq_true rfl, Nat.le_of_ble_eq_true rfl⟩) (fun as S hI h => shsX4_isMinute as S hI h) hA dX4_weather_1 ⟨Nat.le_of_ble_eq_true rfl, Nat.le_of_ble_eq_true rfl⟩ rfl, ?_⟩
  refine List.forall_mem_cons.mpr ⟨ip_s_ifeq (t := 26) hx hb dX4_weather_4 (by decide) rfl rfl, ?_⟩
  refine List.forall_mem_cons.mpr ⟨ip_s_iload_n hx hb dX4_weather_7 rfl rfl, ?_⟩
  refine List.forall_mem_cons.mpr ⟨ip_s_bipush hx hb dX4_weather_8 rfl rfl, ?_⟩
  refine List.forall_mem_cons.mpr ⟨ip_s_iconst hx hb dX4_weather_10 rfl rfl, ?_⟩
  refine List.forall_mem_cons.mpr ⟨ip_s_callS hNx hS9 (ctX4_within l) (va_cwS 3 hts gX4_weather_X4_within rfl rfl rfl (by decide +kernel) ⟨Nat.le_of_ble_eq_true rfl, Nat.le_of_ble_eq_true rfl⟩) (fun as S hI h => shsX4_within as S hI h) hA dX4_weather_11 ⟨Nat.le_of_ble_eq_true rfl, Nat.le_of_ble_eq_true rfl⟩ rfl, ?_⟩
  refine List.forall_mem_cons.mpr ⟨ip_s_ifeq (t := 26) hx hb dX4_weather_14 (by decide) rfl rfl, ?_⟩
  refine List.forall_mem_cons.mpr ⟨ip_s_iload_n hx hb dX4_weather_17 rfl rfl, ?_⟩
  refine List.forall_mem_cons.mpr ⟨ip_s_iconst hx hb dX4_weather_18 rfl rfl, ?_⟩
  refine List.forall_mem_cons.mpr ⟨ip_s_iconst hx hb dX4_weather_19 rfl rfl, ?_⟩
  refine List.forall_mem_cons.mpr ⟨ip_s_callS hNx hS9 (ctX4_within l) (va_cwS 3 hts gX4_weather_X4_within rfl rfl rfl (by decide +kernel) ⟨Nat.le_of_ble_eq_true rfl, Nat.le_of_ble_eq_true rfl⟩) (fun as S hI h => shsX4_within as S hI h) hA dX4_weather_20 ⟨Nat.le_of_ble_eq_true rfl, Nat.le_of_ble_eq_true rfl⟩ rfl, ?_⟩
  refine List.forall_mem_cons.mpr ⟨ip_s_ifne (t := 29) hx hb dX4_weather_23 (by decide) rfl rfl, ?_⟩
  refine List.forall_mem_cons.mpr ⟨ip_s_bipush hx hb dX4_weather_26 rfl rfl, ?_⟩
  refine List.forall_mem_cons.mpr ⟨ip_s_iret hx hb hr hlocks (Nat.le_of_ble_eq_true rfl) (Nat.le_of_ble_eq_true rfl) dX4_weather_28, ?_⟩
  refine List.forall_mem_cons.mpr ⟨ip_s_iload_n hx hb dX4_weather_29 rfl rfl, ?_⟩
  refine List.forall_mem_cons.mpr ⟨ip_s_aload_n hx hb dX4_weather_30 rfl rfl, ?_⟩
  refine List.forall_mem_cons.mpr ⟨ip_s_gI0 hx hb hts hin4 hown rfl (by decide) 8 (by decide) (hts (.fieldLink RX4 56 "IcePads" "now" "I") (by decide +kernel)) (fun _ h9 => h9) hIs 0 rfl rfl dX4_weather_31 rfl, ?_⟩
  refine List.forall_mem_cons.mpr ⟨ip_s_icge (t := 41) hx hb dX4_weather_34 (by decide) rfl rfl, ?_⟩
  refine List.forall_mem_cons.mpr ⟨ip_s_sipush hx hb dX4_weather_37 rfl rfl, ?_⟩
  refine List.forall_mem_cons.mpr ⟨ip_s_iret hx hb hr hlocks (Nat.le_of_ble_eq_true rfl) (Nat.le_of_ble_eq_true rfl) dX4_weather_40, ?_⟩
  refine List.forall_mem_cons.mpr ⟨ip_s_aload_n hx hb dX4_weather_41 rfl rfl, ?_⟩
  refine List.forall_mem_cons.mpr ⟨ip_s_gR0 hx hb hts hin4 hown rfl (by decide) 0 (by decide) (hts (.fieldLink RX4 10 "IcePads" "sky" "LIcePads$Sky;") (by decide +kernel)) (fun _ h9 => h9) hIs 0 1 rfl (by decide) rfl dX4_weather_42 rfl, ?_⟩
  refine List.forall_mem_cons.mpr ⟨ip_s_iload_n hx hb dX4_weather_45 rfl rfl, ?_⟩
  refine List.forall_mem_cons.mpr ⟨ip_s_iload_n hx hb dX4_weather_46 rfl rfl, ?_⟩
  refine List.forall_mem_cons.mpr ⟨ip_s_iload_n hx hb dX4_weather_47 rfl rfl, ?_⟩
  refine List.forall_mem_cons.mpr ⟨ip_s_callV hNx hS9 (ctX3_tell l) (cwV 3 hts gX4_weather_X3_tell rfl rfl rfl (by decide +kernel) ⟨Nat.le_of_ble_eq_true rfl, Nat.le_of_ble_eq_true rfl⟩) (ci := 3) rfl rfl (by decide) (fun as S hI h => shX3_tell as S hI h) hA dX4_weather_48 ⟨Nat.le_of_ble_eq_true rfl, Nat.le_of_ble_eq_true rfl⟩ rfl, ?_⟩
  refine List.forall_mem_cons.mpr ⟨ip_s_iconst hx hb dX4_weather_51 rfl rfl, ?_⟩
  refine List.forall_mem_cons.mpr ⟨ip_s_iret hx hb hr hlocks (Nat.le_of_ble_eq_true rfl) (Nat.le_of_ble_eq_true rfl) dX4_weather_52, ?_⟩
  exact fun _ h => absurd h List.not_mem_nil
set_option maxRecDepth 100000 in
set_option maxHeartbeats 4000000 in
theorem vX4_weather (M : ip_M) (a : Nat) (m : Int32) (c : Int32) (f : Int32) (S : ip_S) (hS : ip_Sta S) (hp : a = 0 ∧ ip_cR M S) : ip_run (pX4_weather (postX4_weather M [.inr (.inl (some a)), .inl m, .inl c, .inl f] S)) (fun _ => false) (fun _ _ _ _ => False) 50 0 [some (.inr (.inl (some a))), some (.inl m), some (.inl c), some (.inl f)] [] S := by
  obtain ⟨rfl, hR⟩ := hp
  have hR' := hR
  obtain ⟨nf, nj, np, hv, hcS, hcF, hcJ, hcP⟩ := hR'
  have e8 := hcS.1
  refine And.intro trivial ?_
  rintro r S' ⟨rfl, rfl⟩
  refine And.intro (fun q1 => ?_) (fun q1 => ?_)
  · refine And.intro ?_ (And.intro ?_ ip_fC.rf) <;> unfold g_weather <;> rw [if_neg (fun z => ip_if0 q1 z.1)]
    exact hR
  have q1 := ip_if1 q1
  refine And.intro trivial ?_
  rintro r S' ⟨rfl, rfl⟩
  refine And.intro (fun q2 => ?_) (fun q2 => ?_)
  · refine And.intro ?_ (And.intro ?_ ip_fC.rf) <;> unfold g_weather <;> rw [if_neg (fun z => ip_if0 q2 z.2.1)]
    exact hR
  have q2 := ip_if1 q2
  refine And.intro trivial ?_
  rintro r S' ⟨rfl, rfl⟩
  refine And.intro (fun q3 => ?_) (fun q3 => ?_)
  rotate_left
  · refine And.intro ?_ (And.intro ?_ ip_fC.rf) <;> unfold g_weather <;> rw [if_neg (fun z => ip_if0 q3 z.2.2)]
    exact hR
  have q3 := ip_if1 q3
  refine And.intro (fun q4 => ?_) (fun q4 => ?_)
  rotate_left
  · rw [e8] at q4
    refine And.intro ?_ (And.intro ?_ ip_fC.rf) <;> unfold g_weather <;> rw [if_pos ⟨q1, q2, q3⟩, if_pos (Int32.not_le.mp q4)]
    exact hR
  rw [e8] at q4
  refine And.intro (And.intro rfl q1) ?_
  rintro r S'' ⟨rfl, rfl⟩
  refine And.intro ?_ (And.intro ?_ (((ip_fC.rf.sI (by decide) _ _).sI (by decide) _ _).sI (by decide) _ _)) <;> unfold g_weather <;> rw [if_pos ⟨q1, q2, q3⟩, if_neg (Int32.not_lt.mpr q4)]
  exact ip_cR_weather hR q2 q3
theorem ctX4_weather (l : Launch) (M : ip_M) : ip_CT l yX4_weather wsX4_weather rmX4_weather ip_Sta (preX4_weather M) (postX4_weather M) := by
  refine ip_of (cc := cX4_weather) (maxL := 4) (ret := (some .int)) (by decide +kernel) rfl (fun _ => (0, 0)) rfl ?_ ?_
  · intro as S h
    obtain ⟨a, m, c, f, rfl, hq⟩ := ip_e_riii h
    exact ⟨Nat.le_of_ble_eq_true rfl, by simp⟩
  intro p e s m args below meth c D cA A ad0 as S h hI hx hb hml hown hts hr hlocks hname hA hNx
  obtain ⟨a, m, c, f, rfl, hq⟩ := ip_e_riii h
  refine ip_run_ok (stop := fun _ => false) (tX4_weather hx hb hml hown hts hr hlocks hname hA hNx) (fun _ _ _ _ h => False.elim h) 50 0 _ _ S ?_
  exact vX4_weather M a m c f S hI hq

def preX4_loses (M : ip_M) : List ip_V → ip_S → Prop := ip_h_ri (fun _ => False) (fun a m S => a = 0 ∧ ip_cR M S)
def postX4_loses (M : ip_M) : List ip_V → ip_S → List ip_V → ip_S → Prop := ip_h_ri (fun _ _ _ => True) (fun a m S r S' => r = [.inl (g_loses M m).1] ∧ ip_cR (g_loses M m).2 S' ∧ ip_fC S S')
theorem shX4_loses (M : ip_M) : ∀ as S, ip_Sta S → preX4_loses M as S → ∃ (b : Nat) (as' : List ip_V), as = .inr (.inl (some b)) :: as' ∧ as'.length = 1 ∧ (S.2.2.2 b).1 = 4 := by
  intro as S hI h
  obtain ⟨a, m, rfl, hq⟩ := ip_e_ri h
  exact ⟨_, _, rfl, rfl, by rw [hq.1, hI.1 0 (by decide)]; rfl⟩
def rmX4_loses : Room := { frames := 4, cells := 0, slots := 0, locals := 160 }
def pX4_loses (po : List ip_V → ip_S → Prop) : List (Nat × ip_T) := [(0, ip_t_il 1 1), (1, ip_t_call 1 preX4_isMinute postX4_isMinute 4), (4, ip_t_ifne 10 7), (7, ip_t_ci (-100) 9), (9, ip_t_iret po), (10, ip_t_il 1 11), (11, ip_t_ar 0 12), (12, ip_t_gI0 0 8 15), (15, ip_t_icge 22 18), (18, ip_t_ci (-200) 21), (21, ip_t_iret po), (22, ip_t_ar 0 23), (23, ip_t_gR0 0 1 26), (26, ip_t_il 1 27), (27, ip_t_call 2 preX3_isTold postX3_isTold 30), (30, ip_t_call 1 preX4_oneIf postX4_oneIf 33), (33, ip_t_is 2 34), (34, ip_t_ar 0 35), (35, ip_t_gR0 0 1 38), (38, ip_t_il 1 39), (39, ip_t_call 2 preX3_lose postX3_lose 42), (42, ip_t_il 2 43), (43, ip_t_iret po)]
set_option maxRecDepth 100000 in
set_option maxHeartbeats 4000000 in
theorem tX4_loses {p : Program} {l : Launch} {e : Env} {s : State} {m : MethodId} {args : Array Value} {below : List Frame} {meth : Method} {c : Code} {D : va_G} {cA : Nat → ClassId} {A : Nat → Prop} {ad0 : Nat → Nat} {S0 : ip_S} {po : List ip_V → ip_S → Prop} (hx : p.tables.exec = Jvm.exec) (hb : c.code = cX4_loses) (hml : c.maxLocals = 3) (hown : s.vm.findClass RX4 = some m.cls) (hts : ∀ w ∈ wsX4_loses, w.before args s = true) (hr : meth.sig.returnType = (some .int)) (hlocks : meth.locks = false) (hname : meth.name = yX4_loses.name) (hA : ∀ q, s.heap.size ≤ q → A q) (hNx : ip_Nx s) : ∀ q ∈ pX4_loses po, ip_snd p l e rmX4_loses s m args below meth c D cA A (MQ below (ip_Q ip_Sta D cA ad0 S0 A po) args s 0 0 A) 3 (fun _ => (0, 0)) ip_Sta ad0 S0 q.1 q.2 := by
  have hIs : ∀ S, ip_Sta S → ip_Sta S := fun _ h => h
  have hIn := ip_In_Sta
  have hS9 : CallFix p m c cX4_loses 3 s args wsX4_loses RX4 := ⟨hx, hb, hml, hown, hts⟩
  have hin4 : ∀ w ∈ u_ws RX4 TX4 14, w ∈ wsX4_loses := by decide +kernel
  refine List.forall_mem_cons.mpr ⟨ip_s_iload_n hx hb dX4_loses_0 rfl rfl, ?_⟩
  refine List.forall_mem_cons.mpr ⟨ip_s_callS hNx hS9 (ctX4_isMinute l) (va_cwS 1 hts gX4_loses_X4_isMinute rfl rfl rfl (by decide +kernel) ⟨Nat.le_of_ble_eq_true rfl, Nat.le_of_ble_eq_true rfl⟩) (fun as S hI h => shsX4_isMinute as S hI h) hA dX4_loses_1 ⟨Nat.le_of_ble_eq_true rfl, Nat.le_of_ble_eq_true rfl⟩ rfl, ?_⟩
  refine List.forall_mem_cons.mpr ⟨ip_s_ifne (t := 10) hx hb dX4_loses_4 (by decide) rfl rfl, ?_⟩
  refine List.forall_mem_cons.mpr ⟨ip_s_bipush hx hb dX4_loses_7 rfl rfl, ?_⟩
  refine List.forall_mem_cons.mpr ⟨ip_s_iret hx hb hr hlocks (Nat.le_of_ble_eq_true rfl) (Nat.le_of_ble_eq_true rfl) dX4_loses_9, ?_⟩
  refine List.forall_mem_cons.mpr ⟨ip_s_iload_n hx hb dX4_loses_10 rfl rfl, ?_⟩
  refine List.forall_mem_cons.mpr ⟨ip_s_aload_n hx hb dX4_loses_11 rfl rfl, ?_⟩
  refine List.forall_mem_cons.mpr ⟨ip_s_gI0 hx hb hts hin4 hown rfl (by decide) 8 (by decide) (hts (.fieldLink RX4 56 "IcePads" "now" "I") (by decide +kernel)) (fun _ h9 => h9) hIs 0 rfl rfl dX4_loses_12 rfl, ?_⟩
  refine List.forall_mem_cons.mpr ⟨ip_s_icge (t := 22) hx hb dX4_loses_15 (by decide) rfl rfl, ?_⟩
  refine List.forall_mem_cons.mpr ⟨ip_s_sipush hx hb dX4_loses_18 rfl rfl, ?_⟩
  refine List.forall_mem_cons.mpr ⟨ip_s_iret hx hb hr hlocks (Nat.le_of_ble_eq_true rfl) (Nat.le_of_ble_eq_true rfl) dX4_loses_21, ?_⟩
  refine List.forall_mem_cons.mpr ⟨ip_s_aload_n hx hb dX4_loses_22 rfl rfl, ?_⟩
  refine List.forall_mem_cons.mpr ⟨ip_s_gR0 hx hb hts hin4 hown rfl (by decide) 0 (by decide) (hts (.fieldLink RX4 10 "IcePads" "sky" "LIcePads$Sky;") (by decide +kernel)) (fun _ h9 => h9) hIs 0 1 rfl (by decide) rfl dX4_loses_23 rfl, ?_⟩
  refine List.forall_mem_cons.mpr ⟨ip_s_iload_n hx hb dX4_loses_26 rfl rfl, ?_⟩
  refine List.forall_mem_cons.mpr ⟨ip_s_callV hNx hS9 (ctX3_isTold l) (cwV 1 hts gX4_loses_X3_isTold rfl rfl rfl (by decide +kernel) ⟨Nat.le_of_ble_eq_true rfl, Nat.le_of_ble_eq_true rfl⟩) (ci := 3) rfl rfl (by decide) (fun as S hI h => shX3_isTold as S hI h) hA dX4_loses_27 ⟨Nat.le_of_ble_eq_true rfl, Nat.le_of_ble_eq_true rfl⟩ rfl, ?_⟩
  refine List.forall_mem_cons.mpr ⟨ip_s_callS hNx hS9 (ctX4_oneIf l) (va_cwS 1 hts gX4_loses_X4_oneIf rfl rfl rfl (by decide +kernel) ⟨Nat.le_of_ble_eq_true rfl, Nat.le_of_ble_eq_true rfl⟩) (fun as S hI h => shsX4_oneIf as S hI h) hA dX4_loses_30 ⟨Nat.le_of_ble_eq_true rfl, Nat.le_of_ble_eq_true rfl⟩ rfl, ?_⟩
  refine List.forall_mem_cons.mpr ⟨ip_s_istore_n hx hb dX4_loses_33 rfl (by decide) rfl, ?_⟩
  refine List.forall_mem_cons.mpr ⟨ip_s_aload_n hx hb dX4_loses_34 rfl rfl, ?_⟩
  refine List.forall_mem_cons.mpr ⟨ip_s_gR0 hx hb hts hin4 hown rfl (by decide) 0 (by decide) (hts (.fieldLink RX4 10 "IcePads" "sky" "LIcePads$Sky;") (by decide +kernel)) (fun _ h9 => h9) hIs 0 1 rfl (by decide) rfl dX4_loses_35 rfl, ?_⟩
  refine List.forall_mem_cons.mpr ⟨ip_s_iload_n hx hb dX4_loses_38 rfl rfl, ?_⟩
  refine List.forall_mem_cons.mpr ⟨ip_s_callV hNx hS9 (ctX3_lose l) (cwV 1 hts gX4_loses_X3_lose rfl rfl rfl (by decide +kernel) ⟨Nat.le_of_ble_eq_true rfl, Nat.le_of_ble_eq_true rfl⟩) (ci := 3) rfl rfl (by decide) (fun as S hI h => shX3_lose as S hI h) hA dX4_loses_39 ⟨Nat.le_of_ble_eq_true rfl, Nat.le_of_ble_eq_true rfl⟩ rfl, ?_⟩
  refine List.forall_mem_cons.mpr ⟨ip_s_iload_n hx hb dX4_loses_42 rfl rfl, ?_⟩
  refine List.forall_mem_cons.mpr ⟨ip_s_iret hx hb hr hlocks (Nat.le_of_ble_eq_true rfl) (Nat.le_of_ble_eq_true rfl) dX4_loses_43, ?_⟩
  exact fun _ h => absurd h List.not_mem_nil
set_option maxRecDepth 100000 in
set_option maxHeartbeats 4000000 in
theorem vX4_loses (M : ip_M) (a : Nat) (m : Int32) (S : ip_S) (hS : ip_Sta S) (hp : a = 0 ∧ ip_cR M S) : ip_run (pX4_loses (postX4_loses M [.inr (.inl (some a)), .inl m] S)) (fun _ => false) (fun _ _ _ _ => False) 50 0 [some (.inr (.inl (some a))), some (.inl m), none] [] S := by
  obtain ⟨rfl, hR⟩ := hp
  have hR' := hR
  obtain ⟨nf, nj, np, hv, hcS, hcF, hcJ, hcP⟩ := hR'
  have e8 := hcS.1
  have t4 := hcS.2.2.2.2.2.2.2.2.1
  refine And.intro trivial ?_
  rintro r S' ⟨rfl, rfl⟩
  refine And.intro (fun q1 => ?_) (fun q1 => ?_)
  rotate_left
  · refine And.intro ?_ (And.intro ?_ ip_fC.rf) <;> unfold g_loses <;> rw [if_neg (ip_if0 q1)]
    exact hR
  have q1 := ip_if1 q1
  refine And.intro (fun q4 => ?_) (fun q4 => ?_)
  rotate_left
  · rw [e8] at q4
    refine And.intro ?_ (And.intro ?_ ip_fC.rf) <;> unfold g_loses <;> rw [if_pos q1, if_pos (Int32.not_le.mp q4)]
    exact hR
  rw [e8] at q4
  have hlt : m < 300 := Int32.lt_of_le_of_lt q1.2 (by decide)
  refine And.intro (And.intro rfl trivial) ?_
  rintro r S' ⟨rfl, rfl⟩
  refine And.intro trivial ?_
  rintro r S' ⟨rfl, rfl⟩
  refine And.intro (And.intro rfl q1) ?_
  rintro r S'' ⟨rfl, rfl⟩
  refine And.intro ?_ (And.intro ?_ (ip_fC.rf.sI (by decide) _ _)) <;> unfold g_loses <;> rw [if_pos q1, if_neg (Int32.not_lt.mpr q4)]
  · rw [t4]
    by_cases ht : M 51 m.toNatClampNeg = 0
    · have e : (if 0 ≤ m ∧ m < 300 ∧ ¬ M 51 m.toNatClampNeg = 0 then (1 : Int32) else 0) = 0 := if_neg (fun z => z.2.2 ht)
      rw [if_pos ht, if_pos e]
    · have e : (if 0 ≤ m ∧ m < 300 ∧ ¬ M 51 m.toNatClampNeg = 0 then (1 : Int32) else 0) = 1 := if_pos ⟨q1.1, hlt, ht⟩
      rw [if_neg ht, e, if_neg (by decide)]
  · exact ip_cR_loses hR
theorem ctX4_loses (l : Launch) (M : ip_M) : ip_CT l yX4_loses wsX4_loses rmX4_loses ip_Sta (preX4_loses M) (postX4_loses M) := by
  refine ip_of (cc := cX4_loses) (maxL := 3) (ret := (some .int)) (by decide +kernel) rfl (fun _ => (0, 0)) rfl ?_ ?_
  · intro as S h
    obtain ⟨a, m, rfl, hq⟩ := ip_e_ri h
    exact ⟨Nat.le_of_ble_eq_true rfl, by simp⟩
  intro p e s m args below meth c D cA A ad0 as S h hI hx hb hml hown hts hr hlocks hname hA hNx
  obtain ⟨a, m, rfl, hq⟩ := ip_e_ri h
  refine ip_run_ok (stop := fun _ => false) (tX4_loses hx hb hml hown hts hr hlocks hname hA hNx) (fun _ _ _ _ h => False.elim h) 50 0 _ _ S ?_
  exact vX4_loses M a m S hI hq

def preX4_fill (M : ip_M) : List ip_V → ip_S → Prop := ip_h_rii (fun _ => False) (fun a f n S => a = 0 ∧ ip_cR M S)
def postX4_fill (M : ip_M) : List ip_V → ip_S → List ip_V → ip_S → Prop := ip_h_rii (fun _ _ _ => True) (fun a f n S r S' => r = [.inl (g_fill M f n).1] ∧ ip_cR (g_fill M f n).2 S' ∧ ip_fC S S')
theorem shX4_fill (M : ip_M) : ∀ as S, ip_Sta S → preX4_fill M as S → ∃ (b : Nat) (as' : List ip_V), as = .inr (.inl (some b)) :: as' ∧ as'.length = 2 ∧ (S.2.2.2 b).1 = 4 := by
  intro as S hI h
  obtain ⟨a, f, n, rfl, hq⟩ := ip_e_rii h
  exact ⟨_, _, rfl, rfl, by rw [hq.1, hI.1 0 (by decide)]; rfl⟩
def rmX4_fill : Room := { frames := 3, cells := 0, slots := 0, locals := 120 }
def pX4_fill (po : List ip_V → ip_S → Prop) : List (Nat × ip_T) := [(0, ip_t_ar 0 1), (1, ip_t_il 1 2), (2, ip_t_callG 2 preX4_fluidAt postX4_fluidAt 5), (5, ip_t_as 3 6), (6, ip_t_ar 3 7), (7, ip_t_null 21 10), (10, ip_t_il 2 11), (11, ip_t_ci 0 12), (12, ip_t_ci 2000 15), (15, ip_t_call 3 preX4_within postX4_within 18), (18, ip_t_ifne 24 21), (21, ip_t_ci (-100) 23), (23, ip_t_iret po), (24, ip_t_ar 3 25), (25, ip_t_gI 0 4 28), (28, ip_t_is 4 30), (30, ip_t_ar 3 31), (31, ip_t_il 2 32), (32, ip_t_pI 0 4 35), (35, ip_t_il 4 37), (37, ip_t_iret po)]
set_option maxRecDepth 100000 in
set_option maxHeartbeats 4000000 in
theorem tX4_fill {p : Program} {l : Launch} {e : Env} {s : State} {m : MethodId} {args : Array Value} {below : List Frame} {meth : Method} {c : Code} {D : va_G} {cA : Nat → ClassId} {A : Nat → Prop} {ad0 : Nat → Nat} {S0 : ip_S} {po : List ip_V → ip_S → Prop} (hx : p.tables.exec = Jvm.exec) (hb : c.code = cX4_fill) (hml : c.maxLocals = 5) (hown : s.vm.findClass RX4 = some m.cls) (hts : ∀ w ∈ wsX4_fill, w.before args s = true) (hr : meth.sig.returnType = (some .int)) (hlocks : meth.locks = false) (hname : meth.name = yX4_fill.name) (hA : ∀ q, s.heap.size ≤ q → A q) (hNx : ip_Nx s) : ∀ q ∈ pX4_fill po, ip_snd p l e rmX4_fill s m args below meth c D cA A (MQ below (ip_Q ip_Sta D cA ad0 S0 A po) args s 0 0 A) 5 (fun _ => (0, 0)) ip_Sta ad0 S0 q.1 q.2 := by
  have hIs : ∀ S, ip_Sta S → ip_Sta S := fun _ h => h
  have hIn := ip_In_Sta
  have hS9 : CallFix p m c cX4_fill 5 s args wsX4_fill RX4 := ⟨hx, hb, hml, hown, hts⟩
  have hin0 : ∀ w ∈ u_ws RX0 TX0 5, w ∈ wsX4_fill := by decide +kernel
  refine List.forall_mem_cons.mpr ⟨ip_s_aload_n hx hb dX4_fill_0 rfl rfl, ?_⟩
  refine List.forall_mem_cons.mpr ⟨ip_s_iload_n hx hb dX4_fill_1 rfl rfl, ?_⟩
  refine List.forall_mem_cons.mpr ⟨ip_s_G (fun M => ip_s_callV hNx hS9 (ctX4_fluidAt l M) (cwV 1 hts gX4_fill_X4_fluidAt rfl rfl rfl (by decide +kernel) ⟨Nat.le_of_ble_eq_true rfl, Nat.le_of_ble_eq_true rfl⟩) (ci := 4) rfl rfl (by decide) (fun as S hI h => shX4_fluidAt M as S hI h) hA dX4_fill_2 ⟨Nat.le_of_ble_eq_true rfl, Nat.le_of_ble_eq_true rfl⟩ rfl), ?_⟩
  refine List.forall_mem_cons.mpr ⟨ip_s_astore_n hx hb dX4_fill_5 rfl (by decide) rfl, ?_⟩
  refine List.forall_mem_cons.mpr ⟨ip_s_aload_n hx hb dX4_fill_6 rfl rfl, ?_⟩
  refine List.forall_mem_cons.mpr ⟨ip_s_ifnull (t := 21) hx hb dX4_fill_7 (by decide) rfl rfl, ?_⟩
  refine List.forall_mem_cons.mpr ⟨ip_s_iload_n hx hb dX4_fill_10 rfl rfl, ?_⟩
  refine List.forall_mem_cons.mpr ⟨ip_s_iconst hx hb dX4_fill_11 rfl rfl, ?_⟩
  refine List.forall_mem_cons.mpr ⟨ip_s_sipush hx hb dX4_fill_12 rfl rfl, ?_⟩
  refine List.forall_mem_cons.mpr ⟨ip_s_callS hNx hS9 (ctX4_within l) (va_cwS 3 hts gX4_fill_X4_within rfl rfl rfl (by decide +kernel) ⟨Nat.le_of_ble_eq_true rfl, Nat.le_of_ble_eq_true rfl⟩) (fun as S hI h => shsX4_within as S hI h) hA dX4_fill_15 ⟨Nat.le_of_ble_eq_true rfl, Nat.le_of_ble_eq_true rfl⟩ rfl, ?_⟩
  refine List.forall_mem_cons.mpr ⟨ip_s_ifne (t := 24) hx hb dX4_fill_18 (by decide) rfl rfl, ?_⟩
  refine List.forall_mem_cons.mpr ⟨ip_s_bipush hx hb dX4_fill_21 rfl rfl, ?_⟩
  refine List.forall_mem_cons.mpr ⟨ip_s_iret hx hb hr hlocks (Nat.le_of_ble_eq_true rfl) (Nat.le_of_ble_eq_true rfl) dX4_fill_23, ?_⟩
  refine List.forall_mem_cons.mpr ⟨ip_s_aload_n hx hb dX4_fill_24 rfl rfl, ?_⟩
  refine List.forall_mem_cons.mpr ⟨ip_s_gI hx hb hts hin0 hown rfl (by decide) 4 (by decide) (hts (.fieldLink RX4 107 "IcePads$Fluid" "litresLeft" "I") (by decide +kernel)) (fun _ h9 => h9) rfl dX4_fill_25 rfl, ?_⟩
  refine List.forall_mem_cons.mpr ⟨ip_s_istore hx hb dX4_fill_28 (by decide) rfl, ?_⟩
  refine List.forall_mem_cons.mpr ⟨ip_s_aload_n hx hb dX4_fill_30 rfl rfl, ?_⟩
  refine List.forall_mem_cons.mpr ⟨ip_s_iload_n hx hb dX4_fill_31 rfl rfl, ?_⟩
  refine List.forall_mem_cons.mpr ⟨ip_s_pI hx hb hts hin0 hown rfl (by decide) 4 (by decide) (hts (.fieldLink RX4 107 "IcePads$Fluid" "litresLeft" "I") (by decide +kernel)) (fun _ h9 => h9) tyX0 tyX0_ok nmX0 hIn rfl rfl (by decide +kernel) dX4_fill_32 rfl, ?_⟩
  refine List.forall_mem_cons.mpr ⟨ip_s_iload hx hb dX4_fill_35 rfl, ?_⟩
  refine List.forall_mem_cons.mpr ⟨ip_s_iret hx hb hr hlocks (Nat.le_of_ble_eq_true rfl) (Nat.le_of_ble_eq_true rfl) dX4_fill_37, ?_⟩
  exact fun _ h => absurd h List.not_mem_nil
set_option maxRecDepth 100000 in
set_option maxHeartbeats 4000000 in
theorem vX4_fill (M : ip_M) (a : Nat) (f : Int32) (n : Int32) (S : ip_S) (hS : ip_Sta S) (hp : a = 0 ∧ ip_cR M S) : ip_run (pX4_fill (postX4_fill M [.inr (.inl (some a)), .inl f, .inl n] S)) (fun _ => false) (fun _ _ _ _ => False) 50 0 [some (.inr (.inl (some a))), some (.inl f), some (.inl n), none, none] [] S := by
  obtain ⟨rfl, hR⟩ := hp
  refine Exists.intro M (And.intro (And.intro rfl hR) ?_)
  rintro r S' ⟨rfl, rfl⟩
  have hR' := hR
  obtain ⟨nf, nj, np, hv, hcS, hcF, hcJ, hcP⟩ := hR'
  by_cases hf : ip_isF M f
  rotate_left
  · rw [if_neg hf]
    refine And.intro ?_ (And.intro ?_ ip_fC.rf) <;> unfold g_fill <;> rw [if_neg (fun z => hf z.1)]
    exact hR
  rw [if_pos hf]
  obtain ⟨i, hi, rfl⟩ := (ip_isF_vv hv f).mp hf
  have hnf := hv.1.2.1
  have hci : (nI i).toNatClampNeg = i := nI_clamp (by omega)
  rw [hci]
  obtain ⟨f1, f2, f3, f4, f5, f6, f7, f8, f9⟩ := hcF.1 i hi
  refine And.intro trivial ?_
  rintro r S' ⟨rfl, rfl⟩
  refine And.intro (fun q => ?_) (fun q => ?_)
  rotate_left
  · refine And.intro ?_ (And.intro ?_ ip_fC.rf) <;> unfold g_fill <;> rw [if_neg (fun z => ip_if0 q z.2)]
    exact hR
  have q := ip_if1 q
  refine And.intro f2 ?_
  refine And.intro f2 ?_
  refine And.intro ?_ (And.intro ?_ (ip_fC.rf.sI (by omega) _ _)) <;> unfold g_fill <;> rw [if_pos ⟨hf, q⟩, hci]
  · rw [f8]
  · exact ip_cR_fill hv hi hcS hcF hcJ hcP
theorem ctX4_fill (l : Launch) (M : ip_M) : ip_CT l yX4_fill wsX4_fill rmX4_fill ip_Sta (preX4_fill M) (postX4_fill M) := by
  refine ip_of (cc := cX4_fill) (maxL := 5) (ret := (some .int)) (by decide +kernel) rfl (fun _ => (0, 0)) rfl ?_ ?_
  · intro as S h
    obtain ⟨a, f, n, rfl, hq⟩ := ip_e_rii h
    exact ⟨Nat.le_of_ble_eq_true rfl, by simp⟩
  intro p e s m args below meth c D cA A ad0 as S h hI hx hb hml hown hts hr hlocks hname hA hNx
  obtain ⟨a, f, n, rfl, hq⟩ := ip_e_rii h
  refine ip_run_ok (stop := fun _ => false) (tX4_fill hx hb hml hown hts hr hlocks hname hA hNx) (fun _ _ _ _ h => False.elim h) 50 0 _ _ S ?_
  exact vX4_fill M a f n S hI hq
