theorem ip_tb64 {k : Int32} : (if k = 0 then (1 : Int32) else if k = 1 then 11 else 111).toInt64 = (if k = 0 then (1 : Int64) else if k = 1 then 11 else 111) := by
  split
  · rfl
  · split <;> rfl
theorem ip_cR.sJ {M : ip_M} {S : ip_S} (h : ip_cR M S) (p k : Nat) (v : Int64) : ip_cR M (ip_sJ S p k v) := h

def preX4_hold (M : ip_M) : List ip_V → ip_S → Prop := ip_h_rii (fun _ => False) (fun a f m S => a = 0 ∧ ip_cR M S)
def postX4_hold (M : ip_M) : List ip_V → ip_S → List ip_V → ip_S → Prop := ip_h_rii (fun _ _ _ => True) (fun a f m S r S' => r = [.inl (if ip_isF M f ∧ 0 ≤ m ∧ m ≤ 299 then g_hold M f.toNatClampNeg m.toNatClampNeg else -100)] ∧ S' = (if ip_isF M f ∧ 0 ≤ m ∧ m ≤ 299 then ip_sJ S 0 13 (S.2.2.1 0 13 + g_tb M f.toNatClampNeg) else S))
theorem shX4_hold (M : ip_M) : ∀ as S, ip_Sta S → preX4_hold M as S → ∃ (b : Nat) (as' : List ip_V), as = .inr (.inl (some b)) :: as' ∧ as'.length = 2 ∧ (S.2.2.2 b).1 = 4 := by
  intro as S hI h
  obtain ⟨a, f, m, rfl, hq⟩ := ip_e_rii h
  exact ⟨_, _, rfl, rfl, by rw [hq.1, hI.1 0 (by decide)]; rfl⟩
def rmX4_hold : Room := { frames := 4, cells := 0, slots := 0, locals := 160 }
def pX4_hold (po : List ip_V → ip_S → Prop) : List (Nat × ip_T) := [(0, ip_t_ar 0 1), (1, ip_t_il 1 2), (2, ip_t_callG 2 preX4_fluidAt postX4_fluidAt 5), (5, ip_t_as 3 6), (6, ip_t_ar 3 7), (7, ip_t_null 17 10), (10, ip_t_il 2 11), (11, ip_t_call 1 preX4_isMinute postX4_isMinute 14), (14, ip_t_ifne 20 17), (17, ip_t_ci (-100) 19), (19, ip_t_iret po), (20, ip_t_ar 0 21), (21, ip_t_dup 22), (22, ip_t_gJ0 0 13 25), (25, ip_t_ar 3 26), (26, ip_t_call 1 preX0_traceOfBodies postX0_traceOfBodies 29), (29, ip_t_i2l 30), (30, ip_t_ladd 31), (31, ip_t_pJ0 0 13 34), (34, ip_t_ar 0 35), (35, ip_t_ar 3 36), (36, ip_t_il 2 37), (37, ip_t_callG 3 preX4_holdIn postX4_holdIn 40), (40, ip_t_iret po)]
set_option maxRecDepth 100000 in
set_option maxHeartbeats 4000000 in
theorem tX4_hold {p : Program} {l : Launch} {e : Env} {s : State} {m : MethodId} {args : Array Value} {below : List Frame} {meth : Method} {c : Code} {D : va_G} {cA : Nat → ClassId} {A : Nat → Prop} {ad0 : Nat → Nat} {S0 : ip_S} {po : List ip_V → ip_S → Prop} (hx : p.tables.exec = Jvm.exec) (hb : c.code = cX4_hold) (hml : c.maxLocals = 4) (hown : s.vm.findClass RX4 = some m.cls) (hts : ∀ w ∈ wsX4_hold, w.before args s = true) (hr : meth.sig.returnType = (some .int)) (hlocks : meth.locks = false) (hname : meth.name = yX4_hold.name) (hA : ∀ q, s.heap.size ≤ q → A q) (hNx : ip_Nx s) : ∀ q ∈ pX4_hold po, ip_snd p l e rmX4_hold s m args below meth c D cA A (MQ below (ip_Q ip_Sta D cA ad0 S0 A po) args s 0 0 A) 4 (fun _ => (0, 0)) ip_Sta ad0 S0 q.1 q.2 := by
  have hIs : ∀ S, ip_Sta S → ip_Sta S := fun _ h => h
  have hIn := ip_In_Sta
  have hS9 : CallFix p m c cX4_hold 4 s args wsX4_hold RX4 := ⟨hx, hb, hml, hown, hts⟩
  have hin4 : ∀ w ∈ u_ws RX4 TX4 14, w ∈ wsX4_hold := by decide +kernel
  refine List.forall_mem_cons.mpr ⟨ip_s_aload_n hx hb dX4_hold_0 rfl rfl, ?_⟩
  refine List.forall_mem_cons.mpr ⟨ip_s_iload_n hx hb dX4_hold_1 rfl rfl, ?_⟩
  refine List.forall_mem_cons.mpr ⟨ip_s_G (fun M => ip_s_callV hNx hS9 (ctX4_fluidAt l M) (cwV 1 hts gX4_hold_X4_fluidAt rfl rfl rfl (by decide +kernel) ⟨Nat.le_of_ble_eq_true rfl, Nat.le_of_ble_eq_true rfl⟩) (ci := 4) rfl rfl (by decide) (fun as S hI h => shX4_fluidAt M as S hI h) hA dX4_hold_2 ⟨Nat.le_of_ble_eq_true rfl, Nat.le_of_ble_eq_true rfl⟩ rfl), ?_⟩
  refine List.forall_mem_cons.mpr ⟨ip_s_astore_n hx hb dX4_hold_5 rfl (by decide) rfl, ?_⟩
  refine List.forall_mem_cons.mpr ⟨ip_s_aload_n hx hb dX4_hold_6 rfl rfl, ?_⟩
  refine List.forall_mem_cons.mpr ⟨ip_s_ifnull (t := 17) hx hb dX4_hold_7 (by decide) rfl rfl, ?_⟩
  refine List.forall_mem_cons.mpr ⟨ip_s_iload_n hx hb dX4_hold_10 rfl rfl, ?_⟩
  refine List.forall_mem_cons.mpr ⟨ip_s_callS hNx hS9 (ctX4_isMinute l) (va_cwS 1 hts gX4_hold_X4_isMinute rfl rfl rfl (by decide +kernel) ⟨Nat.le_of_ble_eq_true rfl, Nat.le_of_ble_eq_true rfl⟩) (fun as S hI h => shsX4_isMinute as S hI h) hA dX4_hold_11 ⟨Nat.le_of_ble_eq_true rfl, Nat.le_of_ble_eq_true rfl⟩ rfl, ?_⟩
  refine List.forall_mem_cons.mpr ⟨ip_s_ifne (t := 20) hx hb dX4_hold_14 (by decide) rfl rfl, ?_⟩
  refine List.forall_mem_cons.mpr ⟨ip_s_bipush hx hb dX4_hold_17 rfl rfl, ?_⟩
  refine List.forall_mem_cons.mpr ⟨ip_s_iret hx hb hr hlocks (Nat.le_of_ble_eq_true rfl) (Nat.le_of_ble_eq_true rfl) dX4_hold_19, ?_⟩
  refine List.forall_mem_cons.mpr ⟨ip_s_aload_n hx hb dX4_hold_20 rfl rfl, ?_⟩
  refine List.forall_mem_cons.mpr ⟨ip_s_dup hx hb dX4_hold_21 rfl, ?_⟩
  refine List.forall_mem_cons.mpr ⟨ip_s_gJ0 hx hb hts hin4 hown rfl (by decide) 13 (by decide) (hts (.fieldLink RX4 95 "IcePads" "traced" "J") (by decide +kernel)) (fun _ h9 => h9) hIs 0 rfl rfl dX4_hold_22 rfl, ?_⟩
  refine List.forall_mem_cons.mpr ⟨ip_s_aload_n hx hb dX4_hold_25 rfl rfl, ?_⟩
  refine List.forall_mem_cons.mpr ⟨ip_s_callV hNx hS9 (ctX0_traceOfBodies l) (cwV 0 hts gX4_hold_X0_traceOfBodies rfl rfl rfl (by decide +kernel) ⟨Nat.le_of_ble_eq_true rfl, Nat.le_of_ble_eq_true rfl⟩) (ci := 0) rfl rfl (by decide) (fun as S hI h => shX0_traceOfBodies as S hI h) hA dX4_hold_26 ⟨Nat.le_of_ble_eq_true rfl, Nat.le_of_ble_eq_true rfl⟩ rfl, ?_⟩
  refine List.forall_mem_cons.mpr ⟨ip_s_i2l hx hb dX4_hold_29 rfl, ?_⟩
  refine List.forall_mem_cons.mpr ⟨ip_s_ladd hx hb dX4_hold_30 rfl, ?_⟩
  refine List.forall_mem_cons.mpr ⟨ip_s_pJ0 hx hb hts hin4 hown rfl (by decide) 13 (by decide) (hts (.fieldLink RX4 95 "IcePads" "traced" "J") (by decide +kernel)) (fun _ h9 => h9) tyX4 tyX4_ok nmX4 hIn hIs 0 rfl rfl rfl (by decide +kernel) dX4_hold_31 rfl, ?_⟩
  refine List.forall_mem_cons.mpr ⟨ip_s_aload_n hx hb dX4_hold_34 rfl rfl, ?_⟩
  refine List.forall_mem_cons.mpr ⟨ip_s_aload_n hx hb dX4_hold_35 rfl rfl, ?_⟩
  refine List.forall_mem_cons.mpr ⟨ip_s_iload_n hx hb dX4_hold_36 rfl rfl, ?_⟩
  refine List.forall_mem_cons.mpr ⟨ip_s_G (fun M => ip_s_callV hNx hS9 (ctX4_holdIn l M) (cwV 2 hts gX4_hold_X4_holdIn rfl rfl rfl (by decide +kernel) ⟨Nat.le_of_ble_eq_true rfl, Nat.le_of_ble_eq_true rfl⟩) (ci := 4) rfl rfl (by decide) (fun as S hI h => shX4_holdIn M as S hI h) hA dX4_hold_37 ⟨Nat.le_of_ble_eq_true rfl, Nat.le_of_ble_eq_true rfl⟩ rfl), ?_⟩
  refine List.forall_mem_cons.mpr ⟨ip_s_iret hx hb hr hlocks (Nat.le_of_ble_eq_true rfl) (Nat.le_of_ble_eq_true rfl) dX4_hold_40, ?_⟩
  exact fun _ h => absurd h List.not_mem_nil
set_option maxRecDepth 100000 in
set_option maxHeartbeats 4000000 in
theorem vX4_hold (M : ip_M) (a : Nat) (f : Int32) (m : Int32) (S : ip_S) (hS : ip_Sta S) (hp : a = 0 ∧ ip_cR M S) : ip_run (pX4_hold (postX4_hold M [.inr (.inl (some a)), .inl f, .inl m] S)) (fun _ => false) (fun _ _ _ _ => False) 50 0 [some (.inr (.inl (some a))), some (.inl f), some (.inl m), none] [] S := by
  obtain ⟨rfl, hR⟩ := hp
  refine Exists.intro M (And.intro (And.intro rfl hR) ?_)
  rintro r S' ⟨rfl, rfl⟩
  have hR' := hR
  obtain ⟨nf, nj, np, hv, hcS, hcF, hcJ, hcP⟩ := hR
  by_cases hf : ip_isF M f
  rotate_left
  · rw [if_neg hf]
    refine And.intro ?_ ?_ <;> rw [if_neg (fun z => hf z.1)]
  rw [if_pos hf]
  obtain ⟨i, hi, rfl⟩ := (ip_isF_vv hv f).mp hf
  have hi4 : i < 4 := by have := hv.1.2.1; omega
  have hci : (nI i).toNatClampNeg = i := nI_clamp (by omega)
  rw [hci]
  obtain ⟨f1, f2, f3, f4, f5, f6, f7, f8, f9⟩ := hcF.1 i hi
  refine And.intro trivial ?_
  rintro r S' ⟨rfl, rfl⟩
  refine And.intro (fun q => ?_) (fun q => ?_)
  · have q := ip_if1 q
    refine And.intro (And.intro f2 trivial) ?_
    rintro r S' ⟨rfl, rfl⟩
    rw [f5]
    refine Exists.intro M (And.intro (And.intro rfl (And.intro hv.2.1 (And.intro hcS.hS (And.intro ⟨i, rfl, hcF.hF hi⟩ q)))) ?_)
    rintro r S' ⟨rfl, rfl⟩
    refine And.intro ?_ ?_ <;> rw [if_pos (show ip_isF M (nI i) ∧ 0 ≤ m ∧ m ≤ 299 from ⟨hf, q⟩)]
    · rw [hci, show 20 + i - 20 = i by omega]
    · unfold g_tb
      rw [hci, ip_tb64]
  · refine And.intro ?_ ?_ <;> rw [if_neg (fun z => ip_if0 q z.2)]
theorem ctX4_hold (l : Launch) (M : ip_M) : ip_CT l yX4_hold wsX4_hold rmX4_hold ip_Sta (preX4_hold M) (postX4_hold M) := by
  refine ip_of (cc := cX4_hold) (maxL := 4) (ret := (some .int)) (by decide +kernel) rfl (fun _ => (0, 0)) rfl ?_ ?_
  · intro as S h
    obtain ⟨a, f, m, rfl, hq⟩ := ip_e_rii h
    exact ⟨Nat.le_of_ble_eq_true rfl, by simp⟩
  intro p e s m args below meth c D cA A ad0 as S h hI hx hb hml hown hts hr hlocks hname hA hNx
  obtain ⟨a, f, m, rfl, hq⟩ := ip_e_rii h
  refine ip_run_ok (stop := fun _ => false) (tX4_hold hx hb hml hown hts hr hlocks hname hA hNx) (fun _ _ _ _ h => False.elim h) 50 0 _ _ S ?_
  exact vX4_hold M a f m S hI hq

def preX4_trace : List ip_V → ip_S → Prop := ip_h_r (fun _ => False) (fun a S => a = 0 ∧ True)
def postX4_trace : List ip_V → ip_S → List ip_V → ip_S → Prop := ip_h_r (fun _ _ _ => True) (fun a S r S' => r = [.inr (.inr (S.2.2.1 0 13))] ∧ S' = S)
theorem shX4_trace : ∀ as S, ip_Sta S → preX4_trace as S → ∃ (b : Nat) (as' : List ip_V), as = .inr (.inl (some b)) :: as' ∧ as'.length = 0 ∧ (S.2.2.2 b).1 = 4 := by
  intro as S hI h
  obtain ⟨a, rfl, hq⟩ := ip_e_r h
  exact ⟨_, _, rfl, rfl, by rw [hq.1, hI.1 0 (by decide)]; rfl⟩
def rmX4_trace : Room := { frames := 1, cells := 0, slots := 0, locals := 40 }
def pX4_trace (po : List ip_V → ip_S → Prop) : List (Nat × ip_T) := [(0, ip_t_ar 0 1), (1, ip_t_gJ0 0 13 4), (4, ip_t_lret po)]
set_option maxRecDepth 100000 in
set_option maxHeartbeats 4000000 in
theorem tX4_trace {p : Program} {l : Launch} {e : Env} {s : State} {m : MethodId} {args : Array Value} {below : List Frame} {meth : Method} {c : Code} {D : va_G} {cA : Nat → ClassId} {A : Nat → Prop} {ad0 : Nat → Nat} {S0 : ip_S} {po : List ip_V → ip_S → Prop} (hx : p.tables.exec = Jvm.exec) (hb : c.code = cX4_trace) (hml : c.maxLocals = 1) (hown : s.vm.findClass RX4 = some m.cls) (hts : ∀ w ∈ wsX4_trace, w.before args s = true) (hr : meth.sig.returnType = (some .long)) (hlocks : meth.locks = false) (hname : meth.name = yX4_trace.name) (hA : ∀ q, s.heap.size ≤ q → A q) (hNx : ip_Nx s) : ∀ q ∈ pX4_trace po, ip_snd p l e rmX4_trace s m args below meth c D cA A (MQ below (ip_Q ip_Sta D cA ad0 S0 A po) args s 0 0 A) 1 (fun _ => (0, 0)) ip_Sta ad0 S0 q.1 q.2 := by
  have hIs : ∀ S, ip_Sta S → ip_Sta S := fun _ h => h
  have hIn := ip_In_Sta
  have hS9 : CallFix p m c cX4_trace 1 s args wsX4_trace RX4 := ⟨hx, hb, hml, hown, hts⟩
  have hin4 : ∀ w ∈ u_ws RX4 TX4 14, w ∈ wsX4_trace := by decide +kernel
  refine List.forall_mem_cons.mpr ⟨ip_s_aload_n hx hb dX4_trace_0 rfl rfl, ?_⟩
  refine List.forall_mem_cons.mpr ⟨ip_s_gJ0 hx hb hts hin4 hown rfl (by decide) 13 (by decide) (hts (.fieldLink RX4 95 "IcePads" "traced" "J") (by decide +kernel)) (fun _ h9 => h9) hIs 0 rfl rfl dX4_trace_1 rfl, ?_⟩
  refine List.forall_mem_cons.mpr ⟨ip_s_lret hx hb hr hlocks (Nat.le_of_ble_eq_true rfl) (Nat.le_of_ble_eq_true rfl) dX4_trace_4, ?_⟩
  exact fun _ h => absurd h List.not_mem_nil
set_option maxRecDepth 100000 in
set_option maxHeartbeats 4000000 in
theorem vX4_trace (a : Nat) (S : ip_S) (hS : ip_Sta S) (hp : a = 0 ∧ True) : ip_run (pX4_trace (postX4_trace [.inr (.inl (some a))] S)) (fun _ => false) (fun _ _ _ _ => False) 20 0 [some (.inr (.inl (some a)))] [] S := by
  obtain ⟨rfl, -⟩ := hp
  exact And.intro rfl rfl
theorem ctX4_trace (l : Launch) : ip_CT l yX4_trace wsX4_trace rmX4_trace ip_Sta (preX4_trace) (postX4_trace) := by
  refine ip_of (cc := cX4_trace) (maxL := 1) (ret := (some .long)) (by decide +kernel) rfl (fun _ => (0, 0)) rfl ?_ ?_
  · intro as S h
    obtain ⟨a, rfl, hq⟩ := ip_e_r h
    exact ⟨Nat.le_of_ble_eq_true rfl, by simp⟩
  intro p e s m args below meth c D cA A ad0 as S h hI hx hb hml hown hts hr hlocks hname hA hNx
  obtain ⟨a, rfl, hq⟩ := ip_e_r h
  refine ip_run_ok (stop := fun _ => false) (tX4_trace hx hb hml hown hts hr hlocks hname hA hNx) (fun _ _ _ _ h => False.elim h) 20 0 _ _ S ?_
  exact vX4_trace a S hI hq

def preX4_on (M : ip_M) : List ip_V → ip_S → Prop := ip_h_ri (fun _ => False) (fun a pd S => a = 0 ∧ ip_cR M S)
def postX4_on (M : ip_M) : List ip_V → ip_S → List ip_V → ip_S → Prop := ip_h_ri (fun _ _ _ => True) (fun a pd S r S' => r = [.inl (g_on M pd)] ∧ S' = S)
theorem shX4_on (M : ip_M) : ∀ as S, ip_Sta S → preX4_on M as S → ∃ (b : Nat) (as' : List ip_V), as = .inr (.inl (some b)) :: as' ∧ as'.length = 1 ∧ (S.2.2.2 b).1 = 4 := by
  intro as S hI h
  obtain ⟨a, pd, rfl, hq⟩ := ip_e_ri h
  exact ⟨_, _, rfl, rfl, by rw [hq.1, hI.1 0 (by decide)]; rfl⟩
def rmX4_on : Room := { frames := 2, cells := 0, slots := 0, locals := 80 }
def pX4_on (po : List ip_V → ip_S → Prop) : List (Nat × ip_T) := [(0, ip_t_il 1 1), (1, ip_t_ci 0 2), (2, ip_t_ar 0 3), (3, ip_t_gI0 0 6 6), (6, ip_t_ci 1 7), (7, ip_t_isub 8), (8, ip_t_call 3 preX4_within postX4_within 11), (11, ip_t_ifne 17 14), (14, ip_t_ci (-100) 16), (16, ip_t_iret po), (17, ip_t_ar 0 18), (18, ip_t_gR0 0 7 21), (21, ip_t_il 1 22), (22, ip_t_lda 9 23), (23, ip_t_as 2 24), (24, ip_t_ar 2 25), (25, ip_t_null 28 34), (28, ip_t_ci (-900) 31), (31, ip_t_go 38), (34, ip_t_ar 2 35), (35, ip_t_gI 1 0 38), (38, ip_t_iret po)]
set_option maxRecDepth 100000 in
set_option maxHeartbeats 4000000 in
theorem tX4_on {p : Program} {l : Launch} {e : Env} {s : State} {m : MethodId} {args : Array Value} {below : List Frame} {meth : Method} {c : Code} {D : va_G} {cA : Nat → ClassId} {A : Nat → Prop} {ad0 : Nat → Nat} {S0 : ip_S} {po : List ip_V → ip_S → Prop} (hx : p.tables.exec = Jvm.exec) (hb : c.code = cX4_on) (hml : c.maxLocals = 3) (hown : s.vm.findClass RX4 = some m.cls) (hts : ∀ w ∈ wsX4_on, w.before args s = true) (hr : meth.sig.returnType = (some .int)) (hlocks : meth.locks = false) (hname : meth.name = yX4_on.name) (hA : ∀ q, s.heap.size ≤ q → A q) (hNx : ip_Nx s) : ∀ q ∈ pX4_on po, ip_snd p l e rmX4_on s m args below meth c D cA A (MQ below (ip_Q ip_Sta D cA ad0 S0 A po) args s 0 0 A) 3 (fun _ => (0, 0)) ip_Sta ad0 S0 q.1 q.2 := by
  have hIs : ∀ S, ip_Sta S → ip_Sta S := fun _ h => h
  have hIn := ip_In_Sta
  have hS9 : CallFix p m c cX4_on 3 s args wsX4_on RX4 := ⟨hx, hb, hml, hown, hts⟩
  have hin1 : ∀ w ∈ u_ws RX1 TX1 11, w ∈ wsX4_on := by decide +kernel
  have hin4 : ∀ w ∈ u_ws RX4 TX4 14, w ∈ wsX4_on := by decide +kernel
  refine List.forall_mem_cons.mpr ⟨ip_s_iload_n hx hb dX4_on_0 rfl rfl, ?_⟩
  refine List.forall_mem_cons.mpr ⟨ip_s_iconst hx hb dX4_on_1 rfl rfl, ?_⟩
  refine List.forall_mem_cons.mpr ⟨ip_s_aload_n hx hb dX4_on_2 rfl rfl, ?_⟩
  refine List.forall_mem_cons.mpr ⟨ip_s_gI0 hx hb hts hin4 hown rfl (by decide) 6 (by decide) (hts (.fieldLink RX4 38 "IcePads" "padCount" "I") (by decide +kernel)) (fun _ h9 => h9) hIs 0 rfl rfl dX4_on_3 rfl, ?_⟩
  refine List.forall_mem_cons.mpr ⟨ip_s_iconst hx hb dX4_on_6 rfl rfl, ?_⟩
  refine List.forall_mem_cons.mpr ⟨ip_s_isub hx hb dX4_on_7 rfl, ?_⟩
  refine List.forall_mem_cons.mpr ⟨ip_s_callS hNx hS9 (ctX4_within l) (va_cwS 3 hts gX4_on_X4_within rfl rfl rfl (by decide +kernel) ⟨Nat.le_of_ble_eq_true rfl, Nat.le_of_ble_eq_true rfl⟩) (fun as S hI h => shsX4_within as S hI h) hA dX4_on_8 ⟨Nat.le_of_ble_eq_true rfl, Nat.le_of_ble_eq_true rfl⟩ rfl, ?_⟩
  refine List.forall_mem_cons.mpr ⟨ip_s_ifne (t := 17) hx hb dX4_on_11 (by decide) rfl rfl, ?_⟩
  refine List.forall_mem_cons.mpr ⟨ip_s_bipush hx hb dX4_on_14 rfl rfl, ?_⟩
  refine List.forall_mem_cons.mpr ⟨ip_s_iret hx hb hr hlocks (Nat.le_of_ble_eq_true rfl) (Nat.le_of_ble_eq_true rfl) dX4_on_16, ?_⟩
  refine List.forall_mem_cons.mpr ⟨ip_s_aload_n hx hb dX4_on_17 rfl rfl, ?_⟩
  refine List.forall_mem_cons.mpr ⟨ip_s_gR0 hx hb hts hin4 hown rfl (by decide) 5 (by decide) (hts (.fieldLink RX4 28 "IcePads" "pads" "[LIcePads$Jet;") (by decide +kernel)) (fun _ h9 => h9) hIs 0 7 rfl (by decide) rfl dX4_on_18 rfl, ?_⟩
  refine List.forall_mem_cons.mpr ⟨ip_s_iload_n hx hb dX4_on_21 rfl rfl, ?_⟩
  refine List.forall_mem_cons.mpr ⟨ip_s_lda9 hx hb hIs dX4_on_22 rfl, ?_⟩
  refine List.forall_mem_cons.mpr ⟨ip_s_astore_n hx hb dX4_on_23 rfl (by decide) rfl, ?_⟩
  refine List.forall_mem_cons.mpr ⟨ip_s_aload_n hx hb dX4_on_24 rfl rfl, ?_⟩
  refine List.forall_mem_cons.mpr ⟨ip_s_ifnonnull (t := 34) hx hb dX4_on_25 (by decide) rfl rfl, ?_⟩
  refine List.forall_mem_cons.mpr ⟨ip_s_sipush hx hb dX4_on_28 rfl rfl, ?_⟩
  refine List.forall_mem_cons.mpr ⟨ip_s_go (t := 38) hx hb dX4_on_31 (by decide) (Nat.le_of_ble_eq_true rfl) (Nat.le_of_ble_eq_true rfl), ?_⟩
  refine List.forall_mem_cons.mpr ⟨ip_s_aload_n hx hb dX4_on_34 rfl rfl, ?_⟩
  refine List.forall_mem_cons.mpr ⟨ip_s_gI hx hb hts hin1 hown rfl (by decide) 0 (by decide) (hts (.fieldLink RX4 157 "IcePads$Jet" "number" "I") (by decide +kernel)) (fun _ h9 => h9) rfl dX4_on_35 rfl, ?_⟩
  refine List.forall_mem_cons.mpr ⟨ip_s_iret hx hb hr hlocks (Nat.le_of_ble_eq_true rfl) (Nat.le_of_ble_eq_true rfl) dX4_on_38, ?_⟩
  exact fun _ h => absurd h List.not_mem_nil
set_option maxRecDepth 100000 in
set_option maxHeartbeats 4000000 in
theorem vX4_on (M : ip_M) (a : Nat) (pd : Int32) (S : ip_S) (hS : ip_Sta S) (hp : a = 0 ∧ ip_cR M S) : ip_run (pX4_on (postX4_on M [.inr (.inl (some a)), .inl pd] S)) (fun _ => false) (fun _ _ _ _ => False) 50 0 [some (.inr (.inl (some a))), some (.inl pd), none] [] S := by
  obtain ⟨rfl, nf, nj, np, hv, hcS, hcF, hcJ, hcP⟩ := hp
  have e6 := hcS.2.2.2.1
  refine And.intro trivial ?_
  rintro r S' ⟨rfl, rfl⟩
  rw [e6]
  refine And.intro (fun q => ?_) (fun q => ?_)
  rotate_left
  · refine And.intro ?_ rfl
    unfold g_on
    rw [if_neg (ip_if0 q)]
  have q := ip_if1 q
  have hnp3 := hv.1.2.2.2.2.2.2
  obtain ⟨p, hp, rfl⟩ := (ip_idx hv.1.2.2.2.2.1 (by omega) pd).mp q
  obtain ⟨hin, hcp⟩ := ip_inN (N := 3) hp hnp3 (by decide)
  refine And.intro hin (fun o ho => ?_)
  rw [hcp, hcP p (by omega)] at ho
  rcases ip_vp_at hv (p := p) (by omega) with h0 | ⟨j, hj12, hj, -, hj1, -⟩
  · rw [if_pos h0] at ho
    subst ho
    refine And.intro ?_ rfl
    unfold g_on
    rw [if_pos q, hcp, if_pos h0]
  · have hne : ¬ M 64 p = 0 := by rw [hj1]; exact nI_ne0 (by omega) (by omega)
    rw [if_neg hne, hj1, nI_clamp (by omega), show 29 + (j + 1) = 30 + j by omega] at ho
    subst ho
    obtain ⟨j1, j2, j3, -⟩ := hcJ.1 j hj
    refine And.intro j2 ?_
    refine And.intro ?_ rfl
    unfold g_on
    rw [if_pos q, hcp, if_neg hne, hj1, nI_pred, j3]
theorem ctX4_on (l : Launch) (M : ip_M) : ip_CT l yX4_on wsX4_on rmX4_on ip_Sta (preX4_on M) (postX4_on M) := by
  refine ip_of (cc := cX4_on) (maxL := 3) (ret := (some .int)) (by decide +kernel) rfl (fun _ => (0, 0)) rfl ?_ ?_
  · intro as S h
    obtain ⟨a, pd, rfl, hq⟩ := ip_e_ri h
    exact ⟨Nat.le_of_ble_eq_true rfl, by simp⟩
  intro p e s m args below meth c D cA A ad0 as S h hI hx hb hml hown hts hr hlocks hname hA hNx
  obtain ⟨a, pd, rfl, hq⟩ := ip_e_ri h
  refine ip_run_ok (stop := fun _ => false) (tX4_on hx hb hml hown hts hr hlocks hname hA hNx) (fun _ _ _ _ h => False.elim h) 50 0 _ _ S ?_
  exact vX4_on M a pd S hI hq
