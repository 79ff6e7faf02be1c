theorem ip_idx {y : Int32} {n : Nat} (h : y = nI n) (hn : n ≤ 1000) (f : Int32) : (0 ≤ f ∧ f ≤ y - 1) ↔ ∃ i, i < n ∧ f = nI i := by
  have h1 : y.toInt = n := by rw [h]; exact nI_toInt (by omega)
  have h2 : (1 : Int32).toInt = 1 := rfl
  have h0 : (0 : Int32).toInt = 0 := rfl
  have h3 : (y - 1).toInt = (n : Int) - 1 := by rw [ip_subI (by omega) (by omega)]; omega
  rw [ip_leI, ip_leI, h3, h0]
  constructor
  · rintro ⟨a, b⟩
    exact ⟨f.toInt.toNat, by omega, ip_ofI (by omega)⟩
  · rintro ⟨i, hi, rfl⟩
    have : (nI i).toInt = i := nI_toInt (by omega)
    omega
def g_late (M : ip_M) (j : Nat) : Int32 := M 75 j - M 67 j - 2 * M 66 j - M 69 j
def g_nst (M : ip_M) (s : Int32) : Nat → Int32
  | 0 => 0
  | j + 1 => g_nst M s j + (if M 71 j = s then 1 else 0)
def g_sb (M : ip_M) : Nat → Int32
  | 0 => 0
  | j + 1 => g_sb M j + M 74 j
def g_sl (M : ip_M) : Nat → Int32
  | 0 => 0
  | j + 1 => g_sl M j + (if M 71 j = 2 then g_late M j else 0)
def g_on (M : ip_M) (p : Int32) : Int32 := if 0 ≤ p ∧ p ≤ M 50 10 - 1 then (if M 64 p.toNatClampNeg = 0 then -900 else M 64 p.toNatClampNeg - 1) else -100
def g_pad (M : ip_M) (j : Int32) : Nat → Int32
  | 0 => -900
  | p + 1 => if M 64 p = j + 1 then nI p else g_pad M j p
def g_about (M : ip_M) (j w : Int32) : Int32 := if 0 ≤ j ∧ j ≤ M 50 15 - 1 then (if w = 0 then M 71 j.toNatClampNeg else if w = 1 then g_pad M j (M 50 10).toNatClampNeg else if w = 2 then M 72 j.toNatClampNeg else if w = 3 then M 68 j.toNatClampNeg else if w = 4 then M 74 j.toNatClampNeg else if w = 5 then M 75 j.toNatClampNeg else if w = 6 then (if M 71 j.toNatClampNeg = 2 then g_late M j.toNatClampNeg else -900) else -100) else -100
def g_count (M : ip_M) (w : Int32) : Int32 := if w = 0 then M 50 0 else if w = 1 then M 50 4 else if w = 2 then M 50 10 else if w = 3 then M 50 15 else if w = 4 then g_nst M 0 (M 50 15).toNatClampNeg else if w = 5 then g_nst M 2 (M 50 15).toNatClampNeg else if w = 6 then M 50 13 else if w = 7 then M 50 26 else if w = 8 then g_sb M (M 50 15).toNatClampNeg else if w = 9 then g_sl M (M 50 15).toNatClampNeg else -100

def preX5_lateOf (M : ip_M) : List ip_V → ip_S → Prop := ip_h_ri (fun _ => False) (fun a jj S => a = 50 ∧ ip_eM M S ∧ ∃ j, j < 12 ∧ jj = nI j)
def postX5_lateOf (M : ip_M) : List ip_V → ip_S → List ip_V → ip_S → Prop := ip_h_ri (fun _ _ _ => True) (fun a jj S r S' => r = [.inl (g_late M jj.toNatClampNeg)] ∧ S' = S)
theorem shX5_lateOf (M : ip_M) : ∀ as S, ip_Sta S → preX5_lateOf M as S → ∃ (b : Nat) (as' : List ip_V), as = .inr (.inl (some b)) :: as' ∧ as'.length = 1 ∧ (S.2.2.2 b).1 = 5 := by
  intro as S hI h
  obtain ⟨a, jj, rfl, hq⟩ := ip_e_ri h
  exact ⟨_, _, rfl, rfl, by rw [hq.1, hI.1 50 (by decide)]; rfl⟩
def rmX5_lateOf : Room := { frames := 1, cells := 0, slots := 0, locals := 40 }
def pX5_lateOf (po : List ip_V → ip_S → Prop) : List (Nat × ip_T) := [(0, ip_t_ar 0 1), (1, ip_t_gR0 50 75 4), (4, ip_t_il 1 5), (5, ip_t_ld 6 6), (6, ip_t_ar 0 7), (7, ip_t_gR0 50 67 10), (10, ip_t_il 1 11), (11, ip_t_ld 6 12), (12, ip_t_isub 13), (13, ip_t_ci 2 14), (14, ip_t_ar 0 15), (15, ip_t_gR0 50 66 18), (18, ip_t_il 1 19), (19, ip_t_ld 6 20), (20, ip_t_imul 21), (21, ip_t_isub 22), (22, ip_t_ar 0 23), (23, ip_t_gR0 50 69 26), (26, ip_t_il 1 27), (27, ip_t_ld 6 28), (28, ip_t_isub 29), (29, ip_t_iret po)]
set_option maxRecDepth 100000 in
set_option maxHeartbeats 4000000 in
theorem tX5_lateOf {p : Program} {l : Launch} {e : Env} {s : State} {m : MethodId} {args : Array Value} {below : List Frame} {meth : Method} {c : Code} {D : va_G} {cA : Nat → ClassId} {A : Nat → Prop} {ad0 : Nat → Nat} {S0 : ip_S} {po : List ip_V → ip_S → Prop} (hx : p.tables.exec = Jvm.exec) (hb : c.code = cX5_lateOf) (hml : c.maxLocals = 2) (hown : s.vm.findClass RX5 = some m.cls) (hts : ∀ w ∈ wsX5_lateOf, w.before args s = true) (hr : meth.sig.returnType = (some .int)) (hlocks : meth.locks = false) (hname : meth.name = yX5_lateOf.name) (hA : ∀ q, s.heap.size ≤ q → A q) (hNx : ip_Nx s) : ∀ q ∈ pX5_lateOf po, ip_snd p l e rmX5_lateOf s m args below meth c D cA A (MQ below (ip_Q ip_Sta D cA ad0 S0 A po) args s 0 0 A) 2 (fun _ => (0, 0)) ip_Sta ad0 S0 q.1 q.2 := by
  have hIs : ∀ S, ip_Sta S → ip_Sta S := fun _ h => h
  have hIn := ip_In_Sta
  have hS9 : CallFix p m c cX5_lateOf 2 s args wsX5_lateOf RX5 := ⟨hx, hb, hml, hown, hts⟩
  have hin5 : ∀ w ∈ u_ws RX5 TX5 32, w ∈ wsX5_lateOf := by decide +kernel
  refine List.forall_mem_cons.mpr ⟨ip_s_aload_n hx hb dX5_lateOf_0 rfl rfl, ?_⟩
  refine List.forall_mem_cons.mpr ⟨ip_s_gR0 hx hb hts hin5 hown rfl (by decide) 25 (by decide) (hts (.fieldLink RX5 75 "IcePadsModel" "flew" "[I") (by decide +kernel)) (fun _ h9 => h9) hIs 50 75 rfl (by decide) rfl dX5_lateOf_1 rfl, ?_⟩
  refine List.forall_mem_cons.mpr ⟨ip_s_iload_n hx hb dX5_lateOf_4 rfl rfl, ?_⟩
  refine List.forall_mem_cons.mpr ⟨ip_s_ldi hx hb hIs dX5_lateOf_5 rfl, ?_⟩
  refine List.forall_mem_cons.mpr ⟨ip_s_aload_n hx hb dX5_lateOf_6 rfl rfl, ?_⟩
  refine List.forall_mem_cons.mpr ⟨ip_s_gR0 hx hb hts hin5 hown rfl (by decide) 17 (by decide) (hts (.fieldLink RX5 51 "IcePadsModel" "first" "[I") (by decide +kernel)) (fun _ h9 => h9) hIs 50 67 rfl (by decide) rfl dX5_lateOf_7 rfl, ?_⟩
  refine List.forall_mem_cons.mpr ⟨ip_s_iload_n hx hb dX5_lateOf_10 rfl rfl, ?_⟩
  refine List.forall_mem_cons.mpr ⟨ip_s_ldi hx hb hIs dX5_lateOf_11 rfl, ?_⟩
  refine List.forall_mem_cons.mpr ⟨ip_s_isub hx hb dX5_lateOf_12 rfl, ?_⟩
  refine List.forall_mem_cons.mpr ⟨ip_s_iconst hx hb dX5_lateOf_13 rfl rfl, ?_⟩
  refine List.forall_mem_cons.mpr ⟨ip_s_aload_n hx hb dX5_lateOf_14 rfl rfl, ?_⟩
  refine List.forall_mem_cons.mpr ⟨ip_s_gR0 hx hb hts hin5 hown rfl (by decide) 16 (by decide) (hts (.fieldLink RX5 48 "IcePadsModel" "size" "[I") (by decide +kernel)) (fun _ h9 => h9) hIs 50 66 rfl (by decide) rfl dX5_lateOf_15 rfl, ?_⟩
  refine List.forall_mem_cons.mpr ⟨ip_s_iload_n hx hb dX5_lateOf_18 rfl rfl, ?_⟩
  refine List.forall_mem_cons.mpr ⟨ip_s_ldi hx hb hIs dX5_lateOf_19 rfl, ?_⟩
  refine List.forall_mem_cons.mpr ⟨ip_s_imul hx hb dX5_lateOf_20 rfl, ?_⟩
  refine List.forall_mem_cons.mpr ⟨ip_s_isub hx hb dX5_lateOf_21 rfl, ?_⟩
  refine List.forall_mem_cons.mpr ⟨ip_s_aload_n hx hb dX5_lateOf_22 rfl rfl, ?_⟩
  refine List.forall_mem_cons.mpr ⟨ip_s_gR0 hx hb hts hin5 hown rfl (by decide) 19 (by decide) (hts (.fieldLink RX5 57 "IcePadsModel" "roll" "[I") (by decide +kernel)) (fun _ h9 => h9) hIs 50 69 rfl (by decide) rfl dX5_lateOf_23 rfl, ?_⟩
  refine List.forall_mem_cons.mpr ⟨ip_s_iload_n hx hb dX5_lateOf_26 rfl rfl, ?_⟩
  refine List.forall_mem_cons.mpr ⟨ip_s_ldi hx hb hIs dX5_lateOf_27 rfl, ?_⟩
  refine List.forall_mem_cons.mpr ⟨ip_s_isub hx hb dX5_lateOf_28 rfl, ?_⟩
  refine List.forall_mem_cons.mpr ⟨ip_s_iret hx hb hr hlocks (Nat.le_of_ble_eq_true rfl) (Nat.le_of_ble_eq_true rfl) dX5_lateOf_29, ?_⟩
  exact fun _ h => absurd h List.not_mem_nil
set_option maxRecDepth 100000 in
set_option maxHeartbeats 4000000 in
theorem vX5_lateOf (M : ip_M) (a : Nat) (jj : Int32) (S : ip_S) (hS : ip_Sta S) (hp : a = 50 ∧ ip_eM M S ∧ ∃ j, j < 12 ∧ jj = nI j) : ip_run (pX5_lateOf (postX5_lateOf M [.inr (.inl (some a)), .inl jj] S)) (fun _ => false) (fun _ _ _ _ => False) 40 0 [some (.inr (.inl (some a))), some (.inl jj)] [] S := by
  obtain ⟨rfl, hE, j, hj, rfl⟩ := hp
  obtain ⟨hin12, hcj⟩ := ip_inN (n := 12) (N := 12) hj (by decide) (by decide)
  refine And.intro hin12 ?_
  refine And.intro hin12 ?_
  refine And.intro hin12 ?_
  refine And.intro hin12 ?_
  refine And.intro ?_ rfl
  unfold g_late
  rw [hE 75 (by decide), hE 67 (by decide), hE 66 (by decide), hE 69 (by decide)]
theorem ctX5_lateOf (l : Launch) (M : ip_M) : ip_CT l yX5_lateOf wsX5_lateOf rmX5_lateOf ip_Sta (preX5_lateOf M) (postX5_lateOf M) := by
  refine ip_of (cc := cX5_lateOf) (maxL := 2) (ret := (some .int)) (by decide +kernel) rfl (fun _ => (0, 0)) rfl ?_ ?_
  · intro as S h
    obtain ⟨a, jj, rfl, hq⟩ := ip_e_ri h
    exact ⟨Nat.le_of_ble_eq_true rfl, by simp⟩
  intro p e s m args below meth c D cA A ad0 as S h hI hx hb hml hown hts hr hlocks hname hA hNx
  obtain ⟨a, jj, rfl, hq⟩ := ip_e_ri h
  refine ip_run_ok (stop := fun _ => false) (tX5_lateOf hx hb hml hown hts hr hlocks hname hA hNx) (fun _ _ _ _ h => False.elim h) 40 0 _ _ S ?_
  exact vX5_lateOf M a jj S hI hq

def preX5_on (M : ip_M) : List ip_V → ip_S → Prop := ip_h_ri (fun _ => False) (fun a pd S => a = 50 ∧ ip_eM M S ∧ ∃ nf nj np, ip_vv M nf nj np)
def postX5_on (M : ip_M) : List ip_V → ip_S → List ip_V → ip_S → Prop := ip_h_ri (fun _ _ _ => True) (fun a pd S r S' => r = [.inl (g_on M pd)] ∧ S' = S)
theorem shX5_on (M : ip_M) : ∀ as S, ip_Sta S → preX5_on M as S → ∃ (b : Nat) (as' : List ip_V), as = .inr (.inl (some b)) :: as' ∧ as'.length = 1 ∧ (S.2.2.2 b).1 = 5 := by
  intro as S hI h
  obtain ⟨a, pd, rfl, hq⟩ := ip_e_ri h
  exact ⟨_, _, rfl, rfl, by rw [hq.1, hI.1 50 (by decide)]; rfl⟩
def rmX5_on : Room := { frames := 2, cells := 0, slots := 0, locals := 80 }
def pX5_on (po : List ip_V → ip_S → Prop) : List (Nat × ip_T) := [(0, ip_t_il 1 1), (1, ip_t_ci 0 2), (2, ip_t_ar 0 3), (3, ip_t_gI0 50 10 6), (6, ip_t_ci 1 7), (7, ip_t_isub 8), (8, ip_t_call 3 preX5_in postX5_in 11), (11, ip_t_ifne 19 14), (14, ip_t_ci (-100) 16), (16, ip_t_go 42), (19, ip_t_ar 0 20), (20, ip_t_gR0 50 64 23), (23, ip_t_il 1 24), (24, ip_t_ld 6 25), (25, ip_t_ifne 34 28), (28, ip_t_ci (-900) 31), (31, ip_t_go 42), (34, ip_t_ar 0 35), (35, ip_t_gR0 50 64 38), (38, ip_t_il 1 39), (39, ip_t_ld 6 40), (40, ip_t_ci 1 41), (41, ip_t_isub 42), (42, ip_t_iret po)]
set_option maxRecDepth 100000 in
set_option maxHeartbeats 4000000 in
theorem tX5_on {p : Program} {l : Launch} {e : Env} {s : State} {m : MethodId} {args : Array Value} {below : List Frame} {meth : Method} {c : Code} {D : va_G} {cA : Nat → ClassId} {A : Nat → Prop} {ad0 : Nat → Nat} {S0 : ip_S} {po : List ip_V → ip_S → Prop} (hx : p.tables.exec = Jvm.exec) (hb : c.code = cX5_on) (hml : c.maxLocals = 2) (hown : s.vm.findClass RX5 = some m.cls) (hts : ∀ w ∈ wsX5_on, w.before args s = true) (hr : meth.sig.returnType = (some .int)) (hlocks : meth.locks = false) (hname : meth.name = yX5_on.name) (hA : ∀ q, s.heap.size ≤ q → A q) (hNx : ip_Nx s) : ∀ q ∈ pX5_on po, ip_snd p l e rmX5_on s m args below meth c D cA A (MQ below (ip_Q ip_Sta D cA ad0 S0 A po) args s 0 0 A) 2 (fun _ => (0, 0)) ip_Sta ad0 S0 q.1 q.2 := by
  have hIs : ∀ S, ip_Sta S → ip_Sta S := fun _ h => h
  have hIn := ip_In_Sta
  have hS9 : CallFix p m c cX5_on 2 s args wsX5_on RX5 := ⟨hx, hb, hml, hown, hts⟩
  have hin5 : ∀ w ∈ u_ws RX5 TX5 32, w ∈ wsX5_on := by decide +kernel
  refine List.forall_mem_cons.mpr ⟨ip_s_iload_n hx hb dX5_on_0 rfl rfl, ?_⟩
  refine List.forall_mem_cons.mpr ⟨ip_s_iconst hx hb dX5_on_1 rfl rfl, ?_⟩
  refine List.forall_mem_cons.mpr ⟨ip_s_aload_n hx hb dX5_on_2 rfl rfl, ?_⟩
  refine List.forall_mem_cons.mpr ⟨ip_s_gI0 hx hb hts hin5 hown rfl (by decide) 10 (by decide) (hts (.fieldLink RX5 35 "IcePadsModel" "pads" "I") (by decide +kernel)) (fun _ h9 => h9) hIs 50 rfl rfl dX5_on_3 rfl, ?_⟩
  refine List.forall_mem_cons.mpr ⟨ip_s_iconst hx hb dX5_on_6 rfl rfl, ?_⟩
  refine List.forall_mem_cons.mpr ⟨ip_s_isub hx hb dX5_on_7 rfl, ?_⟩
  refine List.forall_mem_cons.mpr ⟨ip_s_callS hNx hS9 (ctX5_in l) (va_cwS 3 hts gX5_on_X5_in rfl rfl rfl (by decide +kernel) ⟨Nat.le_of_ble_eq_true rfl, Nat.le_of_ble_eq_true rfl⟩) (fun as S hI h => shsX5_in as S hI h) hA dX5_on_8 ⟨Nat.le_of_ble_eq_true rfl, Nat.le_of_ble_eq_true rfl⟩ rfl, ?_⟩
  refine List.forall_mem_cons.mpr ⟨ip_s_ifne (t := 19) hx hb dX5_on_11 (by decide) rfl rfl, ?_⟩
  refine List.forall_mem_cons.mpr ⟨ip_s_bipush hx hb dX5_on_14 rfl rfl, ?_⟩
  refine List.forall_mem_cons.mpr ⟨ip_s_go (t := 42) hx hb dX5_on_16 (by decide) (Nat.le_of_ble_eq_true rfl) (Nat.le_of_ble_eq_true rfl), ?_⟩
  refine List.forall_mem_cons.mpr ⟨ip_s_aload_n hx hb dX5_on_19 rfl rfl, ?_⟩
  refine List.forall_mem_cons.mpr ⟨ip_s_gR0 hx hb hts hin5 hown rfl (by decide) 14 (by decide) (hts (.fieldLink RX5 45 "IcePadsModel" "onPad" "[I") (by decide +kernel)) (fun _ h9 => h9) hIs 50 64 rfl (by decide) rfl dX5_on_20 rfl, ?_⟩
  refine List.forall_mem_cons.mpr ⟨ip_s_iload_n hx hb dX5_on_23 rfl rfl, ?_⟩
  refine List.forall_mem_cons.mpr ⟨ip_s_ldi hx hb hIs dX5_on_24 rfl, ?_⟩
  refine List.forall_mem_cons.mpr ⟨ip_s_ifne (t := 34) hx hb dX5_on_25 (by decide) rfl rfl, ?_⟩
  refine List.forall_mem_cons.mpr ⟨ip_s_sipush hx hb dX5_on_28 rfl rfl, ?_⟩
  refine List.forall_mem_cons.mpr ⟨ip_s_go (t := 42) hx hb dX5_on_31 (by decide) (Nat.le_of_ble_eq_true rfl) (Nat.le_of_ble_eq_true rfl), ?_⟩
  refine List.forall_mem_cons.mpr ⟨ip_s_aload_n hx hb dX5_on_34 rfl rfl, ?_⟩
  refine List.forall_mem_cons.mpr ⟨ip_s_gR0 hx hb hts hin5 hown rfl (by decide) 14 (by decide) (hts (.fieldLink RX5 45 "IcePadsModel" "onPad" "[I") (by decide +kernel)) (fun _ h9 => h9) hIs 50 64 rfl (by decide) rfl dX5_on_35 rfl, ?_⟩
  refine List.forall_mem_cons.mpr ⟨ip_s_iload_n hx hb dX5_on_38 rfl rfl, ?_⟩
  refine List.forall_mem_cons.mpr ⟨ip_s_ldi hx hb hIs dX5_on_39 rfl, ?_⟩
  refine List.forall_mem_cons.mpr ⟨ip_s_iconst hx hb dX5_on_40 rfl rfl, ?_⟩
  refine List.forall_mem_cons.mpr ⟨ip_s_isub hx hb dX5_on_41 rfl, ?_⟩
  refine List.forall_mem_cons.mpr ⟨ip_s_iret hx hb hr hlocks (Nat.le_of_ble_eq_true rfl) (Nat.le_of_ble_eq_true rfl) dX5_on_42, ?_⟩
  exact fun _ h => absurd h List.not_mem_nil
set_option maxRecDepth 100000 in
set_option maxHeartbeats 4000000 in
theorem vX5_on (M : ip_M) (a : Nat) (pd : Int32) (S : ip_S) (hS : ip_Sta S) (hp : a = 50 ∧ ip_eM M S ∧ ∃ nf nj np, ip_vv M nf nj np) : ip_run (pX5_on (postX5_on M [.inr (.inl (some a)), .inl pd] S)) (fun _ => false) (fun _ _ _ _ => False) 40 0 [some (.inr (.inl (some a))), some (.inl pd)] [] S := by
  obtain ⟨rfl, hE, nf, nj, np, hv⟩ := hp
  have e10 : S.1 50 10 = M 50 10 := congrFun (hE 50 (by decide)) _
  refine And.intro trivial ?_
  rintro r S' ⟨rfl, rfl⟩
  rw [e10]
  refine And.intro (fun q => ?_) (fun q => ?_)
  · have q := ip_if1 q
    obtain ⟨i, hi, rfl⟩ := (ip_idx hv.1.2.2.2.2.1 (by have := hv.1.2.2.2.2.2.2; omega) pd).mp q
    obtain ⟨hin3, hci⟩ := ip_inN (N := 3) hi hv.1.2.2.2.2.2.2 (by decide)
    have e64 : S'.1 64 (nI i).toNatClampNeg = M 64 (nI i).toNatClampNeg := congrFun (hE 64 (by decide)) _
    refine And.intro hin3 ?_
    rw [e64]
    refine And.intro (fun q2 => ?_) (fun q2 => ?_)
    · refine And.intro hin3 ?_
      refine And.intro ?_ rfl
      unfold g_on
      rw [if_pos q, if_neg q2, e64]
    · refine And.intro ?_ rfl
      unfold g_on
      rw [if_pos q, if_pos q2]
  · refine And.intro ?_ rfl
    unfold g_on
    rw [if_neg (ip_if0 q)]
theorem ctX5_on (l : Launch) (M : ip_M) : ip_CT l yX5_on wsX5_on rmX5_on ip_Sta (preX5_on M) (postX5_on M) := by
  refine ip_of (cc := cX5_on) (maxL := 2) (ret := (some .int)) (by decide +kernel) rfl (fun _ => (0, 0)) rfl ?_ ?_
  · intro as S h
    obtain ⟨a, pd, rfl, hq⟩ := ip_e_ri h
    exact ⟨Nat.le_of_ble_eq_true rfl, by simp⟩
  intro p e s m args below meth c D cA A ad0 as S h hI hx hb hml hown hts hr hlocks hname hA hNx
  obtain ⟨a, pd, rfl, hq⟩ := ip_e_ri h
  refine ip_run_ok (stop := fun _ => false) (tX5_on hx hb hml hown hts hr hlocks hname hA hNx) (fun _ _ _ _ h => False.elim h) 40 0 _ _ S ?_
  exact vX5_on M a pd S hI hq

def preX5_ofState (M : ip_M) : List ip_V → ip_S → Prop := ip_h_ri (fun _ => False) (fun a s S => a = 50 ∧ ip_eM M S ∧ ∃ nf nj np, ip_vv M nf nj np)
def postX5_ofState (M : ip_M) : List ip_V → ip_S → List ip_V → ip_S → Prop := ip_h_ri (fun _ _ _ => True) (fun a s S r S' => r = [.inl (g_nst M s (M 50 15).toNatClampNeg)] ∧ S' = S)
theorem shX5_ofState (M : ip_M) : ∀ as S, ip_Sta S → preX5_ofState M as S → ∃ (b : Nat) (as' : List ip_V), as = .inr (.inl (some b)) :: as' ∧ as'.length = 1 ∧ (S.2.2.2 b).1 = 5 := by
  intro as S hI h
  obtain ⟨a, s, rfl, hq⟩ := ip_e_ri h
  exact ⟨_, _, rfl, rfl, by rw [hq.1, hI.1 50 (by decide)]; rfl⟩
def rmX5_ofState : Room := { frames := 1, cells := 0, slots := 0, locals := 40 }
def pX5_ofState (po : List ip_V → ip_S → Prop) : List (Nat × ip_T) := [(0, ip_t_ci 0 1), (1, ip_t_is 2 2), (2, ip_t_ci 0 3), (3, ip_t_is 3 4), (4, ip_t_il 3 5), (5, ip_t_ar 0 6), (6, ip_t_gI0 50 15 9), (9, ip_t_icge 36 12), (12, ip_t_il 2 13), (13, ip_t_ar 0 14), (14, ip_t_gR0 50 71 17), (17, ip_t_il 3 18), (18, ip_t_ld 6 19), (19, ip_t_il 1 20), (20, ip_t_icne 27 23), (23, ip_t_ci 1 24), (24, ip_t_go 28), (27, ip_t_ci 0 28), (28, ip_t_iadd 29), (29, ip_t_is 2 30), (30, ip_t_inc 3 1 33), (33, ip_t_go 4), (36, ip_t_il 2 37), (37, ip_t_iret po)]
set_option maxRecDepth 100000 in
set_option maxHeartbeats 4000000 in
theorem tX5_ofState {p : Program} {l : Launch} {e : Env} {s : State} {m : MethodId} {args : Array Value} {below : List Frame} {meth : Method} {c : Code} {D : va_G} {cA : Nat → ClassId} {A : Nat → Prop} {ad0 : Nat → Nat} {S0 : ip_S} {po : List ip_V → ip_S → Prop} (hx : p.tables.exec = Jvm.exec) (hb : c.code = cX5_ofState) (hml : c.maxLocals = 4) (hown : s.vm.findClass RX5 = some m.cls) (hts : ∀ w ∈ wsX5_ofState, w.before args s = true) (hr : meth.sig.returnType = (some .int)) (hlocks : meth.locks = false) (hname : meth.name = yX5_ofState.name) (hA : ∀ q, s.heap.size ≤ q → A q) (hNx : ip_Nx s) : ∀ q ∈ pX5_ofState po, ip_snd p l e rmX5_ofState s m args below meth c D cA A (MQ below (ip_Q ip_Sta D cA ad0 S0 A po) args s 0 0 A) 4 (fun _ => (0, 0)) ip_Sta ad0 S0 q.1 q.2 := by
  have hIs : ∀ S, ip_Sta S → ip_Sta S := fun _ h => h
  have hIn := ip_In_Sta
  have hS9 : CallFix p m c cX5_ofState 4 s args wsX5_ofState RX5 := ⟨hx, hb, hml, hown, hts⟩
  have hin5 : ∀ w ∈ u_ws RX5 TX5 32, w ∈ wsX5_ofState := by decide +kernel
  refine List.forall_mem_cons.mpr ⟨ip_s_iconst hx hb dX5_ofState_0 rfl rfl, ?_⟩
  refine List.forall_mem_cons.mpr ⟨ip_s_istore_n hx hb dX5_ofState_1 rfl (by decide) rfl, ?_⟩
  refine List.forall_mem_cons.mpr ⟨ip_s_iconst hx hb dX5_ofState_2 rfl rfl, ?_⟩
  refine List.forall_mem_cons.mpr ⟨ip_s_istore_n hx hb dX5_ofState_3 rfl (by decide) rfl, ?_⟩
  refine List.forall_mem_cons.mpr ⟨ip_s_iload_n hx hb dX5_ofState_4 rfl rfl, ?_⟩
  refine List.forall_mem_cons.mpr ⟨ip_s_aload_n hx hb dX5_ofState_5 rfl rfl, ?_⟩
  refine List.forall_mem_cons.mpr ⟨ip_s_gI0 hx hb hts hin5 hown rfl (by decide) 15 (by decide) (hts (.fieldLink RX5 120 "IcePadsModel" "jets" "I") (by decide +kernel)) (fun _ h9 => h9) hIs 50 rfl rfl dX5_ofState_6 rfl, ?_⟩
  refine List.forall_mem_cons.mpr ⟨ip_s_icge (t := 36) hx hb dX5_ofState_9 (by decide) rfl rfl, ?_⟩
  refine List.forall_mem_cons.mpr ⟨ip_s_iload_n hx hb dX5_ofState_12 rfl rfl, ?_⟩
  refine List.forall_mem_cons.mpr ⟨ip_s_aload_n hx hb dX5_ofState_13 rfl rfl, ?_⟩
  refine List.forall_mem_cons.mpr ⟨ip_s_gR0 hx hb hts hin5 hown rfl (by decide) 21 (by decide) (hts (.fieldLink RX5 63 "IcePadsModel" "state" "[I") (by decide +kernel)) (fun _ h9 => h9) hIs 50 71 rfl (by decide) rfl dX5_ofState_14 rfl, ?_⟩
  refine List.forall_mem_cons.mpr ⟨ip_s_iload_n hx hb dX5_ofState_17 rfl rfl, ?_⟩
  refine List.forall_mem_cons.mpr ⟨ip_s_ldi hx hb hIs dX5_ofState_18 rfl, ?_⟩
  refine List.forall_mem_cons.mpr ⟨ip_s_iload_n hx hb dX5_ofState_19 rfl rfl, ?_⟩
  refine List.forall_mem_cons.mpr ⟨ip_s_icne (t := 27) hx hb dX5_ofState_20 (by decide) rfl rfl, ?_⟩
  refine List.forall_mem_cons.mpr ⟨ip_s_iconst hx hb dX5_ofState_23 rfl rfl, ?_⟩
  refine List.forall_mem_cons.mpr ⟨ip_s_go (t := 28) hx hb dX5_ofState_24 (by decide) (Nat.le_of_ble_eq_true rfl) (Nat.le_of_ble_eq_true rfl), ?_⟩
  refine List.forall_mem_cons.mpr ⟨ip_s_iconst hx hb dX5_ofState_27 rfl rfl, ?_⟩
  refine List.forall_mem_cons.mpr ⟨ip_s_iadd hx hb dX5_ofState_28 rfl, ?_⟩
  refine List.forall_mem_cons.mpr ⟨ip_s_istore_n hx hb dX5_ofState_29 rfl (by decide) rfl, ?_⟩
  refine List.forall_mem_cons.mpr ⟨ip_s_iinc hx hb dX5_ofState_30 rfl (by decide) rfl, ?_⟩
  refine List.forall_mem_cons.mpr ⟨ip_s_go (t := 4) hx hb dX5_ofState_33 (by decide) (Nat.le_of_ble_eq_true rfl) (Nat.le_of_ble_eq_true rfl), ?_⟩
  refine List.forall_mem_cons.mpr ⟨ip_s_iload_n hx hb dX5_ofState_36 rfl rfl, ?_⟩
  refine List.forall_mem_cons.mpr ⟨ip_s_iret hx hb hr hlocks (Nat.le_of_ble_eq_true rfl) (Nat.le_of_ble_eq_true rfl) dX5_ofState_37, ?_⟩
  exact fun _ h => absurd h List.not_mem_nil
abbrev iX5_ofState (M : ip_M) (a : Nat) (s : Int32) (S : ip_S) : Nat → ip_N := fun k pc loc st S1 => ∃ (nj j : Nat) (x2 x3 : Int32), M 50 15 = nI nj ∧ nj ≤ 12 ∧ x3 = nI j ∧ j ≤ nj ∧ k + j = nj ∧ pc = 4 ∧ st = [] ∧ S1 = S ∧ loc = [some (.inr (.inl (some a))), some (.inl s), some (.inl x2), some (.inl x3)] ∧ x2 = g_nst M s j
set_option maxRecDepth 100000 in
set_option maxHeartbeats 4000000 in
theorem lpX5_ofState (M : ip_M) (a : Nat) (s : Int32) (S : ip_S) (hS : ip_Sta S) (hp : a = 50 ∧ ip_eM M S ∧ ∃ nf nj np, ip_vv M nf nj np) : ∀ k pc loc st S1, iX5_ofState M a s S k pc loc st S1 → ip_run (pX5_ofState (postX5_ofState M [.inr (.inl (some a)), .inl s] S)) (fun pc => Nat.beq pc 4) (fun pc loc st S2 => ∃ k', k' < k ∧ iX5_ofState M a s S k' pc loc st S2) 40 pc loc st S1 := by
  obtain ⟨rfl, hE, -⟩ := hp
  rintro k pc loc st S1 ⟨nj, j, x2, x3, hnj, hn12, rfl, hj, hk, rfl, rfl, rfl, rfl, rfl⟩
  have e15 : S1.1 50 15 = nI nj := by rw [← hnj]; exact congrFun (hE 50 (by decide)) _
  have hcn : (M 50 15).toNatClampNeg = nj := by rw [hnj]; exact nI_clamp (by omega)
  refine And.intro (fun q => ?_) (fun q => ?_)
  · rw [e15, nI_leI (by omega) (by omega)] at q
    have hjj : j = nj := Nat.le_antisymm hj q
    subst hjj
    refine And.intro ?_ rfl
    rw [hcn]
  · rw [e15, nI_leI (by omega) (by omega)] at q
    have hjl : j < nj := Nat.lt_of_not_le q
    obtain ⟨hin, hcj⟩ := ip_inN (N := 12) hjl hn12 (by decide)
    have e71 : S1.1 71 (nI j).toNatClampNeg = M 71 j := by rw [hcj]; exact congrFun (hE 71 (by decide)) _
    have hk1 : k - 1 < k := by omega
    have hk2 : k - 1 + (j + 1) = nj := by omega
    refine And.intro hin ?_
    rw [e71]
    refine And.intro (fun q2 => ?_) (fun q2 => ?_)
    · exact Exists.intro (k - 1) (And.intro hk1 ⟨nj, j + 1, _, _, hnj, hn12, nI_1 j, hjl, hk2, rfl, rfl, rfl, rfl, by rw [g_nst, if_neg q2]⟩)
    · exact Exists.intro (k - 1) (And.intro hk1 ⟨nj, j + 1, _, _, hnj, hn12, nI_1 j, hjl, hk2, rfl, rfl, rfl, rfl, by rw [g_nst, if_pos q2]⟩)
set_option maxRecDepth 100000 in
set_option maxHeartbeats 4000000 in
theorem vX5_ofState (M : ip_M) (a : Nat) (s : Int32) (S : ip_S) (hS : ip_Sta S) (hp : a = 50 ∧ ip_eM M S ∧ ∃ nf nj np, ip_vv M nf nj np) : ip_run (pX5_ofState (postX5_ofState M [.inr (.inl (some a)), .inl s] S)) (fun pc => Nat.beq pc 4) (fun pc loc st S2 => ∃ k, iX5_ofState M a s S k pc loc st S2) 40 0 [some (.inr (.inl (some a))), some (.inl s), none, none] [] S := by
  obtain ⟨rfl, hE, nf, nj, np, hv⟩ := hp
  exact Exists.intro nj ⟨nj, 0, 0, 0, hv.1.2.2.1, hv.1.2.2.2.1, rfl, Nat.zero_le _, rfl, rfl, rfl, rfl, rfl, rfl⟩
theorem ctX5_ofState (l : Launch) (M : ip_M) : ip_CT l yX5_ofState wsX5_ofState rmX5_ofState ip_Sta (preX5_ofState M) (postX5_ofState M) := by
  refine ip_of (cc := cX5_ofState) (maxL := 4) (ret := (some .int)) (by decide +kernel) rfl (fun _ => (0, 0)) rfl ?_ ?_
  · intro as S h
    obtain ⟨a, s, rfl, hq⟩ := ip_e_ri h
    exact ⟨Nat.le_of_ble_eq_true rfl, by simp⟩
  intro p e s m args below meth c D cA A ad0 as S h hI hx hb hml hown hts hr hlocks hname hA hNx
  obtain ⟨a, s, rfl, hq⟩ := ip_e_ri h
  have ht := tX5_ofState (D := D) (cA := cA) (A := A) (ad0 := ad0) (l := l) (e := e) (below := below) (S0 := S) (po := postX5_ofState M [.inr (.inl (some a)), .inl s] S) hx hb hml hown hts hr hlocks hname hA hNx
  refine ip_run_ok ht (fun pc loc st S2 hh => ?_) 40 0 _ _ S (vX5_ofState M a s S hI hq)
  obtain ⟨k, hk⟩ := hh
  exact ip_loop ht (iX5_ofState M a s S) (lpX5_ofState M a s S hI hq) k pc loc st S2 hk
