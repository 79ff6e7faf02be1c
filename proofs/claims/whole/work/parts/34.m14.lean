def preX4_fluidAt (M : ip_M) : List ip_V → ip_S → Prop := ip_h_ri (fun _ => False) (fun a n S => a = 0 ∧ ip_cR M S)
def postX4_fluidAt (M : ip_M) : List ip_V → ip_S → List ip_V → ip_S → Prop := ip_h_ri (fun _ _ _ => True) (fun a n S r S' => r = [.inr (.inl (if ip_isF M n then some (20 + n.toNatClampNeg) else none))] ∧ S' = S)
theorem shX4_fluidAt (M : ip_M) : ∀ as S, ip_Sta S → preX4_fluidAt M as S → ∃ (b : Nat) (as' : List ip_V), as = .inr (.inl (some b)) :: as' ∧ as'.length = 1 ∧ (S.2.2.2 b).1 = 4 := by
  intro as S hI h
  obtain ⟨a, n, rfl, hq⟩ := ip_e_ri h
  exact ⟨_, _, rfl, rfl, by rw [hq.1, hI.1 0 (by decide)]; rfl⟩
def rmX4_fluidAt : Room := { frames := 2, cells := 0, slots := 0, locals := 80 }
def pX4_fluidAt (po : List ip_V → ip_S → Prop) : List (Nat × ip_T) := [(0, ip_t_il 1 1), (1, ip_t_ci 0 2), (2, ip_t_ar 0 3), (3, ip_t_gR0 0 5 6), (6, ip_t_len 7), (7, ip_t_ci 1 8), (8, ip_t_isub 9), (9, ip_t_call 3 preX4_within postX4_within 12), (12, ip_t_ifeq 24 15), (15, ip_t_ar 0 16), (16, ip_t_gR0 0 5 19), (19, ip_t_il 1 20), (20, ip_t_lda 8 21), (21, ip_t_go 25), (24, ip_t_nul 25), (25, ip_t_aret po)]
set_option maxRecDepth 100000 in
set_option maxHeartbeats 4000000 in
theorem tX4_fluidAt {p : Program} {l : Launch} {e : Env} {s : State} {m : MethodId} {args : Array Value} {below : List Frame} {meth : Method} {c : Code} {D : va_G} {cA : Nat → ClassId} {A : Nat → Prop} {ad0 : Nat → Nat} {S0 : ip_S} {po : List ip_V → ip_S → Prop} (hx : p.tables.exec = Jvm.exec) (hb : c.code = cX4_fluidAt) (hml : c.maxLocals = 2) (hown : s.vm.findClass RX4 = some m.cls) (hts : ∀ w ∈ wsX4_fluidAt, w.before args s = true) (hr : meth.sig.returnType = (some (.object "IcePads$Fluid"))) (hlocks : meth.locks = false) (hname : meth.name = yX4_fluidAt.name) (hA : ∀ q, s.heap.size ≤ q → A q) (hNx : ip_Nx s) : ∀ q ∈ pX4_fluidAt po, ip_snd p l e rmX4_fluidAt s m args below meth c D cA A (MQ below (ip_Q ip_Sta D cA ad0 S0 A po) args s 0 0 A) 2 (fun _ => (0, 0)) ip_Sta ad0 S0 q.1 q.2 := by
  have hIs : ∀ S, ip_Sta S → ip_Sta S := fun _ h => h
  have hIn := ip_In_Sta
  have hS9 : CallFix p m c cX4_fluidAt 2 s args wsX4_fluidAt RX4 := ⟨hx, hb, hml, hown, hts⟩
  have hin4 : ∀ w ∈ u_ws RX4 TX4 14, w ∈ wsX4_fluidAt := by decide +kernel
  refine List.forall_mem_cons.mpr ⟨ip_s_iload_n hx hb dX4_fluidAt_0 rfl rfl, ?_⟩
  refine List.forall_mem_cons.mpr ⟨ip_s_iconst hx hb dX4_fluidAt_1 rfl rfl, ?_⟩
  refine List.forall_mem_cons.mpr ⟨ip_s_aload_n hx hb dX4_fluidAt_2 rfl rfl, ?_⟩
  refine List.forall_mem_cons.mpr ⟨ip_s_gR0 hx hb hts hin4 hown rfl (by decide) 1 (by decide) (hts (.fieldLink RX4 18 "IcePads" "fluids" "[LIcePads$Fluid;") (by decide +kernel)) (fun _ h9 => h9) hIs 0 5 rfl (by decide) rfl dX4_fluidAt_3 rfl, ?_⟩
  refine List.forall_mem_cons.mpr ⟨ip_s_len hx hb hIs dX4_fluidAt_6 rfl, ?_⟩
  refine List.forall_mem_cons.mpr ⟨ip_s_iconst hx hb dX4_fluidAt_7 rfl rfl, ?_⟩
  refine List.forall_mem_cons.mpr ⟨ip_s_isub hx hb dX4_fluidAt_8 rfl, ?_⟩
  refine List.forall_mem_cons.mpr ⟨ip_s_callS hNx hS9 (ctX4_within l) (va_cwS 3 hts gX4_fluidAt_X4_within rfl rfl rfl (by decide +kernel) ⟨Nat.le_of_ble_eq_true rfl, Nat.le_of_ble_eq_true rfl⟩) (fun as S hI h => shsX4_within as S hI h) hA dX4_fluidAt_9 ⟨Nat.le_of_ble_eq_true rfl, Nat.le_of_ble_eq_true rfl⟩ rfl, ?_⟩
  refine List.forall_mem_cons.mpr ⟨ip_s_ifeq (t := 24) hx hb dX4_fluidAt_12 (by decide) rfl rfl, ?_⟩
  refine List.forall_mem_cons.mpr ⟨ip_s_aload_n hx hb dX4_fluidAt_15 rfl rfl, ?_⟩
  refine List.forall_mem_cons.mpr ⟨ip_s_gR0 hx hb hts hin4 hown rfl (by decide) 1 (by decide) (hts (.fieldLink RX4 18 "IcePads" "fluids" "[LIcePads$Fluid;") (by decide +kernel)) (fun _ h9 => h9) hIs 0 5 rfl (by decide) rfl dX4_fluidAt_16 rfl, ?_⟩
  refine List.forall_mem_cons.mpr ⟨ip_s_iload_n hx hb dX4_fluidAt_19 rfl rfl, ?_⟩
  refine List.forall_mem_cons.mpr ⟨ip_s_lda8 hx hb hIs dX4_fluidAt_20 rfl, ?_⟩
  refine List.forall_mem_cons.mpr ⟨ip_s_go (t := 25) hx hb dX4_fluidAt_21 (by decide) (Nat.le_of_ble_eq_true rfl) (Nat.le_of_ble_eq_true rfl), ?_⟩
  refine List.forall_mem_cons.mpr ⟨ip_s_nul hx hb dX4_fluidAt_24 rfl, ?_⟩
  refine List.forall_mem_cons.mpr ⟨ip_s_aret hx hb hr (Or.inl ⟨_, rfl⟩) hlocks (Nat.le_of_ble_eq_true rfl) (Nat.le_of_ble_eq_true rfl) dX4_fluidAt_25, ?_⟩
  exact fun _ h => absurd h List.not_mem_nil
set_option maxRecDepth 100000 in
set_option maxHeartbeats 4000000 in
theorem vX4_fluidAt (M : ip_M) (a : Nat) (n : Int32) (S : ip_S) (hS : ip_Sta S) (hp : a = 0 ∧ ip_cR M S) : ip_run (pX4_fluidAt (postX4_fluidAt M [.inr (.inl (some a)), .inl n] S)) (fun _ => false) (fun _ _ _ _ => False) 40 0 [some (.inr (.inl (some a))), some (.inl n)] [] S := by
  obtain ⟨rfl, nf, nj, np, hv, hcS, hcF, hcJ, hcP⟩ := hp
  have hcount : M 50 4 = nI nf := hv.1.1
  have hle : nf ≤ 4 := hv.1.2.1
  refine And.intro trivial ?_
  rintro r S' ⟨rfl, rfl⟩
  refine And.intro (fun q => ?_) (fun q => ?_)
  · have q : ¬ (0 ≤ n ∧ n ≤ (4 : Int32) - 1) := ip_if0 q
    refine And.intro ?_ rfl
    rw [if_neg]
    intro z
    obtain ⟨i, hi, rfl⟩ := (ip_idx hcount (by omega) n).mp z
    exact q ((ip_idx (y := 4) (n := 4) rfl (by decide) (nI i)).mpr ⟨i, by omega, rfl⟩)
  · have q : 0 ≤ n ∧ n ≤ (4 : Int32) - 1 := ip_if1 q
    obtain ⟨i, hi, rfl⟩ := (ip_idx (y := 4) (n := 4) rfl (by decide) n).mp q
    obtain ⟨hin, hci⟩ := ip_inN (N := 4) hi (Nat.le_refl _) (by decide)
    refine And.intro hin (fun o ho => ?_)
    rw [hci] at ho
    refine And.intro ?_ rfl
    rw [hci]
    by_cases hlt : i < nf
    · rw [if_pos ((ip_idx hcount (by omega) (nI i)).mpr ⟨i, hlt, rfl⟩), ← ho, (hcF.1 i hlt).1]
    · rw [if_neg, ← ho, (hcF.2 i (by omega) hi).1]
      intro z
      obtain ⟨i', hi', e⟩ := (ip_idx hcount (by omega) (nI i)).mp z
      have := ip_nI_inj (a := i) (b := i') (by omega) (by omega) e
      omega
theorem ctX4_fluidAt (l : Launch) (M : ip_M) : ip_CT l yX4_fluidAt wsX4_fluidAt rmX4_fluidAt ip_Sta (preX4_fluidAt M) (postX4_fluidAt M) := by
  refine ip_of (cc := cX4_fluidAt) (maxL := 2) (ret := (some (.object "IcePads$Fluid"))) (by decide +kernel) rfl (fun _ => (0, 0)) rfl ?_ ?_
  · intro as S h
    obtain ⟨a, n, rfl, hq⟩ := ip_e_ri h
    exact ⟨Nat.le_of_ble_eq_true rfl, by simp⟩
  intro p e s m args below meth c D cA A ad0 as S h hI hx hb hml hown hts hr hlocks hname hA hNx
  obtain ⟨a, n, rfl, hq⟩ := ip_e_ri h
  refine ip_run_ok (stop := fun _ => false) (tX4_fluidAt hx hb hml hown hts hr hlocks hname hA hNx) (fun _ _ _ _ h => False.elim h) 40 0 _ _ S ?_
  exact vX4_fluidAt M a n S hI hq

def preX4_jetAt (M : ip_M) : List ip_V → ip_S → Prop := ip_h_ri (fun _ => False) (fun a n S => a = 0 ∧ ip_cR M S)
def postX4_jetAt (M : ip_M) : List ip_V → ip_S → List ip_V → ip_S → Prop := ip_h_ri (fun _ _ _ => True) (fun a n S r S' => r = [.inr (.inl (if 0 ≤ n ∧ n ≤ M 50 15 - 1 then some (30 + n.toNatClampNeg) else none))] ∧ S' = S)
theorem shX4_jetAt (M : ip_M) : ∀ as S, ip_Sta S → preX4_jetAt M as S → ∃ (b : Nat) (as' : List ip_V), as = .inr (.inl (some b)) :: as' ∧ as'.length = 1 ∧ (S.2.2.2 b).1 = 4 := by
  intro as S hI h
  obtain ⟨a, n, rfl, hq⟩ := ip_e_ri h
  exact ⟨_, _, rfl, rfl, by rw [hq.1, hI.1 0 (by decide)]; rfl⟩
def rmX4_jetAt : Room := { frames := 2, cells := 0, slots := 0, locals := 80 }
def pX4_jetAt (po : List ip_V → ip_S → Prop) : List (Nat × ip_T) := [(0, ip_t_il 1 1), (1, ip_t_ci 0 2), (2, ip_t_ar 0 3), (3, ip_t_gR0 0 6 6), (6, ip_t_len 7), (7, ip_t_ci 1 8), (8, ip_t_isub 9), (9, ip_t_call 3 preX4_within postX4_within 12), (12, ip_t_ifeq 24 15), (15, ip_t_ar 0 16), (16, ip_t_gR0 0 6 19), (19, ip_t_il 1 20), (20, ip_t_lda 9 21), (21, ip_t_go 25), (24, ip_t_nul 25), (25, ip_t_aret po)]
set_option maxRecDepth 100000 in
set_option maxHeartbeats 4000000 in
theorem tX4_jetAt {p : Program} {l : Launch} {e : Env} {s : State} {m : MethodId} {args : Array Value} {below : List Frame} {meth : Method} {c : Code} {D : va_G} {cA : Nat → ClassId} {A : Nat → Prop} {ad0 : Nat → Nat} {S0 : ip_S} {po : List ip_V → ip_S → Prop} (hx : p.tables.exec = Jvm.exec) (hb : c.code = cX4_jetAt) (hml : c.maxLocals = 2) (hown : s.vm.findClass RX4 = some m.cls) (hts : ∀ w ∈ wsX4_jetAt, w.before args s = true) (hr : meth.sig.returnType = (some (.object "IcePads$Jet"))) (hlocks : meth.locks = false) (hname : meth.name = yX4_jetAt.name) (hA : ∀ q, s.heap.size ≤ q → A q) (hNx : ip_Nx s) : ∀ q ∈ pX4_jetAt po, ip_snd p l e rmX4_jetAt s m args below meth c D cA A (MQ below (ip_Q ip_Sta D cA ad0 S0 A po) args s 0 0 A) 2 (fun _ => (0, 0)) ip_Sta ad0 S0 q.1 q.2 := by
  have hIs : ∀ S, ip_Sta S → ip_Sta S := fun _ h => h
  have hIn := ip_In_Sta
  have hS9 : CallFix p m c cX4_jetAt 2 s args wsX4_jetAt RX4 := ⟨hx, hb, hml, hown, hts⟩
  have hin4 : ∀ w ∈ u_ws RX4 TX4 14, w ∈ wsX4_jetAt := by decide +kernel
  refine List.forall_mem_cons.mpr ⟨ip_s_iload_n hx hb dX4_jetAt_0 rfl rfl, ?_⟩
  refine List.forall_mem_cons.mpr ⟨ip_s_iconst hx hb dX4_jetAt_1 rfl rfl, ?_⟩
  refine List.forall_mem_cons.mpr ⟨ip_s_aload_n hx hb dX4_jetAt_2 rfl rfl, ?_⟩
  refine List.forall_mem_cons.mpr ⟨ip_s_gR0 hx hb hts hin4 hown rfl (by decide) 3 (by decide) (hts (.fieldLink RX4 24 "IcePads" "jets" "[LIcePads$Jet;") (by decide +kernel)) (fun _ h9 => h9) hIs 0 6 rfl (by decide) rfl dX4_jetAt_3 rfl, ?_⟩
  refine List.forall_mem_cons.mpr ⟨ip_s_len hx hb hIs dX4_jetAt_6 rfl, ?_⟩
  refine List.forall_mem_cons.mpr ⟨ip_s_iconst hx hb dX4_jetAt_7 rfl rfl, ?_⟩
  refine List.forall_mem_cons.mpr ⟨ip_s_isub hx hb dX4_jetAt_8 rfl, ?_⟩
  refine List.forall_mem_cons.mpr ⟨ip_s_callS hNx hS9 (ctX4_within l) (va_cwS 3 hts gX4_jetAt_X4_within rfl rfl rfl (by decide +kernel) ⟨Nat.le_of_ble_eq_true rfl, Nat.le_of_ble_eq_true rfl⟩) (fun as S hI h => shsX4_within as S hI h) hA dX4_jetAt_9 ⟨Nat.le_of_ble_eq_true rfl, Nat.le_of_ble_eq_true rfl⟩ rfl, ?_⟩
  refine List.forall_mem_cons.mpr ⟨ip_s_ifeq (t := 24) hx hb dX4_jetAt_12 (by decide) rfl rfl, ?_⟩
  refine List.forall_mem_cons.mpr ⟨ip_s_aload_n hx hb dX4_jetAt_15 rfl rfl, ?_⟩
  refine List.forall_mem_cons.mpr ⟨ip_s_gR0 hx hb hts hin4 hown rfl (by decide) 3 (by decide) (hts (.fieldLink RX4 24 "IcePads" "jets" "[LIcePads$Jet;") (by decide +kernel)) (fun _ h9 => h9) hIs 0 6 rfl (by decide) rfl dX4_jetAt_16 rfl, ?_⟩
  refine List.forall_mem_cons.mpr ⟨ip_s_iload_n hx hb dX4_jetAt_19 rfl rfl, ?_⟩
  refine List.forall_mem_cons.mpr ⟨ip_s_lda9 hx hb hIs dX4_jetAt_20 rfl, ?_⟩
  refine List.forall_mem_cons.mpr ⟨ip_s_go (t := 25) hx hb dX4_jetAt_21 (by decide) (Nat.le_of_ble_eq_true rfl) (Nat.le_of_ble_eq_true rfl), ?_⟩
  refine List.forall_mem_cons.mpr ⟨ip_s_nul hx hb dX4_jetAt_24 rfl, ?_⟩
  refine List.forall_mem_cons.mpr ⟨ip_s_aret hx hb hr (Or.inl ⟨_, rfl⟩) hlocks (Nat.le_of_ble_eq_true rfl) (Nat.le_of_ble_eq_true rfl) dX4_jetAt_25, ?_⟩
  exact fun _ h => absurd h List.not_mem_nil
set_option maxRecDepth 100000 in
set_option maxHeartbeats 4000000 in
theorem vX4_jetAt (M : ip_M) (a : Nat) (n : Int32) (S : ip_S) (hS : ip_Sta S) (hp : a = 0 ∧ ip_cR M S) : ip_run (pX4_jetAt (postX4_jetAt M [.inr (.inl (some a)), .inl n] S)) (fun _ => false) (fun _ _ _ _ => False) 40 0 [some (.inr (.inl (some a))), some (.inl n)] [] S := by
  obtain ⟨rfl, nf, nj, np, hv, hcS, hcF, hcJ, hcP⟩ := hp
  have hcount : M 50 15 = nI nj := hv.1.2.2.1
  have hle : nj ≤ 12 := hv.1.2.2.2.1
  refine And.intro trivial ?_
  rintro r S' ⟨rfl, rfl⟩
  refine And.intro (fun q => ?_) (fun q => ?_)
  · have q : ¬ (0 ≤ n ∧ n ≤ (12 : Int32) - 1) := ip_if0 q
    refine And.intro ?_ rfl
    rw [if_neg]
    intro z
    obtain ⟨i, hi, rfl⟩ := (ip_idx hcount (by omega) n).mp z
    exact q ((ip_idx (y := 12) (n := 12) rfl (by decide) (nI i)).mpr ⟨i, by omega, rfl⟩)
  · have q : 0 ≤ n ∧ n ≤ (12 : Int32) - 1 := ip_if1 q
    obtain ⟨i, hi, rfl⟩ := (ip_idx (y := 12) (n := 12) rfl (by decide) n).mp q
    obtain ⟨hin, hci⟩ := ip_inN (N := 12) hi (Nat.le_refl _) (by decide)
    refine And.intro hin (fun o ho => ?_)
    rw [hci] at ho
    refine And.intro ?_ rfl
    rw [hci]
    by_cases hlt : i < nj
    · rw [if_pos ((ip_idx hcount (by omega) (nI i)).mpr ⟨i, hlt, rfl⟩), ← ho, (hcJ.1 i hlt).1]
    · rw [if_neg, ← ho, (hcJ.2 i (by omega) hi).1]
      intro z
      obtain ⟨i', hi', e⟩ := (ip_idx hcount (by omega) (nI i)).mp z
      have := ip_nI_inj (a := i) (b := i') (by omega) (by omega) e
      omega
theorem ctX4_jetAt (l : Launch) (M : ip_M) : ip_CT l yX4_jetAt wsX4_jetAt rmX4_jetAt ip_Sta (preX4_jetAt M) (postX4_jetAt M) := by
  refine ip_of (cc := cX4_jetAt) (maxL := 2) (ret := (some (.object "IcePads$Jet"))) (by decide +kernel) rfl (fun _ => (0, 0)) rfl ?_ ?_
  · intro as S h
    obtain ⟨a, n, rfl, hq⟩ := ip_e_ri h
    exact ⟨Nat.le_of_ble_eq_true rfl, by simp⟩
  intro p e s m args below meth c D cA A ad0 as S h hI hx hb hml hown hts hr hlocks hname hA hNx
  obtain ⟨a, n, rfl, hq⟩ := ip_e_ri h
  refine ip_run_ok (stop := fun _ => false) (tX4_jetAt hx hb hml hown hts hr hlocks hname hA hNx) (fun _ _ _ _ h => False.elim h) 40 0 _ _ S ?_
  exact vX4_jetAt M a n S hI hq

def preX4_holdIn (M : ip_M) : List ip_V → ip_S → Prop := ip_h_rri (fun _ => False) (fun a fl m S => a = 0 ∧ ip_vw M ∧ ip_hS M S ∧ (∃ i, fl = 20 + i ∧ ip_hF M S i) ∧ 0 ≤ m ∧ m ≤ 299)
def postX4_holdIn (M : ip_M) : List ip_V → ip_S → List ip_V → ip_S → Prop := ip_h_rri (fun _ _ _ => True) (fun a fl m S r S' => r = [.inl (g_hold M (fl - 20) m.toNatClampNeg)] ∧ S' = S)
theorem shX4_holdIn (M : ip_M) : ∀ as S, ip_Sta S → preX4_holdIn M as S → ∃ (b : Nat) (as' : List ip_V), as = .inr (.inl (some b)) :: as' ∧ as'.length = 2 ∧ (S.2.2.2 b).1 = 4 := by
  intro as S hI h
  obtain ⟨a, fl, m, rfl, hq⟩ := ip_e_rri h
  exact ⟨_, _, rfl, rfl, by rw [hq.1, hI.1 0 (by decide)]; rfl⟩
def rmX4_holdIn : Room := { frames := 3, cells := 0, slots := 0, locals := 120 }
def pX4_holdIn (po : List ip_V → ip_S → Prop) : List (Nat × ip_T) := [(0, ip_t_ar 1 1), (1, ip_t_ar 0 2), (2, ip_t_gR0 0 1 5), (5, ip_t_il 2 6), (6, ip_t_call 2 preX3_coldIn postX3_coldIn 9), (9, ip_t_ar 0 10), (10, ip_t_gR0 0 1 13), (13, ip_t_il 2 14), (14, ip_t_call 2 preX3_fallIn postX3_fallIn 17), (17, ip_t_call 3 preX0_holds postX0_holds 20), (20, ip_t_iret po)]
set_option maxRecDepth 100000 in
set_option maxHeartbeats 4000000 in
theorem tX4_holdIn {p : Program} {l : Launch} {e : Env} {s : State} {m : MethodId} {args : Array Value} {below : List Frame} {meth : Method} {c : Code} {D : va_G} {cA : Nat → ClassId} {A : Nat → Prop} {ad0 : Nat → Nat} {S0 : ip_S} {po : List ip_V → ip_S → Prop} (hx : p.tables.exec = Jvm.exec) (hb : c.code = cX4_holdIn) (hml : c.maxLocals = 3) (hown : s.vm.findClass RX4 = some m.cls) (hts : ∀ w ∈ wsX4_holdIn, w.before args s = true) (hr : meth.sig.returnType = (some .int)) (hlocks : meth.locks = false) (hname : meth.name = yX4_holdIn.name) (hA : ∀ q, s.heap.size ≤ q → A q) (hNx : ip_Nx s) : ∀ q ∈ pX4_holdIn po, ip_snd p l e rmX4_holdIn s m args below meth c D cA A (MQ below (ip_Q ip_Sta D cA ad0 S0 A po) args s 0 0 A) 3 (fun _ => (0, 0)) ip_Sta ad0 S0 q.1 q.2 := by
  have hIs : ∀ S, ip_Sta S → ip_Sta S := fun _ h => h
  have hIn := ip_In_Sta
  have hS9 : CallFix p m c cX4_holdIn 3 s args wsX4_holdIn RX4 := ⟨hx, hb, hml, hown, hts⟩
  have hin4 : ∀ w ∈ u_ws RX4 TX4 14, w ∈ wsX4_holdIn := by decide +kernel
  refine List.forall_mem_cons.mpr ⟨ip_s_aload_n hx hb dX4_holdIn_0 rfl rfl, ?_⟩
  refine List.forall_mem_cons.mpr ⟨ip_s_aload_n hx hb dX4_holdIn_1 rfl rfl, ?_⟩
  refine List.forall_mem_cons.mpr ⟨ip_s_gR0 hx hb hts hin4 hown rfl (by decide) 0 (by decide) (hts (.fieldLink RX4 10 "IcePads" "sky" "LIcePads$Sky;") (by decide +kernel)) (fun _ h9 => h9) hIs 0 1 rfl (by decide) rfl dX4_holdIn_2 rfl, ?_⟩
  refine List.forall_mem_cons.mpr ⟨ip_s_iload_n hx hb dX4_holdIn_5 rfl rfl, ?_⟩
  refine List.forall_mem_cons.mpr ⟨ip_s_callV hNx hS9 (ctX3_coldIn l) (cwV 1 hts gX4_holdIn_X3_coldIn rfl rfl rfl (by decide +kernel) ⟨Nat.le_of_ble_eq_true rfl, Nat.le_of_ble_eq_true rfl⟩) (ci := 3) rfl rfl (by decide) (fun as S hI h => shX3_coldIn as S hI h) hA dX4_holdIn_6 ⟨Nat.le_of_ble_eq_true rfl, Nat.le_of_ble_eq_true rfl⟩ rfl, ?_⟩
  refine List.forall_mem_cons.mpr ⟨ip_s_aload_n hx hb dX4_holdIn_9 rfl rfl, ?_⟩
  refine List.forall_mem_cons.mpr ⟨ip_s_gR0 hx hb hts hin4 hown rfl (by decide) 0 (by decide) (hts (.fieldLink RX4 10 "IcePads" "sky" "LIcePads$Sky;") (by decide +kernel)) (fun _ h9 => h9) hIs 0 1 rfl (by decide) rfl dX4_holdIn_10 rfl, ?_⟩
  refine List.forall_mem_cons.mpr ⟨ip_s_iload_n hx hb dX4_holdIn_13 rfl rfl, ?_⟩
  refine List.forall_mem_cons.mpr ⟨ip_s_callV hNx hS9 (ctX3_fallIn l) (cwV 1 hts gX4_holdIn_X3_fallIn rfl rfl rfl (by decide +kernel) ⟨Nat.le_of_ble_eq_true rfl, Nat.le_of_ble_eq_true rfl⟩) (ci := 3) rfl rfl (by decide) (fun as S hI h => shX3_fallIn as S hI h) hA dX4_holdIn_14 ⟨Nat.le_of_ble_eq_true rfl, Nat.le_of_ble_eq_true rfl⟩ rfl, ?_⟩
  refine List.forall_mem_cons.mpr ⟨ip_s_callV hNx hS9 (ctX0_holds l) (cwV 2 hts gX4_holdIn_X0_holds rfl rfl rfl (by decide +kernel) ⟨Nat.le_of_ble_eq_true rfl, Nat.le_of_ble_eq_true rfl⟩) (ci := 0) rfl rfl (by decide) (fun as S hI h => shX0_holds as S hI h) hA dX4_holdIn_17 ⟨Nat.le_of_ble_eq_true rfl, Nat.le_of_ble_eq_true rfl⟩ rfl, ?_⟩
  refine List.forall_mem_cons.mpr ⟨ip_s_iret hx hb hr hlocks (Nat.le_of_ble_eq_true rfl) (Nat.le_of_ble_eq_true rfl) dX4_holdIn_20, ?_⟩
  exact fun _ h => absurd h List.not_mem_nil
set_option maxRecDepth 100000 in
set_option maxHeartbeats 4000000 in
theorem vX4_holdIn (M : ip_M) (a : Nat) (fl : Nat) (m : Int32) (S : ip_S) (hS : ip_Sta S) (hp : a = 0 ∧ ip_vw M ∧ ip_hS M S ∧ (∃ i, fl = 20 + i ∧ ip_hF M S i) ∧ 0 ≤ m ∧ m ≤ 299) : ip_run (pX4_holdIn (postX4_holdIn M [.inr (.inl (some a)), .inr (.inl (some fl)), .inl m] S)) (fun _ => false) (fun _ _ _ _ => False) 40 0 [some (.inr (.inl (some a))), some (.inr (.inl (some fl))), some (.inl m)] [] S := by
  obtain ⟨rfl, hw, ⟨s4, s2, s3⟩, ⟨i, rfl, f2, f3, f4, f5, f6, f7, f9⟩, hm⟩ := hp
  obtain ⟨fl, hfl, hf1, hf2⟩ := ip_fallN hw m.toNatClampNeg
  refine And.intro (And.intro rfl hm) ?_
  rintro r S' ⟨rfl, rfl⟩
  refine And.intro (And.intro rfl hm) ?_
  rintro r S' ⟨rfl, rfl⟩
  rw [s4, s2, s3]
  have hr4 : 0 ≤ ip_fall (M 51) (M 53) m.toNatClampNeg ∧ ip_fall (M 51) (M 53) m.toNatClampNeg ≤ 3 := by
    rw [hf1]
    exact ⟨nI_pos' (by omega), nI_le (b := 3) (by omega) (by decide)⟩
  refine And.intro (And.intro f2 (And.intro f3 (And.intro f4 hr4))) ?_
  rintro r S' ⟨rfl, rfl⟩
  refine And.intro ?_ rfl
  unfold g_hold
  rw [f5, f6, f7, hf2, f9 fl hfl, show 20 + i - 20 = i by omega]
theorem ctX4_holdIn (l : Launch) (M : ip_M) : ip_CT l yX4_holdIn wsX4_holdIn rmX4_holdIn ip_Sta (preX4_holdIn M) (postX4_holdIn M) := by
  refine ip_of (cc := cX4_holdIn) (maxL := 3) (ret := (some .int)) (by decide +kernel) rfl (fun _ => (0, 0)) rfl ?_ ?_
  · intro as S h
    obtain ⟨a, fl, m, rfl, hq⟩ := ip_e_rri h
    exact ⟨Nat.le_of_ble_eq_true rfl, by simp⟩
  intro p e s m args below meth c D cA A ad0 as S h hI hx hb hml hown hts hr hlocks hname hA hNx
  obtain ⟨a, fl, m, rfl, hq⟩ := ip_e_rri h
  refine ip_run_ok (stop := fun _ => false) (tX4_holdIn hx hb hml hown hts hr hlocks hname hA hNx) (fun _ _ _ _ h => False.elim h) 40 0 _ _ S ?_
  exact vX4_holdIn M a fl m S hI hq

def preX4_litres (M : ip_M) : List ip_V → ip_S → Prop := ip_h_ri (fun _ => False) (fun a f S => a = 0 ∧ ip_cR M S)
def postX4_litres (M : ip_M) : List ip_V → ip_S → List ip_V → ip_S → Prop := ip_h_ri (fun _ _ _ => True) (fun a f S r S' => r = [.inl (g_litres M f)] ∧ S' = S)
theorem shX4_litres (M : ip_M) : ∀ as S, ip_Sta S → preX4_litres M as S → ∃ (b : Nat) (as' : List ip_V), as = .inr (.inl (some b)) :: as' ∧ as'.length = 1 ∧ (S.2.2.2 b).1 = 4 := by
  intro as S hI h
  obtain ⟨a, f, rfl, hq⟩ := ip_e_ri h
  exact ⟨_, _, rfl, rfl, by rw [hq.1, hI.1 0 (by decide)]; rfl⟩
def rmX4_litres : Room := { frames := 3, cells := 0, slots := 0, locals := 120 }
def pX4_litres (po : List ip_V → ip_S → Prop) : List (Nat × ip_T) := [(0, ip_t_ar 0 1), (1, ip_t_il 1 2), (2, ip_t_callG 2 preX4_fluidAt postX4_fluidAt 5), (5, ip_t_as 2 6), (6, ip_t_ar 2 7), (7, ip_t_null 10 15), (10, ip_t_ci (-100) 12), (12, ip_t_go 19), (15, ip_t_ar 2 16), (16, ip_t_gI 0 4 19), (19, ip_t_iret po)]
set_option maxRecDepth 100000 in
set_option maxHeartbeats 4000000 in
theorem tX4_litres {p : Program} {l : Launch} {e : Env} {s : State} {m : MethodId} {args : Array Value} {below : List Frame} {meth : Method} {c : Code} {D : va_G} {cA : Nat → ClassId} {A : Nat → Prop} {ad0 : Nat → Nat} {S0 : ip_S} {po : List ip_V → ip_S → Prop} (hx : p.tables.exec = Jvm.exec) (hb : c.code = cX4_litres) (hml : c.maxLocals = 3) (hown : s.vm.findClass RX4 = some m.cls) (hts : ∀ w ∈ wsX4_litres, w.before args s = true) (hr : meth.sig.returnType = (some .int)) (hlocks : meth.locks = false) (hname : meth.name = yX4_litres.name) (hA : ∀ q, s.heap.size ≤ q → A q) (hNx : ip_Nx s) : ∀ q ∈ pX4_litres po, ip_snd p l e rmX4_litres s m args below meth c D cA A (MQ below (ip_Q ip_Sta D cA ad0 S0 A po) args s 0 0 A) 3 (fun _ => (0, 0)) ip_Sta ad0 S0 q.1 q.2 := by
  have hIs : ∀ S, ip_Sta S → ip_Sta S := fun _ h => h
  have hIn := ip_In_Sta
  have hS9 : CallFix p m c cX4_litres 3 s args wsX4_litres RX4 := ⟨hx, hb, hml, hown, hts⟩
  have hin0 : ∀ w ∈ u_ws RX0 TX0 5, w ∈ wsX4_litres := by decide +kernel
  refine List.forall_mem_cons.mpr ⟨ip_s_aload_n hx hb dX4_litres_0 rfl rfl, ?_⟩
  refine List.forall_mem_cons.mpr ⟨ip_s_iload_n hx hb dX4_litres_1 rfl rfl, ?_⟩
  refine List.forall_mem_cons.mpr ⟨ip_s_G (fun M => ip_s_callV hNx hS9 (ctX4_fluidAt l M) (cwV 1 hts gX4_litres_X4_fluidAt rfl rfl rfl (by decide +kernel) ⟨Nat.le_of_ble_eq_true rfl, Nat.le_of_ble_eq_true rfl⟩) (ci := 4) rfl rfl (by decide) (fun as S hI h => shX4_fluidAt M as S hI h) hA dX4_litres_2 ⟨Nat.le_of_ble_eq_true rfl, Nat.le_of_ble_eq_true rfl⟩ rfl), ?_⟩
  refine List.forall_mem_cons.mpr ⟨ip_s_astore_n hx hb dX4_litres_5 rfl (by decide) rfl, ?_⟩
  refine List.forall_mem_cons.mpr ⟨ip_s_aload_n hx hb dX4_litres_6 rfl rfl, ?_⟩
  refine List.forall_mem_cons.mpr ⟨ip_s_ifnonnull (t := 15) hx hb dX4_litres_7 (by decide) rfl rfl, ?_⟩
  refine List.forall_mem_cons.mpr ⟨ip_s_bipush hx hb dX4_litres_10 rfl rfl, ?_⟩
  refine List.forall_mem_cons.mpr ⟨ip_s_go (t := 19) hx hb dX4_litres_12 (by decide) (Nat.le_of_ble_eq_true rfl) (Nat.le_of_ble_eq_true rfl), ?_⟩
  refine List.forall_mem_cons.mpr ⟨ip_s_aload_n hx hb dX4_litres_15 rfl rfl, ?_⟩
  refine List.forall_mem_cons.mpr ⟨ip_s_gI hx hb hts hin0 hown rfl (by decide) 4 (by decide) (hts (.fieldLink RX4 107 "IcePads$Fluid" "litresLeft" "I") (by decide +kernel)) (fun _ h9 => h9) rfl dX4_litres_16 rfl, ?_⟩
  refine List.forall_mem_cons.mpr ⟨ip_s_iret hx hb hr hlocks (Nat.le_of_ble_eq_true rfl) (Nat.le_of_ble_eq_true rfl) dX4_litres_19, ?_⟩
  exact fun _ h => absurd h List.not_mem_nil
set_option maxRecDepth 100000 in
set_option maxHeartbeats 4000000 in
theorem vX4_litres (M : ip_M) (a : Nat) (f : Int32) (S : ip_S) (hS : ip_Sta S) (hp : a = 0 ∧ ip_cR M S) : ip_run (pX4_litres (postX4_litres M [.inr (.inl (some a)), .inl f] S)) (fun _ => false) (fun _ _ _ _ => False) 40 0 [some (.inr (.inl (some a))), some (.inl f), none] [] S := by
  obtain ⟨rfl, hR⟩ := hp
  refine Exists.intro M (And.intro (And.intro rfl hR) ?_)
  rintro r S' ⟨rfl, rfl⟩
  obtain ⟨nf, nj, np, hv, hcS, hcF, hcJ, hcP⟩ := hR
  unfold postX4_litres g_litres
  by_cases hf : ip_isF M f
  · rw [if_pos hf]
    obtain ⟨i, hi, rfl⟩ := (ip_isF_vv hv f).mp hf
    obtain ⟨f1, f2, f3, f4, f5, f6, f7, f8, f9⟩ := hcF.1 i hi
    have hci : (nI i).toNatClampNeg = i := nI_clamp (by have := hv.1.2.1; omega)
    rw [hci]
    refine And.intro f2 ?_
    refine And.intro ?_ rfl
    rw [if_pos hf, hci, f8]
  · rw [if_neg hf]
    refine And.intro ?_ rfl
    rw [if_neg hf]
theorem ctX4_litres (l : Launch) (M : ip_M) : ip_CT l yX4_litres wsX4_litres rmX4_litres ip_Sta (preX4_litres M) (postX4_litres M) := by
  refine ip_of (cc := cX4_litres) (maxL := 3) (ret := (some .int)) (by decide +kernel) rfl (fun _ => (0, 0)) rfl ?_ ?_
  · intro as S h
    obtain ⟨a, f, rfl, hq⟩ := ip_e_ri h
    exact ⟨Nat.le_of_ble_eq_true rfl, by simp⟩
  intro p e s m args below meth c D cA A ad0 as S h hI hx hb hml hown hts hr hlocks hname hA hNx
  obtain ⟨a, f, rfl, hq⟩ := ip_e_ri h
  refine ip_run_ok (stop := fun _ => false) (tX4_litres hx hb hml hown hts hr hlocks hname hA hNx) (fun _ _ _ _ h => False.elim h) 40 0 _ _ S ?_
  exact vX4_litres M a f S hI hq

def preX4_known (M : ip_M) : List ip_V → ip_S → Prop := ip_h_rii (fun _ => False) (fun a m w S => a = 0 ∧ ip_cR M S)
def postX4_known (M : ip_M) : List ip_V → ip_S → List ip_V → ip_S → Prop := ip_h_rii (fun _ _ _ => True) (fun a m w S r S' => r = [.inl (g_known M m w)] ∧ S' = S)
theorem shX4_known (M : ip_M) : ∀ as S, ip_Sta S → preX4_known M as S → ∃ (b : Nat) (as' : List ip_V), as = .inr (.inl (some b)) :: as' ∧ as'.length = 2 ∧ (S.2.2.2 b).1 = 4 := by
  intro as S hI h
  obtain ⟨a, m, w, rfl, hq⟩ := ip_e_rii h
  exact ⟨_, _, rfl, rfl, by rw [hq.1, hI.1 0 (by decide)]; rfl⟩
def rmX4_known : Room := { frames := 3, cells := 0, slots := 0, locals := 120 }
def pX4_known (po : List ip_V → ip_S → Prop) : List (Nat × ip_T) := [(0, ip_t_il 1 1), (1, ip_t_call 1 preX4_isMinute postX4_isMinute 4), (4, ip_t_ifne 10 7), (7, ip_t_ci (-100) 9), (9, ip_t_iret po), (10, ip_t_il 2 11), (11, ip_t_sw [(0, 36), (1, 45), (2, 54)] 66), (36, ip_t_ar 0 37), (37, ip_t_gR0 0 1 40), (40, ip_t_il 1 41), (41, ip_t_call 2 preX3_coldIn postX3_coldIn 44), (44, ip_t_iret po), (45, ip_t_ar 0 46), (46, ip_t_gR0 0 1 49), (49, ip_t_il 1 50), (50, ip_t_call 2 preX3_fallIn postX3_fallIn 53), (53, ip_t_iret po), (54, ip_t_ar 0 55), (55, ip_t_gR0 0 1 58), (58, ip_t_il 1 59), (59, ip_t_call 2 preX3_isTold postX3_isTold 62), (62, ip_t_call 1 preX4_oneIf postX4_oneIf 65), (65, ip_t_iret po), (66, ip_t_ci (-100) 68), (68, ip_t_iret po)]
set_option maxRecDepth 100000 in
set_option maxHeartbeats 4000000 in
theorem tX4_known {p : Program} {l : Launch} {e : Env} {s : State} {m : MethodId} {args : Array Value} {below : List Frame} {meth : Method} {c : Code} {D : va_G} {cA : Nat → ClassId} {A : Nat → Prop} {ad0 : Nat → Nat} {S0 : ip_S} {po : List ip_V → ip_S → Prop} (hx : p.tables.exec = Jvm.exec) (hb : c.code = cX4_known) (hml : c.maxLocals = 3) (hown : s.vm.findClass RX4 = some m.cls) (hts : ∀ w ∈ wsX4_known, w.before args s = true) (hr : meth.sig.returnType = (some .int)) (hlocks : meth.locks = false) (hname : meth.name = yX4_known.name) (hA : ∀ q, s.heap.size ≤ q → A q) (hNx : ip_Nx s) : ∀ q ∈ pX4_known po, ip_snd p l e rmX4_known s m args below meth c D cA A (MQ below (ip_Q ip_Sta D cA ad0 S0 A po) args s 0 0 A) 3 (fun _ => (0, 0)) ip_Sta ad0 S0 q.1 q.2 := by
  have hIs : ∀ S, ip_Sta S → ip_Sta S := fun _ h => h
  have hIn := ip_In_Sta
  have hS9 : CallFix p m c cX4_known 3 s args wsX4_known RX4 := ⟨hx, hb, hml, hown, hts⟩
  have hin4 : ∀ w ∈ u_ws RX4 TX4 14, w ∈ wsX4_known := by decide +kernel
  refine List.forall_mem_cons.mpr ⟨ip_s_iload_n hx hb dX4_known_0 rfl rfl, ?_⟩
  refine List.forall_mem_cons.mpr ⟨ip_s_callS hNx hS9 (ctX4_isMinute l) (va_cwS 1 hts gX4_known_X4_isMinute rfl rfl rfl (by decide +kernel) ⟨Nat.le_of_ble_eq_true rfl, Nat.le_of_ble_eq_true rfl⟩) (fun as S hI h => shsX4_isMinute as S hI h) hA dX4_known_1 ⟨Nat.le_of_ble_eq_true rfl, Nat.le_of_ble_eq_true rfl⟩ rfl, ?_⟩
  refine List.forall_mem_cons.mpr ⟨ip_s_ifne (t := 10) hx hb dX4_known_4 (by decide) rfl rfl, ?_⟩
  refine List.forall_mem_cons.mpr ⟨ip_s_bipush hx hb dX4_known_7 rfl rfl, ?_⟩
  refine List.forall_mem_cons.mpr ⟨ip_s_iret hx hb hr hlocks (Nat.le_of_ble_eq_true rfl) (Nat.le_of_ble_eq_true rfl) dX4_known_9, ?_⟩
  refine List.forall_mem_cons.mpr ⟨ip_s_iload_n hx hb dX4_known_10 rfl rfl, ?_⟩
  refine List.forall_mem_cons.mpr ⟨ip_s_sw (ts := [(0, 36), (1, 45), (2, 54)]) (d := 66) hx hb 3 dX4_known_11 (by decide) (by decide +kernel) (by decide +kernel) (by decide) rfl (fun _ _ => rfl), ?_⟩
  refine List.forall_mem_cons.mpr ⟨ip_s_aload_n hx hb dX4_known_36 rfl rfl, ?_⟩
  refine List.forall_mem_cons.mpr ⟨ip_s_gR0 hx hb hts hin4 hown rfl (by decide) 0 (by decide) (hts (.fieldLink RX4 10 "IcePads" "sky" "LIcePads$Sky;") (by decide +kernel)) (fun _ h9 => h9) hIs 0 1 rfl (by decide) rfl dX4_known_37 rfl, ?_⟩
  refine List.forall_mem_cons.mpr ⟨ip_s_iload_n hx hb dX4_known_40 rfl rfl, ?_⟩
  refine List.forall_mem_cons.mpr ⟨ip_s_callV hNx hS9 (ctX3_coldIn l) (cwV 1 hts gX4_known_X3_coldIn rfl rfl rfl (by decide +kernel) ⟨Nat.le_of_ble_eq_true rfl, Nat.le_of_ble_eq_true rfl⟩) (ci := 3) rfl rfl (by decide) (fun as S hI h => shX3_coldIn as S hI h) hA dX4_known_41 ⟨Nat.le_of_ble_eq_true rfl, Nat.le_of_ble_eq_true rfl⟩ rfl, ?_⟩
  refine List.forall_mem_cons.mpr ⟨ip_s_iret hx hb hr hlocks (Nat.le_of_ble_eq_true rfl) (Nat.le_of_ble_eq_true rfl) dX4_known_44, ?_⟩
  refine List.forall_mem_cons.mpr ⟨ip_s_aload_n hx hb dX4_known_45 rfl rfl, ?_⟩
  refine List.forall_mem_cons.mpr ⟨ip_s_gR0 hx hb hts hin4 hown rfl (by decide) 0 (by decide) (hts (.fieldLink RX4 10 "IcePads" "sky" "LIcePads$Sky;") (by decide +kernel)) (fun _ h9 => h9) hIs 0 1 rfl (by decide) rfl dX4_known_46 rfl, ?_⟩
  refine List.forall_mem_cons.mpr ⟨ip_s_iload_n hx hb dX4_known_49 rfl rfl, ?_⟩
  refine List.forall_mem_cons.mpr ⟨ip_s_callV hNx hS9 (ctX3_fallIn l) (cwV 1 hts gX4_known_X3_fallIn rfl rfl rfl (by decide +kernel) ⟨Nat.le_of_ble_eq_true rfl, Nat.le_of_ble_eq_true rfl⟩) (ci := 3) rfl rfl (by decide) (fun as S hI h => shX3_fallIn as S hI h) hA dX4_known_50 ⟨Nat.le_of_ble_eq_true rfl, Nat.le_of_ble_eq_true rfl⟩ rfl, ?_⟩
  refine List.forall_mem_cons.mpr ⟨ip_s_iret hx hb hr hlocks (Nat.le_of_ble_eq_true rfl) (Nat.le_of_ble_eq_true rfl) dX4_known_53, ?_⟩
  refine List.forall_mem_cons.mpr ⟨ip_s_aload_n hx hb dX4_known_54 rfl rfl, ?_⟩
  refine List.forall_mem_cons.mpr ⟨ip_s_gR0 hx hb hts hin4 hown rfl (by decide) 0 (by decide) (hts (.fieldLink RX4 10 "IcePads" "sky" "LIcePads$Sky;") (by decide +kernel)) (fun _ h9 => h9) hIs 0 1 rfl (by decide) rfl dX4_known_55 rfl, ?_⟩
  refine List.forall_mem_cons.mpr ⟨ip_s_iload_n hx hb dX4_known_58 rfl rfl, ?_⟩
  refine List.forall_mem_cons.mpr ⟨ip_s_callV hNx hS9 (ctX3_isTold l) (cwV 1 hts gX4_known_X3_isTold rfl rfl rfl (by decide +kernel) ⟨Nat.le_of_ble_eq_true rfl, Nat.le_of_ble_eq_true rfl⟩) (ci := 3) rfl rfl (by decide) (fun as S hI h => shX3_isTold as S hI h) hA dX4_known_59 ⟨Nat.le_of_ble_eq_true rfl, Nat.le_of_ble_eq_true rfl⟩ rfl, ?_⟩
  refine List.forall_mem_cons.mpr ⟨ip_s_callS hNx hS9 (ctX4_oneIf l) (va_cwS 1 hts gX4_known_X4_oneIf rfl rfl rfl (by decide +kernel) ⟨Nat.le_of_ble_eq_true rfl, Nat.le_of_ble_eq_true rfl⟩) (fun as S hI h => shsX4_oneIf as S hI h) hA dX4_known_62 ⟨Nat.le_of_ble_eq_true rfl, Nat.le_of_ble_eq_true rfl⟩ rfl, ?_⟩
  refine List.forall_mem_cons.mpr ⟨ip_s_iret hx hb hr hlocks (Nat.le_of_ble_eq_true rfl) (Nat.le_of_ble_eq_true rfl) dX4_known_65, ?_⟩
  refine List.forall_mem_cons.mpr ⟨ip_s_bipush hx hb dX4_known_66 rfl rfl, ?_⟩
  refine List.forall_mem_cons.mpr ⟨ip_s_iret hx hb hr hlocks (Nat.le_of_ble_eq_true rfl) (Nat.le_of_ble_eq_true rfl) dX4_known_68, ?_⟩
  exact fun _ h => absurd h List.not_mem_nil
set_option maxRecDepth 100000 in
set_option maxHeartbeats 4000000 in
theorem vX4_known (M : ip_M) (a : Nat) (m : Int32) (w : Int32) (S : ip_S) (hS : ip_Sta S) (hp : a = 0 ∧ ip_cR M S) : ip_run (pX4_known (postX4_known M [.inr (.inl (some a)), .inl m, .inl w] S)) (fun _ => false) (fun _ _ _ _ => False) 40 0 [some (.inr (.inl (some a))), some (.inl m), some (.inl w)] [] S := by
  obtain ⟨rfl, nf, nj, np, hv, hcS, hcF, hcJ, hcP⟩ := hp
  obtain ⟨-, -, -, -, -, -, -, -, s4, s2, s3⟩ := hcS
  refine And.intro trivial ?_
  rintro r S' ⟨rfl, rfl⟩
  refine And.intro (fun q => ?_) (fun q => ?_)
  rotate_left
  · refine And.intro ?_ rfl
    unfold g_known
    rw [if_neg (ip_if0 q)]
  have q := ip_if1 q
  refine And.intro (fun c0 => ?_) (fun c0 => ?_)
  · refine And.intro (And.intro rfl q) ?_
    rintro r S' ⟨rfl, rfl⟩
    refine And.intro ?_ rfl
    unfold g_known
    rw [if_pos q, if_pos c0, s4, s2]
  refine And.intro (fun c1 => ?_) (fun c1 => ?_)
  · refine And.intro (And.intro rfl q) ?_
    rintro r S' ⟨rfl, rfl⟩
    refine And.intro ?_ rfl
    unfold g_known
    rw [if_pos q, if_neg c0, if_pos c1, s4, s3]
  refine And.intro (fun c2 => ?_) (fun c2 => ?_)
  · refine And.intro (And.intro rfl trivial) ?_
    rintro r S' ⟨rfl, rfl⟩
    refine And.intro trivial ?_
    rintro r S' ⟨rfl, rfl⟩
    refine And.intro ?_ rfl
    have hlt : m < 300 := Int32.lt_of_le_of_lt q.2 (by decide)
    unfold g_known
    rw [if_pos q, if_neg c0, if_neg c1, if_pos c2, s4]
    by_cases ht : M 51 m.toNatClampNeg = 0
    · have e : (if 0 ≤ m ∧ m < 300 ∧ ¬ M 51 m.toNatClampNeg = 0 then (1 : Int32) else 0) = 0 := if_neg (fun z => z.2.2 ht)
      rw [if_pos ht, if_pos e]
    · have e : (if 0 ≤ m ∧ m < 300 ∧ ¬ M 51 m.toNatClampNeg = 0 then (1 : Int32) else 0) = 1 := if_pos ⟨q.1, hlt, ht⟩
      rw [if_neg ht, e, if_neg (by decide)]
  · refine And.intro ?_ rfl
    unfold g_known
    rw [if_pos q, if_neg c0, if_neg c1, if_neg c2]
theorem ctX4_known (l : Launch) (M : ip_M) : ip_CT l yX4_known wsX4_known rmX4_known ip_Sta (preX4_known M) (postX4_known M) := by
  refine ip_of (cc := cX4_known) (maxL := 3) (ret := (some .int)) (by decide +kernel) rfl (fun _ => (0, 0)) rfl ?_ ?_
  · intro as S h
    obtain ⟨a, m, w, rfl, hq⟩ := ip_e_rii h
    exact ⟨Nat.le_of_ble_eq_true rfl, by simp⟩
  intro p e s m args below meth c D cA A ad0 as S h hI hx hb hml hown hts hr hlocks hname hA hNx
  obtain ⟨a, m, w, rfl, hq⟩ := ip_e_rii h
  refine ip_run_ok (stop := fun _ => false) (tX4_known hx hb hml hown hts hr hlocks hname hA hNx) (fun _ _ _ _ h => False.elim h) 40 0 _ _ S ?_
  exact vX4_known M a m w S hI hq
