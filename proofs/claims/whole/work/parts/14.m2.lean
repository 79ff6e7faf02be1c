/-! the weather and the holds, as numbers -/
def ip_cL (T C : Nat → Int32) (n : Nat) : Nat → Option Int32
  | 0 => none
  | b + 1 => if b + 1 ≤ n ∧ ¬ T (n - (b + 1)) = 0 then (match ip_cL T C n b with
    | none => some (C (n - (b + 1)))
    | some v => some (if C (n - (b + 1)) < v then C (n - (b + 1)) else v)) else ip_cL T C n b
def ip_cold (T C : Nat → Int32) (n : Nat) : Int32 := if T n = 0 then (ip_cL T C n 30).getD 0 else C n
def ip_fL (T F : Nat → Int32) (n : Nat) : Nat → Int32
  | 0 => 0
  | b + 1 => if b + 1 ≤ n ∧ ¬ T (n - (b + 1)) = 0 then (if ip_fL T F n b < F (n - (b + 1)) then F (n - (b + 1)) else ip_fL T F n b) else ip_fL T F n b
def ip_fall (T F : Nat → Int32) (n : Nat) : Int32 := if T n = 0 then ip_fL T F n 30 else F n
def ip_thin (sp cold : Int32) : Int32 := if cold < -10 then sp / 2 else sp
def ip_hold (kind times parts sp cold : Int32) : Int32 := if kind = 0 then ip_thin sp cold else if kind = 1 then ip_thin sp cold * times else ip_thin sp cold * times * parts / 10
theorem ip_mi {m : Int32} (h : 0 ≤ m ∧ m ≤ 299) : ∃ n, n < 300 ∧ m = nI n := by
  obtain ⟨j, h1, h2⟩ := nI_of2 (M := 299) (n := 299) rfl (Int32.not_lt.mpr h.1) h.2
  exact ⟨j, by omega, h2⟩
theorem ip_mi' {n : Nat} (h : n < 300) : 0 ≤ nI n ∧ nI n ≤ 299 := ⟨nI_pos' (by omega), nI_le (b := 299) (by omega) (by omega)⟩

def preX0_thinHold : List ip_V → ip_S → Prop := ip_h_rii (fun _ => False) (fun a cold fall S => (S.2.2.2 a).1 = 0 ∧ S.2.1 a 1 = some (a + 4) ∧ S.2.2.2 (a + 4) = (6, 4) ∧ 0 ≤ fall ∧ fall ≤ 3)
def postX0_thinHold : List ip_V → ip_S → List ip_V → ip_S → Prop := ip_h_rii (fun _ _ _ => True) (fun a cold fall S r S' => r = [.inl (ip_thin (S.1 (a + 4) fall.toNatClampNeg) cold)] ∧ S' = S)
theorem shX0_thinHold : ∀ as S, ip_Sta S → preX0_thinHold as S → ∃ (b : Nat) (as' : List ip_V), as = .inr (.inl (some b)) :: as' ∧ as'.length = 2 ∧ (S.2.2.2 b).1 = 0 := by
  intro as S hI h
  obtain ⟨a, cold, fall, rfl, hq⟩ := ip_e_rii h
  exact ⟨_, _, rfl, rfl, hq.1⟩
def rmX0_thinHold : Room := { frames := 1, cells := 0, slots := 0, locals := 40 }
def pX0_thinHold (po : List ip_V → ip_S → Prop) : List (Nat × ip_T) := [(0, ip_t_il 2 1), (1, ip_t_iflt 13 4), (4, ip_t_il 2 5), (5, ip_t_ar 0 6), (6, ip_t_gR 0 1 9), (9, ip_t_lenD 10), (10, ip_t_iclt 15 13), (13, ip_t_ci 0 14), (14, ip_t_iret po), (15, ip_t_il 1 16), (16, ip_t_ci (-10) 18), (18, ip_t_icge 32 21), (21, ip_t_ar 0 22), (22, ip_t_gR 0 1 25), (25, ip_t_il 2 26), (26, ip_t_ldD 27), (27, ip_t_ci 2 28), (28, ip_t_idiv 29), (29, ip_t_go 38), (32, ip_t_ar 0 33), (33, ip_t_gR 0 1 36), (36, ip_t_il 2 37), (37, ip_t_ldD 38), (38, ip_t_iret po)]
set_option maxRecDepth 100000 in
set_option maxHeartbeats 4000000 in
theorem tX0_thinHold {p : Program} {l : Launch} {e : Env} {s : State} {m : MethodId} {args : Array Value} {below : List Frame} {meth : Method} {c : Code} {D : va_G} {cA : Nat → ClassId} {A : Nat → Prop} {ad0 : Nat → Nat} {S0 : ip_S} {po : List ip_V → ip_S → Prop} (hx : p.tables.exec = Jvm.exec) (hb : c.code = cX0_thinHold) (hml : c.maxLocals = 3) (hown : s.vm.findClass RX0 = some m.cls) (hts : ∀ w ∈ wsX0_thinHold, w.before args s = true) (hr : meth.sig.returnType = (some .int)) (hlocks : meth.locks = false) (hname : meth.name = yX0_thinHold.name) (hA : ∀ q, s.heap.size ≤ q → A q) (hNx : ip_Nx s) : ∀ q ∈ pX0_thinHold po, ip_snd p l e rmX0_thinHold s m args below meth c D cA A (MQ below (ip_Q ip_Sta D cA ad0 S0 A po) args s 0 0 A) 3 (fun _ => (0, 0)) ip_Sta ad0 S0 q.1 q.2 := by
  have hIs : ∀ S, ip_Sta S → ip_Sta S := fun _ h => h
  have hIn := ip_In_Sta
  have hS9 : CallFix p m c cX0_thinHold 3 s args wsX0_thinHold RX0 := ⟨hx, hb, hml, hown, hts⟩
  have hin0 : ∀ w ∈ u_ws RX0 TX0 5, w ∈ wsX0_thinHold := by decide +kernel
  refine List.forall_mem_cons.mpr ⟨ip_s_iload_n hx hb dX0_thinHold_0 rfl rfl, ?_⟩
  refine List.forall_mem_cons.mpr ⟨ip_s_iflt (t := 13) hx hb dX0_thinHold_1 (by decide) rfl rfl, ?_⟩
  refine List.forall_mem_cons.mpr ⟨ip_s_iload_n hx hb dX0_thinHold_4 rfl rfl, ?_⟩
  refine List.forall_mem_cons.mpr ⟨ip_s_aload_n hx hb dX0_thinHold_5 rfl rfl, ?_⟩
  refine List.forall_mem_cons.mpr ⟨ip_s_gR hx hb hts hin0 hown rfl (by decide) 1 (by decide) (hts (.fieldLink RX0 13 "IcePads$Fluid" "spans" "[I") (by decide +kernel)) (fun _ h9 => h9) rfl dX0_thinHold_6 rfl, ?_⟩
  refine List.forall_mem_cons.mpr ⟨ip_s_lenD hx hb dX0_thinHold_9 rfl, ?_⟩
  refine List.forall_mem_cons.mpr ⟨ip_s_iclt (t := 15) hx hb dX0_thinHold_10 (by decide) rfl rfl, ?_⟩
  refine List.forall_mem_cons.mpr ⟨ip_s_iconst hx hb dX0_thinHold_13 rfl rfl, ?_⟩
  refine List.forall_mem_cons.mpr ⟨ip_s_iret hx hb hr hlocks (Nat.le_of_ble_eq_true rfl) (Nat.le_of_ble_eq_true rfl) dX0_thinHold_14, ?_⟩
  refine List.forall_mem_cons.mpr ⟨ip_s_iload_n hx hb dX0_thinHold_15 rfl rfl, ?_⟩
  refine List.forall_mem_cons.mpr ⟨ip_s_bipush hx hb dX0_thinHold_16 rfl rfl, ?_⟩
  refine List.forall_mem_cons.mpr ⟨ip_s_icge (t := 32) hx hb dX0_thinHold_18 (by decide) rfl rfl, ?_⟩
  refine List.forall_mem_cons.mpr ⟨ip_s_aload_n hx hb dX0_thinHold_21 rfl rfl, ?_⟩
  refine List.forall_mem_cons.mpr ⟨ip_s_gR hx hb hts hin0 hown rfl (by decide) 1 (by decide) (hts (.fieldLink RX0 13 "IcePads$Fluid" "spans" "[I") (by decide +kernel)) (fun _ h9 => h9) rfl dX0_thinHold_22 rfl, ?_⟩
  refine List.forall_mem_cons.mpr ⟨ip_s_iload_n hx hb dX0_thinHold_25 rfl rfl, ?_⟩
  refine List.forall_mem_cons.mpr ⟨ip_s_ldD hx hb dX0_thinHold_26 rfl, ?_⟩
  refine List.forall_mem_cons.mpr ⟨ip_s_iconst hx hb dX0_thinHold_27 rfl rfl, ?_⟩
  refine List.forall_mem_cons.mpr ⟨ip_s_idiv hx hb dX0_thinHold_28 rfl, ?_⟩
  refine List.forall_mem_cons.mpr ⟨ip_s_go (t := 38) hx hb dX0_thinHold_29 (by decide) (Nat.le_of_ble_eq_true rfl) (Nat.le_of_ble_eq_true rfl), ?_⟩
  refine List.forall_mem_cons.mpr ⟨ip_s_aload_n hx hb dX0_thinHold_32 rfl rfl, ?_⟩
  refine List.forall_mem_cons.mpr ⟨ip_s_gR hx hb hts hin0 hown rfl (by decide) 1 (by decide) (hts (.fieldLink RX0 13 "IcePads$Fluid" "spans" "[I") (by decide +kernel)) (fun _ h9 => h9) rfl dX0_thinHold_33 rfl, ?_⟩
  refine List.forall_mem_cons.mpr ⟨ip_s_iload_n hx hb dX0_thinHold_36 rfl rfl, ?_⟩
  refine List.forall_mem_cons.mpr ⟨ip_s_ldD hx hb dX0_thinHold_37 rfl, ?_⟩
  refine List.forall_mem_cons.mpr ⟨ip_s_iret hx hb hr hlocks (Nat.le_of_ble_eq_true rfl) (Nat.le_of_ble_eq_true rfl) dX0_thinHold_38, ?_⟩
  exact fun _ h => absurd h List.not_mem_nil
set_option maxRecDepth 100000 in
set_option maxHeartbeats 4000000 in
theorem vX0_thinHold (a : Nat) (cold : Int32) (fall : Int32) (S : ip_S) (hS : ip_Sta S) (hp : (S.2.2.2 a).1 = 0 ∧ S.2.1 a 1 = some (a + 4) ∧ S.2.2.2 (a + 4) = (6, 4) ∧ 0 ≤ fall ∧ fall ≤ 3) : ip_run (pX0_thinHold (postX0_thinHold [.inr (.inl (some a)), .inl cold, .inl fall] S)) (fun _ => false) (fun _ _ _ _ => False) 40 0 [some (.inr (.inl (some a))), some (.inl cold), some (.inl fall)] [] S := by
  obtain ⟨h1, h2, h3, h4, h5⟩ := hp
  have hin : vp_in fall 4 := ip_in ⟨h4, h5⟩ rfl
  refine And.intro (fun q => absurd q (Int32.not_lt.mpr h4)) (fun _ => ?_)
  refine And.intro h1 (fun o ho => ?_)
  rw [h2] at ho
  subst ho
  refine Exists.intro 4 (And.intro h3 ?_)
  refine And.intro (fun _ => ?_) (fun q => absurd (Int32.lt_of_le_of_lt h5 (show (3 : Int32) < 4 by decide)) q)
  refine And.intro (fun q1 => ?_) (fun q1 => ?_)
  · refine And.intro h1 (fun o ho => ?_)
    rw [h2] at ho
    subst ho
    refine Exists.intro 4 (And.intro h3 (And.intro hin ?_))
    refine And.intro ?_ rfl
    unfold ip_thin
    rw [if_neg (Int32.not_lt.mpr q1)]
  · refine And.intro h1 (fun o ho => ?_)
    rw [h2] at ho
    subst ho
    refine Exists.intro 4 (And.intro h3 (And.intro hin ?_))
    refine And.intro (by decide) ?_
    refine And.intro ?_ rfl
    unfold ip_thin
    rw [if_pos (Int32.not_le.mp q1)]
theorem ctX0_thinHold (l : Launch) : ip_CT l yX0_thinHold wsX0_thinHold rmX0_thinHold ip_Sta preX0_thinHold postX0_thinHold := by
  refine ip_of (cc := cX0_thinHold) (maxL := 3) (ret := (some .int)) (by decide +kernel) rfl (fun _ => (0, 0)) rfl ?_ ?_
  · intro as S h
    obtain ⟨a, cold, fall, rfl, hq⟩ := ip_e_rii h
    exact ⟨Nat.le_of_ble_eq_true rfl, by simp⟩
  intro p e s m args below meth c D cA A ad0 as S h hI hx hb hml hown hts hr hlocks hname hA hNx
  obtain ⟨a, cold, fall, rfl, hq⟩ := ip_e_rii h
  refine ip_run_ok (stop := fun _ => false) (tX0_thinHold hx hb hml hown hts hr hlocks hname hA hNx) (fun _ _ _ _ h => False.elim h) 40 0 _ _ S ?_
  exact vX0_thinHold a cold fall S hI hq

def preX0_holds : List ip_V → ip_S → Prop := ip_h_rii (fun _ => False) (fun a cold fall S => (S.2.2.2 a).1 = 0 ∧ S.2.1 a 1 = some (a + 4) ∧ S.2.2.2 (a + 4) = (6, 4) ∧ 0 ≤ fall ∧ fall ≤ 3)
def postX0_holds : List ip_V → ip_S → List ip_V → ip_S → Prop := ip_h_rii (fun _ _ _ => True) (fun a cold fall S r S' => r = [.inl (ip_hold (S.1 a 0) (S.1 a 2) (S.1 a 3) (S.1 (a + 4) fall.toNatClampNeg) cold)] ∧ S' = S)
theorem shX0_holds : ∀ as S, ip_Sta S → preX0_holds as S → ∃ (b : Nat) (as' : List ip_V), as = .inr (.inl (some b)) :: as' ∧ as'.length = 2 ∧ (S.2.2.2 b).1 = 0 := by
  intro as S hI h
  obtain ⟨a, cold, fall, rfl, hq⟩ := ip_e_rii h
  exact ⟨_, _, rfl, rfl, hq.1⟩
def rmX0_holds : Room := { frames := 2, cells := 0, slots := 0, locals := 80 }
def pX0_holds (po : List ip_V → ip_S → Prop) : List (Nat × ip_T) := [(0, ip_t_ar 0 1), (1, ip_t_il 1 2), (2, ip_t_il 2 3), (3, ip_t_call 3 preX0_thinHold postX0_thinHold 6), (6, ip_t_is 3 7), (7, ip_t_ar 0 8), (8, ip_t_gI 0 0 11), (11, ip_t_ifne 16 14), (14, ip_t_il 3 15), (15, ip_t_iret po), (16, ip_t_il 3 17), (17, ip_t_ar 0 18), (18, ip_t_gI 0 2 21), (21, ip_t_imul 22), (22, ip_t_is 4 24), (24, ip_t_ar 0 25), (25, ip_t_gI 0 0 28), (28, ip_t_ci 1 29), (29, ip_t_icne 37 32), (32, ip_t_il 4 34), (34, ip_t_go 47), (37, ip_t_il 4 39), (39, ip_t_ar 0 40), (40, ip_t_gI 0 3 43), (43, ip_t_imul 44), (44, ip_t_ci 10 46), (46, ip_t_idiv 47), (47, ip_t_iret po)]
set_option maxRecDepth 100000 in
set_option maxHeartbeats 4000000 in
theorem tX0_holds {p : Program} {l : Launch} {e : Env} {s : State} {m : MethodId} {args : Array Value} {below : List Frame} {meth : Method} {c : Code} {D : va_G} {cA : Nat → ClassId} {A : Nat → Prop} {ad0 : Nat → Nat} {S0 : ip_S} {po : List ip_V → ip_S → Prop} (hx : p.tables.exec = Jvm.exec) (hb : c.code = cX0_holds) (hml : c.maxLocals = 5) (hown : s.vm.findClass RX0 = some m.cls) (hts : ∀ w ∈ wsX0_holds, w.before args s = true) (hr : meth.sig.returnType = (some .int)) (hlocks : meth.locks = false) (hname : meth.name = yX0_holds.name) (hA : ∀ q, s.heap.size ≤ q → A q) (hNx : ip_Nx s) : ∀ q ∈ pX0_holds po, ip_snd p l e rmX0_holds s m args below meth c D cA A (MQ below (ip_Q ip_Sta D cA ad0 S0 A po) args s 0 0 A) 5 (fun _ => (0, 0)) ip_Sta ad0 S0 q.1 q.2 := by
  have hIs : ∀ S, ip_Sta S → ip_Sta S := fun _ h => h
  have hIn := ip_In_Sta
  have hS9 : CallFix p m c cX0_holds 5 s args wsX0_holds RX0 := ⟨hx, hb, hml, hown, hts⟩
  have hin0 : ∀ w ∈ u_ws RX0 TX0 5, w ∈ wsX0_holds := by decide +kernel
  refine List.forall_mem_cons.mpr ⟨ip_s_aload_n hx hb dX0_holds_0 rfl rfl, ?_⟩
  refine List.forall_mem_cons.mpr ⟨ip_s_iload_n hx hb dX0_holds_1 rfl rfl, ?_⟩
  refine List.forall_mem_cons.mpr ⟨ip_s_iload_n hx hb dX0_holds_2 rfl rfl, ?_⟩
  refine List.forall_mem_cons.mpr ⟨ip_s_callV hNx hS9 (ctX0_thinHold l) (cwV 2 hts gX0_holds_X0_thinHold rfl rfl rfl (by decide +kernel) ⟨Nat.le_of_ble_eq_true rfl, Nat.le_of_ble_eq_true rfl⟩) (ci := 0) rfl rfl (by decide) (fun as S hI h => shX0_thinHold as S hI h) hA dX0_holds_3 ⟨Nat.le_of_ble_eq_true rfl, Nat.le_of_ble_eq_true rfl⟩ rfl, ?_⟩
  refine List.forall_mem_cons.mpr ⟨ip_s_istore_n hx hb dX0_holds_6 rfl (by decide) rfl, ?_⟩
  refine List.forall_mem_cons.mpr ⟨ip_s_aload_n hx hb dX0_holds_7 rfl rfl, ?_⟩
  refine List.forall_mem_cons.mpr ⟨ip_s_gI hx hb hts hin0 hown rfl (by decide) 0 (by decide) (hts (.fieldLink RX0 7 "IcePads$Fluid" "kind" "I") (by decide +kernel)) (fun _ h9 => h9) rfl dX0_holds_8 rfl, ?_⟩
  refine List.forall_mem_cons.mpr ⟨ip_s_ifne (t := 16) hx hb dX0_holds_11 (by decide) rfl rfl, ?_⟩
  refine List.forall_mem_cons.mpr ⟨ip_s_iload_n hx hb dX0_holds_14 rfl rfl, ?_⟩
  refine List.forall_mem_cons.mpr ⟨ip_s_iret hx hb hr hlocks (Nat.le_of_ble_eq_true rfl) (Nat.le_of_ble_eq_true rfl) dX0_holds_15, ?_⟩
  refine List.forall_mem_cons.mpr ⟨ip_s_iload_n hx hb dX0_holds_16 rfl rfl, ?_⟩
  refine List.forall_mem_cons.mpr ⟨ip_s_aload_n hx hb dX0_holds_17 rfl rfl, ?_⟩
  refine List.forall_mem_cons.mpr ⟨ip_s_gI hx hb hts hin0 hown rfl (by decide) 2 (by decide) (hts (.fieldLink RX0 17 "IcePads$Fluid" "times" "I") (by decide +kernel)) (fun _ h9 => h9) rfl dX0_holds_18 rfl, ?_⟩
  refine List.forall_mem_cons.mpr ⟨ip_s_imul hx hb dX0_holds_21 rfl, ?_⟩
  refine List.forall_mem_cons.mpr ⟨ip_s_istore hx hb dX0_holds_22 (by decide) rfl, ?_⟩
  refine List.forall_mem_cons.mpr ⟨ip_s_aload_n hx hb dX0_holds_24 rfl rfl, ?_⟩
  refine List.forall_mem_cons.mpr ⟨ip_s_gI hx hb hts hin0 hown rfl (by decide) 0 (by decide) (hts (.fieldLink RX0 7 "IcePads$Fluid" "kind" "I") (by decide +kernel)) (fun _ h9 => h9) rfl dX0_holds_25 rfl, ?_⟩
  refine List.forall_mem_cons.mpr ⟨ip_s_iconst hx hb dX0_holds_28 rfl rfl, ?_⟩
  refine List.forall_mem_cons.mpr ⟨ip_s_icne (t := 37) hx hb dX0_holds_29 (by decide) rfl rfl, ?_⟩
  refine List.forall_mem_cons.mpr ⟨ip_s_iload hx hb dX0_holds_32 rfl, ?_⟩
  refine List.forall_mem_cons.mpr ⟨ip_s_go (t := 47) hx hb dX0_holds_34 (by decide) (Nat.le_of_ble_eq_true rfl) (Nat.le_of_ble_eq_true rfl), ?_⟩
  refine List.forall_mem_cons.mpr ⟨ip_s_iload hx hb dX0_holds_37 rfl, ?_⟩
  refine List.forall_mem_cons.mpr ⟨ip_s_aload_n hx hb dX0_holds_39 rfl rfl, ?_⟩
  refine List.forall_mem_cons.mpr ⟨ip_s_gI hx hb hts hin0 hown rfl (by decide) 3 (by decide) (hts (.fieldLink RX0 20 "IcePads$Fluid" "parts" "I") (by decide +kernel)) (fun _ h9 => h9) rfl dX0_holds_40 rfl, ?_⟩
  refine List.forall_mem_cons.mpr ⟨ip_s_imul hx hb dX0_holds_43 rfl, ?_⟩
  refine List.forall_mem_cons.mpr ⟨ip_s_bipush hx hb dX0_holds_44 rfl rfl, ?_⟩
  refine List.forall_mem_cons.mpr ⟨ip_s_idiv hx hb dX0_holds_46 rfl, ?_⟩
  refine List.forall_mem_cons.mpr ⟨ip_s_iret hx hb hr hlocks (Nat.le_of_ble_eq_true rfl) (Nat.le_of_ble_eq_true rfl) dX0_holds_47, ?_⟩
  exact fun _ h => absurd h List.not_mem_nil
set_option maxRecDepth 100000 in
set_option maxHeartbeats 4000000 in
theorem vX0_holds (a : Nat) (cold : Int32) (fall : Int32) (S : ip_S) (hS : ip_Sta S) (hp : (S.2.2.2 a).1 = 0 ∧ S.2.1 a 1 = some (a + 4) ∧ S.2.2.2 (a + 4) = (6, 4) ∧ 0 ≤ fall ∧ fall ≤ 3) : ip_run (pX0_holds (postX0_holds [.inr (.inl (some a)), .inl cold, .inl fall] S)) (fun _ => false) (fun _ _ _ _ => False) 50 0 [some (.inr (.inl (some a))), some (.inl cold), some (.inl fall), none, none] [] S := by
  refine And.intro hp ?_
  rintro r S' ⟨rfl, rfl⟩
  have h1 := hp.1
  refine And.intro h1 ?_
  refine And.intro (fun q1 => ?_) (fun q1 => ?_)
  · refine And.intro h1 ?_
    refine And.intro h1 ?_
    refine And.intro (fun q2 => ?_) (fun q2 => ?_)
    · refine And.intro h1 ?_
      refine And.intro (by decide) ?_
      refine And.intro ?_ rfl
      unfold ip_hold
      rw [if_neg q1, if_neg q2]
    · refine And.intro ?_ rfl
      unfold ip_hold
      rw [if_neg q1, if_pos q2]
  · refine And.intro ?_ rfl
    unfold ip_hold
    rw [if_pos q1]
theorem ctX0_holds (l : Launch) : ip_CT l yX0_holds wsX0_holds rmX0_holds ip_Sta preX0_holds postX0_holds := by
  refine ip_of (cc := cX0_holds) (maxL := 5) (ret := (some .int)) (by decide +kernel) rfl (fun _ => (0, 0)) rfl ?_ ?_
  · intro as S h
    obtain ⟨a, cold, fall, rfl, hq⟩ := ip_e_rii h
    exact ⟨Nat.le_of_ble_eq_true rfl, by simp⟩
  intro p e s m args below meth c D cA A ad0 as S h hI hx hb hml hown hts hr hlocks hname hA hNx
  obtain ⟨a, cold, fall, rfl, hq⟩ := ip_e_rii h
  refine ip_run_ok (stop := fun _ => false) (tX0_holds hx hb hml hown hts hr hlocks hname hA hNx) (fun _ _ _ _ h => False.elim h) 50 0 _ _ S ?_
  exact vX0_holds a cold fall S hI hq

def preX0_traceOfBodies : List ip_V → ip_S → Prop := ip_h_r (fun _ => False) (fun a S => (S.2.2.2 a).1 = 0 ∧ True)
def postX0_traceOfBodies : List ip_V → ip_S → List ip_V → ip_S → Prop := ip_h_r (fun _ _ _ => True) (fun a S r S' => r = [.inl (if S.1 a 0 = 0 then 1 else if S.1 a 0 = 1 then 11 else 111)] ∧ S' = S)
theorem shX0_traceOfBodies : ∀ as S, ip_Sta S → preX0_traceOfBodies as S → ∃ (b : Nat) (as' : List ip_V), as = .inr (.inl (some b)) :: as' ∧ as'.length = 0 ∧ (S.2.2.2 b).1 = 0 := by
  intro as S hI h
  obtain ⟨a, rfl, hq⟩ := ip_e_r h
  exact ⟨_, _, rfl, rfl, hq.1⟩
def rmX0_traceOfBodies : Room := { frames := 1, cells := 0, slots := 0, locals := 40 }
def pX0_traceOfBodies (po : List ip_V → ip_S → Prop) : List (Nat × ip_T) := [(0, ip_t_ar 0 1), (1, ip_t_gI 0 0 4), (4, ip_t_ifne 9 7), (7, ip_t_ci 1 8), (8, ip_t_iret po), (9, ip_t_ar 0 10), (10, ip_t_gI 0 0 13), (13, ip_t_ci 1 14), (14, ip_t_icne 22 17), (17, ip_t_ci 11 19), (19, ip_t_go 24), (22, ip_t_ci 111 24), (24, ip_t_iret po)]
set_option maxRecDepth 100000 in
set_option maxHeartbeats 4000000 in
theorem tX0_traceOfBodies {p : Program} {l : Launch} {e : Env} {s : State} {m : MethodId} {args : Array Value} {below : List Frame} {meth : Method} {c : Code} {D : va_G} {cA : Nat → ClassId} {A : Nat → Prop} {ad0 : Nat → Nat} {S0 : ip_S} {po : List ip_V → ip_S → Prop} (hx : p.tables.exec = Jvm.exec) (hb : c.code = cX0_traceOfBodies) (hml : c.maxLocals = 1) (hown : s.vm.findClass RX0 = some m.cls) (hts : ∀ w ∈ wsX0_traceOfBodies, w.before args s = true) (hr : meth.sig.returnType = (some .int)) (hlocks : meth.locks = false) (hname : meth.name = yX0_traceOfBodies.name) (hA : ∀ q, s.heap.size ≤ q → A q) (hNx : ip_Nx s) : ∀ q ∈ pX0_traceOfBodies po, ip_snd p l e rmX0_traceOfBodies s m args below meth c D cA A (MQ below (ip_Q ip_Sta D cA ad0 S0 A po) args s 0 0 A) 1 (fun _ => (0, 0)) ip_Sta ad0 S0 q.1 q.2 := by
  have hIs : ∀ S, ip_Sta S → ip_Sta S := fun _ h => h
  have hIn := ip_In_Sta
  have hS9 : CallFix p m c cX0_traceOfBodies 1 s args wsX0_traceOfBodies RX0 := ⟨hx, hb, hml, hown, hts⟩
  have hin0 : ∀ w ∈ u_ws RX0 TX0 5, w ∈ wsX0_traceOfBodies := by decide +kernel
  refine List.forall_mem_cons.mpr ⟨ip_s_aload_n hx hb dX0_traceOfBodies_0 rfl rfl, ?_⟩
  refine List.forall_mem_cons.mpr ⟨ip_s_gI hx hb hts hin0 hown rfl (by decide) 0 (by decide) (hts (.fieldLink RX0 7 "IcePads$Fluid" "kind" "I") (by decide +kernel)) (fun _ h9 => h9) rfl dX0_traceOfBodies_1 rfl, ?_⟩
  refine List.forall_mem_cons.mpr ⟨ip_s_ifne (t := 9) hx hb dX0_traceOfBodies_4 (by decide) rfl rfl, ?_⟩
  refine List.forall_mem_cons.mpr ⟨ip_s_iconst hx hb dX0_traceOfBodies_7 rfl rfl, ?_⟩
  refine List.forall_mem_cons.mpr ⟨ip_s_iret hx hb hr hlocks (Nat.le_of_ble_eq_true rfl) (Nat.le_of_ble_eq_true rfl) dX0_traceOfBodies_8, ?_⟩
  refine List.forall_mem_cons.mpr ⟨ip_s_aload_n hx hb dX0_traceOfBodies_9 rfl rfl, ?_⟩
  refine List.forall_mem_cons.mpr ⟨ip_s_gI hx hb hts hin0 hown rfl (by decide) 0 (by decide) (hts (.fieldLink RX0 7 "IcePads$Fluid" "kind" "I") (by decide +kernel)) (fun _ h9 => h9) rfl dX0_traceOfBodies_10 rfl, ?_⟩
  refine List.forall_mem_cons.mpr ⟨ip_s_iconst hx hb dX0_traceOfBodies_13 rfl rfl, ?_⟩
  refine List.forall_mem_cons.mpr ⟨ip_s_icne (t := 22) hx hb dX0_traceOfBodies_14 (by decide) rfl rfl, ?_⟩
  refine List.forall_mem_cons.mpr ⟨ip_s_bipush hx hb dX0_traceOfBodies_17 rfl rfl, ?_⟩
  refine List.forall_mem_cons.mpr ⟨ip_s_go (t := 24) hx hb dX0_traceOfBodies_19 (by decide) (Nat.le_of_ble_eq_true rfl) (Nat.le_of_ble_eq_true rfl), ?_⟩
  refine List.forall_mem_cons.mpr ⟨ip_s_bipush hx hb dX0_traceOfBodies_22 rfl rfl, ?_⟩
  refine List.forall_mem_cons.mpr ⟨ip_s_iret hx hb hr hlocks (Nat.le_of_ble_eq_true rfl) (Nat.le_of_ble_eq_true rfl) dX0_traceOfBodies_24, ?_⟩
  exact fun _ h => absurd h List.not_mem_nil
set_option maxRecDepth 100000 in
set_option maxHeartbeats 4000000 in
theorem vX0_traceOfBodies (a : Nat) (S : ip_S) (hS : ip_Sta S) (hp : (S.2.2.2 a).1 = 0 ∧ True) : ip_run (pX0_traceOfBodies (postX0_traceOfBodies [.inr (.inl (some a))] S)) (fun _ => false) (fun _ _ _ _ => False) 30 0 [some (.inr (.inl (some a)))] [] S := by
  have h1 := hp.1
  refine And.intro h1 ?_
  refine And.intro (fun q1 => ?_) (fun q1 => ?_)
  · refine And.intro h1 ?_
    refine And.intro (fun q2 => ?_) (fun q2 => ?_)
    · refine And.intro ?_ rfl
      rw [if_neg q1, if_neg q2]
    · refine And.intro ?_ rfl
      rw [if_neg q1, if_pos q2]
  · refine And.intro ?_ rfl
    rw [if_pos q1]
theorem ctX0_traceOfBodies (l : Launch) : ip_CT l yX0_traceOfBodies wsX0_traceOfBodies rmX0_traceOfBodies ip_Sta preX0_traceOfBodies postX0_traceOfBodies := by
  refine ip_of (cc := cX0_traceOfBodies) (maxL := 1) (ret := (some .int)) (by decide +kernel) rfl (fun _ => (0, 0)) rfl ?_ ?_
  · intro as S h
    obtain ⟨a, rfl, hq⟩ := ip_e_r h
    exact ⟨Nat.le_of_ble_eq_true rfl, by simp⟩
  intro p e s m args below meth c D cA A ad0 as S h hI hx hb hml hown hts hr hlocks hname hA hNx
  obtain ⟨a, rfl, hq⟩ := ip_e_r h
  refine ip_run_ok (stop := fun _ => false) (tX0_traceOfBodies hx hb hml hown hts hr hlocks hname hA hNx) (fun _ _ _ _ h => False.elim h) 30 0 _ _ S ?_
  exact vX0_traceOfBodies a S hI hq

def preX3_isTold : List ip_V → ip_S → Prop := ip_h_ri (fun _ => False) (fun a mi S => a = 1 ∧ True)
def postX3_isTold : List ip_V → ip_S → List ip_V → ip_S → Prop := ip_h_ri (fun _ _ _ => True) (fun a mi S r S' => r = [.inl (if 0 ≤ mi ∧ mi < 300 ∧ ¬ S.1 4 mi.toNatClampNeg = 0 then 1 else 0)] ∧ S' = S)
theorem shX3_isTold : ∀ as S, ip_Sta S → preX3_isTold as S → ∃ (b : Nat) (as' : List ip_V), as = .inr (.inl (some b)) :: as' ∧ as'.length = 1 ∧ (S.2.2.2 b).1 = 3 := by
  intro as S hI h
  obtain ⟨a, mi, rfl, hq⟩ := ip_e_ri h
  exact ⟨_, _, rfl, rfl, by rw [hq.1, hI.1 1 (by decide)]; rfl⟩
def rmX3_isTold : Room := { frames := 1, cells := 0, slots := 0, locals := 40 }
def pX3_isTold (po : List ip_V → ip_S → Prop) : List (Nat × ip_T) := [(0, ip_t_il 1 1), (1, ip_t_iflt 26 4), (4, ip_t_il 1 5), (5, ip_t_ar 0 6), (6, ip_t_gR0 1 4 9), (9, ip_t_len 10), (10, ip_t_icge 26 13), (13, ip_t_ar 0 14), (14, ip_t_gR0 1 4 17), (17, ip_t_il 1 18), (18, ip_t_ld 7 19), (19, ip_t_ifeq 26 22), (22, ip_t_ci 1 23), (23, ip_t_go 27), (26, ip_t_ci 0 27), (27, ip_t_zret po)]
set_option maxRecDepth 100000 in
set_option maxHeartbeats 4000000 in
theorem tX3_isTold {p : Program} {l : Launch} {e : Env} {s : State} {m : MethodId} {args : Array Value} {below : List Frame} {meth : Method} {c : Code} {D : va_G} {cA : Nat → ClassId} {A : Nat → Prop} {ad0 : Nat → Nat} {S0 : ip_S} {po : List ip_V → ip_S → Prop} (hx : p.tables.exec = Jvm.exec) (hb : c.code = cX3_isTold) (hml : c.maxLocals = 2) (hown : s.vm.findClass RX3 = some m.cls) (hts : ∀ w ∈ wsX3_isTold, w.before args s = true) (hr : meth.sig.returnType = (some .boolean)) (hlocks : meth.locks = false) (hname : meth.name = yX3_isTold.name) (hA : ∀ q, s.heap.size ≤ q → A q) (hNx : ip_Nx s) : ∀ q ∈ pX3_isTold po, ip_snd p l e rmX3_isTold s m args below meth c D cA A (MQ below (ip_Q ip_Sta D cA ad0 S0 A po) args s 0 0 A) 2 (fun _ => (0, 0)) ip_Sta ad0 S0 q.1 q.2 := by
  have hIs : ∀ S, ip_Sta S → ip_Sta S := fun _ h => h
  have hIn := ip_In_Sta
  have hS9 : CallFix p m c cX3_isTold 2 s args wsX3_isTold RX3 := ⟨hx, hb, hml, hown, hts⟩
  have hin3 : ∀ w ∈ u_ws RX3 TX3 3, w ∈ wsX3_isTold := by decide +kernel
  refine List.forall_mem_cons.mpr ⟨ip_s_iload_n hx hb dX3_isTold_0 rfl rfl, ?_⟩
  refine List.forall_mem_cons.mpr ⟨ip_s_iflt (t := 26) hx hb dX3_isTold_1 (by decide) rfl rfl, ?_⟩
  refine List.forall_mem_cons.mpr ⟨ip_s_iload_n hx hb dX3_isTold_4 rfl rfl, ?_⟩
  refine List.forall_mem_cons.mpr ⟨ip_s_aload_n hx hb dX3_isTold_5 rfl rfl, ?_⟩
  refine List.forall_mem_cons.mpr ⟨ip_s_gR0 hx hb hts hin3 hown rfl (by decide) 2 (by decide) (hts (.fieldLink RX3 18 "IcePads$Sky" "told" "[Z") (by decide +kernel)) (fun _ h9 => h9) hIs 1 4 rfl (by decide) rfl dX3_isTold_6 rfl, ?_⟩
  refine List.forall_mem_cons.mpr ⟨ip_s_len hx hb hIs dX3_isTold_9 rfl, ?_⟩
  refine List.forall_mem_cons.mpr ⟨ip_s_icge (t := 26) hx hb dX3_isTold_10 (by decide) rfl rfl, ?_⟩
  refine List.forall_mem_cons.mpr ⟨ip_s_aload_n hx hb dX3_isTold_13 rfl rfl, ?_⟩
  refine List.forall_mem_cons.mpr ⟨ip_s_gR0 hx hb hts hin3 hown rfl (by decide) 2 (by decide) (hts (.fieldLink RX3 18 "IcePads$Sky" "told" "[Z") (by decide +kernel)) (fun _ h9 => h9) hIs 1 4 rfl (by decide) rfl dX3_isTold_14 rfl, ?_⟩
  refine List.forall_mem_cons.mpr ⟨ip_s_iload_n hx hb dX3_isTold_17 rfl rfl, ?_⟩
  refine List.forall_mem_cons.mpr ⟨ip_s_ldz hx hb hIs dX3_isTold_18 rfl, ?_⟩
  refine List.forall_mem_cons.mpr ⟨ip_s_ifeq (t := 26) hx hb dX3_isTold_19 (by decide) rfl rfl, ?_⟩
  refine List.forall_mem_cons.mpr ⟨ip_s_iconst hx hb dX3_isTold_22 rfl rfl, ?_⟩
  refine List.forall_mem_cons.mpr ⟨ip_s_go (t := 27) hx hb dX3_isTold_23 (by decide) (Nat.le_of_ble_eq_true rfl) (Nat.le_of_ble_eq_true rfl), ?_⟩
  refine List.forall_mem_cons.mpr ⟨ip_s_iconst hx hb dX3_isTold_26 rfl rfl, ?_⟩
  refine List.forall_mem_cons.mpr ⟨ip_s_zret hx hb hr hlocks (Nat.le_of_ble_eq_true rfl) (Nat.le_of_ble_eq_true rfl) dX3_isTold_27, ?_⟩
  exact fun _ h => absurd h List.not_mem_nil
set_option maxRecDepth 100000 in
set_option maxHeartbeats 4000000 in
theorem vX3_isTold (a : Nat) (mi : Int32) (S : ip_S) (hS : ip_Sta S) (hp : a = 1 ∧ True) : ip_run (pX3_isTold (postX3_isTold [.inr (.inl (some a)), .inl mi] S)) (fun _ => false) (fun _ _ _ _ => False) 40 0 [some (.inr (.inl (some a))), some (.inl mi)] [] S := by
  obtain ⟨rfl, -⟩ := hp
  refine And.intro (fun q1 => ?_) (fun q1 => ?_)
  · refine And.intro (Or.inl rfl) (And.intro ?_ rfl)
    rw [if_neg (fun h => absurd h.1 (Int32.not_le.mpr q1))]
  · refine And.intro (fun q2 => ?_) (fun q2 => ?_)
    · have q2 : (300 : Int32) ≤ mi := q2
      refine And.intro (Or.inl rfl) (And.intro ?_ rfl)
      rw [if_neg (fun h => absurd h.2.1 (Int32.not_lt.mpr q2))]
    · have q2 : ¬ (300 : Int32) ≤ mi := q2
      have q1 := Int32.not_lt.mp q1
      have q2 := Int32.not_le.mp q2
      have hin : vp_in mi 300 := by
        rw [vp_in_iff]
        have h1 := Int32.le_iff_toInt_le.mp q1
        have h2 := Int32.lt_iff_toInt_lt.mp q2
        have h3 : (0 : Int32).toInt = 0 := rfl
        have h4 : (300 : Int32).toInt = 300 := rfl
        omega
      refine And.intro hin ?_
      refine And.intro (fun q3 => ?_) (fun q3 => ?_)
      · refine And.intro (Or.inl rfl) (And.intro ?_ rfl)
        rw [if_neg (fun h => h.2.2 q3)]
      · refine And.intro (Or.inr rfl) (And.intro ?_ rfl)
        rw [if_pos ⟨q1, q2, q3⟩]
theorem ctX3_isTold (l : Launch) : ip_CT l yX3_isTold wsX3_isTold rmX3_isTold ip_Sta preX3_isTold postX3_isTold := by
  refine ip_of (cc := cX3_isTold) (maxL := 2) (ret := (some .boolean)) (by decide +kernel) rfl (fun _ => (0, 0)) rfl ?_ ?_
  · intro as S h
    obtain ⟨a, mi, rfl, hq⟩ := ip_e_ri h
    exact ⟨Nat.le_of_ble_eq_true rfl, by simp⟩
  intro p e s m args below meth c D cA A ad0 as S h hI hx hb hml hown hts hr hlocks hname hA hNx
  obtain ⟨a, mi, rfl, hq⟩ := ip_e_ri h
  refine ip_run_ok (stop := fun _ => false) (tX3_isTold hx hb hml hown hts hr hlocks hname hA hNx) (fun _ _ _ _ h => False.elim h) 40 0 _ _ S ?_
  exact vX3_isTold a mi S hI hq

def preX3_tell : List ip_V → ip_S → Prop := ip_h_riii (fun _ => False) (fun a mi c f S => a = 1 ∧ 0 ≤ mi ∧ mi ≤ 299)
def postX3_tell : List ip_V → ip_S → List ip_V → ip_S → Prop := ip_h_riii (fun _ _ _ => True) (fun a mi c f S r S' => r = [] ∧ S' = ip_sI (ip_sI (ip_sI S 2 mi.toNatClampNeg c) 3 mi.toNatClampNeg f) 4 mi.toNatClampNeg 1)
theorem shX3_tell : ∀ as S, ip_Sta S → preX3_tell as S → ∃ (b : Nat) (as' : List ip_V), as = .inr (.inl (some b)) :: as' ∧ as'.length = 3 ∧ (S.2.2.2 b).1 = 3 := by
  intro as S hI h
  obtain ⟨a, mi, c, f, rfl, hq⟩ := ip_e_riii h
  exact ⟨_, _, rfl, rfl, by rw [hq.1, hI.1 1 (by decide)]; rfl⟩
def rmX3_tell : Room := { frames := 3, cells := 0, slots := 0, locals := 120 }
def pX3_tell (po : List ip_V → ip_S → Prop) : List (Nat × ip_T) := [(0, ip_t_il 1 1), (1, ip_t_call 1 preX4_isMinute postX4_isMinute 4), (4, ip_t_ifne 8 7), (7, ip_t_vret po), (8, ip_t_ar 0 9), (9, ip_t_gR0 1 2 12), (12, ip_t_il 1 13), (13, ip_t_il 2 14), (14, ip_t_st 15), (15, ip_t_ar 0 16), (16, ip_t_gR0 1 3 19), (19, ip_t_il 1 20), (20, ip_t_il 3 21), (21, ip_t_st 22), (22, ip_t_ar 0 23), (23, ip_t_gR0 1 4 26), (26, ip_t_il 1 27), (27, ip_t_ci 1 28), (28, ip_t_stz 29), (29, ip_t_vret po)]
set_option maxRecDepth 100000 in
set_option maxHeartbeats 4000000 in
theorem tX3_tell {p : Program} {l : Launch} {e : Env} {s : State} {m : MethodId} {args : Array Value} {below : List Frame} {meth : Method} {c : Code} {D : va_G} {cA : Nat → ClassId} {A : Nat → Prop} {ad0 : Nat → Nat} {S0 : ip_S} {po : List ip_V → ip_S → Prop} (hx : p.tables.exec = Jvm.exec) (hb : c.code = cX3_tell) (hml : c.maxLocals = 4) (hown : s.vm.findClass RX3 = some m.cls) (hts : ∀ w ∈ wsX3_tell, w.before args s = true) (hr : meth.sig.returnType = none) (hlocks : meth.locks = false) (hname : meth.name = yX3_tell.name) (hA : ∀ q, s.heap.size ≤ q → A q) (hNx : ip_Nx s) : ∀ q ∈ pX3_tell po, ip_snd p l e rmX3_tell s m args below meth c D cA A (MQ below (ip_Q ip_Sta D cA ad0 S0 A po) args s 0 0 A) 4 (fun _ => (0, 0)) ip_Sta ad0 S0 q.1 q.2 := by
  have hIs : ∀ S, ip_Sta S → ip_Sta S := fun _ h => h
  have hIn := ip_In_Sta
  have hS9 : CallFix p m c cX3_tell 4 s args wsX3_tell RX3 := ⟨hx, hb, hml, hown, hts⟩
  have hin3 : ∀ w ∈ u_ws RX3 TX3 3, w ∈ wsX3_tell := by decide +kernel
  refine List.forall_mem_cons.mpr ⟨ip_s_iload_n hx hb dX3_tell_0 rfl rfl, ?_⟩
  refine List.forall_mem_cons.mpr ⟨ip_s_callSN hNx hS9 (ctX4_isMinute l) ⟨va_cnB 1 hts gX3_tell_X4_isMinute_n22 rfl rfl rfl hNx.2.2.2.1 (hts (.initialized RX4) (by decide +kernel)) (by decide +kernel) ⟨Nat.le_of_ble_eq_true rfl, Nat.le_of_ble_eq_true rfl⟩, hts (.static yX4_isMinute) (by decide +kernel), trivial⟩ (fun as S hI h => shsX4_isMinute as S hI h) hA dX3_tell_1 ⟨Nat.le_of_ble_eq_true rfl, Nat.le_of_ble_eq_true rfl⟩ rfl, ?_⟩
  refine List.forall_mem_cons.mpr ⟨ip_s_ifne (t := 8) hx hb dX3_tell_4 (by decide) rfl rfl, ?_⟩
  refine List.forall_mem_cons.mpr ⟨ip_s_vret hx hb hr hlocks (Nat.le_of_ble_eq_true rfl) (Nat.le_of_ble_eq_true rfl) dX3_tell_7, ?_⟩
  refine List.forall_mem_cons.mpr ⟨ip_s_aload_n hx hb dX3_tell_8 rfl rfl, ?_⟩
  refine List.forall_mem_cons.mpr ⟨ip_s_gR0 hx hb hts hin3 hown rfl (by decide) 0 (by decide) (hts (.fieldLink RX3 9 "IcePads$Sky" "cold" "[I") (by decide +kernel)) (fun _ h9 => h9) hIs 1 2 rfl (by decide) rfl dX3_tell_9 rfl, ?_⟩
  refine List.forall_mem_cons.mpr ⟨ip_s_iload_n hx hb dX3_tell_12 rfl rfl, ?_⟩
  refine List.forall_mem_cons.mpr ⟨ip_s_iload_n hx hb dX3_tell_13 rfl rfl, ?_⟩
  refine List.forall_mem_cons.mpr ⟨ip_s_sti hx hb hIn hIs dX3_tell_14 rfl, ?_⟩
  refine List.forall_mem_cons.mpr ⟨ip_s_aload_n hx hb dX3_tell_15 rfl rfl, ?_⟩
  refine List.forall_mem_cons.mpr ⟨ip_s_gR0 hx hb hts hin3 hown rfl (by decide) 1 (by decide) (hts (.fieldLink RX3 15 "IcePads$Sky" "fall" "[I") (by decide +kernel)) (fun _ h9 => h9) hIs 1 3 rfl (by decide) rfl dX3_tell_16 rfl, ?_⟩
  refine List.forall_mem_cons.mpr ⟨ip_s_iload_n hx hb dX3_tell_19 rfl rfl, ?_⟩
  refine List.forall_mem_cons.mpr ⟨ip_s_iload_n hx hb dX3_tell_20 rfl rfl, ?_⟩
  refine List.forall_mem_cons.mpr ⟨ip_s_sti hx hb hIn hIs dX3_tell_21 rfl, ?_⟩
  refine List.forall_mem_cons.mpr ⟨ip_s_aload_n hx hb dX3_tell_22 rfl rfl, ?_⟩
  refine List.forall_mem_cons.mpr ⟨ip_s_gR0 hx hb hts hin3 hown rfl (by decide) 2 (by decide) (hts (.fieldLink RX3 18 "IcePads$Sky" "told" "[Z") (by decide +kernel)) (fun _ h9 => h9) hIs 1 4 rfl (by decide) rfl dX3_tell_23 rfl, ?_⟩
  refine List.forall_mem_cons.mpr ⟨ip_s_iload_n hx hb dX3_tell_26 rfl rfl, ?_⟩
  refine List.forall_mem_cons.mpr ⟨ip_s_iconst hx hb dX3_tell_27 rfl rfl, ?_⟩
  refine List.forall_mem_cons.mpr ⟨ip_s_stz hx hb hIn hIs dX3_tell_28 rfl, ?_⟩
  refine List.forall_mem_cons.mpr ⟨ip_s_vret hx hb hr hlocks (Nat.le_of_ble_eq_true rfl) (Nat.le_of_ble_eq_true rfl) dX3_tell_29, ?_⟩
  exact fun _ h => absurd h List.not_mem_nil
set_option maxRecDepth 100000 in
set_option maxHeartbeats 4000000 in
theorem vX3_tell (a : Nat) (mi : Int32) (c : Int32) (f : Int32) (S : ip_S) (hS : ip_Sta S) (hp : a = 1 ∧ 0 ≤ mi ∧ mi ≤ 299) : ip_run (pX3_tell (postX3_tell [.inr (.inl (some a)), .inl mi, .inl c, .inl f] S)) (fun _ => false) (fun _ _ _ _ => False) 40 0 [some (.inr (.inl (some a))), some (.inl mi), some (.inl c), some (.inl f)] [] S := by
  obtain ⟨rfl, hm⟩ := hp
  have hin : vp_in mi 300 := ip_in hm rfl
  refine And.intro trivial ?_
  rintro r S' ⟨rfl, rfl⟩
  refine And.intro (fun _ => ?_) (fun q => absurd (if_pos hm) (fun z => absurd (z.symm.trans q) (by decide)))
  refine And.intro hin ?_
  refine And.intro hin ?_
  refine And.intro hin ?_
  exact And.intro rfl rfl
theorem ctX3_tell (l : Launch) : ip_CT l yX3_tell wsX3_tell rmX3_tell ip_Sta preX3_tell postX3_tell := by
  refine ip_of (cc := cX3_tell) (maxL := 4) (ret := none) (by decide +kernel) rfl (fun _ => (0, 0)) rfl ?_ ?_
  · intro as S h
    obtain ⟨a, mi, c, f, rfl, hq⟩ := ip_e_riii h
    exact ⟨Nat.le_of_ble_eq_true rfl, by simp⟩
  intro p e s m args below meth c D cA A ad0 as S h hI hx hb hml hown hts hr hlocks hname hA hNx
  obtain ⟨a, mi, c, f, rfl, hq⟩ := ip_e_riii h
  refine ip_run_ok (stop := fun _ => false) (tX3_tell hx hb hml hown hts hr hlocks hname hA hNx) (fun _ _ _ _ h => False.elim h) 40 0 _ _ S ?_
  exact vX3_tell a mi c f S hI hq

def preX3_lose : List ip_V → ip_S → Prop := ip_h_ri (fun _ => False) (fun a mi S => a = 1 ∧ 0 ≤ mi ∧ mi ≤ 299)
def postX3_lose : List ip_V → ip_S → List ip_V → ip_S → Prop := ip_h_ri (fun _ _ _ => True) (fun a mi S r S' => r = [] ∧ S' = ip_sI S 4 mi.toNatClampNeg 0)
theorem shX3_lose : ∀ as S, ip_Sta S → preX3_lose as S → ∃ (b : Nat) (as' : List ip_V), as = .inr (.inl (some b)) :: as' ∧ as'.length = 1 ∧ (S.2.2.2 b).1 = 3 := by
  intro as S hI h
  obtain ⟨a, mi, rfl, hq⟩ := ip_e_ri h
  exact ⟨_, _, rfl, rfl, by rw [hq.1, hI.1 1 (by decide)]; rfl⟩
def rmX3_lose : Room := { frames := 3, cells := 0, slots := 0, locals := 120 }
def pX3_lose (po : List ip_V → ip_S → Prop) : List (Nat × ip_T) := [(0, ip_t_il 1 1), (1, ip_t_call 1 preX4_isMinute postX4_isMinute 4), (4, ip_t_ifeq 14 7), (7, ip_t_ar 0 8), (8, ip_t_gR0 1 4 11), (11, ip_t_il 1 12), (12, ip_t_ci 0 13), (13, ip_t_stz 14), (14, ip_t_vret po)]
set_option maxRecDepth 100000 in
set_option maxHeartbeats 4000000 in
theorem tX3_lose {p : Program} {l : Launch} {e : Env} {s : State} {m : MethodId} {args : Array Value} {below : List Frame} {meth : Method} {c : Code} {D : va_G} {cA : Nat → ClassId} {A : Nat → Prop} {ad0 : Nat → Nat} {S0 : ip_S} {po : List ip_V → ip_S → Prop} (hx : p.tables.exec = Jvm.exec) (hb : c.code = cX3_lose) (hml : c.maxLocals = 2) (hown : s.vm.findClass RX3 = some m.cls) (hts : ∀ w ∈ wsX3_lose, w.before args s = true) (hr : meth.sig.returnType = none) (hlocks : meth.locks = false) (hname : meth.name = yX3_lose.name) (hA : ∀ q, s.heap.size ≤ q → A q) (hNx : ip_Nx s) : ∀ q ∈ pX3_lose po, ip_snd p l e rmX3_lose s m args below meth c D cA A (MQ below (ip_Q ip_Sta D cA ad0 S0 A po) args s 0 0 A) 2 (fun _ => (0, 0)) ip_Sta ad0 S0 q.1 q.2 := by
  have hIs : ∀ S, ip_Sta S → ip_Sta S := fun _ h => h
  have hIn := ip_In_Sta
  have hS9 : CallFix p m c cX3_lose 2 s args wsX3_lose RX3 := ⟨hx, hb, hml, hown, hts⟩
  have hin3 : ∀ w ∈ u_ws RX3 TX3 3, w ∈ wsX3_lose := by decide +kernel
  refine List.forall_mem_cons.mpr ⟨ip_s_iload_n hx hb dX3_lose_0 rfl rfl, ?_⟩
  refine List.forall_mem_cons.mpr ⟨ip_s_callSN hNx hS9 (ctX4_isMinute l) ⟨va_cnB 1 hts gX3_lose_X4_isMinute_n22 rfl rfl rfl hNx.2.2.2.1 (hts (.initialized RX4) (by decide +kernel)) (by decide +kernel) ⟨Nat.le_of_ble_eq_true rfl, Nat.le_of_ble_eq_true rfl⟩, hts (.static yX4_isMinute) (by decide +kernel), trivial⟩ (fun as S hI h => shsX4_isMinute as S hI h) hA dX3_lose_1 ⟨Nat.le_of_ble_eq_true rfl, Nat.le_of_ble_eq_true rfl⟩ rfl, ?_⟩
  refine List.forall_mem_cons.mpr ⟨ip_s_ifeq (t := 14) hx hb dX3_lose_4 (by decide) rfl rfl, ?_⟩
  refine List.forall_mem_cons.mpr ⟨ip_s_aload_n hx hb dX3_lose_7 rfl rfl, ?_⟩
  refine List.forall_mem_cons.mpr ⟨ip_s_gR0 hx hb hts hin3 hown rfl (by decide) 2 (by decide) (hts (.fieldLink RX3 18 "IcePads$Sky" "told" "[Z") (by decide +kernel)) (fun _ h9 => h9) hIs 1 4 rfl (by decide) rfl dX3_lose_8 rfl, ?_⟩
  refine List.forall_mem_cons.mpr ⟨ip_s_iload_n hx hb dX3_lose_11 rfl rfl, ?_⟩
  refine List.forall_mem_cons.mpr ⟨ip_s_iconst hx hb dX3_lose_12 rfl rfl, ?_⟩
  refine List.forall_mem_cons.mpr ⟨ip_s_stz hx hb hIn hIs dX3_lose_13 rfl, ?_⟩
  refine List.forall_mem_cons.mpr ⟨ip_s_vret hx hb hr hlocks (Nat.le_of_ble_eq_true rfl) (Nat.le_of_ble_eq_true rfl) dX3_lose_14, ?_⟩
  exact fun _ h => absurd h List.not_mem_nil
set_option maxRecDepth 100000 in
set_option maxHeartbeats 4000000 in
theorem vX3_lose (a : Nat) (mi : Int32) (S : ip_S) (hS : ip_Sta S) (hp : a = 1 ∧ 0 ≤ mi ∧ mi ≤ 299) : ip_run (pX3_lose (postX3_lose [.inr (.inl (some a)), .inl mi] S)) (fun _ => false) (fun _ _ _ _ => False) 40 0 [some (.inr (.inl (some a))), some (.inl mi)] [] S := by
  obtain ⟨rfl, hm⟩ := hp
  have hin : vp_in mi 300 := ip_in hm rfl
  refine And.intro trivial ?_
  rintro r S' ⟨rfl, rfl⟩
  refine And.intro (fun q => absurd (if_pos hm) (fun z => absurd (z.symm.trans q) (by decide))) (fun _ => ?_)
  refine And.intro hin ?_
  exact And.intro rfl rfl
theorem ctX3_lose (l : Launch) : ip_CT l yX3_lose wsX3_lose rmX3_lose ip_Sta preX3_lose postX3_lose := by
  refine ip_of (cc := cX3_lose) (maxL := 2) (ret := none) (by decide +kernel) rfl (fun _ => (0, 0)) rfl ?_ ?_
  · intro as S h
    obtain ⟨a, mi, rfl, hq⟩ := ip_e_ri h
    exact ⟨Nat.le_of_ble_eq_true rfl, by simp⟩
  intro p e s m args below meth c D cA A ad0 as S h hI hx hb hml hown hts hr hlocks hname hA hNx
  obtain ⟨a, mi, rfl, hq⟩ := ip_e_ri h
  refine ip_run_ok (stop := fun _ => false) (tX3_lose hx hb hml hown hts hr hlocks hname hA hNx) (fun _ _ _ _ h => False.elim h) 40 0 _ _ S ?_
  exact vX3_lose a mi S hI hq

def preX3_coldIn : List ip_V → ip_S → Prop := ip_h_ri (fun _ => False) (fun a mi S => a = 1 ∧ 0 ≤ mi ∧ mi ≤ 299)
def postX3_coldIn : List ip_V → ip_S → List ip_V → ip_S → Prop := ip_h_ri (fun _ _ _ => True) (fun a mi S r S' => r = [.inl (ip_cold (S.1 4) (S.1 2) mi.toNatClampNeg)] ∧ S' = S)
theorem shX3_coldIn : ∀ as S, ip_Sta S → preX3_coldIn as S → ∃ (b : Nat) (as' : List ip_V), as = .inr (.inl (some b)) :: as' ∧ as'.length = 1 ∧ (S.2.2.2 b).1 = 3 := by
  intro as S hI h
  obtain ⟨a, mi, rfl, hq⟩ := ip_e_ri h
  exact ⟨_, _, rfl, rfl, by rw [hq.1, hI.1 1 (by decide)]; rfl⟩
def rmX3_coldIn : Room := { frames := 2, cells := 0, slots := 0, locals := 80 }
def pX3_coldIn (po : List ip_V → ip_S → Prop) : List (Nat × ip_T) := [(0, ip_t_ar 0 1), (1, ip_t_il 1 2), (2, ip_t_call 2 preX3_isTold postX3_isTold 5), (5, ip_t_ifeq 15 8), (8, ip_t_ar 0 9), (9, ip_t_gR0 1 2 12), (12, ip_t_il 1 13), (13, ip_t_ld 6 14), (14, ip_t_iret po), (15, ip_t_ci 0 16), (16, ip_t_is 2 17), (17, ip_t_ci 0 18), (18, ip_t_is 3 19), (19, ip_t_ci 1 20), (20, ip_t_is 4 22), (22, ip_t_il 4 24), (24, ip_t_ci 30 26), (26, ip_t_icgt 81 29), (29, ip_t_il 1 30), (30, ip_t_il 4 32), (32, ip_t_isub 33), (33, ip_t_is 5 35), (35, ip_t_ar 0 36), (36, ip_t_il 5 38), (38, ip_t_call 2 preX3_isTold postX3_isTold 41), (41, ip_t_ifne 47 44), (44, ip_t_go 75), (47, ip_t_il 2 48), (48, ip_t_ifeq 65 51), (51, ip_t_il 3 52), (52, ip_t_ar 0 53), (53, ip_t_gR0 1 2 56), (56, ip_t_il 5 58), (58, ip_t_ld 6 59), (59, ip_t_min 62), (62, ip_t_go 72), (65, ip_t_ar 0 66), (66, ip_t_gR0 1 2 69), (69, ip_t_il 5 71), (71, ip_t_ld 6 72), (72, ip_t_is 3 73), (73, ip_t_ci 1 74), (74, ip_t_is 2 75), (75, ip_t_inc 4 1 78), (78, ip_t_go 22), (81, ip_t_il 3 82), (82, ip_t_iret po)]
set_option maxRecDepth 100000 in
set_option maxHeartbeats 4000000 in
theorem tX3_coldIn {p : Program} {l : Launch} {e : Env} {s : State} {m : MethodId} {args : Array Value} {below : List Frame} {meth : Method} {c : Code} {D : va_G} {cA : Nat → ClassId} {A : Nat → Prop} {ad0 : Nat → Nat} {S0 : ip_S} {po : List ip_V → ip_S → Prop} (hx : p.tables.exec = Jvm.exec) (hb : c.code = cX3_coldIn) (hml : c.maxLocals = 6) (hown : s.vm.findClass RX3 = some m.cls) (hts : ∀ w ∈ wsX3_coldIn, w.before args s = true) (hr : meth.sig.returnType = (some .int)) (hlocks : meth.locks = false) (hname : meth.name = yX3_coldIn.name) (hA : ∀ q, s.heap.size ≤ q → A q) (hNx : ip_Nx s) : ∀ q ∈ pX3_coldIn po, ip_snd p l e rmX3_coldIn s m args below meth c D cA A (MQ below (ip_Q ip_Sta D cA ad0 S0 A po) args s 0 0 A) 6 (fun _ => (0, 0)) ip_Sta ad0 S0 q.1 q.2 := by
  have hIs : ∀ S, ip_Sta S → ip_Sta S := fun _ h => h
  have hIn := ip_In_Sta
  have hS9 : CallFix p m c cX3_coldIn 6 s args wsX3_coldIn RX3 := ⟨hx, hb, hml, hown, hts⟩
  have hin3 : ∀ w ∈ u_ws RX3 TX3 3, w ∈ wsX3_coldIn := by decide +kernel
  refine List.forall_mem_cons.mpr ⟨ip_s_aload_n hx hb dX3_coldIn_0 rfl rfl, ?_⟩
  refine List.forall_mem_cons.mpr ⟨ip_s_iload_n hx hb dX3_coldIn_1 rfl rfl, ?_⟩
  refine List.forall_mem_cons.mpr ⟨ip_s_callV hNx hS9 (ctX3_isTold l) (cwV 1 hts gX3_coldIn_X3_isTold rfl rfl rfl (by decide +kernel) ⟨Nat.le_of_ble_eq_true rfl, Nat.le_of_ble_eq_true rfl⟩) (ci := 3) rfl rfl (by decide) (fun as S hI h => shX3_isTold as S hI h) hA dX3_coldIn_2 ⟨Nat.le_of_ble_eq_true rfl, Nat.le_of_ble_eq_true rfl⟩ rfl, ?_⟩
  refine List.forall_mem_cons.mpr ⟨ip_s_ifeq (t := 15) hx hb dX3_coldIn_5 (by decide) rfl rfl, ?_⟩
  refine List.forall_mem_cons.mpr ⟨ip_s_aload_n hx hb dX3_coldIn_8 rfl rfl, ?_⟩
  refine List.forall_mem_cons.mpr ⟨ip_s_gR0 hx hb hts hin3 hown rfl (by decide) 0 (by decide) (hts (.fieldLink RX3 9 "IcePads$Sky" "cold" "[I") (by decide +kernel)) (fun _ h9 => h9) hIs 1 2 rfl (by decide) rfl dX3_coldIn_9 rfl, ?_⟩
  refine List.forall_mem_cons.mpr ⟨ip_s_iload_n hx hb dX3_coldIn_12 rfl rfl, ?_⟩
  refine List.forall_mem_cons.mpr ⟨ip_s_ldi hx hb hIs dX3_coldIn_13 rfl, ?_⟩
  refine List.forall_mem_cons.mpr ⟨ip_s_iret hx hb hr hlocks (Nat.le_of_ble_eq_true rfl) (Nat.le_of_ble_eq_true rfl) dX3_coldIn_14, ?_⟩
  refine List.forall_mem_cons.mpr ⟨ip_s_iconst hx hb dX3_coldIn_15 rfl rfl, ?_⟩
  refine List.forall_mem_cons.mpr ⟨ip_s_istore_n hx hb dX3_coldIn_16 rfl (by decide) rfl, ?_⟩
  refine List.forall_mem_cons.mpr ⟨ip_s_iconst hx hb dX3_coldIn_17 rfl rfl, ?_⟩
  refine List.forall_mem_cons.mpr ⟨ip_s_istore_n hx hb dX3_coldIn_18 rfl (by decide) rfl, ?_⟩
  refine List.forall_mem_cons.mpr ⟨ip_s_iconst hx hb dX3_coldIn_19 rfl rfl, ?_⟩
  refine List.forall_mem_cons.mpr ⟨ip_s_istore hx hb dX3_coldIn_20 (by decide) rfl, ?_⟩
  refine List.forall_mem_cons.mpr ⟨ip_s_iload hx hb dX3_coldIn_22 rfl, ?_⟩
  refine List.forall_mem_cons.mpr ⟨ip_s_bipush hx hb dX3_coldIn_24 rfl rfl, ?_⟩
  refine List.forall_mem_cons.mpr ⟨ip_s_icgt (t := 81) hx hb dX3_coldIn_26 (by decide) rfl rfl, ?_⟩
  refine List.forall_mem_cons.mpr ⟨ip_s_iload_n hx hb dX3_coldIn_29 rfl rfl, ?_⟩
  refine List.forall_mem_cons.mpr ⟨ip_s_iload hx hb dX3_coldIn_30 rfl, ?_⟩
  refine List.forall_mem_cons.mpr ⟨ip_s_isub hx hb dX3_coldIn_32 rfl, ?_⟩
  refine List.forall_mem_cons.mpr ⟨ip_s_istore hx hb dX3_coldIn_33 (by decide) rfl, ?_⟩
  refine List.forall_mem_cons.mpr ⟨ip_s_aload_n hx hb dX3_coldIn_35 rfl rfl, ?_⟩
  refine List.forall_mem_cons.mpr ⟨ip_s_iload hx hb dX3_coldIn_36 rfl, ?_⟩
  refine List.forall_mem_cons.mpr ⟨ip_s_callV hNx hS9 (ctX3_isTold l) (cwV 1 hts gX3_coldIn_X3_isTold rfl rfl rfl (by decide +kernel) ⟨Nat.le_of_ble_eq_true rfl, Nat.le_of_ble_eq_true rfl⟩) (ci := 3) rfl rfl (by decide) (fun as S hI h => shX3_isTold as S hI h) hA dX3_coldIn_38 ⟨Nat.le_of_ble_eq_true rfl, Nat.le_of_ble_eq_true rfl⟩ rfl, ?_⟩
  refine List.forall_mem_cons.mpr ⟨ip_s_ifne (t := 47) hx hb dX3_coldIn_41 (by decide) rfl rfl, ?_⟩
  refine List.forall_mem_cons.mpr ⟨ip_s_go (t := 75) hx hb dX3_coldIn_44 (by decide) (Nat.le_of_ble_eq_true rfl) (Nat.le_of_ble_eq_true rfl), ?_⟩
  refine List.forall_mem_cons.mpr ⟨ip_s_iload_n hx hb dX3_coldIn_47 rfl rfl, ?_⟩
  refine List.forall_mem_cons.mpr ⟨ip_s_ifeq (t := 65) hx hb dX3_coldIn_48 (by decide) rfl rfl, ?_⟩
  refine List.forall_mem_cons.mpr ⟨ip_s_iload_n hx hb dX3_coldIn_51 rfl rfl, ?_⟩
  refine List.forall_mem_cons.mpr ⟨ip_s_aload_n hx hb dX3_coldIn_52 rfl rfl, ?_⟩
  refine List.forall_mem_cons.mpr ⟨ip_s_gR0 hx hb hts hin3 hown rfl (by decide) 0 (by decide) (hts (.fieldLink RX3 9 "IcePads$Sky" "cold" "[I") (by decide +kernel)) (fun _ h9 => h9) hIs 1 2 rfl (by decide) rfl dX3_coldIn_53 rfl, ?_⟩
  refine List.forall_mem_cons.mpr ⟨ip_s_iload hx hb dX3_coldIn_56 rfl, ?_⟩
  refine List.forall_mem_cons.mpr ⟨ip_s_ldi hx hb hIs dX3_coldIn_58 rfl, ?_⟩
  refine List.forall_mem_cons.mpr ⟨ip_s_min hx hb hml hown (hts (.methodLink RX3 29 Lib.Math.min.name) (by decide +kernel)) (hts (.static Lib.Math.min.name) (by decide +kernel)) (hts (.initialized "java/lang/Math") (by decide +kernel)) (hts (.code Lib.Math.min.name Lib.Math.min.code 2 (some .int)) (by decide +kernel)) ⟨Nat.le_of_ble_eq_true rfl, Nat.le_of_ble_eq_true rfl⟩ ⟨Nat.zero_le _, Nat.zero_le _⟩ dX3_coldIn_59 rfl, ?_⟩
  refine List.forall_mem_cons.mpr ⟨ip_s_go (t := 72) hx hb dX3_coldIn_62 (by decide) (Nat.le_of_ble_eq_true rfl) (Nat.le_of_ble_eq_true rfl), ?_⟩
  refine List.forall_mem_cons.mpr ⟨ip_s_aload_n hx hb dX3_coldIn_65 rfl rfl, ?_⟩
  refine List.forall_mem_cons.mpr ⟨ip_s_gR0 hx hb hts hin3 hown rfl (by decide) 0 (by decide) (hts (.fieldLink RX3 9 "IcePads$Sky" "cold" "[I") (by decide +kernel)) (fun _ h9 => h9) hIs 1 2 rfl (by decide) rfl dX3_coldIn_66 rfl, ?_⟩
  refine List.forall_mem_cons.mpr ⟨ip_s_iload hx hb dX3_coldIn_69 rfl, ?_⟩
  refine List.forall_mem_cons.mpr ⟨ip_s_ldi hx hb hIs dX3_coldIn_71 rfl, ?_⟩
  refine List.forall_mem_cons.mpr ⟨ip_s_istore_n hx hb dX3_coldIn_72 rfl (by decide) rfl, ?_⟩
  refine List.forall_mem_cons.mpr ⟨ip_s_iconst hx hb dX3_coldIn_73 rfl rfl, ?_⟩
  refine List.forall_mem_cons.mpr ⟨ip_s_istore_n hx hb dX3_coldIn_74 rfl (by decide) rfl, ?_⟩
  refine List.forall_mem_cons.mpr ⟨ip_s_iinc hx hb dX3_coldIn_75 rfl (by decide) rfl, ?_⟩
  refine List.forall_mem_cons.mpr ⟨ip_s_go (t := 22) hx hb dX3_coldIn_78 (by decide) (Nat.le_of_ble_eq_true rfl) (Nat.le_of_ble_eq_true rfl), ?_⟩
  refine List.forall_mem_cons.mpr ⟨ip_s_iload_n hx hb dX3_coldIn_81 rfl rfl, ?_⟩
  refine List.forall_mem_cons.mpr ⟨ip_s_iret hx hb hr hlocks (Nat.le_of_ble_eq_true rfl) (Nat.le_of_ble_eq_true rfl) dX3_coldIn_82, ?_⟩
  exact fun _ h => absurd h List.not_mem_nil
abbrev iX3_coldIn (a : Nat) (mi : Int32) (S : ip_S) : Nat → ip_N := fun k pc loc st S1 => ∃ (b : Nat) (x5 : Option ip_V) (any least x4 : Int32), x4 = nI (b + 1) ∧ b ≤ 30 ∧ k + b = 30 ∧ pc = 22 ∧ st = [] ∧ S1 = S ∧ loc = [some (.inr (.inl (some a))), some (.inl mi), some (.inl any), some (.inl least), some (.inl x4), x5] ∧ S.1 4 mi.toNatClampNeg = 0 ∧ (match ip_cL (S.1 4) (S.1 2) mi.toNatClampNeg b with
    | none => any = 0 ∧ least = 0
    | some v => any = 1 ∧ least = v)
set_option maxRecDepth 100000 in
set_option maxHeartbeats 4000000 in
theorem lpX3_coldIn (a : Nat) (mi : Int32) (S : ip_S) (hS : ip_Sta S) (hp : a = 1 ∧ 0 ≤ mi ∧ mi ≤ 299) : ∀ k pc loc st S1, iX3_coldIn a mi S k pc loc st S1 → ip_run (pX3_coldIn (postX3_coldIn [.inr (.inl (some a)), .inl mi] S)) (fun pc => Nat.beq pc 22) (fun pc loc st S2 => ∃ k', k' < k ∧ iX3_coldIn a mi S k' pc loc st S2) 60 pc loc st S1 := by
  obtain ⟨rfl, hm⟩ := hp
  obtain ⟨n, hn, rfl⟩ := ip_mi hm
  have hcn : (nI n).toNatClampNeg = n := nI_clamp (by omega)
  rintro k pc loc st S1 ⟨b, x5, any, least, x4, rfl, hb, hk, rfl, rfl, rfl, rfl, ht, hv⟩
  refine And.intro (fun q => ?_) (fun q => ?_)
  · have q : nI 30 < nI (b + 1) := q
    rw [nI_ltI (by omega) (by omega)] at q
    have hb30 : b = 30 := by omega
    subst hb30
    refine And.intro ?_ rfl
    unfold ip_cold
    rw [if_pos ht]
    generalize ip_cL (S1.1 4) (S1.1 2) (nI n).toNatClampNeg 30 = o at hv
    cases o with
    | none => rw [hv.2]; rfl
    | some v => rw [hv.2]; rfl
  · have q : ¬ nI 30 < nI (b + 1) := q
    rw [nI_ltI (by omega) (by omega)] at q
    have hstep : ip_cL (S1.1 4) (S1.1 2) (nI n).toNatClampNeg (b + 1) = if b + 1 ≤ n ∧ ¬ S1.1 4 (n - (b + 1)) = 0 then (match ip_cL (S1.1 4) (S1.1 2) (nI n).toNatClampNeg b with
      | none => some (S1.1 2 (n - (b + 1)))
      | some v => some (if S1.1 2 (n - (b + 1)) < v then S1.1 2 (n - (b + 1)) else v)) else ip_cL (S1.1 4) (S1.1 2) (nI n).toNatClampNeg b := by
      rw [hcn]; rfl
    refine And.intro ⟨rfl, trivial⟩ ?_
    rintro r S' ⟨rfl, rfl⟩
    by_cases hle : b + 1 ≤ n
    · have he : nI n - nI (b + 1) = nI (n - (b + 1)) := pk_sub hle
      have hcl : (nI (n - (b + 1))).toNatClampNeg = n - (b + 1) := nI_clamp (by omega)
      have hrg : 0 ≤ nI (n - (b + 1)) ∧ nI (n - (b + 1)) ≤ 299 := ip_mi' (by omega)
      have hin : vp_in (nI n - nI (b + 1)) 300 := by rw [he]; exact ip_in hrg rfl
      refine And.intro (fun q2 => ?_) (fun q2 => ?_)
      · have q2 := ip_if1 q2
        rw [he, hcl] at q2
        rw [if_pos ⟨hle, q2.2.2⟩] at hstep
        refine And.intro (fun q3 => ?_) (fun q3 => ?_)
        · refine And.intro hin ?_
          refine Exists.intro (k - 1) (And.intro (by omega) ⟨b + 1, _, _, _, _, nI_1 _, by omega, by omega, rfl, rfl, rfl, rfl, ht, ?_⟩)
          rw [hstep, he, hcl]
          generalize ip_cL (S'.1 4) (S'.1 2) (nI n).toNatClampNeg b = o at hv
          cases o with
          | none => exact ⟨rfl, rfl⟩
          | some v => exact absurd (hv.1.symm.trans q3) (by decide)
        · refine And.intro hin ?_
          refine Exists.intro (k - 1) (And.intro (by omega) ⟨b + 1, _, _, _, _, nI_1 _, by omega, by omega, rfl, rfl, rfl, rfl, ht, ?_⟩)
          rw [hstep, he, hcl]
          generalize ip_cL (S'.1 4) (S'.1 2) (nI n).toNatClampNeg b = o at hv
          cases o with
          | none => exact absurd hv.1 q3
          | some v => rw [hv.2]; exact ⟨rfl, rfl⟩
      · have q2 := ip_if0 q2
        rw [he, hcl] at q2
        rw [if_neg (fun z => q2 ⟨hrg.1, Int32.lt_of_le_of_lt hrg.2 (by decide), z.2⟩)] at hstep
        refine Exists.intro (k - 1) (And.intro (by omega) ⟨b + 1, _, _, _, _, nI_1 _, by omega, by omega, rfl, rfl, rfl, rfl, ht, ?_⟩)
        rw [hstep]
        exact hv
    · have hneg : nI n - nI (b + 1) < 0 := pk_sneg (by omega) (by omega)
      rw [if_neg (fun z => hle z.1)] at hstep
      refine And.intro (fun q2 => ?_) (fun q2 => ?_)
      · exact absurd (ip_if1 q2).1 (Int32.not_le.mpr hneg)
      · refine Exists.intro (k - 1) (And.intro (by omega) ⟨b + 1, _, _, _, _, nI_1 _, by omega, by omega, rfl, rfl, rfl, rfl, ht, ?_⟩)
        rw [hstep]
        exact hv
set_option maxRecDepth 100000 in
set_option maxHeartbeats 4000000 in
theorem vX3_coldIn (a : Nat) (mi : Int32) (S : ip_S) (hS : ip_Sta S) (hp : a = 1 ∧ 0 ≤ mi ∧ mi ≤ 299) : ip_run (pX3_coldIn (postX3_coldIn [.inr (.inl (some a)), .inl mi] S)) (fun pc => Nat.beq pc 22) (fun pc loc st S2 => ∃ k, iX3_coldIn a mi S k pc loc st S2) 60 0 [some (.inr (.inl (some a))), some (.inl mi), none, none, none, none] [] S := by
  obtain ⟨rfl, hm⟩ := hp
  obtain ⟨n, hn, rfl⟩ := ip_mi hm
  have hcn : (nI n).toNatClampNeg = n := nI_clamp (by omega)
  refine And.intro ⟨rfl, trivial⟩ ?_
  rintro r S' ⟨rfl, rfl⟩
  refine And.intro (fun q => ?_) (fun q => ?_)
  · have q := ip_if0 q
    have ht : S'.1 4 (nI n).toNatClampNeg = 0 := Classical.byContradiction (fun z => q ⟨hm.1, Int32.lt_of_le_of_lt hm.2 (by decide), z⟩)
    exact Exists.intro 30 ⟨0, none, 0, 0, 1, rfl, by omega, rfl, rfl, rfl, rfl, rfl, ht, rfl, rfl⟩
  · have q := ip_if1 q
    refine And.intro (ip_in hm rfl) (And.intro ?_ rfl)
    unfold ip_cold
    rw [if_neg q.2.2]
theorem ctX3_coldIn (l : Launch) : ip_CT l yX3_coldIn wsX3_coldIn rmX3_coldIn ip_Sta preX3_coldIn postX3_coldIn := by
  refine ip_of (cc := cX3_coldIn) (maxL := 6) (ret := (some .int)) (by decide +kernel) rfl (fun _ => (0, 0)) rfl ?_ ?_
  · intro as S h
    obtain ⟨a, mi, rfl, hq⟩ := ip_e_ri h
    exact ⟨Nat.le_of_ble_eq_true rfl, by simp⟩
  intro p e s m args below meth c D cA A ad0 as S h hI hx hb hml hown hts hr hlocks hname hA hNx
  obtain ⟨a, mi, rfl, hq⟩ := ip_e_ri h
  have ht := tX3_coldIn (D := D) (cA := cA) (A := A) (ad0 := ad0) (l := l) (e := e) (below := below) (S0 := S) (po := postX3_coldIn [.inr (.inl (some a)), .inl mi] S) hx hb hml hown hts hr hlocks hname hA hNx
  refine ip_run_ok ht (fun pc loc st S2 hh => ?_) 60 0 _ _ S (vX3_coldIn a mi S hI hq)
  obtain ⟨k, hk⟩ := hh
  exact ip_loop ht (iX3_coldIn a mi S) (lpX3_coldIn a mi S hI hq) k pc loc st S2 hk
