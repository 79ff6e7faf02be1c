def preX3_fallIn : List ip_V → ip_S → Prop := ip_h_ri (fun _ => False) (fun a mi S => a = 1 ∧ 0 ≤ mi ∧ mi ≤ 299)
def postX3_fallIn : List ip_V → ip_S → List ip_V → ip_S → Prop := ip_h_ri (fun _ _ _ => True) (fun a mi S r S' => r = [.inl (ip_fall (S.1 4) (S.1 3) mi.toNatClampNeg)] ∧ S' = S)
theorem shX3_fallIn : ∀ as S, ip_Sta S → preX3_fallIn as S → ∃ (b : Nat) (as' : List ip_V), as = .inr (.inl (some b)) :: as' ∧ as'.length = 1 ∧ (S.2.2.2 b).1 = 3 := by
  intro as S hI h
  obtain ⟨a, mi, rfl, hq⟩ := ip_e_ri h
  exact ⟨_, _, rfl, rfl, by rw [hq.1, hI.1 1 (by decide)]; rfl⟩
def rmX3_fallIn : Room := { frames := 2, cells := 0, slots := 0, locals := 80 }
def pX3_fallIn (po : List ip_V → ip_S → Prop) : List (Nat × ip_T) := [(0, ip_t_ar 0 1), (1, ip_t_il 1 2), (2, ip_t_call 2 preX3_isTold postX3_isTold 5), (5, ip_t_ifeq 15 8), (8, ip_t_ar 0 9), (9, ip_t_gR0 1 3 12), (12, ip_t_il 1 13), (13, ip_t_ld 6 14), (14, ip_t_iret po), (15, ip_t_ci 0 16), (16, ip_t_is 2 17), (17, ip_t_ci 1 18), (18, ip_t_is 3 19), (19, ip_t_il 3 20), (20, ip_t_ci 30 22), (22, ip_t_icgt 57 25), (25, ip_t_il 1 26), (26, ip_t_il 3 27), (27, ip_t_isub 28), (28, ip_t_is 4 30), (30, ip_t_ar 0 31), (31, ip_t_il 4 33), (33, ip_t_call 2 preX3_isTold postX3_isTold 36), (36, ip_t_ifeq 51 39), (39, ip_t_il 2 40), (40, ip_t_ar 0 41), (41, ip_t_gR0 1 3 44), (44, ip_t_il 4 46), (46, ip_t_ld 6 47), (47, ip_t_max 50), (50, ip_t_is 2 51), (51, ip_t_inc 3 1 54), (54, ip_t_go 19), (57, ip_t_il 2 58), (58, ip_t_iret po)]
set_option maxRecDepth 100000 in
set_option maxHeartbeats 4000000 in
theorem tX3_fallIn {p : Program} {l : Launch} {e : Env} {s : State} {m : MethodId} {args : Array Value} {below : List Frame} {meth : Method} {c : Code} {D : va_G} {cA : Nat → ClassId} {A : Nat → Prop} {ad0 : Nat → Nat} {S0 : ip_S} {po : List ip_V → ip_S → Prop} (hx : p.tables.exec = Jvm.exec) (hb : c.code = cX3_fallIn) (hml : c.maxLocals = 5) (hown : s.vm.findClass RX3 = some m.cls) (hts : ∀ w ∈ wsX3_fallIn, w.before args s = true) (hr : meth.sig.returnType = (some .int)) (hlocks : meth.locks = false) (hname : meth.name = yX3_fallIn.name) (hA : ∀ q, s.heap.size ≤ q → A q) (hNx : ip_Nx s) : ∀ q ∈ pX3_fallIn po, ip_snd p l e rmX3_fallIn s m args below meth c D cA A (MQ below (ip_Q ip_Sta D cA ad0 S0 A po) args s 0 0 A) 5 (fun _ => (0, 0)) ip_Sta ad0 S0 q.1 q.2 := by
  have hIs : ∀ S, ip_Sta S → ip_Sta S := fun _ h => h
  have hIn := ip_In_Sta
  have hS9 : CallFix p m c cX3_fallIn 5 s args wsX3_fallIn RX3 := ⟨hx, hb, hml, hown, hts⟩
  have hin3 : ∀ w ∈ u_ws RX3 TX3 3, w ∈ wsX3_fallIn := by decide +kernel
  refine List.forall_mem_cons.mpr ⟨ip_s_aload_n hx hb dX3_fallIn_0 rfl rfl, ?_⟩
  refine List.forall_mem_cons.mpr ⟨ip_s_iload_n hx hb dX3_fallIn_1 rfl rfl, ?_⟩
  refine List.forall_mem_cons.mpr ⟨ip_s_callV hNx hS9 (ctX3_isTold l) (cwV 1 hts gX3_fallIn_X3_isTold rfl rfl rfl (by decide +kernel) ⟨Nat.le_of_ble_eq_true rfl, Nat.le_of_ble_eq_true rfl⟩) (ci := 3) rfl rfl (by decide) (fun as S hI h => shX3_isTold as S hI h) hA dX3_fallIn_2 ⟨Nat.le_of_ble_eq_true rfl, Nat.le_of_ble_eq_true rfl⟩ rfl, ?_⟩
  refine List.forall_mem_cons.mpr ⟨ip_s_ifeq (t := 15) hx hb dX3_fallIn_5 (by decide) rfl rfl, ?_⟩
  refine List.forall_mem_cons.mpr ⟨ip_s_aload_n hx hb dX3_fallIn_8 rfl rfl, ?_⟩
  refine List.forall_mem_cons.mpr ⟨ip_s_gR0 hx hb hts hin3 hown rfl (by decide) 1 (by decide) (hts (.fieldLink RX3 15 "IcePads$Sky" "fall" "[I") (by decide +kernel)) (fun _ h9 => h9) hIs 1 3 rfl (by decide) rfl dX3_fallIn_9 rfl, ?_⟩
  refine List.forall_mem_cons.mpr ⟨ip_s_iload_n hx hb dX3_fallIn_12 rfl rfl, ?_⟩
  refine List.forall_mem_cons.mpr ⟨ip_s_ldi hx hb hIs dX3_fallIn_13 rfl, ?_⟩
  refine List.forall_mem_cons.mpr ⟨ip_s_iret hx hb hr hlocks (Nat.le_of_ble_eq_true rfl) (Nat.le_of_ble_eq_true rfl) dX3_fallIn_14, ?_⟩
  refine List.forall_mem_cons.mpr ⟨ip_s_iconst hx hb dX3_fallIn_15 rfl rfl, ?_⟩
  refine List.forall_mem_cons.mpr ⟨ip_s_istore_n hx hb dX3_fallIn_16 rfl (by decide) rfl, ?_⟩
  refine List.forall_mem_cons.mpr ⟨ip_s_iconst hx hb dX3_fallIn_17 rfl rfl, ?_⟩
  refine List.forall_mem_cons.mpr ⟨ip_s_istore_n hx hb dX3_fallIn_18 rfl (by decide) rfl, ?_⟩
  refine List.forall_mem_cons.mpr ⟨ip_s_iload_n hx hb dX3_fallIn_19 rfl rfl, ?_⟩
  refine List.forall_mem_cons.mpr ⟨ip_s_bipush hx hb dX3_fallIn_20 rfl rfl, ?_⟩
  refine List.forall_mem_cons.mpr ⟨ip_s_icgt (t := 57) hx hb dX3_fallIn_22 (by decide) rfl rfl, ?_⟩
  refine List.forall_mem_cons.mpr ⟨ip_s_iload_n hx hb dX3_fallIn_25 rfl rfl, ?_⟩
  refine List.forall_mem_cons.mpr ⟨ip_s_iload_n hx hb dX3_fallIn_26 rfl rfl, ?_⟩
  refine List.forall_mem_cons.mpr ⟨ip_s_isub hx hb dX3_fallIn_27 rfl, ?_⟩
  refine List.forall_mem_cons.mpr ⟨ip_s_istore hx hb dX3_fallIn_28 (by decide) rfl, ?_⟩
  refine List.forall_mem_cons.mpr ⟨ip_s_aload_n hx hb dX3_fallIn_30 rfl rfl, ?_⟩
  refine List.forall_mem_cons.mpr ⟨ip_s_iload hx hb dX3_fallIn_31 rfl, ?_⟩
  refine List.forall_mem_cons.mpr ⟨ip_s_callV hNx hS9 (ctX3_isTold l) (cwV 1 hts gX3_fallIn_X3_isTold rfl rfl rfl (by decide +kernel) ⟨Nat.le_of_ble_eq_true rfl, Nat.le_of_ble_eq_true rfl⟩) (ci := 3) rfl rfl (by decide) (fun as S hI h => shX3_isTold as S hI h) hA dX3_fallIn_33 ⟨Nat.le_of_ble_eq_true rfl, Nat.le_of_ble_eq_true rfl⟩ rfl, ?_⟩
  refine List.forall_mem_cons.mpr ⟨ip_s_ifeq (t := 51) hx hb dX3_fallIn_36 (by decide) rfl rfl, ?_⟩
  refine List.forall_mem_cons.mpr ⟨ip_s_iload_n hx hb dX3_fallIn_39 rfl rfl, ?_⟩
  refine List.forall_mem_cons.mpr ⟨ip_s_aload_n hx hb dX3_fallIn_40 rfl rfl, ?_⟩
  refine List.forall_mem_cons.mpr ⟨ip_s_gR0 hx hb hts hin3 hown rfl (by decide) 1 (by decide) (hts (.fieldLink RX3 15 "IcePads$Sky" "fall" "[I") (by decide +kernel)) (fun _ h9 => h9) hIs 1 3 rfl (by decide) rfl dX3_fallIn_41 rfl, ?_⟩
  refine List.forall_mem_cons.mpr ⟨ip_s_iload hx hb dX3_fallIn_44 rfl, ?_⟩
  refine List.forall_mem_cons.mpr ⟨ip_s_ldi hx hb hIs dX3_fallIn_46 rfl, ?_⟩
  refine List.forall_mem_cons.mpr ⟨ip_s_max hx hb hml hown (hts (.methodLink RX3 35 Lib.Math.max.name) (by decide +kernel)) (hts (.static Lib.Math.max.name) (by decide +kernel)) (hts (.initialized "java/lang/Math") (by decide +kernel)) (hts (.code Lib.Math.max.name Lib.Math.max.code 2 (some .int)) (by decide +kernel)) ⟨Nat.le_of_ble_eq_true rfl, Nat.le_of_ble_eq_true rfl⟩ ⟨Nat.zero_le _, Nat.zero_le _⟩ dX3_fallIn_47 rfl, ?_⟩
  refine List.forall_mem_cons.mpr ⟨ip_s_istore_n hx hb dX3_fallIn_50 rfl (by decide) rfl, ?_⟩
  refine List.forall_mem_cons.mpr ⟨ip_s_iinc hx hb dX3_fallIn_51 rfl (by decide) rfl, ?_⟩
  refine List.forall_mem_cons.mpr ⟨ip_s_go (t := 19) hx hb dX3_fallIn_54 (by decide) (Nat.le_of_ble_eq_true rfl) (Nat.le_of_ble_eq_true rfl), ?_⟩
  refine List.forall_mem_cons.mpr ⟨ip_s_iload_n hx hb dX3_fallIn_57 rfl rfl, ?_⟩
  refine List.forall_mem_cons.mpr ⟨ip_s_iret hx hb hr hlocks (Nat.le_of_ble_eq_true rfl) (Nat.le_of_ble_eq_true rfl) dX3_fallIn_58, ?_⟩
  exact fun _ h => absurd h List.not_mem_nil
abbrev iX3_fallIn (a : Nat) (mi : Int32) (S : ip_S) : Nat → ip_N := fun k pc loc st S1 => ∃ (b : Nat) (x4 : Option ip_V) (g x3 : Int32), x3 = nI (b + 1) ∧ b ≤ 30 ∧ k + b = 30 ∧ pc = 19 ∧ st = [] ∧ S1 = S ∧ loc = [some (.inr (.inl (some a))), some (.inl mi), some (.inl g), some (.inl x3), x4] ∧ S.1 4 mi.toNatClampNeg = 0 ∧ g = ip_fL (S.1 4) (S.1 3) mi.toNatClampNeg b
set_option maxRecDepth 100000 in
set_option maxHeartbeats 4000000 in
theorem lpX3_fallIn (a : Nat) (mi : Int32) (S : ip_S) (hS : ip_Sta S) (hp : a = 1 ∧ 0 ≤ mi ∧ mi ≤ 299) : ∀ k pc loc st S1, iX3_fallIn a mi S k pc loc st S1 → ip_run (pX3_fallIn (postX3_fallIn [.inr (.inl (some a)), .inl mi] S)) (fun pc => Nat.beq pc 19) (fun pc loc st S2 => ∃ k', k' < k ∧ iX3_fallIn a mi S k' pc loc st S2) 60 pc loc st S1 := by
  obtain ⟨rfl, hm⟩ := hp
  obtain ⟨n, hn, rfl⟩ := ip_mi hm
  have hcn : (nI n).toNatClampNeg = n := nI_clamp (by omega)
  rintro k pc loc st S1 ⟨b, x4, g, x3, rfl, hb, hk, rfl, rfl, rfl, rfl, ht, hv⟩
  refine And.intro (fun q => ?_) (fun q => ?_)
  · have q : nI 30 < nI (b + 1) := q
    rw [nI_ltI (by omega) (by omega)] at q
    have hb30 : b = 30 := by omega
    subst hb30
    refine And.intro ?_ rfl
    unfold ip_fall
    rw [if_pos ht, hv]
  · have q : ¬ nI 30 < nI (b + 1) := q
    rw [nI_ltI (by omega) (by omega)] at q
    have hstep : ip_fL (S1.1 4) (S1.1 3) (nI n).toNatClampNeg (b + 1) = if b + 1 ≤ n ∧ ¬ S1.1 4 (n - (b + 1)) = 0 then (if ip_fL (S1.1 4) (S1.1 3) (nI n).toNatClampNeg b < S1.1 3 (n - (b + 1)) then S1.1 3 (n - (b + 1)) else ip_fL (S1.1 4) (S1.1 3) (nI n).toNatClampNeg b) else ip_fL (S1.1 4) (S1.1 3) (nI n).toNatClampNeg b := by
      rw [hcn]; rfl
    refine And.intro ⟨rfl, trivial⟩ ?_
    rintro r S' ⟨rfl, rfl⟩
    by_cases hle : b + 1 ≤ n
    · have he : nI n - nI (b + 1) = nI (n - (b + 1)) := pk_sub hle
      have hcl : (nI (n - (b + 1))).toNatClampNeg = n - (b + 1) := nI_clamp (by omega)
      have hrg : 0 ≤ nI (n - (b + 1)) ∧ nI (n - (b + 1)) ≤ 299 := ip_mi' (by omega)
      have hin : vp_in (nI n - nI (b + 1)) 300 := by rw [he]; exact ip_in hrg rfl
      refine And.intro (fun q2 => ?_) (fun q2 => ?_)
      · have q2 := ip_if0 q2
        rw [he, hcl] at q2
        rw [if_neg (fun z => q2 ⟨hrg.1, Int32.lt_of_le_of_lt hrg.2 (by decide), z.2⟩)] at hstep
        refine Exists.intro (k - 1) (And.intro (by omega) ⟨b + 1, _, _, _, nI_1 _, by omega, by omega, rfl, rfl, rfl, rfl, ht, ?_⟩)
        rw [hstep]
        exact hv
      · have q2 := ip_if1 q2
        rw [he, hcl] at q2
        rw [if_pos ⟨hle, q2.2.2⟩] at hstep
        refine And.intro hin ?_
        refine Exists.intro (k - 1) (And.intro (by omega) ⟨b + 1, _, _, _, nI_1 _, by omega, by omega, rfl, rfl, rfl, rfl, ht, ?_⟩)
        rw [hstep, he, hcl, hv]
    · have hneg : nI n - nI (b + 1) < 0 := pk_sneg (by omega) (by omega)
      rw [if_neg (fun z => hle z.1)] at hstep
      refine And.intro (fun q2 => ?_) (fun q2 => ?_)
      · refine Exists.intro (k - 1) (And.intro (by omega) ⟨b + 1, _, _, _, nI_1 _, by omega, by omega, rfl, rfl, rfl, rfl, ht, ?_⟩)
        rw [hstep]
        exact hv
      · exact absurd (ip_if1 q2).1 (Int32.not_le.mpr hneg)
set_option maxRecDepth 100000 in
set_option maxHeartbeats 4000000 in
theorem vX3_fallIn (a : Nat) (mi : Int32) (S : ip_S) (hS : ip_Sta S) (hp : a = 1 ∧ 0 ≤ mi ∧ mi ≤ 299) : ip_run (pX3_fallIn (postX3_fallIn [.inr (.inl (some a)), .inl mi] S)) (fun pc => Nat.beq pc 19) (fun pc loc st S2 => ∃ k, iX3_fallIn a mi S k pc loc st S2) 60 0 [some (.inr (.inl (some a))), some (.inl mi), none, none, none] [] S := by
  obtain ⟨rfl, hm⟩ := hp
  refine And.intro ⟨rfl, trivial⟩ ?_
  rintro r S' ⟨rfl, rfl⟩
  refine And.intro (fun q => ?_) (fun q => ?_)
  · have q := ip_if0 q
    have ht : S'.1 4 mi.toNatClampNeg = 0 := Classical.byContradiction (fun z => q ⟨hm.1, Int32.lt_of_le_of_lt hm.2 (by decide), z⟩)
    exact Exists.intro 30 ⟨0, none, 0, 1, rfl, by omega, rfl, rfl, rfl, rfl, rfl, ht, rfl⟩
  · have q := ip_if1 q
    refine And.intro (ip_in hm rfl) (And.intro ?_ rfl)
    unfold ip_fall
    rw [if_neg q.2.2]
theorem ctX3_fallIn (l : Launch) : ip_CT l yX3_fallIn wsX3_fallIn rmX3_fallIn ip_Sta preX3_fallIn postX3_fallIn := by
  refine ip_of (cc := cX3_fallIn) (maxL := 5) (ret := (some .int)) (by decide +kernel) rfl (fun _ => (0, 0)) rfl ?_ ?_
  · intro as S h
    obtain ⟨a, mi, rfl, hq⟩ := ip_e_ri h
    exact ⟨Nat.le_of_ble_eq_true rfl, by simp⟩
  intro p e s m args below meth c D cA A ad0 as S h hI hx hb hml hown hts hr hlocks hname hA hNx
  obtain ⟨a, mi, rfl, hq⟩ := ip_e_ri h
  have ht := tX3_fallIn (D := D) (cA := cA) (A := A) (ad0 := ad0) (l := l) (e := e) (below := below) (S0 := S) (po := postX3_fallIn [.inr (.inl (some a)), .inl mi] S) hx hb hml hown hts hr hlocks hname hA hNx
  refine ip_run_ok ht (fun pc loc st S2 hh => ?_) 60 0 _ _ S (vX3_fallIn a mi S hI hq)
  obtain ⟨k, hk⟩ := hh
  exact ip_loop ht (iX3_fallIn a mi S) (lpX3_fallIn a mi S hI hq) k pc loc st S2 hk

def preX0_init : List ip_V → ip_S → Prop := ip_h_ririii (fun _ => False) (fun a kind sp times parts li S => (S.2.2.2 a).1 = 0 ∧ True)
def postX0_init : List ip_V → ip_S → List ip_V → ip_S → Prop := ip_h_ririii (fun _ _ _ => True) (fun a kind sp times parts li S r S' => r = [] ∧ S' = ip_sI (ip_sI (ip_sI (ip_sR (ip_sI S a 0 kind) a 1 (some sp)) a 2 times) a 3 parts) a 4 li)
theorem shX0_init : ∀ as S, ip_Sta S → preX0_init as S → ∃ (b : Nat) (as' : List ip_V), as = .inr (.inl (some b)) :: as' ∧ as'.length = 5 := by
  intro as S hI h
  obtain ⟨a, kind, sp, times, parts, li, rfl, hq⟩ := ip_e_ririii h
  exact ⟨_, _, rfl, rfl⟩
def rmX0_init : Room := { frames := 1, cells := 0, slots := 0, locals := 40 }
def pX0_init (po : List ip_V → ip_S → Prop) : List (Nat × ip_T) := [(0, ip_t_ar 0 1), (1, ip_t_oi 4), (4, ip_t_ar 0 5), (5, ip_t_il 1 6), (6, ip_t_pI 0 0 9), (9, ip_t_ar 0 10), (10, ip_t_ar 2 11), (11, ip_t_pR 0 1 14), (14, ip_t_ar 0 15), (15, ip_t_il 3 16), (16, ip_t_pI 0 2 19), (19, ip_t_ar 0 20), (20, ip_t_il 4 22), (22, ip_t_pI 0 3 25), (25, ip_t_ar 0 26), (26, ip_t_il 5 28), (28, ip_t_pI 0 4 31), (31, ip_t_vret po)]
set_option maxRecDepth 100000 in
set_option maxHeartbeats 4000000 in
theorem tX0_init {p : Program} {l : Launch} {e : Env} {s : State} {m : MethodId} {args : Array Value} {below : List Frame} {meth : Method} {c : Code} {D : va_G} {cA : Nat → ClassId} {A : Nat → Prop} {ad0 : Nat → Nat} {S0 : ip_S} {po : List ip_V → ip_S → Prop} (hx : p.tables.exec = Jvm.exec) (hb : c.code = cX0_init) (hml : c.maxLocals = 6) (hown : s.vm.findClass RX0 = some m.cls) (hts : ∀ w ∈ wsX0_init, w.before args s = true) (hr : meth.sig.returnType = none) (hlocks : meth.locks = false) (hname : meth.name = yX0_init.name) (hA : ∀ q, s.heap.size ≤ q → A q) (hNx : ip_Nx s) : ∀ q ∈ pX0_init po, ip_snd p l e rmX0_init s m args below meth c D cA A (MQ below (ip_Q ip_Sta D cA ad0 S0 A po) args s 0 0 A) 6 (fun _ => (0, 0)) ip_Sta ad0 S0 q.1 q.2 := by
  have hIs : ∀ S, ip_Sta S → ip_Sta S := fun _ h => h
  have hIn := ip_In_Sta
  have hS9 : CallFix p m c cX0_init 6 s args wsX0_init RX0 := ⟨hx, hb, hml, hown, hts⟩
  have hin0 : ∀ w ∈ u_ws RX0 TX0 5, w ∈ wsX0_init := by decide +kernel
  refine List.forall_mem_cons.mpr ⟨ip_s_aload_n hx hb dX0_init_0 rfl rfl, ?_⟩
  refine List.forall_mem_cons.mpr ⟨ip_s_oi hx hb hml hown (hts (.methodLink RX0 1 objectInit) (by decide +kernel)) (hts (.instanceMethod objectInit) (by decide +kernel)) (hts (.code objectInit ⟨#[0xb1]⟩ 1 none) (by decide +kernel)) ⟨Nat.le_of_ble_eq_true rfl, Nat.le_of_ble_eq_true rfl⟩ dX0_init_1 rfl, ?_⟩
  refine List.forall_mem_cons.mpr ⟨ip_s_aload_n hx hb dX0_init_4 rfl rfl, ?_⟩
  refine List.forall_mem_cons.mpr ⟨ip_s_iload_n hx hb dX0_init_5 rfl rfl, ?_⟩
  refine List.forall_mem_cons.mpr ⟨ip_s_pIF hx hb hts hin0 hown rfl (by decide) 0 (by decide) (hts (.fieldLink RX0 7 "IcePads$Fluid" "kind" "I") (by decide +kernel)) (fun _ h9 => h9) tyX0 tyX0_ok nmX0 hIn rfl hname rfl rfl (by decide +kernel) dX0_init_6 rfl, ?_⟩
  refine List.forall_mem_cons.mpr ⟨ip_s_aload_n hx hb dX0_init_9 rfl rfl, ?_⟩
  refine List.forall_mem_cons.mpr ⟨ip_s_aload_n hx hb dX0_init_10 rfl rfl, ?_⟩
  refine List.forall_mem_cons.mpr ⟨ip_s_pRF (fty := (.array .int)) hx hb hts hin0 hown rfl (by decide) 1 (by decide) (hts (.fieldLink RX0 13 "IcePads$Fluid" "spans" "[I") (by decide +kernel)) (fun _ h9 => h9) tyX0 tyX0_ok nmX0 (fun S q o hS hk => hIn.2.2.1 S q 1 o hS (Or.inl (by omega))) rfl hname rfl rfl (by decide +kernel) (fun o => by cases o <;> exact ⟨rfl, rfl⟩) dX0_init_11 rfl, ?_⟩
  refine List.forall_mem_cons.mpr ⟨ip_s_aload_n hx hb dX0_init_14 rfl rfl, ?_⟩
  refine List.forall_mem_cons.mpr ⟨ip_s_iload_n hx hb dX0_init_15 rfl rfl, ?_⟩
  refine List.forall_mem_cons.mpr ⟨ip_s_pIF hx hb hts hin0 hown rfl (by decide) 2 (by decide) (hts (.fieldLink RX0 17 "IcePads$Fluid" "times" "I") (by decide +kernel)) (fun _ h9 => h9) tyX0 tyX0_ok nmX0 hIn rfl hname rfl rfl (by decide +kernel) dX0_init_16 rfl, ?_⟩
  refine List.forall_mem_cons.mpr ⟨ip_s_aload_n hx hb dX0_init_19 rfl rfl, ?_⟩
  refine List.forall_mem_cons.mpr ⟨ip_s_iload hx hb dX0_init_20 rfl, ?_⟩
  refine List.forall_mem_cons.mpr ⟨ip_s_pIF hx hb hts hin0 hown rfl (by decide) 3 (by decide) (hts (.fieldLink RX0 20 "IcePads$Fluid" "parts" "I") (by decide +kernel)) (fun _ h9 => h9) tyX0 tyX0_ok nmX0 hIn rfl hname rfl rfl (by decide +kernel) dX0_init_22 rfl, ?_⟩
  refine List.forall_mem_cons.mpr ⟨ip_s_aload_n hx hb dX0_init_25 rfl rfl, ?_⟩
  refine List.forall_mem_cons.mpr ⟨ip_s_iload hx hb dX0_init_26 rfl, ?_⟩
  refine List.forall_mem_cons.mpr ⟨ip_s_pI hx hb hts hin0 hown rfl (by decide) 4 (by decide) (hts (.fieldLink RX0 23 "IcePads$Fluid" "litresLeft" "I") (by decide +kernel)) (fun _ h9 => h9) tyX0 tyX0_ok nmX0 hIn rfl rfl (by decide +kernel) dX0_init_28 rfl, ?_⟩
  refine List.forall_mem_cons.mpr ⟨ip_s_vret hx hb hr hlocks (Nat.le_of_ble_eq_true rfl) (Nat.le_of_ble_eq_true rfl) dX0_init_31, ?_⟩
  exact fun _ h => absurd h List.not_mem_nil
set_option maxRecDepth 100000 in
set_option maxHeartbeats 4000000 in
theorem vX0_init (a : Nat) (kind : Int32) (sp : Nat) (times : Int32) (parts : Int32) (li : Int32) (S : ip_S) (hS : ip_Sta S) (hp : (S.2.2.2 a).1 = 0 ∧ True) : ip_run (pX0_init (postX0_init [.inr (.inl (some a)), .inl kind, .inr (.inl (some sp)), .inl times, .inl parts, .inl li] S)) (fun _ => false) (fun _ _ _ _ => False) 60 0 [some (.inr (.inl (some a))), some (.inl kind), some (.inr (.inl (some sp))), some (.inl times), some (.inl parts), some (.inl li)] [] S := by
  have h1 := hp.1
  refine And.intro h1 ?_
  refine And.intro h1 ?_
  refine And.intro h1 ?_
  refine And.intro h1 ?_
  refine And.intro h1 ?_
  exact And.intro rfl rfl
theorem ctX0_init (l : Launch) : ip_CT l yX0_init wsX0_init rmX0_init ip_Sta preX0_init postX0_init := by
  refine ip_of (cc := cX0_init) (maxL := 6) (ret := none) (by decide +kernel) rfl (fun _ => (0, 0)) rfl ?_ ?_
  · intro as S h
    obtain ⟨a, kind, sp, times, parts, li, rfl, hq⟩ := ip_e_ririii h
    exact ⟨Nat.le_of_ble_eq_true rfl, by simp⟩
  intro p e s m args below meth c D cA A ad0 as S h hI hx hb hml hown hts hr hlocks hname hA hNx
  obtain ⟨a, kind, sp, times, parts, li, rfl, hq⟩ := ip_e_ririii h
  refine ip_run_ok (stop := fun _ => false) (tX0_init hx hb hml hown hts hr hlocks hname hA hNx) (fun _ _ _ _ h => False.elim h) 60 0 _ _ S ?_
  exact vX0_init a kind sp times parts li S hI hq

def preX1_init : List ip_V → ip_S → Prop := ip_h_riiiir (fun _ => False) (fun a nu si re ro fl S => (S.2.2.2 a).1 = 1 ∧ True)
def postX1_init : List ip_V → ip_S → List ip_V → ip_S → Prop := ip_h_riiiir (fun _ _ _ => True) (fun a nu si re ro fl S r S' => r = [] ∧ S' = ip_sR (ip_sI (ip_sI (ip_sI (ip_sI (ip_sI (ip_sI (ip_sI (ip_sI S a 6 (-900)) a 7 (-900)) a 8 (-900)) a 0 nu) a 3 si) a 1 re) a 5 re) a 4 ro) a 2 (some fl))
theorem shX1_init : ∀ as S, ip_Sta S → preX1_init as S → ∃ (b : Nat) (as' : List ip_V), as = .inr (.inl (some b)) :: as' ∧ as'.length = 5 := by
  intro as S hI h
  obtain ⟨a, nu, si, re, ro, fl, rfl, hq⟩ := ip_e_riiiir h
  exact ⟨_, _, rfl, rfl⟩
def rmX1_init : Room := { frames := 1, cells := 0, slots := 0, locals := 40 }
def pX1_init (po : List ip_V → ip_S → Prop) : List (Nat × ip_T) := [(0, ip_t_ar 0 1), (1, ip_t_oi 4), (4, ip_t_ar 0 5), (5, ip_t_ci (-900) 8), (8, ip_t_pI 1 6 11), (11, ip_t_ar 0 12), (12, ip_t_ci (-900) 15), (15, ip_t_pI 1 7 18), (18, ip_t_ar 0 19), (19, ip_t_ci (-900) 22), (22, ip_t_pI 1 8 25), (25, ip_t_ar 0 26), (26, ip_t_il 1 27), (27, ip_t_pI 1 0 30), (30, ip_t_ar 0 31), (31, ip_t_il 2 32), (32, ip_t_pI 1 3 35), (35, ip_t_ar 0 36), (36, ip_t_il 3 37), (37, ip_t_pI 1 1 40), (40, ip_t_ar 0 41), (41, ip_t_il 3 42), (42, ip_t_pI 1 5 45), (45, ip_t_ar 0 46), (46, ip_t_il 4 48), (48, ip_t_pI 1 4 51), (51, ip_t_ar 0 52), (52, ip_t_ar 5 54), (54, ip_t_pR 1 2 57), (57, ip_t_vret po)]
set_option maxRecDepth 100000 in
set_option maxHeartbeats 4000000 in
theorem tX1_init {p : Program} {l : Launch} {e : Env} {s : State} {m : MethodId} {args : Array Value} {below : List Frame} {meth : Method} {c : Code} {D : va_G} {cA : Nat → ClassId} {A : Nat → Prop} {ad0 : Nat → Nat} {S0 : ip_S} {po : List ip_V → ip_S → Prop} (hx : p.tables.exec = Jvm.exec) (hb : c.code = cX1_init) (hml : c.maxLocals = 6) (hown : s.vm.findClass RX1 = some m.cls) (hts : ∀ w ∈ wsX1_init, w.before args s = true) (hr : meth.sig.returnType = none) (hlocks : meth.locks = false) (hname : meth.name = yX1_init.name) (hA : ∀ q, s.heap.size ≤ q → A q) (hNx : ip_Nx s) : ∀ q ∈ pX1_init po, ip_snd p l e rmX1_init s m args below meth c D cA A (MQ below (ip_Q ip_Sta D cA ad0 S0 A po) args s 0 0 A) 6 (fun _ => (0, 0)) ip_Sta ad0 S0 q.1 q.2 := by
  have hIs : ∀ S, ip_Sta S → ip_Sta S := fun _ h => h
  have hIn := ip_In_Sta
  have hS9 : CallFix p m c cX1_init 6 s args wsX1_init RX1 := ⟨hx, hb, hml, hown, hts⟩
  have hin1 : ∀ w ∈ u_ws RX1 TX1 11, w ∈ wsX1_init := by decide +kernel
  refine List.forall_mem_cons.mpr ⟨ip_s_aload_n hx hb dX1_init_0 rfl rfl, ?_⟩
  refine List.forall_mem_cons.mpr ⟨ip_s_oi hx hb hml hown (hts (.methodLink RX1 3 objectInit) (by decide +kernel)) (hts (.instanceMethod objectInit) (by decide +kernel)) (hts (.code objectInit ⟨#[0xb1]⟩ 1 none) (by decide +kernel)) ⟨Nat.le_of_ble_eq_true rfl, Nat.le_of_ble_eq_true rfl⟩ dX1_init_1 rfl, ?_⟩
  refine List.forall_mem_cons.mpr ⟨ip_s_aload_n hx hb dX1_init_4 rfl rfl, ?_⟩
  refine List.forall_mem_cons.mpr ⟨ip_s_sipush hx hb dX1_init_5 rfl rfl, ?_⟩
  refine List.forall_mem_cons.mpr ⟨ip_s_pI hx hb hts hin1 hown rfl (by decide) 6 (by decide) (hts (.fieldLink RX1 9 "IcePads$Jet" "pad" "I") (by decide +kernel)) (fun _ h9 => h9) tyX1 tyX1_ok nmX1 hIn rfl rfl (by decide +kernel) dX1_init_8 rfl, ?_⟩
  refine List.forall_mem_cons.mpr ⟨ip_s_aload_n hx hb dX1_init_11 rfl rfl, ?_⟩
  refine List.forall_mem_cons.mpr ⟨ip_s_sipush hx hb dX1_init_12 rfl rfl, ?_⟩
  refine List.forall_mem_cons.mpr ⟨ip_s_pI hx hb hts hin1 hown rfl (by decide) 7 (by decide) (hts (.fieldLink RX1 15 "IcePads$Jet" "start" "I") (by decide +kernel)) (fun _ h9 => h9) tyX1 tyX1_ok nmX1 hIn rfl rfl (by decide +kernel) dX1_init_15 rfl, ?_⟩
  refine List.forall_mem_cons.mpr ⟨ip_s_aload_n hx hb dX1_init_18 rfl rfl, ?_⟩
  refine List.forall_mem_cons.mpr ⟨ip_s_sipush hx hb dX1_init_19 rfl rfl, ?_⟩
  refine List.forall_mem_cons.mpr ⟨ip_s_pI hx hb hts hin1 hown rfl (by decide) 8 (by decide) (hts (.fieldLink RX1 18 "IcePads$Jet" "flew" "I") (by decide +kernel)) (fun _ h9 => h9) tyX1 tyX1_ok nmX1 hIn rfl rfl (by decide +kernel) dX1_init_22 rfl, ?_⟩
  refine List.forall_mem_cons.mpr ⟨ip_s_aload_n hx hb dX1_init_25 rfl rfl, ?_⟩
  refine List.forall_mem_cons.mpr ⟨ip_s_iload_n hx hb dX1_init_26 rfl rfl, ?_⟩
  refine List.forall_mem_cons.mpr ⟨ip_s_pIF hx hb hts hin1 hown rfl (by decide) 0 (by decide) (hts (.fieldLink RX1 21 "IcePads$Jet" "number" "I") (by decide +kernel)) (fun _ h9 => h9) tyX1 tyX1_ok nmX1 hIn rfl hname rfl rfl (by decide +kernel) dX1_init_27 rfl, ?_⟩
  refine List.forall_mem_cons.mpr ⟨ip_s_aload_n hx hb dX1_init_30 rfl rfl, ?_⟩
  refine List.forall_mem_cons.mpr ⟨ip_s_iload_n hx hb dX1_init_31 rfl rfl, ?_⟩
  refine List.forall_mem_cons.mpr ⟨ip_s_pIF hx hb hts hin1 hown rfl (by decide) 3 (by decide) (hts (.fieldLink RX1 24 "IcePads$Jet" "size" "I") (by decide +kernel)) (fun _ h9 => h9) tyX1 tyX1_ok nmX1 hIn rfl hname rfl rfl (by decide +kernel) dX1_init_32 rfl, ?_⟩
  refine List.forall_mem_cons.mpr ⟨ip_s_aload_n hx hb dX1_init_35 rfl rfl, ?_⟩
  refine List.forall_mem_cons.mpr ⟨ip_s_iload_n hx hb dX1_init_36 rfl rfl, ?_⟩
  refine List.forall_mem_cons.mpr ⟨ip_s_pIF hx hb hts hin1 hown rfl (by decide) 1 (by decide) (hts (.fieldLink RX1 27 "IcePads$Jet" "firstReady" "I") (by decide +kernel)) (fun _ h9 => h9) tyX1 tyX1_ok nmX1 hIn rfl hname rfl rfl (by decide +kernel) dX1_init_37 rfl, ?_⟩
  refine List.forall_mem_cons.mpr ⟨ip_s_aload_n hx hb dX1_init_40 rfl rfl, ?_⟩
  refine List.forall_mem_cons.mpr ⟨ip_s_iload_n hx hb dX1_init_41 rfl rfl, ?_⟩
  refine List.forall_mem_cons.mpr ⟨ip_s_pI hx hb hts hin1 hown rfl (by decide) 5 (by decide) (hts (.fieldLink RX1 30 "IcePads$Jet" "ready" "I") (by decide +kernel)) (fun _ h9 => h9) tyX1 tyX1_ok nmX1 hIn rfl rfl (by decide +kernel) dX1_init_42 rfl, ?_⟩
  refine List.forall_mem_cons.mpr ⟨ip_s_aload_n hx hb dX1_init_45 rfl rfl, ?_⟩
  refine List.forall_mem_cons.mpr ⟨ip_s_iload hx hb dX1_init_46 rfl, ?_⟩
  refine List.forall_mem_cons.mpr ⟨ip_s_pIF hx hb hts hin1 hown rfl (by decide) 4 (by decide) (hts (.fieldLink RX1 33 "IcePads$Jet" "roll" "I") (by decide +kernel)) (fun _ h9 => h9) tyX1 tyX1_ok nmX1 hIn rfl hname rfl rfl (by decide +kernel) dX1_init_48 rfl, ?_⟩
  refine List.forall_mem_cons.mpr ⟨ip_s_aload_n hx hb dX1_init_51 rfl rfl, ?_⟩
  refine List.forall_mem_cons.mpr ⟨ip_s_aload hx hb dX1_init_52 rfl, ?_⟩
  refine List.forall_mem_cons.mpr ⟨ip_s_pRF (fty := (.object "IcePads$Fluid")) hx hb hts hin1 hown rfl (by decide) 2 (by decide) (hts (.fieldLink RX1 36 "IcePads$Jet" "fluid" "LIcePads$Fluid;") (by decide +kernel)) (fun _ h9 => h9) tyX1 tyX1_ok nmX1 (fun S q o hS hk => hIn.2.2.1 S q 2 o hS (Or.inl (by omega))) rfl hname rfl rfl (by decide +kernel) (fun o => by cases o <;> exact ⟨rfl, rfl⟩) dX1_init_54 rfl, ?_⟩
  refine List.forall_mem_cons.mpr ⟨ip_s_vret hx hb hr hlocks (Nat.le_of_ble_eq_true rfl) (Nat.le_of_ble_eq_true rfl) dX1_init_57, ?_⟩
  exact fun _ h => absurd h List.not_mem_nil
set_option maxRecDepth 100000 in
set_option maxHeartbeats 4000000 in
theorem vX1_init (a : Nat) (nu : Int32) (si : Int32) (re : Int32) (ro : Int32) (fl : Nat) (S : ip_S) (hS : ip_Sta S) (hp : (S.2.2.2 a).1 = 1 ∧ True) : ip_run (pX1_init (postX1_init [.inr (.inl (some a)), .inl nu, .inl si, .inl re, .inl ro, .inr (.inl (some fl))] S)) (fun _ => false) (fun _ _ _ _ => False) 80 0 [some (.inr (.inl (some a))), some (.inl nu), some (.inl si), some (.inl re), some (.inl ro), some (.inr (.inl (some fl)))] [] S := by
  have h1 := hp.1
  refine And.intro h1 ?_
  refine And.intro h1 ?_
  refine And.intro h1 ?_
  refine And.intro h1 ?_
  refine And.intro h1 ?_
  refine And.intro h1 ?_
  refine And.intro h1 ?_
  refine And.intro h1 ?_
  refine And.intro h1 ?_
  exact And.intro rfl rfl
theorem ctX1_init (l : Launch) : ip_CT l yX1_init wsX1_init rmX1_init ip_Sta preX1_init postX1_init := by
  refine ip_of (cc := cX1_init) (maxL := 6) (ret := none) (by decide +kernel) rfl (fun _ => (0, 0)) rfl ?_ ?_
  · intro as S h
    obtain ⟨a, nu, si, re, ro, fl, rfl, hq⟩ := ip_e_riiiir h
    exact ⟨Nat.le_of_ble_eq_true rfl, by simp⟩
  intro p e s m args below meth c D cA A ad0 as S h hI hx hb hml hown hts hr hlocks hname hA hNx
  obtain ⟨a, nu, si, re, ro, fl, rfl, hq⟩ := ip_e_riiiir h
  refine ip_run_ok (stop := fun _ => false) (tX1_init hx hb hml hown hts hr hlocks hname hA hNx) (fun _ _ _ _ h => False.elim h) 80 0 _ _ S ?_
  exact vX1_init a nu si re ro fl S hI hq

/-- what X3_init() leaves -/
def ip_cX3 (S : ip_S) : ip_S :=
  let S := ip_nw S 2 (6, 300)
  let S := ip_sR S 1 0 (some 2)
  let S := ip_nw S 3 (6, 300)
  let S := ip_sR S 1 1 (some 3)
  let S := ip_nw S 4 (7, 300)
  let S := ip_sR S 1 2 (some 4)
  S

def preX3_init : List ip_V → ip_S → Prop := ip_h_r (fun _ => False) (fun a S => (S.2.2.2 a).1 = 3 ∧ a = 1 ∧ ∀ q, 2 ≤ q → q ≤ 4 → 10 ≤ (S.2.2.2 q).1)
def postX3_init : List ip_V → ip_S → List ip_V → ip_S → Prop := ip_h_r (fun _ _ _ => True) (fun a S r S' => r = [] ∧ S' = ip_cX3 S)
theorem shX3_init : ∀ as S, ip_Tr S → preX3_init as S → ∃ (b : Nat) (as' : List ip_V), as = .inr (.inl (some b)) :: as' ∧ as'.length = 0 := by
  intro as S hI h
  obtain ⟨a, rfl, hq⟩ := ip_e_r h
  exact ⟨_, _, rfl, rfl⟩
def rmX3_init : Room := { frames := 1, cells := 3, slots := 900, locals := 40 }
def pX3_init (po : List ip_V → ip_S → Prop) : List (Nat × ip_T) := [(0, ip_t_ar 0 1), (1, ip_t_oi 4), (4, ip_t_ar 0 5), (5, ip_t_ci 300 8), (8, ip_t_newa 6 300 10), (10, ip_t_pR 3 0 13), (13, ip_t_ar 0 14), (14, ip_t_ci 300 17), (17, ip_t_newa 6 300 19), (19, ip_t_pR 3 1 22), (22, ip_t_ar 0 23), (23, ip_t_ci 300 26), (26, ip_t_newa 7 300 28), (28, ip_t_pR 3 2 31), (31, ip_t_vret po)]
set_option maxRecDepth 100000 in
set_option maxHeartbeats 4000000 in
theorem tX3_init {p : Program} {l : Launch} {e : Env} {s : State} {m : MethodId} {args : Array Value} {below : List Frame} {meth : Method} {c : Code} {D : va_G} {cA : Nat → ClassId} {A : Nat → Prop} {ad0 : Nat → Nat} {S0 : ip_S} {po : List ip_V → ip_S → Prop} (hx : p.tables.exec = Jvm.exec) (hb : c.code = cX3_init) (hml : c.maxLocals = 1) (hown : s.vm.findClass RX3 = some m.cls) (hts : ∀ w ∈ wsX3_init, w.before args s = true) (hr : meth.sig.returnType = none) (hlocks : meth.locks = false) (hname : meth.name = yX3_init.name) (hA : ∀ q, s.heap.size ≤ q → A q) (hNx : ip_Nx s) : ∀ q ∈ pX3_init po, ip_snd p l e rmX3_init s m args below meth c D cA A (MQ below (ip_Q ip_Tr D cA ad0 S0 A po) args s 3 900 A) 1 (fun pc => bif Nat.ble pc 8 then (0, 0) else bif Nat.ble pc 17 then (1, 300) else bif Nat.ble pc 26 then (2, 600) else (3, 900)) ip_Tr ad0 S0 q.1 q.2 := by
  have hIn := ip_In_Tr
  have hS9 : CallFix p m c cX3_init 1 s args wsX3_init RX3 := ⟨hx, hb, hml, hown, hts⟩
  have hin3 : ∀ w ∈ u_ws RX3 TX3 3, w ∈ wsX3_init := by decide +kernel
  refine List.forall_mem_cons.mpr ⟨ip_s_aload_n hx hb dX3_init_0 rfl rfl, ?_⟩
  refine List.forall_mem_cons.mpr ⟨ip_s_oi hx hb hml hown (hts (.methodLink RX3 3 objectInit) (by decide +kernel)) (hts (.instanceMethod objectInit) (by decide +kernel)) (hts (.code objectInit ⟨#[0xb1]⟩ 1 none) (by decide +kernel)) ⟨Nat.le_of_ble_eq_true rfl, Nat.le_of_ble_eq_true rfl⟩ dX3_init_1 rfl, ?_⟩
  refine List.forall_mem_cons.mpr ⟨ip_s_aload_n hx hb dX3_init_4 rfl rfl, ?_⟩
  refine List.forall_mem_cons.mpr ⟨ip_s_sipush hx hb dX3_init_5 rfl rfl, ?_⟩
  refine List.forall_mem_cons.mpr ⟨ip_s_newi hx hb (hts (.arrayClass .int) (by decide +kernel)) hA hIn (by decide) (Nat.le_of_ble_eq_true rfl) (Nat.le_of_ble_eq_true rfl) dX3_init_8 rfl, ?_⟩
  refine List.forall_mem_cons.mpr ⟨ip_s_pRF (fty := (.array .int)) hx hb hts hin3 hown rfl (by decide) 0 (by decide) (hts (.fieldLink RX3 9 "IcePads$Sky" "cold" "[I") (by decide +kernel)) (fun _ h9 => h9) tyX3 tyX3_ok nmX3 (fun _ _ _ _ _ => trivial) rfl hname rfl rfl (by decide +kernel) (fun o => by cases o <;> exact ⟨rfl, rfl⟩) dX3_init_10 rfl, ?_⟩
  refine List.forall_mem_cons.mpr ⟨ip_s_aload_n hx hb dX3_init_13 rfl rfl, ?_⟩
  refine List.forall_mem_cons.mpr ⟨ip_s_sipush hx hb dX3_init_14 rfl rfl, ?_⟩
  refine List.forall_mem_cons.mpr ⟨ip_s_newi hx hb (hts (.arrayClass .int) (by decide +kernel)) hA hIn (by decide) (Nat.le_of_ble_eq_true rfl) (Nat.le_of_ble_eq_true rfl) dX3_init_17 rfl, ?_⟩
  refine List.forall_mem_cons.mpr ⟨ip_s_pRF (fty := (.array .int)) hx hb hts hin3 hown rfl (by decide) 1 (by decide) (hts (.fieldLink RX3 15 "IcePads$Sky" "fall" "[I") (by decide +kernel)) (fun _ h9 => h9) tyX3 tyX3_ok nmX3 (fun _ _ _ _ _ => trivial) rfl hname rfl rfl (by decide +kernel) (fun o => by cases o <;> exact ⟨rfl, rfl⟩) dX3_init_19 rfl, ?_⟩
  refine List.forall_mem_cons.mpr ⟨ip_s_aload_n hx hb dX3_init_22 rfl rfl, ?_⟩
  refine List.forall_mem_cons.mpr ⟨ip_s_sipush hx hb dX3_init_23 rfl rfl, ?_⟩
  refine List.forall_mem_cons.mpr ⟨ip_s_newz hx hb (hts (.arrayClass .boolean) (by decide +kernel)) hA hIn (by decide) (Nat.le_of_ble_eq_true rfl) (Nat.le_of_ble_eq_true rfl) dX3_init_26 rfl, ?_⟩
  refine List.forall_mem_cons.mpr ⟨ip_s_pRF (fty := (.array .boolean)) hx hb hts hin3 hown rfl (by decide) 2 (by decide) (hts (.fieldLink RX3 18 "IcePads$Sky" "told" "[Z") (by decide +kernel)) (fun _ h9 => h9) tyX3 tyX3_ok nmX3 (fun _ _ _ _ _ => trivial) rfl hname rfl rfl (by decide +kernel) (fun o => by cases o <;> exact ⟨rfl, rfl⟩) dX3_init_28 rfl, ?_⟩
  refine List.forall_mem_cons.mpr ⟨ip_s_vret hx hb hr hlocks (Nat.le_of_ble_eq_true rfl) (Nat.le_of_ble_eq_true rfl) dX3_init_31, ?_⟩
  exact fun _ h => absurd h List.not_mem_nil
set_option maxRecDepth 100000 in
set_option maxHeartbeats 4000000 in
theorem vX3_init (a : Nat) (S : ip_S) (hS : ip_Tr S) (hp : (S.2.2.2 a).1 = 3 ∧ a = 1 ∧ ∀ q, 2 ≤ q → q ≤ 4 → 10 ≤ (S.2.2.2 q).1) : ip_run (pX3_init (postX3_init [.inr (.inl (some a))] S)) (fun _ => false) (fun _ _ _ _ => False) 130 0 [some (.inr (.inl (some a)))] [] S := by
  obtain ⟨h1, rfl, hu⟩ := hp
  refine And.intro rfl (Exists.intro 2 (And.intro (hu 2 (by decide) (by decide)) (And.intro (by decide) ?_)))
  refine And.intro h1 ?_
  refine And.intro rfl (Exists.intro 3 (And.intro (hu 3 (by decide) (by decide)) (And.intro (by decide) ?_)))
  refine And.intro h1 ?_
  refine And.intro rfl (Exists.intro 4 (And.intro (hu 4 (by decide) (by decide)) (And.intro (by decide) ?_)))
  refine And.intro h1 ?_
  exact And.intro rfl rfl
theorem ctX3_init (l : Launch) : ip_CT l yX3_init wsX3_init rmX3_init ip_Tr preX3_init postX3_init := by
  refine ip_of (cc := cX3_init) (maxL := 1) (ret := none) (by decide +kernel) rfl (fun pc => bif Nat.ble pc 8 then (0, 0) else bif Nat.ble pc 17 then (1, 300) else bif Nat.ble pc 26 then (2, 600) else (3, 900)) rfl ?_ ?_
  · intro as S h
    obtain ⟨a, rfl, hq⟩ := ip_e_r h
    exact ⟨Nat.le_of_ble_eq_true rfl, by simp⟩
  intro p e s m args below meth c D cA A ad0 as S h hI hx hb hml hown hts hr hlocks hname hA hNx
  obtain ⟨a, rfl, hq⟩ := ip_e_r h
  refine ip_run_ok (stop := fun _ => false) (tX3_init hx hb hml hown hts hr hlocks hname hA hNx) (fun _ _ _ _ h => False.elim h) 130 0 _ _ S ?_
  exact vX3_init a S hI hq

/-- what X2_init() leaves -/
def ip_cX2 (S : ip_S) : ip_S :=
  let S := ip_nw S 9 (9, 5)
  let S := ip_sR S 8 0 (some 9)
  let S := ip_nw S 10 (7, 5)
  let S := ip_sR S 8 1 (some 10)
  let S := ip_nw S 11 (6, 5)
  let S := ip_sR S 8 2 (some 11)
  let S := ip_nw S 12 (6, 5)
  let S := ip_sR S 8 3 (some 12)
  S

def preX2_init : List ip_V → ip_S → Prop := ip_h_r (fun _ => False) (fun a S => (S.2.2.2 a).1 = 2 ∧ a = 8 ∧ ∀ q, 9 ≤ q → q ≤ 12 → 10 ≤ (S.2.2.2 q).1)
def postX2_init : List ip_V → ip_S → List ip_V → ip_S → Prop := ip_h_r (fun _ _ _ => True) (fun a S r S' => r = [] ∧ S' = ip_cX2 S)
theorem shX2_init : ∀ as S, ip_Tr S → preX2_init as S → ∃ (b : Nat) (as' : List ip_V), as = .inr (.inl (some b)) :: as' ∧ as'.length = 0 := by
  intro as S hI h
  obtain ⟨a, rfl, hq⟩ := ip_e_r h
  exact ⟨_, _, rfl, rfl⟩
def rmX2_init : Room := { frames := 1, cells := 4, slots := 20, locals := 40 }
def pX2_init (po : List ip_V → ip_S → Prop) : List (Nat × ip_T) := [(0, ip_t_ar 0 1), (1, ip_t_oi 4), (4, ip_t_ar 0 5), (5, ip_t_ci 5 6), (6, ip_t_newa 9 5 9), (9, ip_t_pR 2 0 12), (12, ip_t_ar 0 13), (13, ip_t_ci 5 14), (14, ip_t_newa 7 5 16), (16, ip_t_pR 2 1 19), (19, ip_t_ar 0 20), (20, ip_t_ci 5 21), (21, ip_t_newa 6 5 23), (23, ip_t_pR 2 2 26), (26, ip_t_ar 0 27), (27, ip_t_ci 5 28), (28, ip_t_newa 6 5 30), (30, ip_t_pR 2 3 33), (33, ip_t_vret po)]
set_option maxRecDepth 100000 in
set_option maxHeartbeats 4000000 in
theorem tX2_init {p : Program} {l : Launch} {e : Env} {s : State} {m : MethodId} {args : Array Value} {below : List Frame} {meth : Method} {c : Code} {D : va_G} {cA : Nat → ClassId} {A : Nat → Prop} {ad0 : Nat → Nat} {S0 : ip_S} {po : List ip_V → ip_S → Prop} (hx : p.tables.exec = Jvm.exec) (hb : c.code = cX2_init) (hml : c.maxLocals = 1) (hown : s.vm.findClass RX2 = some m.cls) (hts : ∀ w ∈ wsX2_init, w.before args s = true) (hr : meth.sig.returnType = none) (hlocks : meth.locks = false) (hname : meth.name = yX2_init.name) (hA : ∀ q, s.heap.size ≤ q → A q) (hNx : ip_Nx s) : ∀ q ∈ pX2_init po, ip_snd p l e rmX2_init s m args below meth c D cA A (MQ below (ip_Q ip_Tr D cA ad0 S0 A po) args s 4 20 A) 1 (fun pc => bif Nat.ble pc 6 then (0, 0) else bif Nat.ble pc 14 then (1, 5) else bif Nat.ble pc 21 then (2, 10) else bif Nat.ble pc 28 then (3, 15) else (4, 20)) ip_Tr ad0 S0 q.1 q.2 := by
  have hIn := ip_In_Tr
  have hS9 : CallFix p m c cX2_init 1 s args wsX2_init RX2 := ⟨hx, hb, hml, hown, hts⟩
  have hin2 : ∀ w ∈ u_ws RX2 TX2 6, w ∈ wsX2_init := by decide +kernel
  refine List.forall_mem_cons.mpr ⟨ip_s_aload_n hx hb dX2_init_0 rfl rfl, ?_⟩
  refine List.forall_mem_cons.mpr ⟨ip_s_oi hx hb hml hown (hts (.methodLink RX2 3 objectInit) (by decide +kernel)) (hts (.instanceMethod objectInit) (by decide +kernel)) (hts (.code objectInit ⟨#[0xb1]⟩ 1 none) (by decide +kernel)) ⟨Nat.le_of_ble_eq_true rfl, Nat.le_of_ble_eq_true rfl⟩ dX2_init_1 rfl, ?_⟩
  refine List.forall_mem_cons.mpr ⟨ip_s_aload_n hx hb dX2_init_4 rfl rfl, ?_⟩
  refine List.forall_mem_cons.mpr ⟨ip_s_iconst hx hb dX2_init_5 rfl rfl, ?_⟩
  refine List.forall_mem_cons.mpr ⟨ip_s_newq9 hx hb hown (hts (.classLink RX2 9 RX1) (by decide +kernel)) hNx.2.2.2.2.2 hA hIn (by decide) (Nat.le_of_ble_eq_true rfl) (Nat.le_of_ble_eq_true rfl) dX2_init_6 rfl, ?_⟩
  refine List.forall_mem_cons.mpr ⟨ip_s_pRF (fty := (.array (.object "IcePads$Jet"))) hx hb hts hin2 hown rfl (by decide) 0 (by decide) (hts (.fieldLink RX2 11 "IcePads$Planner" "waiting" "[LIcePads$Jet;") (by decide +kernel)) (fun _ h9 => h9) tyX2 tyX2_ok nmX2 (fun _ _ _ _ _ => trivial) rfl hname rfl rfl (by decide +kernel) (fun o => by cases o <;> exact ⟨rfl, rfl⟩) dX2_init_9 rfl, ?_⟩
  refine List.forall_mem_cons.mpr ⟨ip_s_aload_n hx hb dX2_init_12 rfl rfl, ?_⟩
  refine List.forall_mem_cons.mpr ⟨ip_s_iconst hx hb dX2_init_13 rfl rfl, ?_⟩
  refine List.forall_mem_cons.mpr ⟨ip_s_newz hx hb (hts (.arrayClass .boolean) (by decide +kernel)) hA hIn (by decide) (Nat.le_of_ble_eq_true rfl) (Nat.le_of_ble_eq_true rfl) dX2_init_14 rfl, ?_⟩
  refine List.forall_mem_cons.mpr ⟨ip_s_pRF (fty := (.array .boolean)) hx hb hts hin2 hown rfl (by decide) 1 (by decide) (hts (.fieldLink RX2 17 "IcePads$Planner" "placed" "[Z") (by decide +kernel)) (fun _ h9 => h9) tyX2 tyX2_ok nmX2 (fun _ _ _ _ _ => trivial) rfl hname rfl rfl (by decide +kernel) (fun o => by cases o <;> exact ⟨rfl, rfl⟩) dX2_init_16 rfl, ?_⟩
  refine List.forall_mem_cons.mpr ⟨ip_s_aload_n hx hb dX2_init_19 rfl rfl, ?_⟩
  refine List.forall_mem_cons.mpr ⟨ip_s_iconst hx hb dX2_init_20 rfl rfl, ?_⟩
  refine List.forall_mem_cons.mpr ⟨ip_s_newi hx hb (hts (.arrayClass .int) (by decide +kernel)) hA hIn (by decide) (Nat.le_of_ble_eq_true rfl) (Nat.le_of_ble_eq_true rfl) dX2_init_21 rfl, ?_⟩
  refine List.forall_mem_cons.mpr ⟨ip_s_pRF (fty := (.array .int)) hx hb hts hin2 hown rfl (by decide) 2 (by decide) (hts (.fieldLink RX2 21 "IcePads$Planner" "order" "[I") (by decide +kernel)) (fun _ h9 => h9) tyX2 tyX2_ok nmX2 (fun _ _ _ _ _ => trivial) rfl hname rfl rfl (by decide +kernel) (fun o => by cases o <;> exact ⟨rfl, rfl⟩) dX2_init_23 rfl, ?_⟩
  refine List.forall_mem_cons.mpr ⟨ip_s_aload_n hx hb dX2_init_26 rfl rfl, ?_⟩
  refine List.forall_mem_cons.mpr ⟨ip_s_iconst hx hb dX2_init_27 rfl rfl, ?_⟩
  refine List.forall_mem_cons.mpr ⟨ip_s_newi hx hb (hts (.arrayClass .int) (by decide +kernel)) hA hIn (by decide) (Nat.le_of_ble_eq_true rfl) (Nat.le_of_ble_eq_true rfl) dX2_init_28 rfl, ?_⟩
  refine List.forall_mem_cons.mpr ⟨ip_s_pRF (fty := (.array .int)) hx hb hts hin2 hown rfl (by decide) 3 (by decide) (hts (.fieldLink RX2 25 "IcePads$Planner" "best" "[I") (by decide +kernel)) (fun _ h9 => h9) tyX2 tyX2_ok nmX2 (fun _ _ _ _ _ => trivial) rfl hname rfl rfl (by decide +kernel) (fun o => by cases o <;> exact ⟨rfl, rfl⟩) dX2_init_30 rfl, ?_⟩
  refine List.forall_mem_cons.mpr ⟨ip_s_vret hx hb hr hlocks (Nat.le_of_ble_eq_true rfl) (Nat.le_of_ble_eq_true rfl) dX2_init_33, ?_⟩
  exact fun _ h => absurd h List.not_mem_nil
set_option maxRecDepth 100000 in
set_option maxHeartbeats 4000000 in
theorem vX2_init (a : Nat) (S : ip_S) (hS : ip_Tr S) (hp : (S.2.2.2 a).1 = 2 ∧ a = 8 ∧ ∀ q, 9 ≤ q → q ≤ 12 → 10 ≤ (S.2.2.2 q).1) : ip_run (pX2_init (postX2_init [.inr (.inl (some a))] S)) (fun _ => false) (fun _ _ _ _ => False) 130 0 [some (.inr (.inl (some a)))] [] S := by
  obtain ⟨h1, rfl, hu⟩ := hp
  refine And.intro rfl (Exists.intro 9 (And.intro (hu 9 (by decide) (by decide)) (And.intro (by decide) ?_)))
  refine And.intro h1 ?_
  refine And.intro rfl (Exists.intro 10 (And.intro (hu 10 (by decide) (by decide)) (And.intro (by decide) ?_)))
  refine And.intro h1 ?_
  refine And.intro rfl (Exists.intro 11 (And.intro (hu 11 (by decide) (by decide)) (And.intro (by decide) ?_)))
  refine And.intro h1 ?_
  refine And.intro rfl (Exists.intro 12 (And.intro (hu 12 (by decide) (by decide)) (And.intro (by decide) ?_)))
  refine And.intro h1 ?_
  exact And.intro rfl rfl
theorem ctX2_init (l : Launch) : ip_CT l yX2_init wsX2_init rmX2_init ip_Tr preX2_init postX2_init := by
  refine ip_of (cc := cX2_init) (maxL := 1) (ret := none) (by decide +kernel) rfl (fun pc => bif Nat.ble pc 6 then (0, 0) else bif Nat.ble pc 14 then (1, 5) else bif Nat.ble pc 21 then (2, 10) else bif Nat.ble pc 28 then (3, 15) else (4, 20)) rfl ?_ ?_
  · intro as S h
    obtain ⟨a, rfl, hq⟩ := ip_e_r h
    exact ⟨Nat.le_of_ble_eq_true rfl, by simp⟩
  intro p e s m args below meth c D cA A ad0 as S h hI hx hb hml hown hts hr hlocks hname hA hNx
  obtain ⟨a, rfl, hq⟩ := ip_e_r h
  refine ip_run_ok (stop := fun _ => false) (tX2_init hx hb hml hown hts hr hlocks hname hA hNx) (fun _ _ _ _ h => False.elim h) 130 0 _ _ S ?_
  exact vX2_init a S hI hq

/-- what X4_init() leaves -/
def ip_cX4 (S : ip_S) : ip_S :=
  let S := ip_nw S 1 (3, 0)
  let S := ip_cX3 S
  let S := ip_sR S 0 0 (some 1)
  let S := ip_nw S 5 (8, 4)
  let S := ip_sR S 0 1 (some 5)
  let S := ip_nw S 6 (9, 12)
  let S := ip_sR S 0 3 (some 6)
  let S := ip_nw S 7 (9, 3)
  let S := ip_sR S 0 5 (some 7)
  let S := ip_nw S 8 (2, 0)
  let S := ip_cX2 S
  let S := ip_sR S 0 7 (some 8)
  let S := ip_sI S 0 6 1
  let S := ip_sI S 0 9 200
  let S := ip_sI S 0 10 5
  S

def preX4_init : List ip_V → ip_S → Prop := ip_h_r (fun _ => False) (fun a S => (S.2.2.2 a).1 = 4 ∧ a = 0 ∧ ∀ q, 1 ≤ q → q ≤ 12 → 10 ≤ (S.2.2.2 q).1)
def postX4_init : List ip_V → ip_S → List ip_V → ip_S → Prop := ip_h_r (fun _ _ _ => True) (fun a S r S' => r = [] ∧ S' = ip_cX4 S)
theorem shX4_init : ∀ as S, ip_Tr S → preX4_init as S → ∃ (b : Nat) (as' : List ip_V), as = .inr (.inl (some b)) :: as' ∧ as'.length = 0 := by
  intro as S hI h
  obtain ⟨a, rfl, hq⟩ := ip_e_r h
  exact ⟨_, _, rfl, rfl⟩
def rmX4_init : Room := { frames := 2, cells := 12, slots := 948, locals := 80 }
def pX4_init (po : List ip_V → ip_S → Prop) : List (Nat × ip_T) := [(0, ip_t_ar 0 1), (1, ip_t_oi 4), (4, ip_t_ar 0 5), (5, ip_t_new 3 8), (8, ip_t_dup 9), (9, ip_t_call 1 preX3_init postX3_init 12), (12, ip_t_pR 4 0 15), (15, ip_t_ar 0 16), (16, ip_t_ci 4 17), (17, ip_t_newa 8 4 20), (20, ip_t_pR 4 1 23), (23, ip_t_ar 0 24), (24, ip_t_ci 12 26), (26, ip_t_newa 9 12 29), (29, ip_t_pR 4 3 32), (32, ip_t_ar 0 33), (33, ip_t_ci 3 34), (34, ip_t_newa 9 3 37), (37, ip_t_pR 4 5 40), (40, ip_t_ar 0 41), (41, ip_t_new 2 44), (44, ip_t_dup 45), (45, ip_t_call 1 preX2_init postX2_init 48), (48, ip_t_pR 4 7 51), (51, ip_t_ar 0 52), (52, ip_t_ci 1 53), (53, ip_t_pI 4 6 56), (56, ip_t_ar 0 57), (57, ip_t_ci 200 60), (60, ip_t_pI 4 9 63), (63, ip_t_ar 0 64), (64, ip_t_ci 5 65), (65, ip_t_pI 4 10 68), (68, ip_t_vret po)]
set_option maxRecDepth 100000 in
set_option maxHeartbeats 4000000 in
theorem tX4_init {p : Program} {l : Launch} {e : Env} {s : State} {m : MethodId} {args : Array Value} {below : List Frame} {meth : Method} {c : Code} {D : va_G} {cA : Nat → ClassId} {A : Nat → Prop} {ad0 : Nat → Nat} {S0 : ip_S} {po : List ip_V → ip_S → Prop} (hx : p.tables.exec = Jvm.exec) (hb : c.code = cX4_init) (hml : c.maxLocals = 1) (hown : s.vm.findClass RX4 = some m.cls) (hts : ∀ w ∈ wsX4_init, w.before args s = true) (hr : meth.sig.returnType = none) (hlocks : meth.locks = false) (hname : meth.name = yX4_init.name) (hA : ∀ q, s.heap.size ≤ q → A q) (hNx : ip_Nx s) : ∀ q ∈ pX4_init po, ip_snd p l e rmX4_init s m args below meth c D cA A (MQ below (ip_Q ip_Tr D cA ad0 S0 A po) args s 12 948 A) 1 (fun pc => bif Nat.ble pc 5 then (0, 0) else bif Nat.ble pc 9 then (1, 3) else bif Nat.ble pc 17 then (4, 903) else bif Nat.ble pc 26 then (5, 907) else bif Nat.ble pc 34 then (6, 919) else bif Nat.ble pc 41 then (7, 922) else bif Nat.ble pc 45 then (8, 928) else (12, 948)) ip_Tr ad0 S0 q.1 q.2 := by
  have hIn := ip_In_Tr
  have hS9 : CallFix p m c cX4_init 1 s args wsX4_init RX4 := ⟨hx, hb, hml, hown, hts⟩
  have hin2 : ∀ w ∈ u_ws RX2 TX2 6, w ∈ wsX4_init := by decide +kernel
  have hin3 : ∀ w ∈ u_ws RX3 TX3 3, w ∈ wsX4_init := by decide +kernel
  have hin4 : ∀ w ∈ u_ws RX4 TX4 14, w ∈ wsX4_init := by decide +kernel
  refine List.forall_mem_cons.mpr ⟨ip_s_aload_n hx hb dX4_init_0 rfl rfl, ?_⟩
  refine List.forall_mem_cons.mpr ⟨ip_s_oi hx hb hml hown (hts (.methodLink RX4 1 objectInit) (by decide +kernel)) (hts (.instanceMethod objectInit) (by decide +kernel)) (hts (.code objectInit ⟨#[0xb1]⟩ 1 none) (by decide +kernel)) ⟨Nat.le_of_ble_eq_true rfl, Nat.le_of_ble_eq_true rfl⟩ dX4_init_1 rfl, ?_⟩
  refine List.forall_mem_cons.mpr ⟨ip_s_aload_n hx hb dX4_init_4 rfl rfl, ?_⟩
  refine List.forall_mem_cons.mpr ⟨ip_s_new hx hb hts hin3 tyX3 tyX3_ok hown (hts (.classLink RX4 7 RX3) (by decide +kernel)) (hts (.instantiable RX3 3) (by decide +kernel)) (hts (.initialized RX3) (by decide +kernel)) hA hIn rfl (by decide) ip_df3 (Nat.le_of_ble_eq_true rfl) (Nat.le_of_ble_eq_true rfl) dX4_init_5 rfl, ?_⟩
  refine List.forall_mem_cons.mpr ⟨ip_s_dup hx hb dX4_init_8 rfl, ?_⟩
  refine List.forall_mem_cons.mpr ⟨ip_s_callIN hNx hS9 (ctX3_init l) ⟨va_cnB 0 hts gX4_init_X3_init_n9 rfl rfl rfl hNx.2.1 (hts (.initialized RX3) (by decide +kernel)) (by decide +kernel) ⟨Nat.le_of_ble_eq_true rfl, Nat.le_of_ble_eq_true rfl⟩, rfl, hts (.instanceMethod yX3_init) (by decide +kernel)⟩ (fun as S hI h => shX3_init as S hI h) hA dX4_init_9 ⟨Nat.le_of_ble_eq_true rfl, Nat.le_of_ble_eq_true rfl⟩ rfl, ?_⟩
  refine List.forall_mem_cons.mpr ⟨ip_s_pRF (fty := (.object "IcePads$Sky")) hx hb hts hin4 hown rfl (by decide) 0 (by decide) (hts (.fieldLink RX4 10 "IcePads" "sky" "LIcePads$Sky;") (by decide +kernel)) (fun _ h9 => h9) tyX4 tyX4_ok nmX4 (fun _ _ _ _ _ => trivial) rfl hname rfl rfl (by decide +kernel) (fun o => by cases o <;> exact ⟨rfl, rfl⟩) dX4_init_12 rfl, ?_⟩
  refine List.forall_mem_cons.mpr ⟨ip_s_aload_n hx hb dX4_init_15 rfl rfl, ?_⟩
  refine List.forall_mem_cons.mpr ⟨ip_s_iconst hx hb dX4_init_16 rfl rfl, ?_⟩
  refine List.forall_mem_cons.mpr ⟨ip_s_newq8 hx hb hown (hts (.classLink RX4 16 RX0) (by decide +kernel)) hNx.2.2.2.2.1 hA hIn (by decide) (Nat.le_of_ble_eq_true rfl) (Nat.le_of_ble_eq_true rfl) dX4_init_17 rfl, ?_⟩
  refine List.forall_mem_cons.mpr ⟨ip_s_pRF (fty := (.array (.object "IcePads$Fluid"))) hx hb hts hin4 hown rfl (by decide) 1 (by decide) (hts (.fieldLink RX4 18 "IcePads" "fluids" "[LIcePads$Fluid;") (by decide +kernel)) (fun _ h9 => h9) tyX4 tyX4_ok nmX4 (fun _ _ _ _ _ => trivial) rfl hname rfl rfl (by decide +kernel) (fun o => by cases o <;> exact ⟨rfl, rfl⟩) dX4_init_20 rfl, ?_⟩
  refine List.forall_mem_cons.mpr ⟨ip_s_aload_n hx hb dX4_init_23 rfl rfl, ?_⟩
  refine List.forall_mem_cons.mpr ⟨ip_s_bipush hx hb dX4_init_24 rfl rfl, ?_⟩
  refine List.forall_mem_cons.mpr ⟨ip_s_newq9 hx hb hown (hts (.classLink RX4 22 RX1) (by decide +kernel)) hNx.2.2.2.2.2 hA hIn (by decide) (Nat.le_of_ble_eq_true rfl) (Nat.le_of_ble_eq_true rfl) dX4_init_26 rfl, ?_⟩
  refine List.forall_mem_cons.mpr ⟨ip_s_pRF (fty := (.array (.object "IcePads$Jet"))) hx hb hts hin4 hown rfl (by decide) 3 (by decide) (hts (.fieldLink RX4 24 "IcePads" "jets" "[LIcePads$Jet;") (by decide +kernel)) (fun _ h9 => h9) tyX4 tyX4_ok nmX4 (fun _ _ _ _ _ => trivial) rfl hname rfl rfl (by decide +kernel) (fun o => by cases o <;> exact ⟨rfl, rfl⟩) dX4_init_29 rfl, ?_⟩
  refine List.forall_mem_cons.mpr ⟨ip_s_aload_n hx hb dX4_init_32 rfl rfl, ?_⟩
  refine List.forall_mem_cons.mpr ⟨ip_s_iconst hx hb dX4_init_33 rfl rfl, ?_⟩
  refine List.forall_mem_cons.mpr ⟨ip_s_newq9 hx hb hown (hts (.classLink RX4 22 RX1) (by decide +kernel)) hNx.2.2.2.2.2 hA hIn (by decide) (Nat.le_of_ble_eq_true rfl) (Nat.le_of_ble_eq_true rfl) dX4_init_34 rfl, ?_⟩
  refine List.forall_mem_cons.mpr ⟨ip_s_pRF (fty := (.array (.object "IcePads$Jet"))) hx hb hts hin4 hown rfl (by decide) 5 (by decide) (hts (.fieldLink RX4 28 "IcePads" "pads" "[LIcePads$Jet;") (by decide +kernel)) (fun _ h9 => h9) tyX4 tyX4_ok nmX4 (fun _ _ _ _ _ => trivial) rfl hname rfl rfl (by decide +kernel) (fun o => by cases o <;> exact ⟨rfl, rfl⟩) dX4_init_37 rfl, ?_⟩
  refine List.forall_mem_cons.mpr ⟨ip_s_aload_n hx hb dX4_init_40 rfl rfl, ?_⟩
  refine List.forall_mem_cons.mpr ⟨ip_s_new hx hb hts hin2 tyX2 tyX2_ok hown (hts (.classLink RX4 31 RX2) (by decide +kernel)) (hts (.instantiable RX2 6) (by decide +kernel)) (hts (.initialized RX2) (by decide +kernel)) hA hIn rfl (by decide) ip_df2 (Nat.le_of_ble_eq_true rfl) (Nat.le_of_ble_eq_true rfl) dX4_init_41 rfl, ?_⟩
  refine List.forall_mem_cons.mpr ⟨ip_s_dup hx hb dX4_init_44 rfl, ?_⟩
  refine List.forall_mem_cons.mpr ⟨ip_s_callIN hNx hS9 (ctX2_init l) ⟨va_cnB 0 hts gX4_init_X2_init_n33 rfl rfl rfl hNx.1 (hts (.initialized RX2) (by decide +kernel)) (by decide +kernel) ⟨Nat.le_of_ble_eq_true rfl, Nat.le_of_ble_eq_true rfl⟩, rfl, hts (.instanceMethod yX2_init) (by decide +kernel)⟩ (fun as S hI h => shX2_init as S hI h) hA dX4_init_45 ⟨Nat.le_of_ble_eq_true rfl, Nat.le_of_ble_eq_true rfl⟩ rfl, ?_⟩
  refine List.forall_mem_cons.mpr ⟨ip_s_pRF (fty := (.object "IcePads$Planner")) hx hb hts hin4 hown rfl (by decide) 7 (by decide) (hts (.fieldLink RX4 34 "IcePads" "planner" "LIcePads$Planner;") (by decide +kernel)) (fun _ h9 => h9) tyX4 tyX4_ok nmX4 (fun _ _ _ _ _ => trivial) rfl hname rfl rfl (by decide +kernel) (fun o => by cases o <;> exact ⟨rfl, rfl⟩) dX4_init_48 rfl, ?_⟩
  refine List.forall_mem_cons.mpr ⟨ip_s_aload_n hx hb dX4_init_51 rfl rfl, ?_⟩
  refine List.forall_mem_cons.mpr ⟨ip_s_iconst hx hb dX4_init_52 rfl rfl, ?_⟩
  refine List.forall_mem_cons.mpr ⟨ip_s_pI hx hb hts hin4 hown rfl (by decide) 6 (by decide) (hts (.fieldLink RX4 38 "IcePads" "padCount" "I") (by decide +kernel)) (fun _ h9 => h9) tyX4 tyX4_ok nmX4 hIn rfl rfl (by decide +kernel) dX4_init_53 rfl, ?_⟩
  refine List.forall_mem_cons.mpr ⟨ip_s_aload_n hx hb dX4_init_56 rfl rfl, ?_⟩
  refine List.forall_mem_cons.mpr ⟨ip_s_sipush hx hb dX4_init_57 rfl rfl, ?_⟩
  refine List.forall_mem_cons.mpr ⟨ip_s_pI hx hb hts hin4 hown rfl (by decide) 9 (by decide) (hts (.fieldLink RX4 42 "IcePads" "limit" "I") (by decide +kernel)) (fun _ h9 => h9) tyX4 tyX4_ok nmX4 hIn rfl rfl (by decide +kernel) dX4_init_60 rfl, ?_⟩
  refine List.forall_mem_cons.mpr ⟨ip_s_aload_n hx hb dX4_init_63 rfl rfl, ?_⟩
  refine List.forall_mem_cons.mpr ⟨ip_s_iconst hx hb dX4_init_64 rfl rfl, ?_⟩
  refine List.forall_mem_cons.mpr ⟨ip_s_pI hx hb hts hin4 hown rfl (by decide) 10 (by decide) (hts (.fieldLink RX4 45 "IcePads" "rate" "I") (by decide +kernel)) (fun _ h9 => h9) tyX4 tyX4_ok nmX4 hIn rfl rfl (by decide +kernel) dX4_init_65 rfl, ?_⟩
  refine List.forall_mem_cons.mpr ⟨ip_s_vret hx hb hr hlocks (Nat.le_of_ble_eq_true rfl) (Nat.le_of_ble_eq_true rfl) dX4_init_68, ?_⟩
  exact fun _ h => absurd h List.not_mem_nil
set_option maxRecDepth 100000 in
set_option maxHeartbeats 4000000 in
theorem vX4_init (a : Nat) (S : ip_S) (hS : ip_Tr S) (hp : (S.2.2.2 a).1 = 4 ∧ a = 0 ∧ ∀ q, 1 ≤ q → q ≤ 12 → 10 ≤ (S.2.2.2 q).1) : ip_run (pX4_init (postX4_init [.inr (.inl (some a))] S)) (fun _ => false) (fun _ _ _ _ => False) 130 0 [some (.inr (.inl (some a)))] [] S := by
  obtain ⟨h1, rfl, hu⟩ := hp
  refine Exists.intro 1 (And.intro (hu 1 (by decide) (by decide)) (And.intro (by decide) ?_))
  refine And.intro (And.intro rfl (And.intro rfl (fun q h2 h3 => by rcases (show q = 2 ∨ q = 3 ∨ q = 4 by omega) with rfl | rfl | rfl <;> exact hu _ (by decide) (by decide)))) ?_
  rintro r S' ⟨rfl, rfl⟩
  refine And.intro h1 ?_
  refine And.intro rfl (Exists.intro 5 (And.intro (hu 5 (by decide) (by decide)) (And.intro (by decide) ?_)))
  refine And.intro h1 ?_
  refine And.intro rfl (Exists.intro 6 (And.intro (hu 6 (by decide) (by decide)) (And.intro (by decide) ?_)))
  refine And.intro h1 ?_
  refine And.intro rfl (Exists.intro 7 (And.intro (hu 7 (by decide) (by decide)) (And.intro (by decide) ?_)))
  refine And.intro h1 ?_
  refine Exists.intro 8 (And.intro (hu 8 (by decide) (by decide)) (And.intro (by decide) ?_))
  refine And.intro (And.intro rfl (And.intro rfl (fun q h2 h3 => by rcases (show q = 9 ∨ q = 10 ∨ q = 11 ∨ q = 12 by omega) with rfl | rfl | rfl | rfl <;> exact hu _ (by decide) (by decide)))) ?_
  rintro r S' ⟨rfl, rfl⟩
  refine And.intro h1 ?_
  refine And.intro h1 ?_
  refine And.intro h1 ?_
  refine And.intro h1 ?_
  exact And.intro rfl rfl
theorem ctX4_init (l : Launch) : ip_CT l yX4_init wsX4_init rmX4_init ip_Tr preX4_init postX4_init := by
  refine ip_of (cc := cX4_init) (maxL := 1) (ret := none) (by decide +kernel) rfl (fun pc => bif Nat.ble pc 5 then (0, 0) else bif Nat.ble pc 9 then (1, 3) else bif Nat.ble pc 17 then (4, 903) else bif Nat.ble pc 26 then (5, 907) else bif Nat.ble pc 34 then (6, 919) else bif Nat.ble pc 41 then (7, 922) else bif Nat.ble pc 45 then (8, 928) else (12, 948)) rfl ?_ ?_
  · intro as S h
    obtain ⟨a, rfl, hq⟩ := ip_e_r h
    exact ⟨Nat.le_of_ble_eq_true rfl, by simp⟩
  intro p e s m args below meth c D cA A ad0 as S h hI hx hb hml hown hts hr hlocks hname hA hNx
  obtain ⟨a, rfl, hq⟩ := ip_e_r h
  refine ip_run_ok (stop := fun _ => false) (tX4_init hx hb hml hown hts hr hlocks hname hA hNx) (fun _ _ _ _ h => False.elim h) 130 0 _ _ S ?_
  exact vX4_init a S hI hq

/-- what X5_init() leaves -/
def ip_cX5 (S : ip_S) : ip_S :=
  let S := ip_nw S 51 (7, 300)
  let S := ip_sR S 50 1 (some 51)
  let S := ip_nw S 52 (6, 300)
  let S := ip_sR S 50 2 (some 52)
  let S := ip_nw S 53 (6, 300)
  let S := ip_sR S 50 3 (some 53)
  let S := ip_nw S 55 (6, 4)
  let S := ip_sR S 50 5 (some 55)
  let S := ip_nw S 56 (6, 16)
  let S := ip_sR S 50 6 (some 56)
  let S := ip_nw S 57 (6, 4)
  let S := ip_sR S 50 7 (some 57)
  let S := ip_nw S 58 (6, 4)
  let S := ip_sR S 50 8 (some 58)
  let S := ip_nw S 59 (6, 4)
  let S := ip_sR S 50 9 (some 59)
  let S := ip_sI S 50 10 1
  let S := ip_sI S 50 11 200
  let S := ip_sI S 50 12 5
  let S := ip_nw S 64 (6, 3)
  let S := ip_sR S 50 14 (some 64)
  let S := ip_nw S 66 (6, 12)
  let S := ip_sR S 50 16 (some 66)
  let S := ip_nw S 67 (6, 12)
  let S := ip_sR S 50 17 (some 67)
  let S := ip_nw S 68 (6, 12)
  let S := ip_sR S 50 18 (some 68)
  let S := ip_nw S 69 (6, 12)
  let S := ip_sR S 50 19 (some 69)
  let S := ip_nw S 70 (6, 12)
  let S := ip_sR S 50 20 (some 70)
  let S := ip_nw S 71 (6, 12)
  let S := ip_sR S 50 21 (some 71)
  let S := ip_nw S 72 (6, 12)
  let S := ip_sR S 50 22 (some 72)
  let S := ip_nw S 73 (6, 12)
  let S := ip_sR S 50 23 (some 73)
  let S := ip_nw S 74 (6, 12)
  let S := ip_sR S 50 24 (some 74)
  let S := ip_nw S 75 (6, 12)
  let S := ip_sR S 50 25 (some 75)
  let S := ip_nw S 79 (6, 5)
  let S := ip_sR S 50 29 (some 79)
  let S := ip_nw S 80 (6, 5)
  let S := ip_sR S 50 30 (some 80)
  let S := ip_nw S 81 (6, 5)
  let S := ip_sR S 50 31 (some 81)
  let S := ip_sI S 50 0 0
  S

def preX5_init : List ip_V → ip_S → Prop := ip_h_r (fun _ => False) (fun a S => (S.2.2.2 a).1 = 5 ∧ a = 50 ∧ ∀ q, 51 ≤ q → q ≤ 81 → 10 ≤ (S.2.2.2 q).1)
def postX5_init : List ip_V → ip_S → List ip_V → ip_S → Prop := ip_h_r (fun _ _ _ => True) (fun a S r S' => r = [] ∧ S' = ip_cX5 S)
theorem shX5_init : ∀ as S, ip_Tr S → preX5_init as S → ∃ (b : Nat) (as' : List ip_V), as = .inr (.inl (some b)) :: as' ∧ as'.length = 0 := by
  intro as S hI h
  obtain ⟨a, rfl, hq⟩ := ip_e_r h
  exact ⟨_, _, rfl, rfl⟩
def rmX5_init : Room := { frames := 1, cells := 22, slots := 1070, locals := 40 }
def pX5_init (po : List ip_V → ip_S → Prop) : List (Nat × ip_T) := [(0, ip_t_ar 0 1), (1, ip_t_oi 4), (4, ip_t_ar 0 5), (5, ip_t_ci 300 8), (8, ip_t_newa 7 300 10), (10, ip_t_pR 5 1 13), (13, ip_t_ar 0 14), (14, ip_t_ci 300 17), (17, ip_t_newa 6 300 19), (19, ip_t_pR 5 2 22), (22, ip_t_ar 0 23), (23, ip_t_ci 300 26), (26, ip_t_newa 6 300 28), (28, ip_t_pR 5 3 31), (31, ip_t_ar 0 32), (32, ip_t_ci 4 33), (33, ip_t_newa 6 4 35), (35, ip_t_pR 5 5 38), (38, ip_t_ar 0 39), (39, ip_t_ci 16 41), (41, ip_t_newa 6 16 43), (43, ip_t_pR 5 6 46), (46, ip_t_ar 0 47), (47, ip_t_ci 4 48), (48, ip_t_newa 6 4 50), (50, ip_t_pR 5 7 53), (53, ip_t_ar 0 54), (54, ip_t_ci 4 55), (55, ip_t_newa 6 4 57), (57, ip_t_pR 5 8 60), (60, ip_t_ar 0 61), (61, ip_t_ci 4 62), (62, ip_t_newa 6 4 64), (64, ip_t_pR 5 9 67), (67, ip_t_ar 0 68), (68, ip_t_ci 1 69), (69, ip_t_pI 5 10 72), (72, ip_t_ar 0 73), (73, ip_t_ci 200 76), (76, ip_t_pI 5 11 79), (79, ip_t_ar 0 80), (80, ip_t_ci 5 81), (81, ip_t_pI 5 12 84), (84, ip_t_ar 0 85), (85, ip_t_ci 3 86), (86, ip_t_newa 6 3 88), (88, ip_t_pR 5 14 91), (91, ip_t_ar 0 92), (92, ip_t_ci 12 94), (94, ip_t_newa 6 12 96), (96, ip_t_pR 5 16 99), (99, ip_t_ar 0 100), (100, ip_t_ci 12 102), (102, ip_t_newa 6 12 104), (104, ip_t_pR 5 17 107), (107, ip_t_ar 0 108), (108, ip_t_ci 12 110), (110, ip_t_newa 6 12 112), (112, ip_t_pR 5 18 115), (115, ip_t_ar 0 116), (116, ip_t_ci 12 118), (118, ip_t_newa 6 12 120), (120, ip_t_pR 5 19 123), (123, ip_t_ar 0 124), (124, ip_t_ci 12 126), (126, ip_t_newa 6 12 128), (128, ip_t_pR 5 20 131), (131, ip_t_ar 0 132), (132, ip_t_ci 12 134), (134, ip_t_newa 6 12 136), (136, ip_t_pR 5 21 139), (139, ip_t_ar 0 140), (140, ip_t_ci 12 142), (142, ip_t_newa 6 12 144), (144, ip_t_pR 5 22 147), (147, ip_t_ar 0 148), (148, ip_t_ci 12 150), (150, ip_t_newa 6 12 152), (152, ip_t_pR 5 23 155), (155, ip_t_ar 0 156), (156, ip_t_ci 12 158), (158, ip_t_newa 6 12 160), (160, ip_t_pR 5 24 163), (163, ip_t_ar 0 164), (164, ip_t_ci 12 166), (166, ip_t_newa 6 12 168), (168, ip_t_pR 5 25 171), (171, ip_t_ar 0 172), (172, ip_t_ci 5 173), (173, ip_t_newa 6 5 175), (175, ip_t_pR 5 29 178), (178, ip_t_ar 0 179), (179, ip_t_ci 5 180), (180, ip_t_newa 6 5 182), (182, ip_t_pR 5 30 185), (185, ip_t_ar 0 186), (186, ip_t_ci 5 187), (187, ip_t_newa 6 5 189), (189, ip_t_pR 5 31 192), (192, ip_t_ar 0 193), (193, ip_t_ci 0 194), (194, ip_t_pI 5 0 197), (197, ip_t_vret po)]
set_option maxRecDepth 100000 in
set_option maxHeartbeats 4000000 in
theorem tX5_init {p : Program} {l : Launch} {e : Env} {s : State} {m : MethodId} {args : Array Value} {below : List Frame} {meth : Method} {c : Code} {D : va_G} {cA : Nat → ClassId} {A : Nat → Prop} {ad0 : Nat → Nat} {S0 : ip_S} {po : List ip_V → ip_S → Prop} (hx : p.tables.exec = Jvm.exec) (hb : c.code = cX5_init) (hml : c.maxLocals = 1) (hown : s.vm.findClass RX5 = some m.cls) (hts : ∀ w ∈ wsX5_init, w.before args s = true) (hr : meth.sig.returnType = none) (hlocks : meth.locks = false) (hname : meth.name = yX5_init.name) (hA : ∀ q, s.heap.size ≤ q → A q) (hNx : ip_Nx s) : ∀ q ∈ pX5_init po, ip_snd p l e rmX5_init s m args below meth c D cA A (MQ below (ip_Q ip_Tr D cA ad0 S0 A po) args s 22 1070 A) 1 (fun pc => bif Nat.ble pc 8 then (0, 0) else bif Nat.ble pc 17 then (1, 300) else bif Nat.ble pc 26 then (2, 600) else bif Nat.ble pc 33 then (3, 900) else bif Nat.ble pc 41 then (4, 904) else bif Nat.ble pc 48 then (5, 920) else bif Nat.ble pc 55 then (6, 924) else bif Nat.ble pc 62 then (7, 928) else bif Nat.ble pc 86 then (8, 932) else bif Nat.ble pc 94 then (9, 935) else bif Nat.ble pc 102 then (10, 947) else bif Nat.ble pc 110 then (11, 959) else bif Nat.ble pc 118 then (12, 971) else bif Nat.ble pc 126 then (13, 983) else bif Nat.ble pc 134 then (14, 995) else bif Nat.ble pc 142 then (15, 1007) else bif Nat.ble pc 150 then (16, 1019) else bif Nat.ble pc 158 then (17, 1031) else bif Nat.ble pc 166 then (18, 1043) else bif Nat.ble pc 173 then (19, 1055) else bif Nat.ble pc 180 then (20, 1060) else bif Nat.ble pc 187 then (21, 1065) else (22, 1070)) ip_Tr ad0 S0 q.1 q.2 := by
  have hIn := ip_In_Tr
  have hS9 : CallFix p m c cX5_init 1 s args wsX5_init RX5 := ⟨hx, hb, hml, hown, hts⟩
  have hin5 : ∀ w ∈ u_ws RX5 TX5 32, w ∈ wsX5_init := by decide +kernel
  refine List.forall_mem_cons.mpr ⟨ip_s_aload_n hx hb dX5_init_0 rfl rfl, ?_⟩
  refine List.forall_mem_cons.mpr ⟨ip_s_oi hx hb hml hown (hts (.methodLink RX5 1 objectInit) (by decide +kernel)) (hts (.instanceMethod objectInit) (by decide +kernel)) (hts (.code objectInit ⟨#[0xb1]⟩ 1 none) (by decide +kernel)) ⟨Nat.le_of_ble_eq_true rfl, Nat.le_of_ble_eq_true rfl⟩ dX5_init_1 rfl, ?_⟩
  refine List.forall_mem_cons.mpr ⟨ip_s_aload_n hx hb dX5_init_4 rfl rfl, ?_⟩
  refine List.forall_mem_cons.mpr ⟨ip_s_sipush hx hb dX5_init_5 rfl rfl, ?_⟩
  refine List.forall_mem_cons.mpr ⟨ip_s_newz hx hb (hts (.arrayClass .boolean) (by decide +kernel)) hA hIn (by decide) (Nat.le_of_ble_eq_true rfl) (Nat.le_of_ble_eq_true rfl) dX5_init_8 rfl, ?_⟩
  refine List.forall_mem_cons.mpr ⟨ip_s_pRF (fty := (.array .boolean)) hx hb hts hin5 hown rfl (by decide) 1 (by decide) (hts (.fieldLink RX5 7 "IcePadsModel" "isTold" "[Z") (by decide +kernel)) (fun _ h9 => h9) tyX5 tyX5_ok nmX5 (fun _ _ _ _ _ => trivial) rfl hname rfl rfl (by decide +kernel) (fun o => by cases o <;> exact ⟨rfl, rfl⟩) dX5_init_10 rfl, ?_⟩
  refine List.forall_mem_cons.mpr ⟨ip_s_aload_n hx hb dX5_init_13 rfl rfl, ?_⟩
  refine List.forall_mem_cons.mpr ⟨ip_s_sipush hx hb dX5_init_14 rfl rfl, ?_⟩
  refine List.forall_mem_cons.mpr ⟨ip_s_newi hx hb (hts (.arrayClass .int) (by decide +kernel)) hA hIn (by decide) (Nat.le_of_ble_eq_true rfl) (Nat.le_of_ble_eq_true rfl) dX5_init_17 rfl, ?_⟩
  refine List.forall_mem_cons.mpr ⟨ip_s_pRF (fty := (.array .int)) hx hb hts hin5 hown rfl (by decide) 2 (by decide) (hts (.fieldLink RX5 13 "IcePadsModel" "cold" "[I") (by decide +kernel)) (fun _ h9 => h9) tyX5 tyX5_ok nmX5 (fun _ _ _ _ _ => trivial) rfl hname rfl rfl (by decide +kernel) (fun o => by cases o <;> exact ⟨rfl, rfl⟩) dX5_init_19 rfl, ?_⟩
  refine List.forall_mem_cons.mpr ⟨ip_s_aload_n hx hb dX5_init_22 rfl rfl, ?_⟩
  refine List.forall_mem_cons.mpr ⟨ip_s_sipush hx hb dX5_init_23 rfl rfl, ?_⟩
  refine List.forall_mem_cons.mpr ⟨ip_s_newi hx hb (hts (.arrayClass .int) (by decide +kernel)) hA hIn (by decide) (Nat.le_of_ble_eq_true rfl) (Nat.le_of_ble_eq_true rfl) dX5_init_26 rfl, ?_⟩
  refine List.forall_mem_cons.mpr ⟨ip_s_pRF (fty := (.array .int)) hx hb hts hin5 hown rfl (by decide) 3 (by decide) (hts (.fieldLink RX5 17 "IcePadsModel" "fall" "[I") (by decide +kernel)) (fun _ h9 => h9) tyX5 tyX5_ok nmX5 (fun _ _ _ _ _ => trivial) rfl hname rfl rfl (by decide +kernel) (fun o => by cases o <;> exact ⟨rfl, rfl⟩) dX5_init_28 rfl, ?_⟩
  refine List.forall_mem_cons.mpr ⟨ip_s_aload_n hx hb dX5_init_31 rfl rfl, ?_⟩
  refine List.forall_mem_cons.mpr ⟨ip_s_iconst hx hb dX5_init_32 rfl rfl, ?_⟩
  refine List.forall_mem_cons.mpr ⟨ip_s_newi hx hb (hts (.arrayClass .int) (by decide +kernel)) hA hIn (by decide) (Nat.le_of_ble_eq_true rfl) (Nat.le_of_ble_eq_true rfl) dX5_init_33 rfl, ?_⟩
  refine List.forall_mem_cons.mpr ⟨ip_s_pRF (fty := (.array .int)) hx hb hts hin5 hown rfl (by decide) 5 (by decide) (hts (.fieldLink RX5 20 "IcePadsModel" "kind" "[I") (by decide +kernel)) (fun _ h9 => h9) tyX5 tyX5_ok nmX5 (fun _ _ _ _ _ => trivial) rfl hname rfl rfl (by decide +kernel) (fun o => by cases o <;> exact ⟨rfl, rfl⟩) dX5_init_35 rfl, ?_⟩
  refine List.forall_mem_cons.mpr ⟨ip_s_aload_n hx hb dX5_init_38 rfl rfl, ?_⟩
  refine List.forall_mem_cons.mpr ⟨ip_s_bipush hx hb dX5_init_39 rfl rfl, ?_⟩
  refine List.forall_mem_cons.mpr ⟨ip_s_newi hx hb (hts (.arrayClass .int) (by decide +kernel)) hA hIn (by decide) (Nat.le_of_ble_eq_true rfl) (Nat.le_of_ble_eq_true rfl) dX5_init_41 rfl, ?_⟩
  refine List.forall_mem_cons.mpr ⟨ip_s_pRF (fty := (.array .int)) hx hb hts hin5 hown rfl (by decide) 6 (by decide) (hts (.fieldLink RX5 23 "IcePadsModel" "span" "[I") (by decide +kernel)) (fun _ h9 => h9) tyX5 tyX5_ok nmX5 (fun _ _ _ _ _ => trivial) rfl hname rfl rfl (by decide +kernel) (fun o => by cases o <;> exact ⟨rfl, rfl⟩) dX5_init_43 rfl, ?_⟩
  refine List.forall_mem_cons.mpr ⟨ip_s_aload_n hx hb dX5_init_46 rfl rfl, ?_⟩
  refine List.forall_mem_cons.mpr ⟨ip_s_iconst hx hb dX5_init_47 rfl rfl, ?_⟩
  refine List.forall_mem_cons.mpr ⟨ip_s_newi hx hb (hts (.arrayClass .int) (by decide +kernel)) hA hIn (by decide) (Nat.le_of_ble_eq_true rfl) (Nat.le_of_ble_eq_true rfl) dX5_init_48 rfl, ?_⟩
  refine List.forall_mem_cons.mpr ⟨ip_s_pRF (fty := (.array .int)) hx hb hts hin5 hown rfl (by decide) 7 (by decide) (hts (.fieldLink RX5 26 "IcePadsModel" "times" "[I") (by decide +kernel)) (fun _ h9 => h9) tyX5 tyX5_ok nmX5 (fun _ _ _ _ _ => trivial) rfl hname rfl rfl (by decide +kernel) (fun o => by cases o <;> exact ⟨rfl, rfl⟩) dX5_init_50 rfl, ?_⟩
  refine List.forall_mem_cons.mpr ⟨ip_s_aload_n hx hb dX5_init_53 rfl rfl, ?_⟩
  refine List.forall_mem_cons.mpr ⟨ip_s_iconst hx hb dX5_init_54 rfl rfl, ?_⟩
  refine List.forall_mem_cons.mpr ⟨ip_s_newi hx hb (hts (.arrayClass .int) (by decide +kernel)) hA hIn (by decide) (Nat.le_of_ble_eq_true rfl) (Nat.le_of_ble_eq_true rfl) dX5_init_55 rfl, ?_⟩
  refine List.forall_mem_cons.mpr ⟨ip_s_pRF (fty := (.array .int)) hx hb hts hin5 hown rfl (by decide) 8 (by decide) (hts (.fieldLink RX5 29 "IcePadsModel" "parts" "[I") (by decide +kernel)) (fun _ h9 => h9) tyX5 tyX5_ok nmX5 (fun _ _ _ _ _ => trivial) rfl hname rfl rfl (by decide +kernel) (fun o => by cases o <;> exact ⟨rfl, rfl⟩) dX5_init_57 rfl, ?_⟩
  refine List.forall_mem_cons.mpr ⟨ip_s_aload_n hx hb dX5_init_60 rfl rfl, ?_⟩
  refine List.forall_mem_cons.mpr ⟨ip_s_iconst hx hb dX5_init_61 rfl rfl, ?_⟩
  refine List.forall_mem_cons.mpr ⟨ip_s_newi hx hb (hts (.arrayClass .int) (by decide +kernel)) hA hIn (by decide) (Nat.le_of_ble_eq_true rfl) (Nat.le_of_ble_eq_true rfl) dX5_init_62 rfl, ?_⟩
  refine List.forall_mem_cons.mpr ⟨ip_s_pRF (fty := (.array .int)) hx hb hts hin5 hown rfl (by decide) 9 (by decide) (hts (.fieldLink RX5 32 "IcePadsModel" "litres" "[I") (by decide +kernel)) (fun _ h9 => h9) tyX5 tyX5_ok nmX5 (fun _ _ _ _ _ => trivial) rfl hname rfl rfl (by decide +kernel) (fun o => by cases o <;> exact ⟨rfl, rfl⟩) dX5_init_64 rfl, ?_⟩
  refine List.forall_mem_cons.mpr ⟨ip_s_aload_n hx hb dX5_init_67 rfl rfl, ?_⟩
  refine List.forall_mem_cons.mpr ⟨ip_s_iconst hx hb dX5_init_68 rfl rfl, ?_⟩
  refine List.forall_mem_cons.mpr ⟨ip_s_pI hx hb hts hin5 hown rfl (by decide) 10 (by decide) (hts (.fieldLink RX5 35 "IcePadsModel" "pads" "I") (by decide +kernel)) (fun _ h9 => h9) tyX5 tyX5_ok nmX5 hIn rfl rfl (by decide +kernel) dX5_init_69 rfl, ?_⟩
  refine List.forall_mem_cons.mpr ⟨ip_s_aload_n hx hb dX5_init_72 rfl rfl, ?_⟩
  refine List.forall_mem_cons.mpr ⟨ip_s_sipush hx hb dX5_init_73 rfl rfl, ?_⟩
  refine List.forall_mem_cons.mpr ⟨ip_s_pI hx hb hts hin5 hown rfl (by decide) 11 (by decide) (hts (.fieldLink RX5 39 "IcePadsModel" "limit" "I") (by decide +kernel)) (fun _ h9 => h9) tyX5 tyX5_ok nmX5 hIn rfl rfl (by decide +kernel) dX5_init_76 rfl, ?_⟩
  refine List.forall_mem_cons.mpr ⟨ip_s_aload_n hx hb dX5_init_79 rfl rfl, ?_⟩
  refine List.forall_mem_cons.mpr ⟨ip_s_iconst hx hb dX5_init_80 rfl rfl, ?_⟩
  refine List.forall_mem_cons.mpr ⟨ip_s_pI hx hb hts hin5 hown rfl (by decide) 12 (by decide) (hts (.fieldLink RX5 42 "IcePadsModel" "rate" "I") (by decide +kernel)) (fun _ h9 => h9) tyX5 tyX5_ok nmX5 hIn rfl rfl (by decide +kernel) dX5_init_81 rfl, ?_⟩
  refine List.forall_mem_cons.mpr ⟨ip_s_aload_n hx hb dX5_init_84 rfl rfl, ?_⟩
  refine List.forall_mem_cons.mpr ⟨ip_s_iconst hx hb dX5_init_85 rfl rfl, ?_⟩
  refine List.forall_mem_cons.mpr ⟨ip_s_newi hx hb (hts (.arrayClass .int) (by decide +kernel)) hA hIn (by decide) (Nat.le_of_ble_eq_true rfl) (Nat.le_of_ble_eq_true rfl) dX5_init_86 rfl, ?_⟩
  refine List.forall_mem_cons.mpr ⟨ip_s_pRF (fty := (.array .int)) hx hb hts hin5 hown rfl (by decide) 14 (by decide) (hts (.fieldLink RX5 45 "IcePadsModel" "onPad" "[I") (by decide +kernel)) (fun _ h9 => h9) tyX5 tyX5_ok nmX5 (fun _ _ _ _ _ => trivial) rfl hname rfl rfl (by decide +kernel) (fun o => by cases o <;> exact ⟨rfl, rfl⟩) dX5_init_88 rfl, ?_⟩
  refine List.forall_mem_cons.mpr ⟨ip_s_aload_n hx hb dX5_init_91 rfl rfl, ?_⟩
  refine List.forall_mem_cons.mpr ⟨ip_s_bipush hx hb dX5_init_92 rfl rfl, ?_⟩
  refine List.forall_mem_cons.mpr ⟨ip_s_newi hx hb (hts (.arrayClass .int) (by decide +kernel)) hA hIn (by decide) (Nat.le_of_ble_eq_true rfl) (Nat.le_of_ble_eq_true rfl) dX5_init_94 rfl, ?_⟩
  refine List.forall_mem_cons.mpr ⟨ip_s_pRF (fty := (.array .int)) hx hb hts hin5 hown rfl (by decide) 16 (by decide) (hts (.fieldLink RX5 48 "IcePadsModel" "size" "[I") (by decide +kernel)) (fun _ h9 => h9) tyX5 tyX5_ok nmX5 (fun _ _ _ _ _ => trivial) rfl hname rfl rfl (by decide +kernel) (fun o => by cases o <;> exact ⟨rfl, rfl⟩) dX5_init_96 rfl, ?_⟩
  refine List.forall_mem_cons.mpr ⟨ip_s_aload_n hx hb dX5_init_99 rfl rfl, ?_⟩
  refine List.forall_mem_cons.mpr ⟨ip_s_bipush hx hb dX5_init_100 rfl rfl, ?_⟩
  refine List.forall_mem_cons.mpr ⟨ip_s_newi hx hb (hts (.arrayClass .int) (by decide +kernel)) hA hIn (by decide) (Nat.le_of_ble_eq_true rfl) (Nat.le_of_ble_eq_true rfl) dX5_init_102 rfl, ?_⟩
  refine List.forall_mem_cons.mpr ⟨ip_s_pRF (fty := (.array .int)) hx hb hts hin5 hown rfl (by decide) 17 (by decide) (hts (.fieldLink RX5 51 "IcePadsModel" "first" "[I") (by decide +kernel)) (fun _ h9 => h9) tyX5 tyX5_ok nmX5 (fun _ _ _ _ _ => trivial) rfl hname rfl rfl (by decide +kernel) (fun o => by cases o <;> exact ⟨rfl, rfl⟩) dX5_init_104 rfl, ?_⟩
  refine List.forall_mem_cons.mpr ⟨ip_s_aload_n hx hb dX5_init_107 rfl rfl, ?_⟩
  refine List.forall_mem_cons.mpr ⟨ip_s_bipush hx hb dX5_init_108 rfl rfl, ?_⟩
  refine List.forall_mem_cons.mpr ⟨ip_s_newi hx hb (hts (.arrayClass .int) (by decide +kernel)) hA hIn (by decide) (Nat.le_of_ble_eq_true rfl) (Nat.le_of_ble_eq_true rfl) dX5_init_110 rfl, ?_⟩
  refine List.forall_mem_cons.mpr ⟨ip_s_pRF (fty := (.array .int)) hx hb hts hin5 hown rfl (by decide) 18 (by decide) (hts (.fieldLink RX5 54 "IcePadsModel" "ready" "[I") (by decide +kernel)) (fun _ h9 => h9) tyX5 tyX5_ok nmX5 (fun _ _ _ _ _ => trivial) rfl hname rfl rfl (by decide +kernel) (fun o => by cases o <;> exact ⟨rfl, rfl⟩) dX5_init_112 rfl, ?_⟩
  refine List.forall_mem_cons.mpr ⟨ip_s_aload_n hx hb dX5_init_115 rfl rfl, ?_⟩
  refine List.forall_mem_cons.mpr ⟨ip_s_bipush hx hb dX5_init_116 rfl rfl, ?_⟩
  refine List.forall_mem_cons.mpr ⟨ip_s_newi hx hb (hts (.arrayClass .int) (by decide +kernel)) hA hIn (by decide) (Nat.le_of_ble_eq_true rfl) (Nat.le_of_ble_eq_true rfl) dX5_init_118 rfl, ?_⟩
  refine List.forall_mem_cons.mpr ⟨ip_s_pRF (fty := (.array .int)) hx hb hts hin5 hown rfl (by decide) 19 (by decide) (hts (.fieldLink RX5 57 "IcePadsModel" "roll" "[I") (by decide +kernel)) (fun _ h9 => h9) tyX5 tyX5_ok nmX5 (fun _ _ _ _ _ => trivial) rfl hname rfl rfl (by decide +kernel) (fun o => by cases o <;> exact ⟨rfl, rfl⟩) dX5_init_120 rfl, ?_⟩
  refine List.forall_mem_cons.mpr ⟨ip_s_aload_n hx hb dX5_init_123 rfl rfl, ?_⟩
  refine List.forall_mem_cons.mpr ⟨ip_s_bipush hx hb dX5_init_124 rfl rfl, ?_⟩
  refine List.forall_mem_cons.mpr ⟨ip_s_newi hx hb (hts (.arrayClass .int) (by decide +kernel)) hA hIn (by decide) (Nat.le_of_ble_eq_true rfl) (Nat.le_of_ble_eq_true rfl) dX5_init_126 rfl, ?_⟩
  refine List.forall_mem_cons.mpr ⟨ip_s_pRF (fty := (.array .int)) hx hb hts hin5 hown rfl (by decide) 20 (by decide) (hts (.fieldLink RX5 60 "IcePadsModel" "fluid" "[I") (by decide +kernel)) (fun _ h9 => h9) tyX5 tyX5_ok nmX5 (fun _ _ _ _ _ => trivial) rfl hname rfl rfl (by decide +kernel) (fun o => by cases o <;> exact ⟨rfl, rfl⟩) dX5_init_128 rfl, ?_⟩
  refine List.forall_mem_cons.mpr ⟨ip_s_aload_n hx hb dX5_init_131 rfl rfl, ?_⟩
  refine List.forall_mem_cons.mpr ⟨ip_s_bipush hx hb dX5_init_132 rfl rfl, ?_⟩
  refine List.forall_mem_cons.mpr ⟨ip_s_newi hx hb (hts (.arrayClass .int) (by decide +kernel)) hA hIn (by decide) (Nat.le_of_ble_eq_true rfl) (Nat.le_of_ble_eq_true rfl) dX5_init_134 rfl, ?_⟩
  refine List.forall_mem_cons.mpr ⟨ip_s_pRF (fty := (.array .int)) hx hb hts hin5 hown rfl (by decide) 21 (by decide) (hts (.fieldLink RX5 63 "IcePadsModel" "state" "[I") (by decide +kernel)) (fun _ h9 => h9) tyX5 tyX5_ok nmX5 (fun _ _ _ _ _ => trivial) rfl hname rfl rfl (by decide +kernel) (fun o => by cases o <;> exact ⟨rfl, rfl⟩) dX5_init_136 rfl, ?_⟩
  refine List.forall_mem_cons.mpr ⟨ip_s_aload_n hx hb dX5_init_139 rfl rfl, ?_⟩
  refine List.forall_mem_cons.mpr ⟨ip_s_bipush hx hb dX5_init_140 rfl rfl, ?_⟩
  refine List.forall_mem_cons.mpr ⟨ip_s_newi hx hb (hts (.arrayClass .int) (by decide +kernel)) hA hIn (by decide) (Nat.le_of_ble_eq_true rfl) (Nat.le_of_ble_eq_true rfl) dX5_init_142 rfl, ?_⟩
  refine List.forall_mem_cons.mpr ⟨ip_s_pRF (fty := (.array .int)) hx hb hts hin5 hown rfl (by decide) 22 (by decide) (hts (.fieldLink RX5 66 "IcePadsModel" "start" "[I") (by decide +kernel)) (fun _ h9 => h9) tyX5 tyX5_ok nmX5 (fun _ _ _ _ _ => trivial) rfl hname rfl rfl (by decide +kernel) (fun o => by cases o <;> exact ⟨rfl, rfl⟩) dX5_init_144 rfl, ?_⟩
  refine List.forall_mem_cons.mpr ⟨ip_s_aload_n hx hb dX5_init_147 rfl rfl, ?_⟩
  refine List.forall_mem_cons.mpr ⟨ip_s_bipush hx hb dX5_init_148 rfl rfl, ?_⟩
  refine List.forall_mem_cons.mpr ⟨ip_s_newi hx hb (hts (.arrayClass .int) (by decide +kernel)) hA hIn (by decide) (Nat.le_of_ble_eq_true rfl) (Nat.le_of_ble_eq_true rfl) dX5_init_150 rfl, ?_⟩
  refine List.forall_mem_cons.mpr ⟨ip_s_pRF (fty := (.array .int)) hx hb hts hin5 hown rfl (by decide) 23 (by decide) (hts (.fieldLink RX5 69 "IcePadsModel" "holds" "[I") (by decide +kernel)) (fun _ h9 => h9) tyX5 tyX5_ok nmX5 (fun _ _ _ _ _ => trivial) rfl hname rfl rfl (by decide +kernel) (fun o => by cases o <;> exact ⟨rfl, rfl⟩) dX5_init_152 rfl, ?_⟩
  refine List.forall_mem_cons.mpr ⟨ip_s_aload_n hx hb dX5_init_155 rfl rfl, ?_⟩
  refine List.forall_mem_cons.mpr ⟨ip_s_bipush hx hb dX5_init_156 rfl rfl, ?_⟩
  refine List.forall_mem_cons.mpr ⟨ip_s_newi hx hb (hts (.arrayClass .int) (by decide +kernel)) hA hIn (by decide) (Nat.le_of_ble_eq_true rfl) (Nat.le_of_ble_eq_true rfl) dX5_init_158 rfl, ?_⟩
  refine List.forall_mem_cons.mpr ⟨ip_s_pRF (fty := (.array .int)) hx hb hts hin5 hown rfl (by decide) 24 (by decide) (hts (.fieldLink RX5 72 "IcePadsModel" "backs" "[I") (by decide +kernel)) (fun _ h9 => h9) tyX5 tyX5_ok nmX5 (fun _ _ _ _ _ => trivial) rfl hname rfl rfl (by decide +kernel) (fun o => by cases o <;> exact ⟨rfl, rfl⟩) dX5_init_160 rfl, ?_⟩
  refine List.forall_mem_cons.mpr ⟨ip_s_aload_n hx hb dX5_init_163 rfl rfl, ?_⟩
  refine List.forall_mem_cons.mpr ⟨ip_s_bipush hx hb dX5_init_164 rfl rfl, ?_⟩
  refine List.forall_mem_cons.mpr ⟨ip_s_newi hx hb (hts (.arrayClass .int) (by decide +kernel)) hA hIn (by decide) (Nat.le_of_ble_eq_true rfl) (Nat.le_of_ble_eq_true rfl) dX5_init_166 rfl, ?_⟩
  refine List.forall_mem_cons.mpr ⟨ip_s_pRF (fty := (.array .int)) hx hb hts hin5 hown rfl (by decide) 25 (by decide) (hts (.fieldLink RX5 75 "IcePadsModel" "flew" "[I") (by decide +kernel)) (fun _ h9 => h9) tyX5 tyX5_ok nmX5 (fun _ _ _ _ _ => trivial) rfl hname rfl rfl (by decide +kernel) (fun o => by cases o <;> exact ⟨rfl, rfl⟩) dX5_init_168 rfl, ?_⟩
  refine List.forall_mem_cons.mpr ⟨ip_s_aload_n hx hb dX5_init_171 rfl rfl, ?_⟩
  refine List.forall_mem_cons.mpr ⟨ip_s_iconst hx hb dX5_init_172 rfl rfl, ?_⟩
  refine List.forall_mem_cons.mpr ⟨ip_s_newi hx hb (hts (.arrayClass .int) (by decide +kernel)) hA hIn (by decide) (Nat.le_of_ble_eq_true rfl) (Nat.le_of_ble_eq_true rfl) dX5_init_173 rfl, ?_⟩
  refine List.forall_mem_cons.mpr ⟨ip_s_pRF (fty := (.array .int)) hx hb hts hin5 hown rfl (by decide) 29 (by decide) (hts (.fieldLink RX5 78 "IcePadsModel" "waiting" "[I") (by decide +kernel)) (fun _ h9 => h9) tyX5 tyX5_ok nmX5 (fun _ _ _ _ _ => trivial) rfl hname rfl rfl (by decide +kernel) (fun o => by cases o <;> exact ⟨rfl, rfl⟩) dX5_init_175 rfl, ?_⟩
  refine List.forall_mem_cons.mpr ⟨ip_s_aload_n hx hb dX5_init_178 rfl rfl, ?_⟩
  refine List.forall_mem_cons.mpr ⟨ip_s_iconst hx hb dX5_init_179 rfl rfl, ?_⟩
  refine List.forall_mem_cons.mpr ⟨ip_s_newi hx hb (hts (.arrayClass .int) (by decide +kernel)) hA hIn (by decide) (Nat.le_of_ble_eq_true rfl) (Nat.le_of_ble_eq_true rfl) dX5_init_180 rfl, ?_⟩
  refine List.forall_mem_cons.mpr ⟨ip_s_pRF (fty := (.array .int)) hx hb hts hin5 hown rfl (by decide) 30 (by decide) (hts (.fieldLink RX5 81 "IcePadsModel" "row" "[I") (by decide +kernel)) (fun _ h9 => h9) tyX5 tyX5_ok nmX5 (fun _ _ _ _ _ => trivial) rfl hname rfl rfl (by decide +kernel) (fun o => by cases o <;> exact ⟨rfl, rfl⟩) dX5_init_182 rfl, ?_⟩
  refine List.forall_mem_cons.mpr ⟨ip_s_aload_n hx hb dX5_init_185 rfl rfl, ?_⟩
  refine List.forall_mem_cons.mpr ⟨ip_s_iconst hx hb dX5_init_186 rfl rfl, ?_⟩
  refine List.forall_mem_cons.mpr ⟨ip_s_newi hx hb (hts (.arrayClass .int) (by decide +kernel)) hA hIn (by decide) (Nat.le_of_ble_eq_true rfl) (Nat.le_of_ble_eq_true rfl) dX5_init_187 rfl, ?_⟩
  refine List.forall_mem_cons.mpr ⟨ip_s_pRF (fty := (.array .int)) hx hb hts hin5 hown rfl (by decide) 31 (by decide) (hts (.fieldLink RX5 84 "IcePadsModel" "bestRow" "[I") (by decide +kernel)) (fun _ h9 => h9) tyX5 tyX5_ok nmX5 (fun _ _ _ _ _ => trivial) rfl hname rfl rfl (by decide +kernel) (fun o => by cases o <;> exact ⟨rfl, rfl⟩) dX5_init_189 rfl, ?_⟩
  refine List.forall_mem_cons.mpr ⟨ip_s_aload_n hx hb dX5_init_192 rfl rfl, ?_⟩
  refine List.forall_mem_cons.mpr ⟨ip_s_iconst hx hb dX5_init_193 rfl rfl, ?_⟩
  refine List.forall_mem_cons.mpr ⟨ip_s_pI hx hb hts hin5 hown rfl (by decide) 0 (by decide) (hts (.fieldLink RX5 87 "IcePadsModel" "now" "I") (by decide +kernel)) (fun _ h9 => h9) tyX5 tyX5_ok nmX5 hIn rfl rfl (by decide +kernel) dX5_init_194 rfl, ?_⟩
  refine List.forall_mem_cons.mpr ⟨ip_s_vret hx hb hr hlocks (Nat.le_of_ble_eq_true rfl) (Nat.le_of_ble_eq_true rfl) dX5_init_197, ?_⟩
  exact fun _ h => absurd h List.not_mem_nil
set_option maxRecDepth 100000 in
set_option maxHeartbeats 4000000 in
theorem vX5_init (a : Nat) (S : ip_S) (hS : ip_Tr S) (hp : (S.2.2.2 a).1 = 5 ∧ a = 50 ∧ ∀ q, 51 ≤ q → q ≤ 81 → 10 ≤ (S.2.2.2 q).1) : ip_run (pX5_init (postX5_init [.inr (.inl (some a))] S)) (fun _ => false) (fun _ _ _ _ => False) 130 0 [some (.inr (.inl (some a)))] [] S := by
  obtain ⟨h1, rfl, hu⟩ := hp
  refine And.intro rfl (Exists.intro 51 (And.intro (hu 51 (by decide) (by decide)) (And.intro (by decide) ?_)))
  refine And.intro h1 ?_
  refine And.intro rfl (Exists.intro 52 (And.intro (hu 52 (by decide) (by decide)) (And.intro (by decide) ?_)))
  refine And.intro h1 ?_
  refine And.intro rfl (Exists.intro 53 (And.intro (hu 53 (by decide) (by decide)) (And.intro (by decide) ?_)))
  refine And.intro h1 ?_
  refine And.intro rfl (Exists.intro 55 (And.intro (hu 55 (by decide) (by decide)) (And.intro (by decide) ?_)))
  refine And.intro h1 ?_
  refine And.intro rfl (Exists.intro 56 (And.intro (hu 56 (by decide) (by decide)) (And.intro (by decide) ?_)))
  refine And.intro h1 ?_
  refine And.intro rfl (Exists.intro 57 (And.intro (hu 57 (by decide) (by decide)) (And.intro (by decide) ?_)))
  refine And.intro h1 ?_
  refine And.intro rfl (Exists.intro 58 (And.intro (hu 58 (by decide) (by decide)) (And.intro (by decide) ?_)))
  refine And.intro h1 ?_
  refine And.intro rfl (Exists.intro 59 (And.intro (hu 59 (by decide) (by decide)) (And.intro (by decide) ?_)))
  refine And.intro h1 ?_
  refine And.intro h1 ?_
  refine And.intro h1 ?_
  refine And.intro h1 ?_
  refine And.intro rfl (Exists.intro 64 (And.intro (hu 64 (by decide) (by decide)) (And.intro (by decide) ?_)))
  refine And.intro h1 ?_
  refine And.intro rfl (Exists.intro 66 (And.intro (hu 66 (by decide) (by decide)) (And.intro (by decide) ?_)))
  refine And.intro h1 ?_
  refine And.intro rfl (Exists.intro 67 (And.intro (hu 67 (by decide) (by decide)) (And.intro (by decide) ?_)))
  refine And.intro h1 ?_
  refine And.intro rfl (Exists.intro 68 (And.intro (hu 68 (by decide) (by decide)) (And.intro (by decide) ?_)))
  refine And.intro h1 ?_
  refine And.intro rfl (Exists.intro 69 (And.intro (hu 69 (by decide) (by decide)) (And.intro (by decide) ?_)))
  refine And.intro h1 ?_
  refine And.intro rfl (Exists.intro 70 (And.intro (hu 70 (by decide) (by decide)) (And.intro (by decide) ?_)))
  refine And.intro h1 ?_
  refine And.intro rfl (Exists.intro 71 (And.intro (hu 71 (by decide) (by decide)) (And.intro (by decide) ?_)))
  refine And.intro h1 ?_
  refine And.intro rfl (Exists.intro 72 (And.intro (hu 72 (by decide) (by decide)) (And.intro (by decide) ?_)))
  refine And.intro h1 ?_
  refine And.intro rfl (Exists.intro 73 (And.intro (hu 73 (by decide) (by decide)) (And.intro (by decide) ?_)))
  refine And.intro h1 ?_
  refine And.intro rfl (Exists.intro 74 (And.intro (hu 74 (by decide) (by decide)) (And.intro (by decide) ?_)))
  refine And.intro h1 ?_
  refine And.intro rfl (Exists.intro 75 (And.intro (hu 75 (by decide) (by decide)) (And.intro (by decide) ?_)))
  refine And.intro h1 ?_
  refine And.intro rfl (Exists.intro 79 (And.intro (hu 79 (by decide) (by decide)) (And.intro (by decide) ?_)))
  refine And.intro h1 ?_
  refine And.intro rfl (Exists.intro 80 (And.intro (hu 80 (by decide) (by decide)) (And.intro (by decide) ?_)))
  refine And.intro h1 ?_
  refine And.intro rfl (Exists.intro 81 (And.intro (hu 81 (by decide) (by decide)) (And.intro (by decide) ?_)))
  refine And.intro h1 ?_
  refine And.intro h1 ?_
  exact And.intro rfl rfl
theorem ctX5_init (l : Launch) : ip_CT l yX5_init wsX5_init rmX5_init ip_Tr preX5_init postX5_init := by
  refine ip_of (cc := cX5_init) (maxL := 1) (ret := none) (by decide +kernel) rfl (fun pc => bif Nat.ble pc 8 then (0, 0) else bif Nat.ble pc 17 then (1, 300) else bif Nat.ble pc 26 then (2, 600) else bif Nat.ble pc 33 then (3, 900) else bif Nat.ble pc 41 then (4, 904) else bif Nat.ble pc 48 then (5, 920) else bif Nat.ble pc 55 then (6, 924) else bif Nat.ble pc 62 then (7, 928) else bif Nat.ble pc 86 then (8, 932) else bif Nat.ble pc 94 then (9, 935) else bif Nat.ble pc 102 then (10, 947) else bif Nat.ble pc 110 then (11, 959) else bif Nat.ble pc 118 then (12, 971) else bif Nat.ble pc 126 then (13, 983) else bif Nat.ble pc 134 then (14, 995) else bif Nat.ble pc 142 then (15, 1007) else bif Nat.ble pc 150 then (16, 1019) else bif Nat.ble pc 158 then (17, 1031) else bif Nat.ble pc 166 then (18, 1043) else bif Nat.ble pc 173 then (19, 1055) else bif Nat.ble pc 180 then (20, 1060) else bif Nat.ble pc 187 then (21, 1065) else (22, 1070)) rfl ?_ ?_
  · intro as S h
    obtain ⟨a, rfl, hq⟩ := ip_e_r h
    exact ⟨Nat.le_of_ble_eq_true rfl, by simp⟩
  intro p e s m args below meth c D cA A ad0 as S h hI hx hb hml hown hts hr hlocks hname hA hNx
  obtain ⟨a, rfl, hq⟩ := ip_e_r h
  refine ip_run_ok (stop := fun _ => false) (tX5_init hx hb hml hown hts hr hlocks hname hA hNx) (fun _ _ _ _ h => False.elim h) 130 0 _ _ S ?_
  exact vX5_init a S hI hq
