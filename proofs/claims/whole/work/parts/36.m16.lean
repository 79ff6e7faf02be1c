theorem ip_nI900 {p : Nat} (h : p < 100) : ¬ nI p = -900 := ip_not900 (by rw [nI_toInt (by omega)]; omega)
theorem ip_stJ {M : ip_M} {S : ip_S} {nf nj np j : Nat} (hv : ip_vv M nf nj np) (hJ : ip_cJ M S nj np) (hj : j < nj) : (if S.1 (30 + j) 8 = -900 then (if S.1 (30 + j) 6 = -900 then (0 : Int32) else 1) else 2) = M 71 j ∧ (S.1 (30 + j) 8 = -900 ↔ ¬ M 71 j = 2) := by
  obtain ⟨-, -, -, -, -, -, -, -, -, j8, -, jon, joff⟩ := hJ.1 j hj
  obtain ⟨-, -, -, -, -, c6, -, c8⟩ := hv.2.2.2.2.1 j hj
  rw [j8]
  by_cases h2 : M 71 j = 2
  · have := c8.mp h2
    rw [if_neg this, h2]
    exact ⟨rfl, fun z => absurd z this, fun z => absurd rfl z⟩
  · have hfl : M 75 j = -900 := Classical.byContradiction (fun z => h2 (c8.mpr z))
    rw [if_pos hfl]
    refine ⟨?_, fun _ => h2, fun _ => hfl⟩
    by_cases h1 : M 71 j = 1
    · obtain ⟨-, p, hp, -, hp6⟩ := jon h1
      have hp3 := hv.1.2.2.2.2.2.2
      rw [hp6, if_neg (ip_nI900 (by omega)), h1]
    · rw [joff h1, if_pos rfl]
      rcases c6 with h | h | h
      · exact h.symm
      · exact absurd h h1
      · exact absurd h h2

def preX4_jetsIn (M : ip_M) : List ip_V → ip_S → Prop := ip_h_ri (fun _ => False) (fun a s S => a = 0 ∧ ip_cR M S)
def postX4_jetsIn (M : ip_M) : List ip_V → ip_S → List ip_V → ip_S → Prop := ip_h_ri (fun _ _ _ => True) (fun a s S r S' => r = [.inl (g_nst M s (M 50 15).toNatClampNeg)] ∧ S' = S)
theorem shX4_jetsIn (M : ip_M) : ∀ as S, ip_Sta S → preX4_jetsIn M as S → ∃ (b : Nat) (as' : List ip_V), as = .inr (.inl (some b)) :: as' ∧ as'.length = 1 ∧ (S.2.2.2 b).1 = 4 := by
  intro as S hI h
  obtain ⟨a, s, rfl, hq⟩ := ip_e_ri h
  exact ⟨_, _, rfl, rfl, by rw [hq.1, hI.1 0 (by decide)]; rfl⟩
def rmX4_jetsIn : Room := { frames := 3, cells := 0, slots := 0, locals := 120 }
def pX4_jetsIn (po : List ip_V → ip_S → Prop) : List (Nat × ip_T) := [(0, ip_t_ci 0 1), (1, ip_t_is 2 2), (2, ip_t_ci 0 3), (3, ip_t_is 3 4), (4, ip_t_il 3 5), (5, ip_t_ar 0 6), (6, ip_t_gI0 0 4 9), (9, ip_t_icge 43 12), (12, ip_t_ar 0 13), (13, ip_t_gR0 0 6 16), (16, ip_t_il 3 17), (17, ip_t_lda 9 18), (18, ip_t_as 4 20), (20, ip_t_ar 4 22), (22, ip_t_null 37 25), (25, ip_t_ar 4 27), (27, ip_t_call 1 preX1_state postX1_state 30), (30, ip_t_il 1 31), (31, ip_t_icne 37 34), (34, ip_t_inc 2 1 37), (37, ip_t_inc 3 1 40), (40, ip_t_go 4), (43, ip_t_il 2 44), (44, ip_t_iret po)]
set_option maxRecDepth 100000 in
set_option maxHeartbeats 4000000 in
theorem tX4_jetsIn {p : Program} {l : Launch} {e : Env} {s : State} {m : MethodId} {args : Array Value} {below : List Frame} {meth : Method} {c : Code} {D : va_G} {cA : Nat → ClassId} {A : Nat → Prop} {ad0 : Nat → Nat} {S0 : ip_S} {po : List ip_V → ip_S → Prop} (hx : p.tables.exec = Jvm.exec) (hb : c.code = cX4_jetsIn) (hml : c.maxLocals = 5) (hown : s.vm.findClass RX4 = some m.cls) (hts : ∀ w ∈ wsX4_jetsIn, w.before args s = true) (hr : meth.sig.returnType = (some .int)) (hlocks : meth.locks = false) (hname : meth.name = yX4_jetsIn.name) (hA : ∀ q, s.heap.size ≤ q → A q) (hNx : ip_Nx s) : ∀ q ∈ pX4_jetsIn po, ip_snd p l e rmX4_jetsIn s m args below meth c D cA A (MQ below (ip_Q ip_Sta D cA ad0 S0 A po) args s 0 0 A) 5 (fun _ => (0, 0)) ip_Sta ad0 S0 q.1 q.2 := by
  have hIs : ∀ S, ip_Sta S → ip_Sta S := fun _ h => h
  have hIn := ip_In_Sta
  have hS9 : CallFix p m c cX4_jetsIn 5 s args wsX4_jetsIn RX4 := ⟨hx, hb, hml, hown, hts⟩
  have hin4 : ∀ w ∈ u_ws RX4 TX4 14, w ∈ wsX4_jetsIn := by decide +kernel
  refine List.forall_mem_cons.mpr ⟨ip_s_iconst hx hb dX4_jetsIn_0 rfl rfl, ?_⟩
  refine List.forall_mem_cons.mpr ⟨ip_s_istore_n hx hb dX4_jetsIn_1 rfl (by decide) rfl, ?_⟩
  refine List.forall_mem_cons.mpr ⟨ip_s_iconst hx hb dX4_jetsIn_2 rfl rfl, ?_⟩
  refine List.forall_mem_cons.mpr ⟨ip_s_istore_n hx hb dX4_jetsIn_3 rfl (by decide) rfl, ?_⟩
  refine List.forall_mem_cons.mpr ⟨ip_s_iload_n hx hb dX4_jetsIn_4 rfl rfl, ?_⟩
  refine List.forall_mem_cons.mpr ⟨ip_s_aload_n hx hb dX4_jetsIn_5 rfl rfl, ?_⟩
  refine List.forall_mem_cons.mpr ⟨ip_s_gI0 hx hb hts hin4 hown rfl (by decide) 4 (by decide) (hts (.fieldLink RX4 119 "IcePads" "jetCount" "I") (by decide +kernel)) (fun _ h9 => h9) hIs 0 rfl rfl dX4_jetsIn_6 rfl, ?_⟩
  refine List.forall_mem_cons.mpr ⟨ip_s_icge (t := 43) hx hb dX4_jetsIn_9 (by decide) rfl rfl, ?_⟩
  refine List.forall_mem_cons.mpr ⟨ip_s_aload_n hx hb dX4_jetsIn_12 rfl rfl, ?_⟩
  refine List.forall_mem_cons.mpr ⟨ip_s_gR0 hx hb hts hin4 hown rfl (by decide) 3 (by decide) (hts (.fieldLink RX4 24 "IcePads" "jets" "[LIcePads$Jet;") (by decide +kernel)) (fun _ h9 => h9) hIs 0 6 rfl (by decide) rfl dX4_jetsIn_13 rfl, ?_⟩
  refine List.forall_mem_cons.mpr ⟨ip_s_iload_n hx hb dX4_jetsIn_16 rfl rfl, ?_⟩
  refine List.forall_mem_cons.mpr ⟨ip_s_lda9 hx hb hIs dX4_jetsIn_17 rfl, ?_⟩
  refine List.forall_mem_cons.mpr ⟨ip_s_astore hx hb dX4_jetsIn_18 (by decide) rfl, ?_⟩
  refine List.forall_mem_cons.mpr ⟨ip_s_aload hx hb dX4_jetsIn_20 rfl, ?_⟩
  refine List.forall_mem_cons.mpr ⟨ip_s_ifnull (t := 37) hx hb dX4_jetsIn_22 (by decide) rfl rfl, ?_⟩
  refine List.forall_mem_cons.mpr ⟨ip_s_aload hx hb dX4_jetsIn_25 rfl, ?_⟩
  refine List.forall_mem_cons.mpr ⟨ip_s_callV hNx hS9 (ctX1_state l) (cwV 0 hts gX4_jetsIn_X1_state rfl rfl rfl (by decide +kernel) ⟨Nat.le_of_ble_eq_true rfl, Nat.le_of_ble_eq_true rfl⟩) (ci := 1) rfl rfl (by decide) (fun as S hI h => shX1_state as S hI h) hA dX4_jetsIn_27 ⟨Nat.le_of_ble_eq_true rfl, Nat.le_of_ble_eq_true rfl⟩ rfl, ?_⟩
  refine List.forall_mem_cons.mpr ⟨ip_s_iload_n hx hb dX4_jetsIn_30 rfl rfl, ?_⟩
  refine List.forall_mem_cons.mpr ⟨ip_s_icne (t := 37) hx hb dX4_jetsIn_31 (by decide) rfl rfl, ?_⟩
  refine List.forall_mem_cons.mpr ⟨ip_s_iinc hx hb dX4_jetsIn_34 rfl (by decide) rfl, ?_⟩
  refine List.forall_mem_cons.mpr ⟨ip_s_iinc hx hb dX4_jetsIn_37 rfl (by decide) rfl, ?_⟩
  refine List.forall_mem_cons.mpr ⟨ip_s_go (t := 4) hx hb dX4_jetsIn_40 (by decide) (Nat.le_of_ble_eq_true rfl) (Nat.le_of_ble_eq_true rfl), ?_⟩
  refine List.forall_mem_cons.mpr ⟨ip_s_iload_n hx hb dX4_jetsIn_43 rfl rfl, ?_⟩
  refine List.forall_mem_cons.mpr ⟨ip_s_iret hx hb hr hlocks (Nat.le_of_ble_eq_true rfl) (Nat.le_of_ble_eq_true rfl) dX4_jetsIn_44, ?_⟩
  exact fun _ h => absurd h List.not_mem_nil
abbrev iX4_jetsIn (M : ip_M) (a : Nat) (s : Int32) (S : ip_S) : Nat → ip_N := fun k pc loc st S1 => ∃ (nj j : Nat) (x2 x3 : Int32) (x4 : Option ip_V), M 50 15 = nI nj ∧ nj ≤ 12 ∧ x3 = nI j ∧ j ≤ nj ∧ k + j = nj ∧ pc = 4 ∧ st = [] ∧ S1 = S ∧ loc = [some (.inr (.inl (some a))), some (.inl s), some (.inl x2), some (.inl x3), x4] ∧ x2 = g_nst M s j
set_option maxRecDepth 100000 in
set_option maxHeartbeats 4000000 in
theorem lpX4_jetsIn (M : ip_M) (a : Nat) (s : Int32) (S : ip_S) (hS : ip_Sta S) (hp : a = 0 ∧ ip_cR M S) : ∀ k pc loc st S1, iX4_jetsIn M a s S k pc loc st S1 → ip_run (pX4_jetsIn (postX4_jetsIn M [.inr (.inl (some a)), .inl s] S)) (fun pc => Nat.beq pc 4) (fun pc loc st S2 => ∃ k', k' < k ∧ iX4_jetsIn M a s S k' pc loc st S2) 40 pc loc st S1 := by
  obtain ⟨rfl, nf, nj0, np, hv, hcS, hcF, hcJ, hcP⟩ := hp
  rintro k pc loc st S1 ⟨nj, j, x2, x3, x4, hnj, hn12, rfl, hj, hk, rfl, rfl, rfl, rfl, rfl⟩
  have e4 := hcS.2.2.1
  have enj : nj = nj0 := ip_nI_inj (by omega) (by have := hv.1.2.2.2.1; omega) (hnj.symm.trans hv.1.2.2.1)
  subst enj
  have hcn : (M 50 15).toNatClampNeg = nj := by rw [hnj]; exact nI_clamp (by omega)
  refine And.intro (fun q => ?_) (fun q => ?_)
  · rw [e4, hnj, nI_leI (by omega) (by omega)] at q
    have hjj : j = nj := Nat.le_antisymm hj q
    subst hjj
    refine And.intro ?_ rfl
    rw [hcn]
  · rw [e4, hnj, nI_leI (by omega) (by omega)] at q
    have hjl : j < nj := Nat.lt_of_not_le q
    obtain ⟨hin, hcj⟩ := ip_inN (N := 12) hjl hn12 (by decide)
    have hk1 : k - 1 < k := by omega
    have hk2 : k - 1 + (j + 1) = nj := by omega
    obtain ⟨st1, st2⟩ := ip_stJ hv hcJ hjl
    obtain ⟨j1, j2, j3, j4, j5, j6, j7, j8, j9, j10, j11, j12, j13⟩ := hcJ.1 j hjl
    refine And.intro hin (fun o ho => ?_)
    rw [hcj, j1] at ho
    subst ho
    refine And.intro (And.intro j2 trivial) ?_
    rintro r S' ⟨rfl, rfl⟩
    rw [st1]
    refine And.intro (fun q2 => ?_) (fun q2 => ?_)
    · exact Exists.intro (k - 1) (And.intro hk1 ⟨nj, j + 1, _, _, _, hnj, hn12, nI_1 j, hjl, hk2, rfl, rfl, rfl, rfl, by rw [g_nst, if_neg q2, Int32.add_zero]⟩)
    · exact Exists.intro (k - 1) (And.intro hk1 ⟨nj, j + 1, _, _, _, hnj, hn12, nI_1 j, hjl, hk2, rfl, rfl, rfl, rfl, by rw [g_nst, if_pos q2]⟩)
set_option maxRecDepth 100000 in
set_option maxHeartbeats 4000000 in
theorem vX4_jetsIn (M : ip_M) (a : Nat) (s : Int32) (S : ip_S) (hS : ip_Sta S) (hp : a = 0 ∧ ip_cR M S) : ip_run (pX4_jetsIn (postX4_jetsIn M [.inr (.inl (some a)), .inl s] S)) (fun pc => Nat.beq pc 4) (fun pc loc st S2 => ∃ k, iX4_jetsIn M a s S k pc loc st S2) 40 0 [some (.inr (.inl (some a))), some (.inl s), none, none, none] [] S := by
  obtain ⟨rfl, nf, nj0, np, hv, hcS, hcF, hcJ, hcP⟩ := hp
  exact Exists.intro nj0 ⟨nj0, 0, 0, 0, none, hv.1.2.2.1, hv.1.2.2.2.1, rfl, Nat.zero_le _, rfl, rfl, rfl, rfl, rfl, rfl⟩
theorem ctX4_jetsIn (l : Launch) (M : ip_M) : ip_CT l yX4_jetsIn wsX4_jetsIn rmX4_jetsIn ip_Sta (preX4_jetsIn M) (postX4_jetsIn M) := by
  refine ip_of (cc := cX4_jetsIn) (maxL := 5) (ret := (some .int)) (by decide +kernel) rfl (fun _ => (0, 0)) rfl ?_ ?_
  · intro as S h
    obtain ⟨a, s, rfl, hq⟩ := ip_e_ri h
    exact ⟨Nat.le_of_ble_eq_true rfl, by simp⟩
  intro p e s m args below meth c D cA A ad0 as S h hI hx hb hml hown hts hr hlocks hname hA hNx
  obtain ⟨a, s, rfl, hq⟩ := ip_e_ri h
  have ht := tX4_jetsIn (D := D) (cA := cA) (A := A) (ad0 := ad0) (l := l) (e := e) (below := below) (S0 := S) (po := postX4_jetsIn M [.inr (.inl (some a)), .inl s] S) hx hb hml hown hts hr hlocks hname hA hNx
  refine ip_run_ok ht (fun pc loc st S2 hh => ?_) 40 0 _ _ S (vX4_jetsIn M a s S hI hq)
  obtain ⟨k, hk⟩ := hh
  exact ip_loop ht (iX4_jetsIn M a s S) (lpX4_jetsIn M a s S hI hq) k pc loc st S2 hk

def preX4_allTurnsBack (M : ip_M) : List ip_V → ip_S → Prop := ip_h_r (fun _ => False) (fun a S => a = 0 ∧ ip_cR M S)
def postX4_allTurnsBack (M : ip_M) : List ip_V → ip_S → List ip_V → ip_S → Prop := ip_h_r (fun _ _ _ => True) (fun a S r S' => r = [.inl (g_sb M (M 50 15).toNatClampNeg)] ∧ S' = S)
theorem shX4_allTurnsBack (M : ip_M) : ∀ as S, ip_Sta S → preX4_allTurnsBack M as S → ∃ (b : Nat) (as' : List ip_V), as = .inr (.inl (some b)) :: as' ∧ as'.length = 0 ∧ (S.2.2.2 b).1 = 4 := by
  intro as S hI h
  obtain ⟨a, rfl, hq⟩ := ip_e_r h
  exact ⟨_, _, rfl, rfl, by rw [hq.1, hI.1 0 (by decide)]; rfl⟩
def rmX4_allTurnsBack : Room := { frames := 1, cells := 0, slots := 0, locals := 40 }
def pX4_allTurnsBack (po : List ip_V → ip_S → Prop) : List (Nat × ip_T) := [(0, ip_t_ci 0 1), (1, ip_t_is 1 2), (2, ip_t_ci 0 3), (3, ip_t_is 2 4), (4, ip_t_il 2 5), (5, ip_t_ar 0 6), (6, ip_t_gI0 0 4 9), (9, ip_t_icge 36 12), (12, ip_t_ar 0 13), (13, ip_t_gR0 0 6 16), (16, ip_t_il 2 17), (17, ip_t_lda 9 18), (18, ip_t_as 3 19), (19, ip_t_ar 3 20), (20, ip_t_null 30 23), (23, ip_t_il 1 24), (24, ip_t_ar 3 25), (25, ip_t_gI 1 9 28), (28, ip_t_iadd 29), (29, ip_t_is 1 30), (30, ip_t_inc 2 1 33), (33, ip_t_go 4), (36, ip_t_il 1 37), (37, ip_t_iret po)]
set_option maxRecDepth 100000 in
set_option maxHeartbeats 4000000 in
theorem tX4_allTurnsBack {p : Program} {l : Launch} {e : Env} {s : State} {m : MethodId} {args : Array Value} {below : List Frame} {meth : Method} {c : Code} {D : va_G} {cA : Nat → ClassId} {A : Nat → Prop} {ad0 : Nat → Nat} {S0 : ip_S} {po : List ip_V → ip_S → Prop} (hx : p.tables.exec = Jvm.exec) (hb : c.code = cX4_allTurnsBack) (hml : c.maxLocals = 4) (hown : s.vm.findClass RX4 = some m.cls) (hts : ∀ w ∈ wsX4_allTurnsBack, w.before args s = true) (hr : meth.sig.returnType = (some .int)) (hlocks : meth.locks = false) (hname : meth.name = yX4_allTurnsBack.name) (hA : ∀ q, s.heap.size ≤ q → A q) (hNx : ip_Nx s) : ∀ q ∈ pX4_allTurnsBack po, ip_snd p l e rmX4_allTurnsBack s m args below meth c D cA A (MQ below (ip_Q ip_Sta D cA ad0 S0 A po) args s 0 0 A) 4 (fun _ => (0, 0)) ip_Sta ad0 S0 q.1 q.2 := by
  have hIs : ∀ S, ip_Sta S → ip_Sta S := fun _ h => h
  have hIn := ip_In_Sta
  have hS9 : CallFix p m c cX4_allTurnsBack 4 s args wsX4_allTurnsBack RX4 := ⟨hx, hb, hml, hown, hts⟩
  have hin1 : ∀ w ∈ u_ws RX1 TX1 11, w ∈ wsX4_allTurnsBack := by decide +kernel
  have hin4 : ∀ w ∈ u_ws RX4 TX4 14, w ∈ wsX4_allTurnsBack := by decide +kernel
  refine List.forall_mem_cons.mpr ⟨ip_s_iconst hx hb dX4_allTurnsBack_0 rfl rfl, ?_⟩
  refine List.forall_mem_cons.mpr ⟨ip_s_istore_n hx hb dX4_allTurnsBack_1 rfl (by decide) rfl, ?_⟩
  refine List.forall_mem_cons.mpr ⟨ip_s_iconst hx hb dX4_allTurnsBack_2 rfl rfl, ?_⟩
  refine List.forall_mem_cons.mpr ⟨ip_s_istore_n hx hb dX4_allTurnsBack_3 rfl (by decide) rfl, ?_⟩
  refine List.forall_mem_cons.mpr ⟨ip_s_iload_n hx hb dX4_allTurnsBack_4 rfl rfl, ?_⟩
  refine List.forall_mem_cons.mpr ⟨ip_s_aload_n hx hb dX4_allTurnsBack_5 rfl rfl, ?_⟩
  refine List.forall_mem_cons.mpr ⟨ip_s_gI0 hx hb hts hin4 hown rfl (by decide) 4 (by decide) (hts (.fieldLink RX4 119 "IcePads" "jetCount" "I") (by decide +kernel)) (fun _ h9 => h9) hIs 0 rfl rfl dX4_allTurnsBack_6 rfl, ?_⟩
  refine List.forall_mem_cons.mpr ⟨ip_s_icge (t := 36) hx hb dX4_allTurnsBack_9 (by decide) rfl rfl, ?_⟩
  refine List.forall_mem_cons.mpr ⟨ip_s_aload_n hx hb dX4_allTurnsBack_12 rfl rfl, ?_⟩
  refine List.forall_mem_cons.mpr ⟨ip_s_gR0 hx hb hts hin4 hown rfl (by decide) 3 (by decide) (hts (.fieldLink RX4 24 "IcePads" "jets" "[LIcePads$Jet;") (by decide +kernel)) (fun _ h9 => h9) hIs 0 6 rfl (by decide) rfl dX4_allTurnsBack_13 rfl, ?_⟩
  refine List.forall_mem_cons.mpr ⟨ip_s_iload_n hx hb dX4_allTurnsBack_16 rfl rfl, ?_⟩
  refine List.forall_mem_cons.mpr ⟨ip_s_lda9 hx hb hIs dX4_allTurnsBack_17 rfl, ?_⟩
  refine List.forall_mem_cons.mpr ⟨ip_s_astore_n hx hb dX4_allTurnsBack_18 rfl (by decide) rfl, ?_⟩
  refine List.forall_mem_cons.mpr ⟨ip_s_aload_n hx hb dX4_allTurnsBack_19 rfl rfl, ?_⟩
  refine List.forall_mem_cons.mpr ⟨ip_s_ifnull (t := 30) hx hb dX4_allTurnsBack_20 (by decide) rfl rfl, ?_⟩
  refine List.forall_mem_cons.mpr ⟨ip_s_iload_n hx hb dX4_allTurnsBack_23 rfl rfl, ?_⟩
  refine List.forall_mem_cons.mpr ⟨ip_s_aload_n hx hb dX4_allTurnsBack_24 rfl rfl, ?_⟩
  refine List.forall_mem_cons.mpr ⟨ip_s_gI hx hb hts hin1 hown rfl (by decide) 9 (by decide) (hts (.fieldLink RX4 144 "IcePads$Jet" "turnsBack" "I") (by decide +kernel)) (fun _ h9 => h9) rfl dX4_allTurnsBack_25 rfl, ?_⟩
  refine List.forall_mem_cons.mpr ⟨ip_s_iadd hx hb dX4_allTurnsBack_28 rfl, ?_⟩
  refine List.forall_mem_cons.mpr ⟨ip_s_istore_n hx hb dX4_allTurnsBack_29 rfl (by decide) rfl, ?_⟩
  refine List.forall_mem_cons.mpr ⟨ip_s_iinc hx hb dX4_allTurnsBack_30 rfl (by decide) rfl, ?_⟩
  refine List.forall_mem_cons.mpr ⟨ip_s_go (t := 4) hx hb dX4_allTurnsBack_33 (by decide) (Nat.le_of_ble_eq_true rfl) (Nat.le_of_ble_eq_true rfl), ?_⟩
  refine List.forall_mem_cons.mpr ⟨ip_s_iload_n hx hb dX4_allTurnsBack_36 rfl rfl, ?_⟩
  refine List.forall_mem_cons.mpr ⟨ip_s_iret hx hb hr hlocks (Nat.le_of_ble_eq_true rfl) (Nat.le_of_ble_eq_true rfl) dX4_allTurnsBack_37, ?_⟩
  exact fun _ h => absurd h List.not_mem_nil
abbrev iX4_allTurnsBack (M : ip_M) (a : Nat) (S : ip_S) : Nat → ip_N := fun k pc loc st S1 => ∃ (nj j : Nat) (x2 x3 : Int32) (x4 : Option ip_V), M 50 15 = nI nj ∧ nj ≤ 12 ∧ x3 = nI j ∧ j ≤ nj ∧ k + j = nj ∧ pc = 4 ∧ st = [] ∧ S1 = S ∧ loc = [some (.inr (.inl (some a))), some (.inl x2), some (.inl x3), x4] ∧ x2 = g_sb M j
set_option maxRecDepth 100000 in
set_option maxHeartbeats 4000000 in
theorem lpX4_allTurnsBack (M : ip_M) (a : Nat) (S : ip_S) (hS : ip_Sta S) (hp : a = 0 ∧ ip_cR M S) : ∀ k pc loc st S1, iX4_allTurnsBack M a S k pc loc st S1 → ip_run (pX4_allTurnsBack (postX4_allTurnsBack M [.inr (.inl (some a))] S)) (fun pc => Nat.beq pc 4) (fun pc loc st S2 => ∃ k', k' < k ∧ iX4_allTurnsBack M a S k' pc loc st S2) 40 pc loc st S1 := by
  obtain ⟨rfl, nf, nj0, np, hv, hcS, hcF, hcJ, hcP⟩ := hp
  rintro k pc loc st S1 ⟨nj, j, x2, x3, x4, hnj, hn12, rfl, hj, hk, rfl, rfl, rfl, rfl, rfl⟩
  have e4 := hcS.2.2.1
  have enj : nj = nj0 := ip_nI_inj (by omega) (by have := hv.1.2.2.2.1; omega) (hnj.symm.trans hv.1.2.2.1)
  subst enj
  have hcn : (M 50 15).toNatClampNeg = nj := by rw [hnj]; exact nI_clamp (by omega)
  refine And.intro (fun q => ?_) (fun q => ?_)
  · rw [e4, hnj, nI_leI (by omega) (by omega)] at q
    have hjj : j = nj := Nat.le_antisymm hj q
    subst hjj
    refine And.intro ?_ rfl
    rw [hcn]
  · rw [e4, hnj, nI_leI (by omega) (by omega)] at q
    have hjl : j < nj := Nat.lt_of_not_le q
    obtain ⟨hin, hcj⟩ := ip_inN (N := 12) hjl hn12 (by decide)
    have hk1 : k - 1 < k := by omega
    have hk2 : k - 1 + (j + 1) = nj := by omega
    obtain ⟨st1, st2⟩ := ip_stJ hv hcJ hjl
    obtain ⟨j1, j2, j3, j4, j5, j6, j7, j8, j9, j10, j11, j12, j13⟩ := hcJ.1 j hjl
    refine And.intro hin (fun o ho => ?_)
    rw [hcj, j1] at ho
    subst ho
    refine And.intro j2 ?_
    rw [j11]
    exact Exists.intro (k - 1) (And.intro hk1 ⟨nj, j + 1, _, _, _, hnj, hn12, nI_1 j, hjl, hk2, rfl, rfl, rfl, rfl, rfl⟩)
set_option maxRecDepth 100000 in
set_option maxHeartbeats 4000000 in
theorem vX4_allTurnsBack (M : ip_M) (a : Nat) (S : ip_S) (hS : ip_Sta S) (hp : a = 0 ∧ ip_cR M S) : ip_run (pX4_allTurnsBack (postX4_allTurnsBack M [.inr (.inl (some a))] S)) (fun pc => Nat.beq pc 4) (fun pc loc st S2 => ∃ k, iX4_allTurnsBack M a S k pc loc st S2) 40 0 [some (.inr (.inl (some a))), none, none, none] [] S := by
  obtain ⟨rfl, nf, nj0, np, hv, hcS, hcF, hcJ, hcP⟩ := hp
  exact Exists.intro nj0 ⟨nj0, 0, 0, 0, none, hv.1.2.2.1, hv.1.2.2.2.1, rfl, Nat.zero_le _, rfl, rfl, rfl, rfl, rfl, rfl⟩
theorem ctX4_allTurnsBack (l : Launch) (M : ip_M) : ip_CT l yX4_allTurnsBack wsX4_allTurnsBack rmX4_allTurnsBack ip_Sta (preX4_allTurnsBack M) (postX4_allTurnsBack M) := by
  refine ip_of (cc := cX4_allTurnsBack) (maxL := 4) (ret := (some .int)) (by decide +kernel) rfl (fun _ => (0, 0)) rfl ?_ ?_
  · intro as S h
    obtain ⟨a, rfl, hq⟩ := ip_e_r h
    exact ⟨Nat.le_of_ble_eq_true rfl, by simp⟩
  intro p e s m args below meth c D cA A ad0 as S h hI hx hb hml hown hts hr hlocks hname hA hNx
  obtain ⟨a, rfl, hq⟩ := ip_e_r h
  have ht := tX4_allTurnsBack (D := D) (cA := cA) (A := A) (ad0 := ad0) (l := l) (e := e) (below := below) (S0 := S) (po := postX4_allTurnsBack M [.inr (.inl (some a))] S) hx hb hml hown hts hr hlocks hname hA hNx
  refine ip_run_ok ht (fun pc loc st S2 hh => ?_) 40 0 _ _ S (vX4_allTurnsBack M a S hI hq)
  obtain ⟨k, hk⟩ := hh
  exact ip_loop ht (iX4_allTurnsBack M a S) (lpX4_allTurnsBack M a S hI hq) k pc loc st S2 hk

def preX4_allLate (M : ip_M) : List ip_V → ip_S → Prop := ip_h_r (fun _ => False) (fun a S => a = 0 ∧ ip_cR M S)
def postX4_allLate (M : ip_M) : List ip_V → ip_S → List ip_V → ip_S → Prop := ip_h_r (fun _ _ _ => True) (fun a S r S' => r = [.inl (g_sl M (M 50 15).toNatClampNeg)] ∧ S' = S)
theorem shX4_allLate (M : ip_M) : ∀ as S, ip_Sta S → preX4_allLate M as S → ∃ (b : Nat) (as' : List ip_V), as = .inr (.inl (some b)) :: as' ∧ as'.length = 0 ∧ (S.2.2.2 b).1 = 4 := by
  intro as S hI h
  obtain ⟨a, rfl, hq⟩ := ip_e_r h
  exact ⟨_, _, rfl, rfl, by rw [hq.1, hI.1 0 (by decide)]; rfl⟩
def rmX4_allLate : Room := { frames := 3, cells := 0, slots := 0, locals := 120 }
def pX4_allLate (po : List ip_V → ip_S → Prop) : List (Nat × ip_T) := [(0, ip_t_ci 0 1), (1, ip_t_is 1 2), (2, ip_t_ci 0 3), (3, ip_t_is 2 4), (4, ip_t_il 2 5), (5, ip_t_ar 0 6), (6, ip_t_gI0 0 4 9), (9, ip_t_icge 43 12), (12, ip_t_ar 0 13), (13, ip_t_gR0 0 6 16), (16, ip_t_il 2 17), (17, ip_t_lda 9 18), (18, ip_t_as 3 19), (19, ip_t_ar 3 20), (20, ip_t_null 37 23), (23, ip_t_ar 3 24), (24, ip_t_call 1 preX1_isGone postX1_isGone 27), (27, ip_t_ifeq 37 30), (30, ip_t_il 1 31), (31, ip_t_ar 3 32), (32, ip_t_call 1 preX1_late postX1_late 35), (35, ip_t_iadd 36), (36, ip_t_is 1 37), (37, ip_t_inc 2 1 40), (40, ip_t_go 4), (43, ip_t_il 1 44), (44, ip_t_iret po)]
set_option maxRecDepth 100000 in
set_option maxHeartbeats 4000000 in
theorem tX4_allLate {p : Program} {l : Launch} {e : Env} {s : State} {m : MethodId} {args : Array Value} {below : List Frame} {meth : Method} {c : Code} {D : va_G} {cA : Nat → ClassId} {A : Nat → Prop} {ad0 : Nat → Nat} {S0 : ip_S} {po : List ip_V → ip_S → Prop} (hx : p.tables.exec = Jvm.exec) (hb : c.code = cX4_allLate) (hml : c.maxLocals = 4) (hown : s.vm.findClass RX4 = some m.cls) (hts : ∀ w ∈ wsX4_allLate, w.before args s = true) (hr : meth.sig.returnType = (some .int)) (hlocks : meth.locks = false) (hname : meth.name = yX4_allLate.name) (hA : ∀ q, s.heap.size ≤ q → A q) (hNx : ip_Nx s) : ∀ q ∈ pX4_allLate po, ip_snd p l e rmX4_allLate s m args below meth c D cA A (MQ below (ip_Q ip_Sta D cA ad0 S0 A po) args s 0 0 A) 4 (fun _ => (0, 0)) ip_Sta ad0 S0 q.1 q.2 := by
  have hIs : ∀ S, ip_Sta S → ip_Sta S := fun _ h => h
  have hIn := ip_In_Sta
  have hS9 : CallFix p m c cX4_allLate 4 s args wsX4_allLate RX4 := ⟨hx, hb, hml, hown, hts⟩
  have hin4 : ∀ w ∈ u_ws RX4 TX4 14, w ∈ wsX4_allLate := by decide +kernel
  refine List.forall_mem_cons.mpr ⟨ip_s_iconst hx hb dX4_allLate_0 rfl rfl, ?_⟩
  refine List.forall_mem_cons.mpr ⟨ip_s_istore_n hx hb dX4_allLate_1 rfl (by decide) rfl, ?_⟩
  refine List.forall_mem_cons.mpr ⟨ip_s_iconst hx hb dX4_allLate_2 rfl rfl, ?_⟩
  refine List.forall_mem_cons.mpr ⟨ip_s_istore_n hx hb dX4_allLate_3 rfl (by decide) rfl, ?_⟩
  refine List.forall_mem_cons.mpr ⟨ip_s_iload_n hx hb dX4_allLate_4 rfl rfl, ?_⟩
  refine List.forall_mem_cons.mpr ⟨ip_s_aload_n hx hb dX4_allLate_5 rfl rfl, ?_⟩
  refine List.forall_mem_cons.mpr ⟨ip_s_gI0 hx hb hts hin4 hown rfl (by decide) 4 (by decide) (hts (.fieldLink RX4 119 "IcePads" "jetCount" "I") (by decide +kernel)) (fun _ h9 => h9) hIs 0 rfl rfl dX4_allLate_6 rfl, ?_⟩
  refine List.forall_mem_cons.mpr ⟨ip_s_icge (t := 43) hx hb dX4_allLate_9 (by decide) rfl rfl, ?_⟩
  refine List.forall_mem_cons.mpr ⟨ip_s_aload_n hx hb dX4_allLate_12 rfl rfl, ?_⟩
  refine List.forall_mem_cons.mpr ⟨ip_s_gR0 hx hb hts hin4 hown rfl (by decide) 3 (by decide) (hts (.fieldLink RX4 24 "IcePads" "jets" "[LIcePads$Jet;") (by decide +kernel)) (fun _ h9 => h9) hIs 0 6 rfl (by decide) rfl dX4_allLate_13 rfl, ?_⟩
  refine List.forall_mem_cons.mpr ⟨ip_s_iload_n hx hb dX4_allLate_16 rfl rfl, ?_⟩
  refine List.forall_mem_cons.mpr ⟨ip_s_lda9 hx hb hIs dX4_allLate_17 rfl, ?_⟩
  refine List.forall_mem_cons.mpr ⟨ip_s_astore_n hx hb dX4_allLate_18 rfl (by decide) rfl, ?_⟩
  refine List.forall_mem_cons.mpr ⟨ip_s_aload_n hx hb dX4_allLate_19 rfl rfl, ?_⟩
  refine List.forall_mem_cons.mpr ⟨ip_s_ifnull (t := 37) hx hb dX4_allLate_20 (by decide) rfl rfl, ?_⟩
  refine List.forall_mem_cons.mpr ⟨ip_s_aload_n hx hb dX4_allLate_23 rfl rfl, ?_⟩
  refine List.forall_mem_cons.mpr ⟨ip_s_callV hNx hS9 (ctX1_isGone l) (cwV 0 hts gX4_allLate_X1_isGone rfl rfl rfl (by decide +kernel) ⟨Nat.le_of_ble_eq_true rfl, Nat.le_of_ble_eq_true rfl⟩) (ci := 1) rfl rfl (by decide) (fun as S hI h => shX1_isGone as S hI h) hA dX4_allLate_24 ⟨Nat.le_of_ble_eq_true rfl, Nat.le_of_ble_eq_true rfl⟩ rfl, ?_⟩
  refine List.forall_mem_cons.mpr ⟨ip_s_ifeq (t := 37) hx hb dX4_allLate_27 (by decide) rfl rfl, ?_⟩
  refine List.forall_mem_cons.mpr ⟨ip_s_iload_n hx hb dX4_allLate_30 rfl rfl, ?_⟩
  refine List.forall_mem_cons.mpr ⟨ip_s_aload_n hx hb dX4_allLate_31 rfl rfl, ?_⟩
  refine List.forall_mem_cons.mpr ⟨ip_s_callV hNx hS9 (ctX1_late l) (cwV 0 hts gX4_allLate_X1_late rfl rfl rfl (by decide +kernel) ⟨Nat.le_of_ble_eq_true rfl, Nat.le_of_ble_eq_true rfl⟩) (ci := 1) rfl rfl (by decide) (fun as S hI h => shX1_late as S hI h) hA dX4_allLate_32 ⟨Nat.le_of_ble_eq_true rfl, Nat.le_of_ble_eq_true rfl⟩ rfl, ?_⟩
  refine List.forall_mem_cons.mpr ⟨ip_s_iadd hx hb dX4_allLate_35 rfl, ?_⟩
  refine List.forall_mem_cons.mpr ⟨ip_s_istore_n hx hb dX4_allLate_36 rfl (by decide) rfl, ?_⟩
  refine List.forall_mem_cons.mpr ⟨ip_s_iinc hx hb dX4_allLate_37 rfl (by decide) rfl, ?_⟩
  refine List.forall_mem_cons.mpr ⟨ip_s_go (t := 4) hx hb dX4_allLate_40 (by decide) (Nat.le_of_ble_eq_true rfl) (Nat.le_of_ble_eq_true rfl), ?_⟩
  refine List.forall_mem_cons.mpr ⟨ip_s_iload_n hx hb dX4_allLate_43 rfl rfl, ?_⟩
  refine List.forall_mem_cons.mpr ⟨ip_s_iret hx hb hr hlocks (Nat.le_of_ble_eq_true rfl) (Nat.le_of_ble_eq_true rfl) dX4_allLate_44, ?_⟩
  exact fun _ h => absurd h List.not_mem_nil
abbrev iX4_allLate (M : ip_M) (a : Nat) (S : ip_S) : Nat → ip_N := fun k pc loc st S1 => ∃ (nj j : Nat) (x2 x3 : Int32) (x4 : Option ip_V), M 50 15 = nI nj ∧ nj ≤ 12 ∧ x3 = nI j ∧ j ≤ nj ∧ k + j = nj ∧ pc = 4 ∧ st = [] ∧ S1 = S ∧ loc = [some (.inr (.inl (some a))), some (.inl x2), some (.inl x3), x4] ∧ x2 = g_sl M j
set_option maxRecDepth 100000 in
set_option maxHeartbeats 4000000 in
theorem lpX4_allLate (M : ip_M) (a : Nat) (S : ip_S) (hS : ip_Sta S) (hp : a = 0 ∧ ip_cR M S) : ∀ k pc loc st S1, iX4_allLate M a S k pc loc st S1 → ip_run (pX4_allLate (postX4_allLate M [.inr (.inl (some a))] S)) (fun pc => Nat.beq pc 4) (fun pc loc st S2 => ∃ k', k' < k ∧ iX4_allLate M a S k' pc loc st S2) 40 pc loc st S1 := by
  obtain ⟨rfl, nf, nj0, np, hv, hcS, hcF, hcJ, hcP⟩ := hp
  rintro k pc loc st S1 ⟨nj, j, x2, x3, x4, hnj, hn12, rfl, hj, hk, rfl, rfl, rfl, rfl, rfl⟩
  have e4 := hcS.2.2.1
  have enj : nj = nj0 := ip_nI_inj (by omega) (by have := hv.1.2.2.2.1; omega) (hnj.symm.trans hv.1.2.2.1)
  subst enj
  have hcn : (M 50 15).toNatClampNeg = nj := by rw [hnj]; exact nI_clamp (by omega)
  refine And.intro (fun q => ?_) (fun q => ?_)
  · rw [e4, hnj, nI_leI (by omega) (by omega)] at q
    have hjj : j = nj := Nat.le_antisymm hj q
    subst hjj
    refine And.intro ?_ rfl
    rw [hcn]
  · rw [e4, hnj, nI_leI (by omega) (by omega)] at q
    have hjl : j < nj := Nat.lt_of_not_le q
    obtain ⟨hin, hcj⟩ := ip_inN (N := 12) hjl hn12 (by decide)
    have hk1 : k - 1 < k := by omega
    have hk2 : k - 1 + (j + 1) = nj := by omega
    obtain ⟨st1, st2⟩ := ip_stJ hv hcJ hjl
    obtain ⟨j1, j2, j3, j4, j5, j6, j7, j8, j9, j10, j11, j12, j13⟩ := hcJ.1 j hjl
    refine And.intro hin (fun o ho => ?_)
    rw [hcj, j1] at ho
    subst ho
    refine And.intro (And.intro j2 trivial) ?_
    rintro r S' ⟨rfl, rfl⟩
    refine And.intro (fun q2 => ?_) (fun q2 => ?_)
    · have h9 : S'.1 (30 + j) 8 = -900 := Classical.byContradiction (fun z => by rw [if_neg z] at q2; exact absurd q2 (by decide))
      exact Exists.intro (k - 1) (And.intro hk1 ⟨nj, j + 1, _, _, _, hnj, hn12, nI_1 j, hjl, hk2, rfl, rfl, rfl, rfl, by rw [g_sl, if_neg (st2.mp h9), Int32.add_zero]⟩)
    · have h9 : ¬ S'.1 (30 + j) 8 = -900 := fun z => by rw [if_pos z] at q2; exact q2 rfl
      have h2 : M 71 j = 2 := Classical.byContradiction (fun z => h9 (st2.mpr z))
      refine And.intro (And.intro j2 trivial) ?_
      rintro r S' ⟨rfl, rfl⟩
      rw [j10, j4, j6, j7]
      exact Exists.intro (k - 1) (And.intro hk1 ⟨nj, j + 1, _, _, _, hnj, hn12, nI_1 j, hjl, hk2, rfl, rfl, rfl, rfl, by rw [g_sl, if_pos h2]; rfl⟩)
set_option maxRecDepth 100000 in
set_option maxHeartbeats 4000000 in
theorem vX4_allLate (M : ip_M) (a : Nat) (S : ip_S) (hS : ip_Sta S) (hp : a = 0 ∧ ip_cR M S) : ip_run (pX4_allLate (postX4_allLate M [.inr (.inl (some a))] S)) (fun pc => Nat.beq pc 4) (fun pc loc st S2 => ∃ k, iX4_allLate M a S k pc loc st S2) 40 0 [some (.inr (.inl (some a))), none, none, none] [] S := by
  obtain ⟨rfl, nf, nj0, np, hv, hcS, hcF, hcJ, hcP⟩ := hp
  exact Exists.intro nj0 ⟨nj0, 0, 0, 0, none, hv.1.2.2.1, hv.1.2.2.2.1, rfl, Nat.zero_le _, rfl, rfl, rfl, rfl, rfl, rfl⟩
theorem ctX4_allLate (l : Launch) (M : ip_M) : ip_CT l yX4_allLate wsX4_allLate rmX4_allLate ip_Sta (preX4_allLate M) (postX4_allLate M) := by
  refine ip_of (cc := cX4_allLate) (maxL := 4) (ret := (some .int)) (by decide +kernel) rfl (fun _ => (0, 0)) rfl ?_ ?_
  · intro as S h
    obtain ⟨a, rfl, hq⟩ := ip_e_r h
    exact ⟨Nat.le_of_ble_eq_true rfl, by simp⟩
  intro p e s m args below meth c D cA A ad0 as S h hI hx hb hml hown hts hr hlocks hname hA hNx
  obtain ⟨a, rfl, hq⟩ := ip_e_r h
  have ht := tX4_allLate (D := D) (cA := cA) (A := A) (ad0 := ad0) (l := l) (e := e) (below := below) (S0 := S) (po := postX4_allLate M [.inr (.inl (some a))] S) hx hb hml hown hts hr hlocks hname hA hNx
  refine ip_run_ok ht (fun pc loc st S2 hh => ?_) 40 0 _ _ S (vX4_allLate M a S hI hq)
  obtain ⟨k, hk⟩ := hh
  exact ip_loop ht (iX4_allLate M a S) (lpX4_allLate M a S hI hq) k pc loc st S2 hk

def preX4_count (M : ip_M) : List ip_V → ip_S → Prop := ip_h_ri (fun _ => False) (fun a w S => a = 0 ∧ ip_cR M S)
def postX4_count (M : ip_M) : List ip_V → ip_S → List ip_V → ip_S → Prop := ip_h_ri (fun _ _ _ => True) (fun a w S r S' => r = [.inl (g_count M w)] ∧ S' = S)
theorem shX4_count (M : ip_M) : ∀ as S, ip_Sta S → preX4_count M as S → ∃ (b : Nat) (as' : List ip_V), as = .inr (.inl (some b)) :: as' ∧ as'.length = 1 ∧ (S.2.2.2 b).1 = 4 := by
  intro as S hI h
  obtain ⟨a, w, rfl, hq⟩ := ip_e_ri h
  exact ⟨_, _, rfl, rfl, by rw [hq.1, hI.1 0 (by decide)]; rfl⟩
def rmX4_count : Room := { frames := 4, cells := 0, slots := 0, locals := 160 }
def pX4_count (po : List ip_V → ip_S → Prop) : List (Nat × ip_T) := [(0, ip_t_il 1 1), (1, ip_t_sw [(0, 56), (1, 61), (2, 66), (3, 71), (4, 76), (5, 82), (6, 88), (7, 93), (8, 98), (9, 103)] 108), (56, ip_t_ar 0 57), (57, ip_t_gI0 0 8 60), (60, ip_t_iret po), (61, ip_t_ar 0 62), (62, ip_t_gI0 0 2 65), (65, ip_t_iret po), (66, ip_t_ar 0 67), (67, ip_t_gI0 0 6 70), (70, ip_t_iret po), (71, ip_t_ar 0 72), (72, ip_t_gI0 0 4 75), (75, ip_t_iret po), (76, ip_t_ar 0 77), (77, ip_t_ci 0 78), (78, ip_t_callG 2 preX4_jetsIn postX4_jetsIn 81), (81, ip_t_iret po), (82, ip_t_ar 0 83), (83, ip_t_ci 2 84), (84, ip_t_callG 2 preX4_jetsIn postX4_jetsIn 87), (87, ip_t_iret po), (88, ip_t_ar 0 89), (89, ip_t_gI0 0 11 92), (92, ip_t_iret po), (93, ip_t_ar 0 94), (94, ip_t_gI0 0 12 97), (97, ip_t_iret po), (98, ip_t_ar 0 99), (99, ip_t_callG 1 preX4_allTurnsBack postX4_allTurnsBack 102), (102, ip_t_iret po), (103, ip_t_ar 0 104), (104, ip_t_callG 1 preX4_allLate postX4_allLate 107), (107, ip_t_iret po), (108, ip_t_ci (-100) 110), (110, ip_t_iret po)]
set_option maxRecDepth 100000 in
set_option maxHeartbeats 4000000 in
theorem tX4_count {p : Program} {l : Launch} {e : Env} {s : State} {m : MethodId} {args : Array Value} {below : List Frame} {meth : Method} {c : Code} {D : va_G} {cA : Nat → ClassId} {A : Nat → Prop} {ad0 : Nat → Nat} {S0 : ip_S} {po : List ip_V → ip_S → Prop} (hx : p.tables.exec = Jvm.exec) (hb : c.code = cX4_count) (hml : c.maxLocals = 2) (hown : s.vm.findClass RX4 = some m.cls) (hts : ∀ w ∈ wsX4_count, w.before args s = true) (hr : meth.sig.returnType = (some .int)) (hlocks : meth.locks = false) (hname : meth.name = yX4_count.name) (hA : ∀ q, s.heap.size ≤ q → A q) (hNx : ip_Nx s) : ∀ q ∈ pX4_count po, ip_snd p l e rmX4_count s m args below meth c D cA A (MQ below (ip_Q ip_Sta D cA ad0 S0 A po) args s 0 0 A) 2 (fun _ => (0, 0)) ip_Sta ad0 S0 q.1 q.2 := by
  have hIs : ∀ S, ip_Sta S → ip_Sta S := fun _ h => h
  have hIn := ip_In_Sta
  have hS9 : CallFix p m c cX4_count 2 s args wsX4_count RX4 := ⟨hx, hb, hml, hown, hts⟩
  have hin4 : ∀ w ∈ u_ws RX4 TX4 14, w ∈ wsX4_count := by decide +kernel
  refine List.forall_mem_cons.mpr ⟨ip_s_iload_n hx hb dX4_count_0 rfl rfl, ?_⟩
  refine List.forall_mem_cons.mpr ⟨ip_s_sw (ts := [(0, 56), (1, 61), (2, 66), (3, 71), (4, 76), (5, 82), (6, 88), (7, 93), (8, 98), (9, 103)]) (d := 108) hx hb 10 dX4_count_1 (by decide) (by decide +kernel) (by decide +kernel) (by decide) rfl (fun _ _ => rfl), ?_⟩
  refine List.forall_mem_cons.mpr ⟨ip_s_aload_n hx hb dX4_count_56 rfl rfl, ?_⟩
  refine List.forall_mem_cons.mpr ⟨ip_s_gI0 hx hb hts hin4 hown rfl (by decide) 8 (by decide) (hts (.fieldLink RX4 56 "IcePads" "now" "I") (by decide +kernel)) (fun _ h9 => h9) hIs 0 rfl rfl dX4_count_57 rfl, ?_⟩
  refine List.forall_mem_cons.mpr ⟨ip_s_iret hx hb hr hlocks (Nat.le_of_ble_eq_true rfl) (Nat.le_of_ble_eq_true rfl) dX4_count_60, ?_⟩
  refine List.forall_mem_cons.mpr ⟨ip_s_aload_n hx hb dX4_count_61 rfl rfl, ?_⟩
  refine List.forall_mem_cons.mpr ⟨ip_s_gI0 hx hb hts hin4 hown rfl (by decide) 2 (by decide) (hts (.fieldLink RX4 85 "IcePads" "fluidCount" "I") (by decide +kernel)) (fun _ h9 => h9) hIs 0 rfl rfl dX4_count_62 rfl, ?_⟩
  refine List.forall_mem_cons.mpr ⟨ip_s_iret hx hb hr hlocks (Nat.le_of_ble_eq_true rfl) (Nat.le_of_ble_eq_true rfl) dX4_count_65, ?_⟩
  refine List.forall_mem_cons.mpr ⟨ip_s_aload_n hx hb dX4_count_66 rfl rfl, ?_⟩
  refine List.forall_mem_cons.mpr ⟨ip_s_gI0 hx hb hts hin4 hown rfl (by decide) 6 (by decide) (hts (.fieldLink RX4 38 "IcePads" "padCount" "I") (by decide +kernel)) (fun _ h9 => h9) hIs 0 rfl rfl dX4_count_67 rfl, ?_⟩
  refine List.forall_mem_cons.mpr ⟨ip_s_iret hx hb hr hlocks (Nat.le_of_ble_eq_true rfl) (Nat.le_of_ble_eq_true rfl) dX4_count_70, ?_⟩
  refine List.forall_mem_cons.mpr ⟨ip_s_aload_n hx hb dX4_count_71 rfl rfl, ?_⟩
  refine List.forall_mem_cons.mpr ⟨ip_s_gI0 hx hb hts hin4 hown rfl (by decide) 4 (by decide) (hts (.fieldLink RX4 119 "IcePads" "jetCount" "I") (by decide +kernel)) (fun _ h9 => h9) hIs 0 rfl rfl dX4_count_72 rfl, ?_⟩
  refine List.forall_mem_cons.mpr ⟨ip_s_iret hx hb hr hlocks (Nat.le_of_ble_eq_true rfl) (Nat.le_of_ble_eq_true rfl) dX4_count_75, ?_⟩
  refine List.forall_mem_cons.mpr ⟨ip_s_aload_n hx hb dX4_count_76 rfl rfl, ?_⟩
  refine List.forall_mem_cons.mpr ⟨ip_s_iconst hx hb dX4_count_77 rfl rfl, ?_⟩
  refine List.forall_mem_cons.mpr ⟨ip_s_G (fun M => ip_s_callV hNx hS9 (ctX4_jetsIn l M) (cwV 1 hts gX4_count_X4_jetsIn rfl rfl rfl (by decide +kernel) ⟨Nat.le_of_ble_eq_true rfl, Nat.le_of_ble_eq_true rfl⟩) (ci := 4) rfl rfl (by decide) (fun as S hI h => shX4_jetsIn M as S hI h) hA dX4_count_78 ⟨Nat.le_of_ble_eq_true rfl, Nat.le_of_ble_eq_true rfl⟩ rfl), ?_⟩
  refine List.forall_mem_cons.mpr ⟨ip_s_iret hx hb hr hlocks (Nat.le_of_ble_eq_true rfl) (Nat.le_of_ble_eq_true rfl) dX4_count_81, ?_⟩
  refine List.forall_mem_cons.mpr ⟨ip_s_aload_n hx hb dX4_count_82 rfl rfl, ?_⟩
  refine List.forall_mem_cons.mpr ⟨ip_s_iconst hx hb dX4_count_83 rfl rfl, ?_⟩
  refine List.forall_mem_cons.mpr ⟨ip_s_G (fun M => ip_s_callV hNx hS9 (ctX4_jetsIn l M) (cwV 1 hts gX4_count_X4_jetsIn rfl rfl rfl (by decide +kernel) ⟨Nat.le_of_ble_eq_true rfl, Nat.le_of_ble_eq_true rfl⟩) (ci := 4) rfl rfl (by decide) (fun as S hI h => shX4_jetsIn M as S hI h) hA dX4_count_84 ⟨Nat.le_of_ble_eq_true rfl, Nat.le_of_ble_eq_true rfl⟩ rfl), ?_⟩
  refine List.forall_mem_cons.mpr ⟨ip_s_iret hx hb hr hlocks (Nat.le_of_ble_eq_true rfl) (Nat.le_of_ble_eq_true rfl) dX4_count_87, ?_⟩
  refine List.forall_mem_cons.mpr ⟨ip_s_aload_n hx hb dX4_count_88 rfl rfl, ?_⟩
  refine List.forall_mem_cons.mpr ⟨ip_s_gI0 hx hb hts hin4 hown rfl (by decide) 11 (by decide) (hts (.fieldLink RX4 179 "IcePads" "drain" "I") (by decide +kernel)) (fun _ h9 => h9) hIs 0 rfl rfl dX4_count_89 rfl, ?_⟩
  refine List.forall_mem_cons.mpr ⟨ip_s_iret hx hb hr hlocks (Nat.le_of_ble_eq_true rfl) (Nat.le_of_ble_eq_true rfl) dX4_count_92, ?_⟩
  refine List.forall_mem_cons.mpr ⟨ip_s_aload_n hx hb dX4_count_93 rfl rfl, ?_⟩
  refine List.forall_mem_cons.mpr ⟨ip_s_gI0 hx hb hts hin4 hown rfl (by decide) 12 (by decide) (hts (.fieldLink RX4 182 "IcePads" "begun" "I") (by decide +kernel)) (fun _ h9 => h9) hIs 0 rfl rfl dX4_count_94 rfl, ?_⟩
  refine List.forall_mem_cons.mpr ⟨ip_s_iret hx hb hr hlocks (Nat.le_of_ble_eq_true rfl) (Nat.le_of_ble_eq_true rfl) dX4_count_97, ?_⟩
  refine List.forall_mem_cons.mpr ⟨ip_s_aload_n hx hb dX4_count_98 rfl rfl, ?_⟩
  refine List.forall_mem_cons.mpr ⟨ip_s_G (fun M => ip_s_callV hNx hS9 (ctX4_allTurnsBack l M) (cwV 0 hts gX4_count_X4_allTurnsBack rfl rfl rfl (by decide +kernel) ⟨Nat.le_of_ble_eq_true rfl, Nat.le_of_ble_eq_true rfl⟩) (ci := 4) rfl rfl (by decide) (fun as S hI h => shX4_allTurnsBack M as S hI h) hA dX4_count_99 ⟨Nat.le_of_ble_eq_true rfl, Nat.le_of_ble_eq_true rfl⟩ rfl), ?_⟩
  refine List.forall_mem_cons.mpr ⟨ip_s_iret hx hb hr hlocks (Nat.le_of_ble_eq_true rfl) (Nat.le_of_ble_eq_true rfl) dX4_count_102, ?_⟩
  refine List.forall_mem_cons.mpr ⟨ip_s_aload_n hx hb dX4_count_103 rfl rfl, ?_⟩
  refine List.forall_mem_cons.mpr ⟨ip_s_G (fun M => ip_s_callV hNx hS9 (ctX4_allLate l M) (cwV 0 hts gX4_count_X4_allLate rfl rfl rfl (by decide +kernel) ⟨Nat.le_of_ble_eq_true rfl, Nat.le_of_ble_eq_true rfl⟩) (ci := 4) rfl rfl (by decide) (fun as S hI h => shX4_allLate M as S hI h) hA dX4_count_104 ⟨Nat.le_of_ble_eq_true rfl, Nat.le_of_ble_eq_true rfl⟩ rfl), ?_⟩
  refine List.forall_mem_cons.mpr ⟨ip_s_iret hx hb hr hlocks (Nat.le_of_ble_eq_true rfl) (Nat.le_of_ble_eq_true rfl) dX4_count_107, ?_⟩
  refine List.forall_mem_cons.mpr ⟨ip_s_bipush hx hb dX4_count_108 rfl rfl, ?_⟩
  refine List.forall_mem_cons.mpr ⟨ip_s_iret hx hb hr hlocks (Nat.le_of_ble_eq_true rfl) (Nat.le_of_ble_eq_true rfl) dX4_count_110, ?_⟩
  exact fun _ h => absurd h List.not_mem_nil
set_option maxRecDepth 100000 in
set_option maxHeartbeats 4000000 in
theorem vX4_count (M : ip_M) (a : Nat) (w : Int32) (S : ip_S) (hS : ip_Sta S) (hp : a = 0 ∧ ip_cR M S) : ip_run (pX4_count (postX4_count M [.inr (.inl (some a)), .inl w] S)) (fun _ => false) (fun _ _ _ _ => False) 40 0 [some (.inr (.inl (some a))), some (.inl w)] [] S := by
  obtain ⟨rfl, hR⟩ := hp
  have hR' := hR
  obtain ⟨nf, nj, np, hv, ⟨s8, s2, s4, s6, s9, s10, s11, s12, -⟩, hcF, hcJ, hcP⟩ := hR'
  refine And.intro (fun c0 => ?_) (fun c0 => ?_)
  · refine And.intro ?_ rfl
    unfold g_count
    rw [if_pos c0, s8]
  refine And.intro (fun c1 => ?_) (fun c1 => ?_)
  · refine And.intro ?_ rfl
    unfold g_count
    rw [if_neg c0, if_pos c1, s2]
  refine And.intro (fun c2 => ?_) (fun c2 => ?_)
  · refine And.intro ?_ rfl
    unfold g_count
    rw [if_neg c0, if_neg c1, if_pos c2, s6]
  refine And.intro (fun c3 => ?_) (fun c3 => ?_)
  · refine And.intro ?_ rfl
    unfold g_count
    rw [if_neg c0, if_neg c1, if_neg c2, if_pos c3, s4]
  refine And.intro (fun c4 => ?_) (fun c4 => ?_)
  · refine Exists.intro M (And.intro (And.intro rfl hR) ?_)
    rintro r S' ⟨rfl, rfl⟩
    refine And.intro ?_ rfl
    unfold g_count
    rw [if_neg c0, if_neg c1, if_neg c2, if_neg c3, if_pos c4]
  refine And.intro (fun c5 => ?_) (fun c5 => ?_)
  · refine Exists.intro M (And.intro (And.intro rfl hR) ?_)
    rintro r S' ⟨rfl, rfl⟩
    refine And.intro ?_ rfl
    unfold g_count
    rw [if_neg c0, if_neg c1, if_neg c2, if_neg c3, if_neg c4, if_pos c5]
  refine And.intro (fun c6 => ?_) (fun c6 => ?_)
  · refine And.intro ?_ rfl
    unfold g_count
    rw [if_neg c0, if_neg c1, if_neg c2, if_neg c3, if_neg c4, if_neg c5, if_pos c6, s11]
  refine And.intro (fun c7 => ?_) (fun c7 => ?_)
  · refine And.intro ?_ rfl
    unfold g_count
    rw [if_neg c0, if_neg c1, if_neg c2, if_neg c3, if_neg c4, if_neg c5, if_neg c6, if_pos c7, s12]
  refine And.intro (fun c8 => ?_) (fun c8 => ?_)
  · refine Exists.intro M (And.intro (And.intro rfl hR) ?_)
    rintro r S' ⟨rfl, rfl⟩
    refine And.intro ?_ rfl
    unfold g_count
    rw [if_neg c0, if_neg c1, if_neg c2, if_neg c3, if_neg c4, if_neg c5, if_neg c6, if_neg c7, if_pos c8]
  refine And.intro (fun c9 => ?_) (fun c9 => ?_)
  · refine Exists.intro M (And.intro (And.intro rfl hR) ?_)
    rintro r S' ⟨rfl, rfl⟩
    refine And.intro ?_ rfl
    unfold g_count
    rw [if_neg c0, if_neg c1, if_neg c2, if_neg c3, if_neg c4, if_neg c5, if_neg c6, if_neg c7, if_neg c8, if_pos c9]
  refine And.intro ?_ rfl
  unfold g_count
  rw [if_neg c0, if_neg c1, if_neg c2, if_neg c3, if_neg c4, if_neg c5, if_neg c6, if_neg c7, if_neg c8, if_neg c9]
theorem ctX4_count (l : Launch) (M : ip_M) : ip_CT l yX4_count wsX4_count rmX4_count ip_Sta (preX4_count M) (postX4_count M) := by
  refine ip_of (cc := cX4_count) (maxL := 2) (ret := (some .int)) (by decide +kernel) rfl (fun _ => (0, 0)) rfl ?_ ?_
  · intro as S h
    obtain ⟨a, w, rfl, hq⟩ := ip_e_ri h
    exact ⟨Nat.le_of_ble_eq_true rfl, by simp⟩
  intro p e s m args below meth c D cA A ad0 as S h hI hx hb hml hown hts hr hlocks hname hA hNx
  obtain ⟨a, w, rfl, hq⟩ := ip_e_ri h
  refine ip_run_ok (stop := fun _ => false) (tX4_count hx hb hml hown hts hr hlocks hname hA hNx) (fun _ _ _ _ h => False.elim h) 40 0 _ _ S ?_
  exact vX4_count M a w S hI hq
