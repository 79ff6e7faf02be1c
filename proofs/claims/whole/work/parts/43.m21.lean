theorem ip_due {s z n : Int32} (hs : 0 ≤ s.toInt ∧ s.toInt ≤ 299) (hz : 1 ≤ z.toInt ∧ z.toInt ≤ 5) (hn : n.toInt ≤ s.toInt + 2 * z.toInt) : s + 2 * z ≤ n ↔ s + 2 * z = n := by
  have h2i : (2 : Int32).toInt = 2 := rfl
  have hm : ((2 : Int32) * z).toInt = 2 * z.toInt := by rw [ip_mulI (by rw [h2i]; omega) (by rw [h2i]; omega), h2i]
  have he : (s + 2 * z).toInt = s.toInt + 2 * z.toInt := by rw [ip_addI (by rw [hm]; omega) (by rw [hm]; omega), hm]
  rw [ip_leI, ip_eqI, he]
  omega
theorem ip_flyc {n r s h : Int32} (hn : 0 ≤ n.toInt ∧ n.toInt ≤ 299) (hr : 1 ≤ r.toInt ∧ r.toInt ≤ 20) (hs : 0 ≤ s.toInt ∧ s.toInt ≤ 299) (hh : 0 ≤ h.toInt ∧ h.toInt ≤ 400) : n + r ≤ s + h ↔ n + r - s ≤ h := by
  have e1 : (n + r).toInt = n.toInt + r.toInt := ip_addI (by omega) (by omega)
  have e2 : (s + h).toInt = s.toInt + h.toInt := ip_addI (by omega) (by omega)
  have e3 : (n + r - s).toInt = n.toInt + r.toInt - s.toInt := by rw [ip_subI (by omega) (by omega), e1]
  rw [ip_leI, ip_leI, e1, e2, e3]
  omega

def preX4_endOn (M : ip_M) : List ip_V → ip_S → Prop := ip_h_ri (fun _ => False) (fun a pd S => a = 0 ∧ ip_cR M S ∧ ∃ p, p < 3 ∧ pd = nI p)
def postX4_endOn (M : ip_M) : List ip_V → ip_S → List ip_V → ip_S → Prop := ip_h_ri (fun _ _ _ => True) (fun a pd S r S' => r = [] ∧ ip_cR (g_lv1 M pd.toNatClampNeg) S' ∧ ip_fC S S')
theorem shX4_endOn (M : ip_M) : ∀ as S, ip_Sta S → preX4_endOn M as S → ∃ (b : Nat) (as' : List ip_V), as = .inr (.inl (some b)) :: as' ∧ as'.length = 1 ∧ (S.2.2.2 b).1 = 4 := by
  intro as S hI h
  obtain ⟨a, pd, rfl, hq⟩ := ip_e_ri h
  exact ⟨_, _, rfl, rfl, by rw [hq.1, hI.1 0 (by decide)]; rfl⟩
def rmX4_endOn : Room := { frames := 2, cells := 0, slots := 0, locals := 80 }
def pX4_endOn (po : List ip_V → ip_S → Prop) : List (Nat × ip_T) := [(0, ip_t_ar 0 1), (1, ip_t_gR0 0 7 4), (4, ip_t_il 1 5), (5, ip_t_lda 9 6), (6, ip_t_as 2 7), (7, ip_t_ar 2 8), (8, ip_t_null 27 11), (11, ip_t_ar 0 12), (12, ip_t_gI0 0 8 15), (15, ip_t_ar 2 16), (16, ip_t_gI 1 7 19), (19, ip_t_ar 2 20), (20, ip_t_call 1 preX1_treatment postX1_treatment 23), (23, ip_t_iadd 24), (24, ip_t_icge 28 27), (27, ip_t_vret po), (28, ip_t_ar 0 29), (29, ip_t_gR0 0 7 32), (32, ip_t_il 1 33), (33, ip_t_nul 34), (34, ip_t_sta 9 1 35), (35, ip_t_ar 2 36), (36, ip_t_ar 0 37), (37, ip_t_gI0 0 8 40), (40, ip_t_call 2 preX1_leave postX1_leave 43), (43, ip_t_vret po)]
set_option maxRecDepth 100000 in
set_option maxHeartbeats 4000000 in
theorem tX4_endOn {p : Program} {l : Launch} {e : Env} {s : State} {m : MethodId} {args : Array Value} {below : List Frame} {meth : Method} {c : Code} {D : va_G} {cA : Nat → ClassId} {A : Nat → Prop} {ad0 : Nat → Nat} {S0 : ip_S} {po : List ip_V → ip_S → Prop} (hx : p.tables.exec = Jvm.exec) (hb : c.code = cX4_endOn) (hml : c.maxLocals = 3) (hown : s.vm.findClass RX4 = some m.cls) (hts : ∀ w ∈ wsX4_endOn, w.before args s = true) (hr : meth.sig.returnType = none) (hlocks : meth.locks = false) (hname : meth.name = yX4_endOn.name) (hA : ∀ q, s.heap.size ≤ q → A q) (hNx : ip_Nx s) : ∀ q ∈ pX4_endOn po, ip_snd p l e rmX4_endOn s m args below meth c D cA A (MQ below (ip_Q ip_Sta D cA ad0 S0 A po) args s 0 0 A) 3 (fun _ => (0, 0)) ip_Sta ad0 S0 q.1 q.2 := by
  have hIs : ∀ S, ip_Sta S → ip_Sta S := fun _ h => h
  have hIn := ip_In_Sta
  have hS9 : CallFix p m c cX4_endOn 3 s args wsX4_endOn RX4 := ⟨hx, hb, hml, hown, hts⟩
  have hin1 : ∀ w ∈ u_ws RX1 TX1 11, w ∈ wsX4_endOn := by decide +kernel
  have hin4 : ∀ w ∈ u_ws RX4 TX4 14, w ∈ wsX4_endOn := by decide +kernel
  refine List.forall_mem_cons.mpr ⟨ip_s_aload_n hx hb dX4_endOn_0 rfl rfl, ?_⟩
  refine List.forall_mem_cons.mpr ⟨ip_s_gR0 hx hb hts hin4 hown rfl (by decide) 5 (by decide) (hts (.fieldLink RX4 28 "IcePads" "pads" "[LIcePads$Jet;") (by decide +kernel)) (fun _ h9 => h9) hIs 0 7 rfl (by decide) rfl dX4_endOn_1 rfl, ?_⟩
  refine List.forall_mem_cons.mpr ⟨ip_s_iload_n hx hb dX4_endOn_4 rfl rfl, ?_⟩
  refine List.forall_mem_cons.mpr ⟨ip_s_lda9 hx hb hIs dX4_endOn_5 rfl, ?_⟩
  refine List.forall_mem_cons.mpr ⟨ip_s_astore_n hx hb dX4_endOn_6 rfl (by decide) rfl, ?_⟩
  refine List.forall_mem_cons.mpr ⟨ip_s_aload_n hx hb dX4_endOn_7 rfl rfl, ?_⟩
  refine List.forall_mem_cons.mpr ⟨ip_s_ifnull (t := 27) hx hb dX4_endOn_8 (by decide) rfl rfl, ?_⟩
  refine List.forall_mem_cons.mpr ⟨ip_s_aload_n hx hb dX4_endOn_11 rfl rfl, ?_⟩
  refine List.forall_mem_cons.mpr ⟨ip_s_gI0 hx hb hts hin4 hown rfl (by decide) 8 (by decide) (hts (.fieldLink RX4 56 "IcePads" "now" "I") (by decide +kernel)) (fun _ h9 => h9) hIs 0 rfl rfl dX4_endOn_12 rfl, ?_⟩
  refine List.forall_mem_cons.mpr ⟨ip_s_aload_n hx hb dX4_endOn_15 rfl rfl, ?_⟩
  refine List.forall_mem_cons.mpr ⟨ip_s_gI hx hb hts hin1 hown rfl (by decide) 7 (by decide) (hts (.fieldLink RX4 138 "IcePads$Jet" "start" "I") (by decide +kernel)) (fun _ h9 => h9) rfl dX4_endOn_16 rfl, ?_⟩
  refine List.forall_mem_cons.mpr ⟨ip_s_aload_n hx hb dX4_endOn_19 rfl rfl, ?_⟩
  refine List.forall_mem_cons.mpr ⟨ip_s_callV hNx hS9 (ctX1_treatment l) (cwV 0 hts gX4_endOn_X1_treatment rfl rfl rfl (by decide +kernel) ⟨Nat.le_of_ble_eq_true rfl, Nat.le_of_ble_eq_true rfl⟩) (ci := 1) rfl rfl (by decide) (fun as S hI h => shX1_treatment as S hI h) hA dX4_endOn_20 ⟨Nat.le_of_ble_eq_true rfl, Nat.le_of_ble_eq_true rfl⟩ rfl, ?_⟩
  refine List.forall_mem_cons.mpr ⟨ip_s_iadd hx hb dX4_endOn_23 rfl, ?_⟩
  refine List.forall_mem_cons.mpr ⟨ip_s_icge (t := 28) hx hb dX4_endOn_24 (by decide) rfl rfl, ?_⟩
  refine List.forall_mem_cons.mpr ⟨ip_s_vret hx hb hr hlocks (Nat.le_of_ble_eq_true rfl) (Nat.le_of_ble_eq_true rfl) dX4_endOn_27, ?_⟩
  refine List.forall_mem_cons.mpr ⟨ip_s_aload_n hx hb dX4_endOn_28 rfl rfl, ?_⟩
  refine List.forall_mem_cons.mpr ⟨ip_s_gR0 hx hb hts hin4 hown rfl (by decide) 5 (by decide) (hts (.fieldLink RX4 28 "IcePads" "pads" "[LIcePads$Jet;") (by decide +kernel)) (fun _ h9 => h9) hIs 0 7 rfl (by decide) rfl dX4_endOn_29 rfl, ?_⟩
  refine List.forall_mem_cons.mpr ⟨ip_s_iload_n hx hb dX4_endOn_32 rfl rfl, ?_⟩
  refine List.forall_mem_cons.mpr ⟨ip_s_nul hx hb dX4_endOn_33 rfl, ?_⟩
  refine List.forall_mem_cons.mpr ⟨ip_s_sta9 hx hb hIn hIs dX4_endOn_34 rfl, ?_⟩
  refine List.forall_mem_cons.mpr ⟨ip_s_aload_n hx hb dX4_endOn_35 rfl rfl, ?_⟩
  refine List.forall_mem_cons.mpr ⟨ip_s_aload_n hx hb dX4_endOn_36 rfl rfl, ?_⟩
  refine List.forall_mem_cons.mpr ⟨ip_s_gI0 hx hb hts hin4 hown rfl (by decide) 8 (by decide) (hts (.fieldLink RX4 56 "IcePads" "now" "I") (by decide +kernel)) (fun _ h9 => h9) hIs 0 rfl rfl dX4_endOn_37 rfl, ?_⟩
  refine List.forall_mem_cons.mpr ⟨ip_s_callV hNx hS9 (ctX1_leave l) (cwV 1 hts gX4_endOn_X1_leave rfl rfl rfl (by decide +kernel) ⟨Nat.le_of_ble_eq_true rfl, Nat.le_of_ble_eq_true rfl⟩) (ci := 1) rfl rfl (by decide) (fun as S hI h => shX1_leave as S hI h) hA dX4_endOn_40 ⟨Nat.le_of_ble_eq_true rfl, Nat.le_of_ble_eq_true rfl⟩ rfl, ?_⟩
  refine List.forall_mem_cons.mpr ⟨ip_s_vret hx hb hr hlocks (Nat.le_of_ble_eq_true rfl) (Nat.le_of_ble_eq_true rfl) dX4_endOn_43, ?_⟩
  exact fun _ h => absurd h List.not_mem_nil
set_option maxRecDepth 100000 in
set_option maxHeartbeats 4000000 in
theorem vX4_endOn (M : ip_M) (a : Nat) (pd : Int32) (S : ip_S) (hS : ip_Sta S) (hp : a = 0 ∧ ip_cR M S ∧ ∃ p, p < 3 ∧ pd = nI p) : ip_run (pX4_endOn (postX4_endOn M [.inr (.inl (some a)), .inl pd] S)) (fun _ => false) (fun _ _ _ _ => False) 50 0 [some (.inr (.inl (some a))), some (.inl pd), none] [] S := by
  obtain ⟨rfl, hR, p, hp3, rfl⟩ := hp
  have hR' := hR
  obtain ⟨nf, nj, np, hv, hcS, hcF, hcJ, hcP⟩ := hR'
  obtain ⟨hin3, hcp⟩ := ip_inN (n := 3) (N := 3) hp3 (by decide) (by decide)
  have e8 := hcS.1
  refine And.intro hin3 (fun o ho => ?_)
  rw [hcp, hcP p hp3] at ho
  have hvl := ip_vv_lv hv hp3
  rcases ip_vp_at hv hp3 with h0 | ⟨j, h12, hj, -, h1, h2⟩
  · rw [if_pos h0] at ho
    subst ho
    refine And.intro rfl (And.intro ?_ ip_fC.rf)
    rw [hcp, g_lv1_0 h0]
    exact hR
  have hne : ¬ M 64 p = 0 := by rw [h1]; exact nI_ne0 (by omega) (by omega)
  rw [if_neg hne, h1, nI_clamp (by omega), show 29 + (j + 1) = 30 + j by omega] at ho
  subst ho
  obtain ⟨j1, j2, j3, j4, j5, j6, j7, j8, j9, j10, j11, j12, j13⟩ := hcJ.1 j hj
  obtain ⟨c1, c2, c3, c4, c5, c6, c7, c8⟩ := hv.2.2.2.2.1 j hj
  obtain ⟨d1, d2, d3, d4⟩ := c7 h2
  refine And.intro j2 ?_
  refine And.intro (And.intro j2 trivial) ?_
  rintro r S' ⟨rfl, rfl⟩
  rw [j6, j9]
  refine And.intro (fun q => ?_) (fun q => ?_)
  · rw [e8, ip_due d1 c1 d2] at q
    refine And.intro hin3 ?_
    refine And.intro (And.intro j2 trivial) ?_
    rintro r S'' ⟨rfl, rfl⟩
    refine And.intro rfl ?_
    rw [hcp, g_lv1_j h1 h12, if_pos q] at *
    have k8 : (ip_sR S' 7 p none).1 0 8 = M 50 0 := e8
    have k4 : (ip_sR S' 7 p none).1 (30 + j) 4 = M 69 j := j7
    have k10 : (ip_sR S' 7 p none).1 (30 + j) 10 = M 72 j + M 73 j := (j12 h2).1
    have k9 : (ip_sR S' 7 p none).1 (30 + j) 9 = M 74 j := j11
    rw [k8, k4, k10, k9]
    have hiff := ip_flyc hv.2.2.1.1 c2 d1 d4
    by_cases hfly : M 50 0 + M 69 j ≤ M 72 j + M 73 j
    · rw [if_pos hfly, if_pos (hiff.mp hfly)] at *
      exact And.intro (ip_cR_fly hv hvl hcS hcF hcJ hcP hj h1) (((ip_fC.rf.sR _ _ _).sI (by omega) _ _).sI (by omega) _ _)
    · rw [if_neg hfly, if_neg (fun z => hfly (hiff.mpr z))] at *
      exact And.intro (ip_cR_back hv hvl hcS hcF hcJ hcP hj h1) ((((ip_fC.rf.sR _ _ _).sI (by omega) _ _).sI (by omega) _ _).sI (by omega) _ _)
  · rw [e8, ip_due d1 c1 d2] at q
    refine And.intro rfl (And.intro ?_ ip_fC.rf)
    rw [hcp, g_lv1_j h1 h12, if_neg q]
    exact hR
theorem ctX4_endOn (l : Launch) (M : ip_M) : ip_CT l yX4_endOn wsX4_endOn rmX4_endOn ip_Sta (preX4_endOn M) (postX4_endOn M) := by
  refine ip_of (cc := cX4_endOn) (maxL := 3) (ret := none) (by decide +kernel) rfl (fun _ => (0, 0)) rfl ?_ ?_
  · intro as S h
    obtain ⟨a, pd, rfl, hq⟩ := ip_e_ri h
    exact ⟨Nat.le_of_ble_eq_true rfl, by simp⟩
  intro p e s m args below meth c D cA A ad0 as S h hI hx hb hml hown hts hr hlocks hname hA hNx
  obtain ⟨a, pd, rfl, hq⟩ := ip_e_ri h
  refine ip_run_ok (stop := fun _ => false) (tX4_endOn hx hb hml hown hts hr hlocks hname hA hNx) (fun _ _ _ _ h => False.elim h) 50 0 _ _ S ?_
  exact vX4_endOn M a pd S hI hq
