def preX2_search (M : ip_M) : List ip_V → ip_S → Prop := ip_h_ri (fun _ => False) (fun a nw S => a = 8 ∧ ip_cR M S ∧ ip_gt M S ∧ (∀ x, x < 5 → S.1 10 x = 0) ∧ nw = M 50 0)
def postX2_search (M : ip_M) : List ip_V → ip_S → List ip_V → ip_S → Prop := ip_h_ri (fun _ _ _ => True) (fun a nw S r S' => r = [] ∧ ip_B M (g_bst M) S' ∧ ip_fPl S S' ∧ S'.1 10 = S.1 10)
theorem shX2_search (M : ip_M) : ∀ as S, ip_Sta S → preX2_search M as S → ∃ (b : Nat) (as' : List ip_V), as = .inr (.inl (some b)) :: as' ∧ as'.length = 1 ∧ (S.2.2.2 b).1 = 2 := by
  intro as S hI h
  obtain ⟨a, nw, rfl, hq⟩ := ip_e_ri h
  exact ⟨_, _, rfl, rfl, by rw [hq.1, hI.1 8 (by decide)]; rfl⟩
def rmX2_search : Room := { frames := 9, cells := 0, slots := 0, locals := 360 }
def pX2_search (po : List ip_V → ip_S → Prop) : List (Nat × ip_T) := [(0, ip_t_ar 0 1), (1, ip_t_ci 2147483647 3), (3, ip_t_pI0 8 5 6), (6, ip_t_ar 0 7), (7, ip_t_ci 0 8), (8, ip_t_il 1 9), (9, ip_t_ci 0 10), (10, ip_t_callG 4 (preX2_place 6) (postX2_place 6) 13), (13, ip_t_vret po)]
set_option maxRecDepth 100000 in
set_option maxHeartbeats 4000000 in
theorem tX2_search {p : Program} {l : Launch} {e : Env} {s : State} {m : MethodId} {args : Array Value} {below : List Frame} {meth : Method} {c : Code} {D : va_G} {cA : Nat → ClassId} {A : Nat → Prop} {ad0 : Nat → Nat} {S0 : ip_S} {po : List ip_V → ip_S → Prop} (hx : p.tables.exec = Jvm.exec) (hb : c.code = cX2_search) (hml : c.maxLocals = 2) (hown : s.vm.findClass RX2 = some m.cls) (hts : ∀ w ∈ wsX2_search, w.before args s = true) (hr : meth.sig.returnType = none) (hlocks : meth.locks = false) (hname : meth.name = yX2_search.name) (hA : ∀ q, s.heap.size ≤ q → A q) (hNx : ip_Nx s) : ∀ q ∈ pX2_search po, ip_snd p l e rmX2_search s m args below meth c D cA A (MQ below (ip_Q ip_Sta D cA ad0 S0 A po) args s 0 0 A) 2 (fun _ => (0, 0)) ip_Sta ad0 S0 q.1 q.2 := by
  have hIs : ∀ S, ip_Sta S → ip_Sta S := fun _ h => h
  have hIn := ip_In_Sta
  have hS9 : CallFix p m c cX2_search 2 s args wsX2_search RX2 := ⟨hx, hb, hml, hown, hts⟩
  have hin2 : ∀ w ∈ u_ws RX2 TX2 6, w ∈ wsX2_search := by decide +kernel
  refine List.forall_mem_cons.mpr ⟨ip_s_aload_n hx hb dX2_search_0 rfl rfl, ?_⟩
  refine List.forall_mem_cons.mpr ⟨ip_s_ldc hx hb hown (hts (.constant RX2 38 (2147483647)) (by decide +kernel)) dX2_search_1 rfl, ?_⟩
  refine List.forall_mem_cons.mpr ⟨ip_s_pI0 hx hb hts hin2 hown rfl (by decide) 5 (by decide) (hts (.fieldLink RX2 39 "IcePads$Planner" "least" "I") (by decide +kernel)) (fun _ h9 => h9) tyX2 tyX2_ok nmX2 hIn hIs 8 rfl rfl rfl (by decide +kernel) dX2_search_3 rfl, ?_⟩
  refine List.forall_mem_cons.mpr ⟨ip_s_aload_n hx hb dX2_search_6 rfl rfl, ?_⟩
  refine List.forall_mem_cons.mpr ⟨ip_s_iconst hx hb dX2_search_7 rfl rfl, ?_⟩
  refine List.forall_mem_cons.mpr ⟨ip_s_iload_n hx hb dX2_search_8 rfl rfl, ?_⟩
  refine List.forall_mem_cons.mpr ⟨ip_s_iconst hx hb dX2_search_9 rfl rfl, ?_⟩
  refine List.forall_mem_cons.mpr ⟨ip_s_G (fun M => ip_s_callV hNx hS9 (ctX2_place l 6 M) (cwV 3 hts gX2_search_X2_place rfl rfl rfl (by decide +kernel) ⟨Nat.le_of_ble_eq_true rfl, Nat.le_of_ble_eq_true rfl⟩) (ci := 2) rfl rfl (by decide) (fun as S hI h => shX2_place 6 M as S hI h) hA dX2_search_10 ⟨Nat.le_of_ble_eq_true rfl, Nat.le_of_ble_eq_true rfl⟩ rfl), ?_⟩
  refine List.forall_mem_cons.mpr ⟨ip_s_vret hx hb hr hlocks (Nat.le_of_ble_eq_true rfl) (Nat.le_of_ble_eq_true rfl) dX2_search_13, ?_⟩
  exact fun _ h => absurd h List.not_mem_nil
set_option maxRecDepth 100000 in
set_option maxHeartbeats 4000000 in
theorem vX2_search (M : ip_M) (a : Nat) (nw : Int32) (S : ip_S) (hS : ip_Sta S) (hp : a = 8 ∧ ip_cR M S ∧ ip_gt M S ∧ (∀ x, x < 5 → S.1 10 x = 0) ∧ nw = M 50 0) : ip_run (pX2_search (postX2_search M [.inr (.inl (some a)), .inl nw] S)) (fun _ => false) (fun _ _ _ _ => False) 40 0 [some (.inr (.inl (some a))), some (.inl nw)] [] S := by
  obtain ⟨rfl, hR, hgt, h10, rfl⟩ := hp
  have hR' := hR
  obtain ⟨nf, nj, np, hv, -⟩ := hR'
  have h5 := g_mn5 M
  have hL1 : ip_fPl S (ip_sI S 8 5 2147483647) := ip_fPl.rf.sI (Or.inl ⟨rfl, by decide⟩) _
  refine Exists.intro ((M, [], (2147483647, [])) : ip_Pg) (And.intro ⟨rfl, hL1.cR hR, hL1.gt hgt, rfl, rfl, Nat.zero_le _, ?_, fun y hy => absurd hy List.not_mem_nil, fun d hd => absurd hd (Nat.not_lt_zero _), fun x hx => ?_, ⟨ip_sI_same, fun x hx => absurd hx (Nat.not_lt_zero _)⟩⟩ ?_)
  · show g_mn M - 0 < 6
    omega
  · have hx : x < g_mn M := hx
    rw [ip_sI_p (by decide), if_neg List.not_mem_nil]
    exact h10 x (by omega)
  rintro r S' ⟨rfl, hB, hL, k10, -⟩
  have hB : ip_B M (g_dfs M (g_V M) (g_mn M) (g_mn M) [] (2147483647, [])) S' := hB
  rw [g_dfs_all hv.2.2.1.1 (g_V_jb hv) (g_mn M) [] _ (by show 0 + g_mn M ≤ 5; omega) (fun y hy => absurd hy List.not_mem_nil)] at hB
  exact And.intro rfl ⟨hB, hL1.tr hL, k10.trans (ip_sIP (by decide))⟩
theorem ctX2_search (l : Launch) (M : ip_M) : ip_CT l yX2_search wsX2_search rmX2_search ip_Sta (preX2_search M) (postX2_search M) := by
  refine ip_of (cc := cX2_search) (maxL := 2) (ret := none) (by decide +kernel) rfl (fun _ => (0, 0)) rfl ?_ ?_
  · intro as S h
    obtain ⟨a, nw, rfl, hq⟩ := ip_e_ri h
    exact ⟨Nat.le_of_ble_eq_true rfl, by simp⟩
  intro p e s m args below meth c D cA A ad0 as S h hI hx hb hml hown hts hr hlocks hname hA hNx
  obtain ⟨a, nw, rfl, hq⟩ := ip_e_ri h
  refine ip_run_ok (stop := fun _ => false) (tX2_search hx hb hml hown hts hr hlocks hname hA hNx) (fun _ _ _ _ h => False.elim h) 40 0 _ _ S ?_
  exact vX2_search M a nw S hI hq

theorem ip_lem1 {x m : Nat} (hm : m ≤ 5) (hx : x ≤ 4) : nI x ≤ nI m - 1 ↔ nI x < nI m := by
  have b1 : (1 : Int32).toInt = 1 := rfl
  rw [ip_leI, ip_ltI, ip_subI (by rw [nI_toInt (by omega), b1]; omega) (by rw [nI_toInt (by omega), b1]; omega), nI_toInt (by omega), nI_toInt (by omega), b1]
  omega
theorem ip_fPl.fC {S S' : ip_S} (h : ip_fPl S S') (h10 : S'.1 10 = S.1 10) : ip_fC S S' := by
  refine ⟨fun q hq => ?_, fun q _ => by rw [h.2.2]⟩
  by_cases e : q = 10
  · subst e
    exact h10
  · exact h.1 q (by omega)
theorem ip_fG.fC {S S' : ip_S} (h : ip_fG S S') : ip_fC S S' := ⟨fun q hq => h.1 q (by omega), fun q _ => by rw [h.2.2]⟩
theorem ip_fG.cR {M : ip_M} {S S' : ip_S} (h : ip_fG S S') (hR : ip_cR M S) : ip_cR M S' := ip_cR_pl hR (fun q a => h.1 q (by omega)) h.2.1 (by rw [h.2.2])

def preX4_plan (M : ip_M) : List ip_V → ip_S → Prop := ip_h_rii (fun _ => False) (fun a w i S => a = 0 ∧ ip_cR M S ∧ ∀ x, x < 5 → S.1 10 x = 0)
def postX4_plan (M : ip_M) : List ip_V → ip_S → List ip_V → ip_S → Prop := ip_h_rii (fun _ _ _ => True) (fun a w i S r S' => r = [.inl (g_plan M w i)] ∧ ip_cR M S' ∧ ip_fC S S')
theorem shX4_plan (M : ip_M) : ∀ as S, ip_Sta S → preX4_plan M as S → ∃ (b : Nat) (as' : List ip_V), as = .inr (.inl (some b)) :: as' ∧ as'.length = 2 ∧ (S.2.2.2 b).1 = 4 := by
  intro as S hI h
  obtain ⟨a, w, i, rfl, hq⟩ := ip_e_rii h
  exact ⟨_, _, rfl, rfl, by rw [hq.1, hI.1 0 (by decide)]; rfl⟩
def rmX4_plan : Room := { frames := 10, cells := 0, slots := 0, locals := 400 }
def pX4_plan (po : List ip_V → ip_S → Prop) : List (Nat × ip_T) := [(0, ip_t_il 1 1), (1, ip_t_ci 0 2), (2, ip_t_ci 2 3), (3, ip_t_call 3 preX4_within postX4_within 6), (6, ip_t_ifne 12 9), (9, ip_t_ci (-100) 11), (11, ip_t_iret po), (12, ip_t_il 1 13), (13, ip_t_ci 1 14), (14, ip_t_icne 29 17), (17, ip_t_il 2 18), (18, ip_t_ci 0 19), (19, ip_t_ci 4 20), (20, ip_t_call 3 preX4_within postX4_within 23), (23, ip_t_ifne 29 26), (26, ip_t_ci (-100) 28), (28, ip_t_iret po), (29, ip_t_ar 0 30), (30, ip_t_gR0 0 8 33), (33, ip_t_ar 0 34), (34, ip_t_gR0 0 6 37), (37, ip_t_callG 2 preX2_gather postX2_gather 40), (40, ip_t_il 1 41), (41, ip_t_ifne 52 44), (44, ip_t_ar 0 45), (45, ip_t_gR0 0 8 48), (48, ip_t_gI0 8 4 51), (51, ip_t_iret po), (52, ip_t_ar 0 53), (53, ip_t_gR0 0 8 56), (56, ip_t_ar 0 57), (57, ip_t_gI0 0 8 60), (60, ip_t_callG 2 preX2_search postX2_search 63), (63, ip_t_il 1 64), (64, ip_t_ci 1 65), (65, ip_t_icne 79 68), (68, ip_t_ar 0 69), (69, ip_t_gR0 0 8 72), (72, ip_t_il 2 73), (73, ip_t_call 2 preX2_numberAt postX2_numberAt 76), (76, ip_t_go 86), (79, ip_t_ar 0 80), (80, ip_t_gR0 0 8 83), (83, ip_t_gI0 8 5 86), (86, ip_t_iret po)]
set_option maxRecDepth 100000 in
set_option maxHeartbeats 4000000 in
theorem tX4_plan {p : Program} {l : Launch} {e : Env} {s : State} {m : MethodId} {args : Array Value} {below : List Frame} {meth : Method} {c : Code} {D : va_G} {cA : Nat → ClassId} {A : Nat → Prop} {ad0 : Nat → Nat} {S0 : ip_S} {po : List ip_V → ip_S → Prop} (hx : p.tables.exec = Jvm.exec) (hb : c.code = cX4_plan) (hml : c.maxLocals = 3) (hown : s.vm.findClass RX4 = some m.cls) (hts : ∀ w ∈ wsX4_plan, w.before args s = true) (hr : meth.sig.returnType = (some .int)) (hlocks : meth.locks = false) (hname : meth.name = yX4_plan.name) (hA : ∀ q, s.heap.size ≤ q → A q) (hNx : ip_Nx s) : ∀ q ∈ pX4_plan po, ip_snd p l e rmX4_plan s m args below meth c D cA A (MQ below (ip_Q ip_Sta D cA ad0 S0 A po) args s 0 0 A) 3 (fun _ => (0, 0)) ip_Sta ad0 S0 q.1 q.2 := by
  have hIs : ∀ S, ip_Sta S → ip_Sta S := fun _ h => h
  have hIn := ip_In_Sta
  have hS9 : CallFix p m c cX4_plan 3 s args wsX4_plan RX4 := ⟨hx, hb, hml, hown, hts⟩
  have hin2 : ∀ w ∈ u_ws RX2 TX2 6, w ∈ wsX4_plan := by decide +kernel
  have hin4 : ∀ w ∈ u_ws RX4 TX4 14, w ∈ wsX4_plan := by decide +kernel
  refine List.forall_mem_cons.mpr ⟨ip_s_iload_n hx hb dX4_plan_0 rfl rfl, ?_⟩
  refine List.forall_mem_cons.mpr ⟨ip_s_iconst hx hb dX4_plan_1 rfl rfl, ?_⟩
  refine List.forall_mem_cons.mpr ⟨ip_s_iconst hx hb dX4_plan_2 rfl rfl, ?_⟩
  refine List.forall_mem_cons.mpr ⟨ip_s_callS hNx hS9 (ctX4_within l) (va_cwS 3 hts gX4_plan_X4_within rfl rfl rfl (by decide +kernel) ⟨Nat.le_of_ble_eq_true rfl, Nat.le_of_ble_eq_true rfl⟩) (fun as S hI h => shsX4_within as S hI h) hA dX4_plan_3 ⟨Nat.le_of_ble_eq_true rfl, Nat.le_of_ble_eq_true rfl⟩ rfl, ?_⟩
  refine List.forall_mem_cons.mpr ⟨ip_s_ifne (t := 12) hx hb dX4_plan_6 (by decide) rfl rfl, ?_⟩
  refine List.forall_mem_cons.mpr ⟨ip_s_bipush hx hb dX4_plan_9 rfl rfl, ?_⟩
  refine List.forall_mem_cons.mpr ⟨ip_s_iret hx hb hr hlocks (Nat.le_of_ble_eq_true rfl) (Nat.le_of_ble_eq_true rfl) dX4_plan_11, ?_⟩
  refine List.forall_mem_cons.mpr ⟨ip_s_iload_n hx hb dX4_plan_12 rfl rfl, ?_⟩
  refine List.forall_mem_cons.mpr ⟨ip_s_iconst hx hb dX4_plan_13 rfl rfl, ?_⟩
  refine List.forall_mem_cons.mpr ⟨ip_s_icne (t := 29) hx hb dX4_plan_14 (by decide) rfl rfl, ?_⟩
  refine List.forall_mem_cons.mpr ⟨ip_s_iload_n hx hb dX4_plan_17 rfl rfl, ?_⟩
  refine List.forall_mem_cons.mpr ⟨ip_s_iconst hx hb dX4_plan_18 rfl rfl, ?_⟩
  refine List.forall_mem_cons.mpr ⟨ip_s_iconst hx hb dX4_plan_19 rfl rfl, ?_⟩
  refine List.forall_mem_cons.mpr ⟨ip_s_callS hNx hS9 (ctX4_within l) (va_cwS 3 hts gX4_plan_X4_within rfl rfl rfl (by decide +kernel) ⟨Nat.le_of_ble_eq_true rfl, Nat.le_of_ble_eq_true rfl⟩) (fun as S hI h => shsX4_within as S hI h) hA dX4_plan_20 ⟨Nat.le_of_ble_eq_true rfl, Nat.le_of_ble_eq_true rfl⟩ rfl, ?_⟩
  refine List.forall_mem_cons.mpr ⟨ip_s_ifne (t := 29) hx hb dX4_plan_23 (by decide) rfl rfl, ?_⟩
  refine List.forall_mem_cons.mpr ⟨ip_s_bipush hx hb dX4_plan_26 rfl rfl, ?_⟩
  refine List.forall_mem_cons.mpr ⟨ip_s_iret hx hb hr hlocks (Nat.le_of_ble_eq_true rfl) (Nat.le_of_ble_eq_true rfl) dX4_plan_28, ?_⟩
  refine List.forall_mem_cons.mpr ⟨ip_s_aload_n hx hb dX4_plan_29 rfl rfl, ?_⟩
  refine List.forall_mem_cons.mpr ⟨ip_s_gR0 hx hb hts hin4 hown rfl (by decide) 7 (by decide) (hts (.fieldLink RX4 34 "IcePads" "planner" "LIcePads$Planner;") (by decide +kernel)) (fun _ h9 => h9) hIs 0 8 rfl (by decide) rfl dX4_plan_30 rfl, ?_⟩
  refine List.forall_mem_cons.mpr ⟨ip_s_aload_n hx hb dX4_plan_33 rfl rfl, ?_⟩
  refine List.forall_mem_cons.mpr ⟨ip_s_gR0 hx hb hts hin4 hown rfl (by decide) 3 (by decide) (hts (.fieldLink RX4 24 "IcePads" "jets" "[LIcePads$Jet;") (by decide +kernel)) (fun _ h9 => h9) hIs 0 6 rfl (by decide) rfl dX4_plan_34 rfl, ?_⟩
  refine List.forall_mem_cons.mpr ⟨ip_s_G (fun M => ip_s_callV hNx hS9 (ctX2_gather l M) (cwV 1 hts gX4_plan_X2_gather rfl rfl rfl (by decide +kernel) ⟨Nat.le_of_ble_eq_true rfl, Nat.le_of_ble_eq_true rfl⟩) (ci := 2) rfl rfl (by decide) (fun as S hI h => shX2_gather M as S hI h) hA dX4_plan_37 ⟨Nat.le_of_ble_eq_true rfl, Nat.le_of_ble_eq_true rfl⟩ rfl), ?_⟩
  refine List.forall_mem_cons.mpr ⟨ip_s_iload_n hx hb dX4_plan_40 rfl rfl, ?_⟩
  refine List.forall_mem_cons.mpr ⟨ip_s_ifne (t := 52) hx hb dX4_plan_41 (by decide) rfl rfl, ?_⟩
  refine List.forall_mem_cons.mpr ⟨ip_s_aload_n hx hb dX4_plan_44 rfl rfl, ?_⟩
  refine List.forall_mem_cons.mpr ⟨ip_s_gR0 hx hb hts hin4 hown rfl (by decide) 7 (by decide) (hts (.fieldLink RX4 34 "IcePads" "planner" "LIcePads$Planner;") (by decide +kernel)) (fun _ h9 => h9) hIs 0 8 rfl (by decide) rfl dX4_plan_45 rfl, ?_⟩
  refine List.forall_mem_cons.mpr ⟨ip_s_gI0 hx hb hts hin2 hown rfl (by decide) 4 (by decide) (hts (.fieldLink RX4 164 "IcePads$Planner" "size" "I") (by decide +kernel)) (fun _ h9 => h9) hIs 8 rfl rfl dX4_plan_48 rfl, ?_⟩
  refine List.forall_mem_cons.mpr ⟨ip_s_iret hx hb hr hlocks (Nat.le_of_ble_eq_true rfl) (Nat.le_of_ble_eq_true rfl) dX4_plan_51, ?_⟩
  refine List.forall_mem_cons.mpr ⟨ip_s_aload_n hx hb dX4_plan_52 rfl rfl, ?_⟩
  refine List.forall_mem_cons.mpr ⟨ip_s_gR0 hx hb hts hin4 hown rfl (by decide) 7 (by decide) (hts (.fieldLink RX4 34 "IcePads" "planner" "LIcePads$Planner;") (by decide +kernel)) (fun _ h9 => h9) hIs 0 8 rfl (by decide) rfl dX4_plan_53 rfl, ?_⟩
  refine List.forall_mem_cons.mpr ⟨ip_s_aload_n hx hb dX4_plan_56 rfl rfl, ?_⟩
  refine List.forall_mem_cons.mpr ⟨ip_s_gI0 hx hb hts hin4 hown rfl (by decide) 8 (by decide) (hts (.fieldLink RX4 56 "IcePads" "now" "I") (by decide +kernel)) (fun _ h9 => h9) hIs 0 rfl rfl dX4_plan_57 rfl, ?_⟩
  refine List.forall_mem_cons.mpr ⟨ip_s_G (fun M => ip_s_callV hNx hS9 (ctX2_search l M) (cwV 1 hts gX4_plan_X2_search rfl rfl rfl (by decide +kernel) ⟨Nat.le_of_ble_eq_true rfl, Nat.le_of_ble_eq_true rfl⟩) (ci := 2) rfl rfl (by decide) (fun as S hI h => shX2_search M as S hI h) hA dX4_plan_60 ⟨Nat.le_of_ble_eq_true rfl, Nat.le_of_ble_eq_true rfl⟩ rfl), ?_⟩
  refine List.forall_mem_cons.mpr ⟨ip_s_iload_n hx hb dX4_plan_63 rfl rfl, ?_⟩
  refine List.forall_mem_cons.mpr ⟨ip_s_iconst hx hb dX4_plan_64 rfl rfl, ?_⟩
  refine List.forall_mem_cons.mpr ⟨ip_s_icne (t := 79) hx hb dX4_plan_65 (by decide) rfl rfl, ?_⟩
  refine List.forall_mem_cons.mpr ⟨ip_s_aload_n hx hb dX4_plan_68 rfl rfl, ?_⟩
  refine List.forall_mem_cons.mpr ⟨ip_s_gR0 hx hb hts hin4 hown rfl (by decide) 7 (by decide) (hts (.fieldLink RX4 34 "IcePads" "planner" "LIcePads$Planner;") (by decide +kernel)) (fun _ h9 => h9) hIs 0 8 rfl (by decide) rfl dX4_plan_69 rfl, ?_⟩
  refine List.forall_mem_cons.mpr ⟨ip_s_iload_n hx hb dX4_plan_72 rfl rfl, ?_⟩
  refine List.forall_mem_cons.mpr ⟨ip_s_callV hNx hS9 (ctX2_numberAt l) (cwV 1 hts gX4_plan_X2_numberAt rfl rfl rfl (by decide +kernel) ⟨Nat.le_of_ble_eq_true rfl, Nat.le_of_ble_eq_true rfl⟩) (ci := 2) rfl rfl (by decide) (fun as S hI h => shX2_numberAt as S hI h) hA dX4_plan_73 ⟨Nat.le_of_ble_eq_true rfl, Nat.le_of_ble_eq_true rfl⟩ rfl, ?_⟩
  refine List.forall_mem_cons.mpr ⟨ip_s_go (t := 86) hx hb dX4_plan_76 (by decide) (Nat.le_of_ble_eq_true rfl) (Nat.le_of_ble_eq_true rfl), ?_⟩
  refine List.forall_mem_cons.mpr ⟨ip_s_aload_n hx hb dX4_plan_79 rfl rfl, ?_⟩
  refine List.forall_mem_cons.mpr ⟨ip_s_gR0 hx hb hts hin4 hown rfl (by decide) 7 (by decide) (hts (.fieldLink RX4 34 "IcePads" "planner" "LIcePads$Planner;") (by decide +kernel)) (fun _ h9 => h9) hIs 0 8 rfl (by decide) rfl dX4_plan_80 rfl, ?_⟩
  refine List.forall_mem_cons.mpr ⟨ip_s_gI0 hx hb hts hin2 hown rfl (by decide) 5 (by decide) (hts (.fieldLink RX4 173 "IcePads$Planner" "least" "I") (by decide +kernel)) (fun _ h9 => h9) hIs 8 rfl rfl dX4_plan_83 rfl, ?_⟩
  refine List.forall_mem_cons.mpr ⟨ip_s_iret hx hb hr hlocks (Nat.le_of_ble_eq_true rfl) (Nat.le_of_ble_eq_true rfl) dX4_plan_86, ?_⟩
  exact fun _ h => absurd h List.not_mem_nil
abbrev iX4_plan (M : ip_M) (a : Nat) (w : Int32) (i : Int32) (S : ip_S) : Nat → ip_N := fun k pc loc st S1 => pc = 29 ∧ st = [] ∧ S1 = S ∧ k = 0 ∧ ((0 ≤ w ∧ w ≤ 2) ∧ (w = 1 → 0 ≤ i ∧ i ≤ 4)) ∧ loc = [some (.inr (.inl (some a))), some (.inl w), some (.inl i)]
set_option maxRecDepth 100000 in
set_option maxHeartbeats 4000000 in
theorem lpX4_plan (M : ip_M) (a : Nat) (w : Int32) (i : Int32) (S : ip_S) (hS : ip_Sta S) (hp : a = 0 ∧ ip_cR M S ∧ ∀ x, x < 5 → S.1 10 x = 0) : ∀ k pc loc st S1, iX4_plan M a w i S k pc loc st S1 → ip_run (pX4_plan (postX4_plan M [.inr (.inl (some a)), .inl w, .inl i] S)) (fun pc => Nat.beq pc 29) (fun pc loc st S2 => ∃ k', k' < k ∧ iX4_plan M a w i S k' pc loc st S2) 60 pc loc st S1 := by
  obtain ⟨rfl, hR, h10⟩ := hp
  rintro k pc loc st S1 ⟨rfl, rfl, rfl, rfl, hq, rfl⟩
  have h5 := g_mn5 M
  refine Exists.intro M (And.intro (And.intro rfl (And.intro rfl hR)) ?_)
  rintro r S2 ⟨rfl, hgt, hG⟩
  have hR2 := hG.cR hR
  have hR2' := hR2
  obtain ⟨nf, nj, np, hv, hcS, -⟩ := hR2'
  refine And.intro (fun q => ?_) (fun q => ?_)
  rotate_left
  · refine And.intro ?_ ⟨hR2, hG.fC⟩
    unfold g_plan
    rw [if_pos hq, if_pos q, hgt.1]
  refine Exists.intro M (And.intro (And.intro rfl (And.intro hR2 (And.intro hgt (And.intro (fun x hx => ?_) ?_)))) ?_)
  · rw [hG.1 10 (by decide)]
    exact h10 x hx
  · exact hcS.1
  rintro r S3 ⟨rfl, hB, hL, k10⟩
  have hfin : ip_cR M S3 ∧ ip_fC S1 S3 := ⟨hL.cR hR2, hG.fC.tr (hL.fC k10)⟩
  have hok := g_bst_ok hv
  have hgt3 := hL.gt hgt
  refine And.intro (fun q2 => ?_) (fun q2 => ?_)
  · refine And.intro ?_ hfin
    have hw2 : w = 2 := by
      rcases ip_k012 hq.1 with h | h | h
      · exact absurd h q
      · exact absurd h q2
      · exact h
    unfold g_plan
    rw [if_pos hq, if_neg q, if_pos hw2, hB.1]
  · refine And.intro (And.intro rfl ⟨g_mn M, h5, hgt3.1⟩) ?_
    rintro r S4 ⟨rfl, rfl⟩
    refine And.intro ?_ hfin
    have hi := hq.2 q2
    have b0 : (0 : Int32).toInt = 0 := rfl
    have b4 : (4 : Int32).toInt = 4 := rfl
    have hi' := hi
    rw [ip_leI, ip_leI, b0, b4] at hi'
    obtain ⟨x, rfl, hx0, hx4⟩ := ip_small (by omega) hi'
    have hw2 : ¬ w = 2 := by rw [q2]; decide
    unfold g_plan
    rw [if_pos hq, if_neg q, if_neg hw2, hgt3.1]
    by_cases hlt : nI x < nI (g_mn M)
    · have hx : x < g_mn M := (nI_ltI (by omega) (by omega)).mp hlt
      rw [if_pos hlt, if_pos ⟨hi.1, (ip_lem1 h5 (by omega)).mpr hlt⟩, nI_clamp (by omega), hB.2 x (by rw [hok.2.1]; exact hx) hx]
    · rw [if_neg hlt, if_neg (fun z => hlt ((ip_lem1 h5 (by omega)).mp z.2))]
set_option maxRecDepth 100000 in
set_option maxHeartbeats 4000000 in
theorem vX4_plan (M : ip_M) (a : Nat) (w : Int32) (i : Int32) (S : ip_S) (hS : ip_Sta S) (hp : a = 0 ∧ ip_cR M S ∧ ∀ x, x < 5 → S.1 10 x = 0) : ip_run (pX4_plan (postX4_plan M [.inr (.inl (some a)), .inl w, .inl i] S)) (fun pc => Nat.beq pc 29) (fun pc loc st S2 => ∃ k, iX4_plan M a w i S k pc loc st S2) 60 0 [some (.inr (.inl (some a))), some (.inl w), some (.inl i)] [] S := by
  obtain ⟨rfl, hR, h10⟩ := hp
  refine And.intro trivial ?_
  rintro r S' ⟨rfl, rfl⟩
  refine And.intro (fun q => ?_) (fun q => ?_)
  rotate_left
  · refine And.intro ?_ ⟨hR, ip_fC.rf⟩
    unfold g_plan
    rw [if_neg (fun z => ip_if0 q z.1)]
  have q := ip_if1 q
  refine And.intro (fun q2 => ?_) (fun q2 => ?_)
  · exact Exists.intro 0 ⟨rfl, rfl, rfl, rfl, ⟨q, fun z => absurd z q2⟩, rfl⟩
  · refine And.intro trivial ?_
    rintro r S' ⟨rfl, rfl⟩
    refine And.intro (fun q3 => ?_) (fun q3 => ?_)
    · have q3 := ip_if1 q3
      exact Exists.intro 0 ⟨rfl, rfl, rfl, rfl, ⟨q, fun _ => q3⟩, rfl⟩
    · refine And.intro ?_ ⟨hR, ip_fC.rf⟩
      unfold g_plan
      rw [if_neg (fun z => ip_if0 q3 (z.2 q2))]
theorem ctX4_plan (l : Launch) (M : ip_M) : ip_CT l yX4_plan wsX4_plan rmX4_plan ip_Sta (preX4_plan M) (postX4_plan M) := by
  refine ip_of (cc := cX4_plan) (maxL := 3) (ret := (some .int)) (by decide +kernel) rfl (fun _ => (0, 0)) rfl ?_ ?_
  · intro as S h
    obtain ⟨a, w, i, rfl, hq⟩ := ip_e_rii h
    exact ⟨Nat.le_of_ble_eq_true rfl, by simp⟩
  intro p e s m args below meth c D cA A ad0 as S h hI hx hb hml hown hts hr hlocks hname hA hNx
  obtain ⟨a, w, i, rfl, hq⟩ := ip_e_rii h
  have ht := tX4_plan (D := D) (cA := cA) (A := A) (ad0 := ad0) (l := l) (e := e) (below := below) (S0 := S) (po := postX4_plan M [.inr (.inl (some a)), .inl w, .inl i] S) hx hb hml hown hts hr hlocks hname hA hNx
  refine ip_run_ok ht (fun pc loc st S2 hh => ?_) 60 0 _ _ S (vX4_plan M a w i S hI hq)
  obtain ⟨k, hk⟩ := hh
  exact ip_loop ht (iX4_plan M a w i S) (lpX4_plan M a w i S hI hq) k pc loc st S2 hk
