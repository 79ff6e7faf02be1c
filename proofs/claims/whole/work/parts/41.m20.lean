theorem g_set_0 {M : ip_M} {v : Int32} : g_set M 0 v = (if 1 ≤ v ∧ v ≤ 3 then (if 0 < M 64 0 + M 64 1 + M 64 2 then -200 else M 50 10) else -100, if 1 ≤ v ∧ v ≤ 3 then (if 0 < M 64 0 + M 64 1 + M 64 2 then M else ip_u M 50 10 v) else M) := by
  unfold g_set
  by_cases h : 1 ≤ v ∧ v ≤ 3
  · rw [if_pos ⟨rfl, h⟩, if_pos h, if_pos h]
    by_cases h2 : 0 < M 64 0 + M 64 1 + M 64 2
    · rw [if_pos h2, if_pos h2, if_pos h2]
    · rw [if_neg h2, if_neg h2, if_neg h2]
  · rw [if_neg (fun z => h z.2), if_neg (fun z => absurd z.1 (by decide)), if_neg (fun z => absurd z.1 (by decide)), if_neg h, if_neg h]
theorem g_set_1 {M : ip_M} {v : Int32} : g_set M 1 v = (if 10 ≤ v ∧ v ≤ 1000 then M 50 11 else -100, if 10 ≤ v ∧ v ≤ 1000 then ip_u M 50 11 v else M) := by
  unfold g_set
  rw [if_neg (fun z => absurd z.1 (by decide))]
  by_cases h : 10 ≤ v ∧ v ≤ 1000
  · rw [if_pos ⟨rfl, h⟩, if_pos h, if_pos h]
  · rw [if_neg (fun z => h z.2), if_neg (fun z => absurd z.1 (by decide)), if_neg h, if_neg h]
theorem g_set_2 {M : ip_M} {v : Int32} : g_set M 2 v = (if 0 ≤ v ∧ v ≤ 50 then M 50 12 else -100, if 0 ≤ v ∧ v ≤ 50 then ip_u M 50 12 v else M) := by
  unfold g_set
  rw [if_neg (fun z => absurd z.1 (by decide)), if_neg (fun z => absurd z.1 (by decide))]
  by_cases h : 0 ≤ v ∧ v ≤ 50
  · rw [if_pos ⟨rfl, h⟩, if_pos h, if_pos h]
  · rw [if_neg (fun z => h z.2), if_neg h, if_neg h]

def preX4_set (M : ip_M) : List ip_V → ip_S → Prop := ip_h_rii (fun _ => False) (fun a w v S => a = 0 ∧ ip_cR M S)
def postX4_set (M : ip_M) : List ip_V → ip_S → List ip_V → ip_S → Prop := ip_h_rii (fun _ _ _ => True) (fun a w v S r S' => r = [.inl (g_set M w v).1] ∧ ip_cR (g_set M w v).2 S' ∧ ip_fC S S')
theorem shX4_set (M : ip_M) : ∀ as S, ip_Sta S → preX4_set M as S → ∃ (b : Nat) (as' : List ip_V), as = .inr (.inl (some b)) :: as' ∧ as'.length = 2 ∧ (S.2.2.2 b).1 = 4 := by
  intro as S hI h
  obtain ⟨a, w, v, rfl, hq⟩ := ip_e_rii h
  exact ⟨_, _, rfl, rfl, by rw [hq.1, hI.1 0 (by decide)]; rfl⟩
def rmX4_set : Room := { frames := 5, cells := 0, slots := 0, locals := 200 }
def pX4_set (po : List ip_V → ip_S → Prop) : List (Nat × ip_T) := [(0, ip_t_il 1 1), (1, ip_t_sw [(0, 28), (1, 34), (2, 40)] 46), (28, ip_t_ar 0 29), (29, ip_t_il 2 30), (30, ip_t_callG 2 preX4_changePads postX4_changePads 33), (33, ip_t_iret po), (34, ip_t_ar 0 35), (35, ip_t_il 2 36), (36, ip_t_callG 2 preX4_changeLimit postX4_changeLimit 39), (39, ip_t_iret po), (40, ip_t_ar 0 41), (41, ip_t_il 2 42), (42, ip_t_callG 2 preX4_changeRate postX4_changeRate 45), (45, ip_t_iret po), (46, ip_t_ci (-100) 48), (48, ip_t_iret po)]
set_option maxRecDepth 100000 in
set_option maxHeartbeats 4000000 in
theorem tX4_set {p : Program} {l : Launch} {e : Env} {s : State} {m : MethodId} {args : Array Value} {below : List Frame} {meth : Method} {c : Code} {D : va_G} {cA : Nat → ClassId} {A : Nat → Prop} {ad0 : Nat → Nat} {S0 : ip_S} {po : List ip_V → ip_S → Prop} (hx : p.tables.exec = Jvm.exec) (hb : c.code = cX4_set) (hml : c.maxLocals = 3) (hown : s.vm.findClass RX4 = some m.cls) (hts : ∀ w ∈ wsX4_set, w.before args s = true) (hr : meth.sig.returnType = (some .int)) (hlocks : meth.locks = false) (hname : meth.name = yX4_set.name) (hA : ∀ q, s.heap.size ≤ q → A q) (hNx : ip_Nx s) : ∀ q ∈ pX4_set po, ip_snd p l e rmX4_set s m args below meth c D cA A (MQ below (ip_Q ip_Sta D cA ad0 S0 A po) args s 0 0 A) 3 (fun _ => (0, 0)) ip_Sta ad0 S0 q.1 q.2 := by
  have hIs : ∀ S, ip_Sta S → ip_Sta S := fun _ h => h
  have hIn := ip_In_Sta
  have hS9 : CallFix p m c cX4_set 3 s args wsX4_set RX4 := ⟨hx, hb, hml, hown, hts⟩
  refine List.forall_mem_cons.mpr ⟨ip_s_iload_n hx hb dX4_set_0 rfl rfl, ?_⟩
  refine List.forall_mem_cons.mpr ⟨ip_s_sw (ts := [(0, 28), (1, 34), (2, 40)]) (d := 46) hx hb 3 dX4_set_1 (by decide) (by decide +kernel) (by decide +kernel) (by decide) rfl (fun _ _ => rfl), ?_⟩
  refine List.forall_mem_cons.mpr ⟨ip_s_aload_n hx hb dX4_set_28 rfl rfl, ?_⟩
  refine List.forall_mem_cons.mpr ⟨ip_s_iload_n hx hb dX4_set_29 rfl rfl, ?_⟩
  refine List.forall_mem_cons.mpr ⟨ip_s_G (fun M => ip_s_callV hNx hS9 (ctX4_changePads l M) (cwV 1 hts gX4_set_X4_changePads rfl rfl rfl (by decide +kernel) ⟨Nat.le_of_ble_eq_true rfl, Nat.le_of_ble_eq_true rfl⟩) (ci := 4) rfl rfl (by decide) (fun as S hI h => shX4_changePads M as S hI h) hA dX4_set_30 ⟨Nat.le_of_ble_eq_true rfl, Nat.le_of_ble_eq_true rfl⟩ rfl), ?_⟩
  refine List.forall_mem_cons.mpr ⟨ip_s_iret hx hb hr hlocks (Nat.le_of_ble_eq_true rfl) (Nat.le_of_ble_eq_true rfl) dX4_set_33, ?_⟩
  refine List.forall_mem_cons.mpr ⟨ip_s_aload_n hx hb dX4_set_34 rfl rfl, ?_⟩
  refine List.forall_mem_cons.mpr ⟨ip_s_iload_n hx hb dX4_set_35 rfl rfl, ?_⟩
  refine List.forall_mem_cons.mpr ⟨ip_s_G (fun M => ip_s_callV hNx hS9 (ctX4_changeLimit l M) (cwV 1 hts gX4_set_X4_changeLimit rfl rfl rfl (by decide +kernel) ⟨Nat.le_of_ble_eq_true rfl, Nat.le_of_ble_eq_true rfl⟩) (ci := 4) rfl rfl (by decide) (fun as S hI h => shX4_changeLimit M as S hI h) hA dX4_set_36 ⟨Nat.le_of_ble_eq_true rfl, Nat.le_of_ble_eq_true rfl⟩ rfl), ?_⟩
  refine List.forall_mem_cons.mpr ⟨ip_s_iret hx hb hr hlocks (Nat.le_of_ble_eq_true rfl) (Nat.le_of_ble_eq_true rfl) dX4_set_39, ?_⟩
  refine List.forall_mem_cons.mpr ⟨ip_s_aload_n hx hb dX4_set_40 rfl rfl, ?_⟩
  refine List.forall_mem_cons.mpr ⟨ip_s_iload_n hx hb dX4_set_41 rfl rfl, ?_⟩
  refine List.forall_mem_cons.mpr ⟨ip_s_G (fun M => ip_s_callV hNx hS9 (ctX4_changeRate l M) (cwV 1 hts gX4_set_X4_changeRate rfl rfl rfl (by decide +kernel) ⟨Nat.le_of_ble_eq_true rfl, Nat.le_of_ble_eq_true rfl⟩) (ci := 4) rfl rfl (by decide) (fun as S hI h => shX4_changeRate M as S hI h) hA dX4_set_42 ⟨Nat.le_of_ble_eq_true rfl, Nat.le_of_ble_eq_true rfl⟩ rfl), ?_⟩
  refine List.forall_mem_cons.mpr ⟨ip_s_iret hx hb hr hlocks (Nat.le_of_ble_eq_true rfl) (Nat.le_of_ble_eq_true rfl) dX4_set_45, ?_⟩
  refine List.forall_mem_cons.mpr ⟨ip_s_bipush hx hb dX4_set_46 rfl rfl, ?_⟩
  refine List.forall_mem_cons.mpr ⟨ip_s_iret hx hb hr hlocks (Nat.le_of_ble_eq_true rfl) (Nat.le_of_ble_eq_true rfl) dX4_set_48, ?_⟩
  exact fun _ h => absurd h List.not_mem_nil
set_option maxRecDepth 100000 in
set_option maxHeartbeats 4000000 in
theorem vX4_set (M : ip_M) (a : Nat) (w : Int32) (v : Int32) (S : ip_S) (hS : ip_Sta S) (hp : a = 0 ∧ ip_cR M S) : ip_run (pX4_set (postX4_set M [.inr (.inl (some a)), .inl w, .inl v] S)) (fun _ => false) (fun _ _ _ _ => False) 40 0 [some (.inr (.inl (some a))), some (.inl w), some (.inl v)] [] S := by
  obtain ⟨rfl, hR⟩ := hp
  refine And.intro (fun c0 => ?_) (fun c0 => ?_)
  · have c0 : w = 0 := c0
    subst c0
    refine Exists.intro M (And.intro (And.intro rfl hR) ?_)
    rintro r S' ⟨rfl, hR1, hf⟩
    refine And.intro ?_ (And.intro ?_ hf) <;> rw [g_set_0]
    exact hR1
  refine And.intro (fun c1 => ?_) (fun c1 => ?_)
  · have c1 : w = 1 := c1
    subst c1
    refine Exists.intro M (And.intro (And.intro rfl hR) ?_)
    rintro r S' ⟨rfl, hR1, hf⟩
    refine And.intro ?_ (And.intro ?_ hf) <;> rw [g_set_1]
    exact hR1
  refine And.intro (fun c2 => ?_) (fun c2 => ?_)
  · have c2 : w = 2 := c2
    subst c2
    refine Exists.intro M (And.intro (And.intro rfl hR) ?_)
    rintro r S' ⟨rfl, hR1, hf⟩
    refine And.intro ?_ (And.intro ?_ hf) <;> rw [g_set_2]
    exact hR1
  have e : g_set M w v = (-100, M) := by
    unfold g_set
    rw [if_neg (fun z => c0 z.1), if_neg (fun z => c1 z.1), if_neg (fun z => c2 z.1)]
  refine And.intro ?_ (And.intro ?_ ip_fC.rf) <;> rw [e]
  exact hR
theorem ctX4_set (l : Launch) (M : ip_M) : ip_CT l yX4_set wsX4_set rmX4_set ip_Sta (preX4_set M) (postX4_set M) := by
  refine ip_of (cc := cX4_set) (maxL := 3) (ret := (some .int)) (by decide +kernel) rfl (fun _ => (0, 0)) rfl ?_ ?_
  · intro as S h
    obtain ⟨a, w, v, rfl, hq⟩ := ip_e_rii h
    exact ⟨Nat.le_of_ble_eq_true rfl, by simp⟩
  intro p e s m args below meth c D cA A ad0 as S h hI hx hb hml hown hts hr hlocks hname hA hNx
  obtain ⟨a, w, v, rfl, hq⟩ := ip_e_rii h
  refine ip_run_ok (stop := fun _ => false) (tX4_set hx hb hml hown hts hr hlocks hname hA hNx) (fun _ _ _ _ h => False.elim h) 40 0 _ _ S ?_
  exact vX4_set M a w v S hI hq
