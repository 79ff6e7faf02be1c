/-! small rows -/
theorem ip_01 {c : Prop} [Decidable c] : (if c then (1 : Int32) else 0) = 0 ∨ (if c then (1 : Int32) else 0) = 1 := by
  by_cases h : c
  · exact Or.inr (if_pos h)
  · exact Or.inl (if_neg h)
theorem ip_if0 {c : Prop} [Decidable c] (h : (if c then (1 : Int32) else 0) = 0) : ¬ c := by
  intro hc
  rw [if_pos hc] at h
  exact absurd h (by decide)
theorem ip_if1 {c : Prop} [Decidable c] (h : ¬ (if c then (1 : Int32) else 0) = 0) : c := by
  by_cases hc : c
  · exact hc
  · rw [if_neg hc] at h
    exact absurd rfl h
theorem ip_in {x : Int32} {n : Nat} {hi : Int32} (h : 0 ≤ x ∧ x ≤ hi) (hn : hi.toInt + 1 = n) : vp_in x n := by
  rw [vp_in_iff]
  have h1 := Int32.le_iff_toInt_le.mp h.1
  have h2 := Int32.le_iff_toInt_le.mp h.2
  have h3 : (0 : Int32).toInt = 0 := rfl
  omega
theorem ip_sI_same {S : ip_S} {p k : Nat} {v : Int32} : (ip_sI S p k v).1 p k = v := by simp [ip_sI]
theorem ip_sI_ne {S : ip_S} {p k q j : Nat} {v : Int32} (h : ¬ (q = p ∧ j = k)) : (ip_sI S p k v).1 q j = S.1 q j := by simp only [ip_sI, if_neg h]
theorem ip_sI_k {S : ip_S} {p k q j : Nat} {v : Int32} (h : j ≠ k) : (ip_sI S p k v).1 q j = S.1 q j := ip_sI_ne (fun z => h z.2)
theorem ip_sI_p {S : ip_S} {p k q j : Nat} {v : Int32} (h : q ≠ p) : (ip_sI S p k v).1 q j = S.1 q j := ip_sI_ne (fun z => h z.1)

def preX4_within : List ip_V → ip_S → Prop := ip_h_iii (fun _ => False) (fun n lo hi S => True)
def postX4_within : List ip_V → ip_S → List ip_V → ip_S → Prop := ip_h_iii (fun _ _ _ => True) (fun n lo hi S r S' => r = [.inl (if lo ≤ n ∧ n ≤ hi then 1 else 0)] ∧ S' = S)
theorem shsX4_within : ∀ as S, ip_Sta S → preX4_within as S → as.length = 3 := by
  intro as S hI h
  obtain ⟨n, lo, hi, rfl, hq⟩ := ip_e_iii h
  rfl
def rmX4_within : Room := { frames := 1, cells := 0, slots := 0, locals := 40 }
def pX4_within (po : List ip_V → ip_S → Prop) : List (Nat × ip_T) := [(0, ip_t_il 0 1), (1, ip_t_il 1 2), (2, ip_t_iclt 14 5), (5, ip_t_il 0 6), (6, ip_t_il 2 7), (7, ip_t_icgt 14 10), (10, ip_t_ci 1 11), (11, ip_t_go 15), (14, ip_t_ci 0 15), (15, ip_t_zret po)]
set_option maxRecDepth 100000 in
set_option maxHeartbeats 4000000 in
theorem tX4_within {p : Program} {l : Launch} {e : Env} {s : State} {m : MethodId} {args : Array Value} {below : List Frame} {meth : Method} {c : Code} {D : va_G} {cA : Nat → ClassId} {A : Nat → Prop} {ad0 : Nat → Nat} {S0 : ip_S} {po : List ip_V → ip_S → Prop} (hx : p.tables.exec = Jvm.exec) (hb : c.code = cX4_within) (hml : c.maxLocals = 3) (hown : s.vm.findClass RX4 = some m.cls) (hts : ∀ w ∈ wsX4_within, w.before args s = true) (hr : meth.sig.returnType = (some .boolean)) (hlocks : meth.locks = false) (hname : meth.name = yX4_within.name) (hA : ∀ q, s.heap.size ≤ q → A q) (hNx : ip_Nx s) : ∀ q ∈ pX4_within po, ip_snd p l e rmX4_within s m args below meth c D cA A (MQ below (ip_Q ip_Sta D cA ad0 S0 A po) args s 0 0 A) 3 (fun _ => (0, 0)) ip_Sta ad0 S0 q.1 q.2 := by
  have hIs : ∀ S, ip_Sta S → ip_Sta S := fun _ h => h
  have hIn := ip_In_Sta
  have hS9 : CallFix p m c cX4_within 3 s args wsX4_within RX4 := ⟨hx, hb, hml, hown, hts⟩
  refine List.forall_mem_cons.mpr ⟨ip_s_iload_n hx hb dX4_within_0 rfl rfl, ?_⟩
  refine List.forall_mem_cons.mpr ⟨ip_s_iload_n hx hb dX4_within_1 rfl rfl, ?_⟩
  refine List.forall_mem_cons.mpr ⟨ip_s_iclt (t := 14) hx hb dX4_within_2 (by decide) rfl rfl, ?_⟩
  refine List.forall_mem_cons.mpr ⟨ip_s_iload_n hx hb dX4_within_5 rfl rfl, ?_⟩
  refine List.forall_mem_cons.mpr ⟨ip_s_iload_n hx hb dX4_within_6 rfl rfl, ?_⟩
  refine List.forall_mem_cons.mpr ⟨ip_s_icgt (t := 14) hx hb dX4_within_7 (by decide) rfl rfl, ?_⟩
  refine List.forall_mem_cons.mpr ⟨ip_s_iconst hx hb dX4_within_10 rfl rfl, ?_⟩
  refine List.forall_mem_cons.mpr ⟨ip_s_go (t := 15) hx hb dX4_within_11 (by decide) (Nat.le_of_ble_eq_true rfl) (Nat.le_of_ble_eq_true rfl), ?_⟩
  refine List.forall_mem_cons.mpr ⟨ip_s_iconst hx hb dX4_within_14 rfl rfl, ?_⟩
  refine List.forall_mem_cons.mpr ⟨ip_s_zret hx hb hr hlocks (Nat.le_of_ble_eq_true rfl) (Nat.le_of_ble_eq_true rfl) dX4_within_15, ?_⟩
  exact fun _ h => absurd h List.not_mem_nil
set_option maxRecDepth 100000 in
set_option maxHeartbeats 4000000 in
theorem vX4_within (n : Int32) (lo : Int32) (hi : Int32) (S : ip_S) (hS : ip_Sta S) (hp : True) : ip_run (pX4_within (postX4_within [.inl n, .inl lo, .inl hi] S)) (fun _ => false) (fun _ _ _ _ => False) 20 0 [some (.inl n), some (.inl lo), some (.inl hi)] [] S := by
  refine And.intro (fun h1 => ?_) (fun h1 => ?_)
  · refine And.intro (Or.inl rfl) (And.intro ?_ rfl)
    rw [if_neg (fun h => Int32.not_le.mpr h1 h.1)]
  · refine And.intro (fun h2 => ?_) (fun h2 => ?_)
    · refine And.intro (Or.inl rfl) (And.intro ?_ rfl)
      rw [if_neg (fun h => Int32.not_le.mpr h2 h.2)]
    · refine And.intro (Or.inr rfl) (And.intro ?_ rfl)
      rw [if_pos ⟨Int32.not_lt.mp h1, Int32.not_lt.mp h2⟩]
theorem ctX4_within (l : Launch) : ip_CT l yX4_within wsX4_within rmX4_within ip_Sta preX4_within postX4_within := by
  refine ip_of (cc := cX4_within) (maxL := 3) (ret := (some .boolean)) (by decide +kernel) rfl (fun _ => (0, 0)) rfl ?_ ?_
  · intro as S h
    obtain ⟨n, lo, hi, rfl, hq⟩ := ip_e_iii h
    exact ⟨Nat.le_of_ble_eq_true rfl, by simp⟩
  intro p e s m args below meth c D cA A ad0 as S h hI hx hb hml hown hts hr hlocks hname hA hNx
  obtain ⟨n, lo, hi, rfl, hq⟩ := ip_e_iii h
  refine ip_run_ok (stop := fun _ => false) (tX4_within hx hb hml hown hts hr hlocks hname hA hNx) (fun _ _ _ _ h => False.elim h) 20 0 _ _ S ?_
  exact vX4_within n lo hi S hI hq

def preX4_isMinute : List ip_V → ip_S → Prop := ip_h_i (fun _ => False) (fun n S => True)
def postX4_isMinute : List ip_V → ip_S → List ip_V → ip_S → Prop := ip_h_i (fun _ _ _ => True) (fun n S r S' => r = [.inl (if 0 ≤ n ∧ n ≤ 299 then 1 else 0)] ∧ S' = S)
theorem shsX4_isMinute : ∀ as S, ip_Sta S → preX4_isMinute as S → as.length = 1 := by
  intro as S hI h
  obtain ⟨n, rfl, hq⟩ := ip_e_i h
  rfl
def rmX4_isMinute : Room := { frames := 2, cells := 0, slots := 0, locals := 80 }
def pX4_isMinute (po : List ip_V → ip_S → Prop) : List (Nat × ip_T) := [(0, ip_t_il 0 1), (1, ip_t_ci 0 2), (2, ip_t_ci 299 5), (5, ip_t_call 3 preX4_within postX4_within 8), (8, ip_t_zret po)]
set_option maxRecDepth 100000 in
set_option maxHeartbeats 4000000 in
theorem tX4_isMinute {p : Program} {l : Launch} {e : Env} {s : State} {m : MethodId} {args : Array Value} {below : List Frame} {meth : Method} {c : Code} {D : va_G} {cA : Nat → ClassId} {A : Nat → Prop} {ad0 : Nat → Nat} {S0 : ip_S} {po : List ip_V → ip_S → Prop} (hx : p.tables.exec = Jvm.exec) (hb : c.code = cX4_isMinute) (hml : c.maxLocals = 1) (hown : s.vm.findClass RX4 = some m.cls) (hts : ∀ w ∈ wsX4_isMinute, w.before args s = true) (hr : meth.sig.returnType = (some .boolean)) (hlocks : meth.locks = false) (hname : meth.name = yX4_isMinute.name) (hA : ∀ q, s.heap.size ≤ q → A q) (hNx : ip_Nx s) : ∀ q ∈ pX4_isMinute po, ip_snd p l e rmX4_isMinute s m args below meth c D cA A (MQ below (ip_Q ip_Sta D cA ad0 S0 A po) args s 0 0 A) 1 (fun _ => (0, 0)) ip_Sta ad0 S0 q.1 q.2 := by
  have hIs : ∀ S, ip_Sta S → ip_Sta S := fun _ h => h
  have hIn := ip_In_Sta
  have hS9 : CallFix p m c cX4_isMinute 1 s args wsX4_isMinute RX4 := ⟨hx, hb, hml, hown, hts⟩
  refine List.forall_mem_cons.mpr ⟨ip_s_iload_n hx hb dX4_isMinute_0 rfl rfl, ?_⟩
  refine List.forall_mem_cons.mpr ⟨ip_s_iconst hx hb dX4_isMinute_1 rfl rfl, ?_⟩
  refine List.forall_mem_cons.mpr ⟨ip_s_sipush hx hb dX4_isMinute_2 rfl rfl, ?_⟩
  refine List.forall_mem_cons.mpr ⟨ip_s_callS hNx hS9 (ctX4_within l) (va_cwS 3 hts gX4_isMinute_X4_within rfl rfl rfl (by decide +kernel) ⟨Nat.le_of_ble_eq_true rfl, Nat.le_of_ble_eq_true rfl⟩) (fun as S hI h => shsX4_within as S hI h) hA dX4_isMinute_5 ⟨Nat.le_of_ble_eq_true rfl, Nat.le_of_ble_eq_true rfl⟩ rfl, ?_⟩
  refine List.forall_mem_cons.mpr ⟨ip_s_zret hx hb hr hlocks (Nat.le_of_ble_eq_true rfl) (Nat.le_of_ble_eq_true rfl) dX4_isMinute_8, ?_⟩
  exact fun _ h => absurd h List.not_mem_nil
set_option maxRecDepth 100000 in
set_option maxHeartbeats 4000000 in
theorem vX4_isMinute (n : Int32) (S : ip_S) (hS : ip_Sta S) (hp : True) : ip_run (pX4_isMinute (postX4_isMinute [.inl n] S)) (fun _ => false) (fun _ _ _ _ => False) 20 0 [some (.inl n)] [] S := by
  refine And.intro trivial ?_
  rintro r S' ⟨rfl, rfl⟩
  exact And.intro ip_01 (And.intro rfl rfl)
theorem ctX4_isMinute (l : Launch) : ip_CT l yX4_isMinute wsX4_isMinute rmX4_isMinute ip_Sta preX4_isMinute postX4_isMinute := by
  refine ip_of (cc := cX4_isMinute) (maxL := 1) (ret := (some .boolean)) (by decide +kernel) rfl (fun _ => (0, 0)) rfl ?_ ?_
  · intro as S h
    obtain ⟨n, rfl, hq⟩ := ip_e_i h
    exact ⟨Nat.le_of_ble_eq_true rfl, by simp⟩
  intro p e s m args below meth c D cA A ad0 as S h hI hx hb hml hown hts hr hlocks hname hA hNx
  obtain ⟨n, rfl, hq⟩ := ip_e_i h
  refine ip_run_ok (stop := fun _ => false) (tX4_isMinute hx hb hml hown hts hr hlocks hname hA hNx) (fun _ _ _ _ h => False.elim h) 20 0 _ _ S ?_
  exact vX4_isMinute n S hI hq

def preX4_areSpans : List ip_V → ip_S → Prop := ip_h_iiii (fun _ => False) (fun a b c d S => True)
def postX4_areSpans : List ip_V → ip_S → List ip_V → ip_S → Prop := ip_h_iiii (fun _ _ _ => True) (fun a b c d S r S' => r = [.inl (if a ≤ 100 ∧ b ≤ a ∧ c ≤ b ∧ d ≤ c ∧ 0 ≤ d then 1 else 0)] ∧ S' = S)
theorem shsX4_areSpans : ∀ as S, ip_Sta S → preX4_areSpans as S → as.length = 4 := by
  intro as S hI h
  obtain ⟨a, b, c, d, rfl, hq⟩ := ip_e_iiii h
  rfl
def rmX4_areSpans : Room := { frames := 1, cells := 0, slots := 0, locals := 40 }
def pX4_areSpans (po : List ip_V → ip_S → Prop) : List (Nat × ip_T) := [(0, ip_t_il 0 1), (1, ip_t_ci 100 3), (3, ip_t_icgt 29 6), (6, ip_t_il 1 7), (7, ip_t_il 0 8), (8, ip_t_icgt 29 11), (11, ip_t_il 2 12), (12, ip_t_il 1 13), (13, ip_t_icgt 29 16), (16, ip_t_il 3 17), (17, ip_t_il 2 18), (18, ip_t_icgt 29 21), (21, ip_t_il 3 22), (22, ip_t_iflt 29 25), (25, ip_t_ci 1 26), (26, ip_t_go 30), (29, ip_t_ci 0 30), (30, ip_t_zret po)]
set_option maxRecDepth 100000 in
set_option maxHeartbeats 4000000 in
theorem tX4_areSpans {p : Program} {l : Launch} {e : Env} {s : State} {m : MethodId} {args : Array Value} {below : List Frame} {meth : Method} {c : Code} {D : va_G} {cA : Nat → ClassId} {A : Nat → Prop} {ad0 : Nat → Nat} {S0 : ip_S} {po : List ip_V → ip_S → Prop} (hx : p.tables.exec = Jvm.exec) (hb : c.code = cX4_areSpans) (hml : c.maxLocals = 4) (hown : s.vm.findClass RX4 = some m.cls) (hts : ∀ w ∈ wsX4_areSpans, w.before args s = true) (hr : meth.sig.returnType = (some .boolean)) (hlocks : meth.locks = false) (hname : meth.name = yX4_areSpans.name) (hA : ∀ q, s.heap.size ≤ q → A q) (hNx : ip_Nx s) : ∀ q ∈ pX4_areSpans po, ip_snd p l e rmX4_areSpans s m args below meth c D cA A (MQ below (ip_Q ip_Sta D cA ad0 S0 A po) args s 0 0 A) 4 (fun _ => (0, 0)) ip_Sta ad0 S0 q.1 q.2 := by
  have hIs : ∀ S, ip_Sta S → ip_Sta S := fun _ h => h
  have hIn := ip_In_Sta
  have hS9 : CallFix p m c cX4_areSpans 4 s args wsX4_areSpans RX4 := ⟨hx, hb, hml, hown, hts⟩
  refine List.forall_mem_cons.mpr ⟨ip_s_iload_n hx hb dX4_areSpans_0 rfl rfl, ?_⟩
  refine List.forall_mem_cons.mpr ⟨ip_s_bipush hx hb dX4_areSpans_1 rfl rfl, ?_⟩
  refine List.forall_mem_cons.mpr ⟨ip_s_icgt (t := 29) hx hb dX4_areSpans_3 (by decide) rfl rfl, ?_⟩
  refine List.forall_mem_cons.mpr ⟨ip_s_iload_n hx hb dX4_areSpans_6 rfl rfl, ?_⟩
  refine List.forall_mem_cons.mpr ⟨ip_s_iload_n hx hb dX4_areSpans_7 rfl rfl, ?_⟩
  refine List.forall_mem_cons.mpr ⟨ip_s_icgt (t := 29) hx hb dX4_areSpans_8 (by decide) rfl rfl, ?_⟩
  refine List.forall_mem_cons.mpr ⟨ip_s_iload_n hx hb dX4_areSpans_11 rfl rfl, ?_⟩
  refine List.forall_mem_cons.mpr ⟨ip_s_iload_n hx hb dX4_areSpans_12 rfl rfl, ?_⟩
  refine List.forall_mem_cons.mpr ⟨ip_s_icgt (t := 29) hx hb dX4_areSpans_13 (by decide) rfl rfl, ?_⟩
  refine List.forall_mem_cons.mpr ⟨ip_s_iload_n hx hb dX4_areSpans_16 rfl rfl, ?_⟩
  refine List.forall_mem_cons.mpr ⟨ip_s_iload_n hx hb dX4_areSpans_17 rfl rfl, ?_⟩
  refine List.forall_mem_cons.mpr ⟨ip_s_icgt (t := 29) hx hb dX4_areSpans_18 (by decide) rfl rfl, ?_⟩
  refine List.forall_mem_cons.mpr ⟨ip_s_iload_n hx hb dX4_areSpans_21 rfl rfl, ?_⟩
  refine List.forall_mem_cons.mpr ⟨ip_s_iflt (t := 29) hx hb dX4_areSpans_22 (by decide) rfl rfl, ?_⟩
  refine List.forall_mem_cons.mpr ⟨ip_s_iconst hx hb dX4_areSpans_25 rfl rfl, ?_⟩
  refine List.forall_mem_cons.mpr ⟨ip_s_go (t := 30) hx hb dX4_areSpans_26 (by decide) (Nat.le_of_ble_eq_true rfl) (Nat.le_of_ble_eq_true rfl), ?_⟩
  refine List.forall_mem_cons.mpr ⟨ip_s_iconst hx hb dX4_areSpans_29 rfl rfl, ?_⟩
  refine List.forall_mem_cons.mpr ⟨ip_s_zret hx hb hr hlocks (Nat.le_of_ble_eq_true rfl) (Nat.le_of_ble_eq_true rfl) dX4_areSpans_30, ?_⟩
  exact fun _ h => absurd h List.not_mem_nil
set_option maxRecDepth 100000 in
set_option maxHeartbeats 4000000 in
theorem vX4_areSpans (a : Int32) (b : Int32) (c : Int32) (d : Int32) (S : ip_S) (hS : ip_Sta S) (hp : True) : ip_run (pX4_areSpans (postX4_areSpans [.inl a, .inl b, .inl c, .inl d] S)) (fun _ => false) (fun _ _ _ _ => False) 40 0 [some (.inl a), some (.inl b), some (.inl c), some (.inl d)] [] S := by
  refine And.intro (fun h1 => ?_) (fun h1 => ?_)
  · refine And.intro (Or.inl rfl) (And.intro ?_ rfl)
    rw [if_neg (fun h => Int32.not_le.mpr h1 h.1)]
  refine And.intro (fun h2 => ?_) (fun h2 => ?_)
  · refine And.intro (Or.inl rfl) (And.intro ?_ rfl)
    rw [if_neg (fun h => Int32.not_le.mpr h2 h.2.1)]
  refine And.intro (fun h3 => ?_) (fun h3 => ?_)
  · refine And.intro (Or.inl rfl) (And.intro ?_ rfl)
    rw [if_neg (fun h => Int32.not_le.mpr h3 h.2.2.1)]
  refine And.intro (fun h4 => ?_) (fun h4 => ?_)
  · refine And.intro (Or.inl rfl) (And.intro ?_ rfl)
    rw [if_neg (fun h => Int32.not_le.mpr h4 h.2.2.2.1)]
  refine And.intro (fun h5 => ?_) (fun h5 => ?_)
  · refine And.intro (Or.inl rfl) (And.intro ?_ rfl)
    rw [if_neg (fun h => Int32.not_le.mpr h5 h.2.2.2.2)]
  refine And.intro (Or.inr rfl) (And.intro ?_ rfl)
  rw [if_pos ⟨Int32.not_lt.mp h1, Int32.not_lt.mp h2, Int32.not_lt.mp h3, Int32.not_lt.mp h4, Int32.not_lt.mp h5⟩]
theorem ctX4_areSpans (l : Launch) : ip_CT l yX4_areSpans wsX4_areSpans rmX4_areSpans ip_Sta preX4_areSpans postX4_areSpans := by
  refine ip_of (cc := cX4_areSpans) (maxL := 4) (ret := (some .boolean)) (by decide +kernel) rfl (fun _ => (0, 0)) rfl ?_ ?_
  · intro as S h
    obtain ⟨a, b, c, d, rfl, hq⟩ := ip_e_iiii h
    exact ⟨Nat.le_of_ble_eq_true rfl, by simp⟩
  intro p e s m args below meth c D cA A ad0 as S h hI hx hb hml hown hts hr hlocks hname hA hNx
  obtain ⟨a, b, c, d, rfl, hq⟩ := ip_e_iiii h
  refine ip_run_ok (stop := fun _ => false) (tX4_areSpans hx hb hml hown hts hr hlocks hname hA hNx) (fun _ _ _ _ h => False.elim h) 40 0 _ _ S ?_
  exact vX4_areSpans a b c d S hI hq

def preX4_oneIf : List ip_V → ip_S → Prop := ip_h_i (fun _ => False) (fun n S => True)
def postX4_oneIf : List ip_V → ip_S → List ip_V → ip_S → Prop := ip_h_i (fun _ _ _ => True) (fun n S r S' => r = [.inl (if n = 0 then 0 else 1)] ∧ S' = S)
theorem shsX4_oneIf : ∀ as S, ip_Sta S → preX4_oneIf as S → as.length = 1 := by
  intro as S hI h
  obtain ⟨n, rfl, hq⟩ := ip_e_i h
  rfl
def rmX4_oneIf : Room := { frames := 1, cells := 0, slots := 0, locals := 40 }
def pX4_oneIf (po : List ip_V → ip_S → Prop) : List (Nat × ip_T) := [(0, ip_t_il 0 1), (1, ip_t_ifeq 8 4), (4, ip_t_ci 1 5), (5, ip_t_go 9), (8, ip_t_ci 0 9), (9, ip_t_iret po)]
set_option maxRecDepth 100000 in
set_option maxHeartbeats 4000000 in
theorem tX4_oneIf {p : Program} {l : Launch} {e : Env} {s : State} {m : MethodId} {args : Array Value} {below : List Frame} {meth : Method} {c : Code} {D : va_G} {cA : Nat → ClassId} {A : Nat → Prop} {ad0 : Nat → Nat} {S0 : ip_S} {po : List ip_V → ip_S → Prop} (hx : p.tables.exec = Jvm.exec) (hb : c.code = cX4_oneIf) (hml : c.maxLocals = 1) (hown : s.vm.findClass RX4 = some m.cls) (hts : ∀ w ∈ wsX4_oneIf, w.before args s = true) (hr : meth.sig.returnType = (some .int)) (hlocks : meth.locks = false) (hname : meth.name = yX4_oneIf.name) (hA : ∀ q, s.heap.size ≤ q → A q) (hNx : ip_Nx s) : ∀ q ∈ pX4_oneIf po, ip_snd p l e rmX4_oneIf s m args below meth c D cA A (MQ below (ip_Q ip_Sta D cA ad0 S0 A po) args s 0 0 A) 1 (fun _ => (0, 0)) ip_Sta ad0 S0 q.1 q.2 := by
  have hIs : ∀ S, ip_Sta S → ip_Sta S := fun _ h => h
  have hIn := ip_In_Sta
  have hS9 : CallFix p m c cX4_oneIf 1 s args wsX4_oneIf RX4 := ⟨hx, hb, hml, hown, hts⟩
  refine List.forall_mem_cons.mpr ⟨ip_s_iload_n hx hb dX4_oneIf_0 rfl rfl, ?_⟩
  refine List.forall_mem_cons.mpr ⟨ip_s_ifeq (t := 8) hx hb dX4_oneIf_1 (by decide) rfl rfl, ?_⟩
  refine List.forall_mem_cons.mpr ⟨ip_s_iconst hx hb dX4_oneIf_4 rfl rfl, ?_⟩
  refine List.forall_mem_cons.mpr ⟨ip_s_go (t := 9) hx hb dX4_oneIf_5 (by decide) (Nat.le_of_ble_eq_true rfl) (Nat.le_of_ble_eq_true rfl), ?_⟩
  refine List.forall_mem_cons.mpr ⟨ip_s_iconst hx hb dX4_oneIf_8 rfl rfl, ?_⟩
  refine List.forall_mem_cons.mpr ⟨ip_s_iret hx hb hr hlocks (Nat.le_of_ble_eq_true rfl) (Nat.le_of_ble_eq_true rfl) dX4_oneIf_9, ?_⟩
  exact fun _ h => absurd h List.not_mem_nil
set_option maxRecDepth 100000 in
set_option maxHeartbeats 4000000 in
theorem vX4_oneIf (n : Int32) (S : ip_S) (hS : ip_Sta S) (hp : True) : ip_run (pX4_oneIf (postX4_oneIf [.inl n] S)) (fun _ => false) (fun _ _ _ _ => False) 20 0 [some (.inl n)] [] S := by
  refine And.intro (fun h1 => ?_) (fun h1 => ?_)
  · refine And.intro ?_ rfl
    rw [if_pos h1]
  · refine And.intro ?_ rfl
    rw [if_neg h1]
theorem ctX4_oneIf (l : Launch) : ip_CT l yX4_oneIf wsX4_oneIf rmX4_oneIf ip_Sta preX4_oneIf postX4_oneIf := by
  refine ip_of (cc := cX4_oneIf) (maxL := 1) (ret := (some .int)) (by decide +kernel) rfl (fun _ => (0, 0)) rfl ?_ ?_
  · intro as S h
    obtain ⟨n, rfl, hq⟩ := ip_e_i h
    exact ⟨Nat.le_of_ble_eq_true rfl, by simp⟩
  intro p e s m args below meth c D cA A ad0 as S h hI hx hb hml hown hts hr hlocks hname hA hNx
  obtain ⟨n, rfl, hq⟩ := ip_e_i h
  refine ip_run_ok (stop := fun _ => false) (tX4_oneIf hx hb hml hown hts hr hlocks hname hA hNx) (fun _ _ _ _ h => False.elim h) 20 0 _ _ S ?_
  exact vX4_oneIf n S hI hq

def preX1_isGone : List ip_V → ip_S → Prop := ip_h_r (fun _ => False) (fun a S => (S.2.2.2 a).1 = 1 ∧ True)
def postX1_isGone : List ip_V → ip_S → List ip_V → ip_S → Prop := ip_h_r (fun _ _ _ => True) (fun a S r S' => r = [.inl (if S.1 a 8 = -900 then 0 else 1)] ∧ S' = S)
theorem shX1_isGone : ∀ as S, ip_Sta S → preX1_isGone as S → ∃ (b : Nat) (as' : List ip_V), as = .inr (.inl (some b)) :: as' ∧ as'.length = 0 ∧ (S.2.2.2 b).1 = 1 := by
  intro as S hI h
  obtain ⟨a, rfl, hq⟩ := ip_e_r h
  exact ⟨_, _, rfl, rfl, hq.1⟩
def rmX1_isGone : Room := { frames := 1, cells := 0, slots := 0, locals := 40 }
def pX1_isGone (po : List ip_V → ip_S → Prop) : List (Nat × ip_T) := [(0, ip_t_ar 0 1), (1, ip_t_gI 1 8 4), (4, ip_t_ci (-900) 7), (7, ip_t_iceq 14 10), (10, ip_t_ci 1 11), (11, ip_t_go 15), (14, ip_t_ci 0 15), (15, ip_t_zret po)]
set_option maxRecDepth 100000 in
set_option maxHeartbeats 4000000 in
theorem tX1_isGone {p : Program} {l : Launch} {e : Env} {s : State} {m : MethodId} {args : Array Value} {below : List Frame} {meth : Method} {c : Code} {D : va_G} {cA : Nat → ClassId} {A : Nat → Prop} {ad0 : Nat → Nat} {S0 : ip_S} {po : List ip_V → ip_S → Prop} (hx : p.tables.exec = Jvm.exec) (hb : c.code = cX1_isGone) (hml : c.maxLocals = 1) (hown : s.vm.findClass RX1 = some m.cls) (hts : ∀ w ∈ wsX1_isGone, w.before args s = true) (hr : meth.sig.returnType = (some .boolean)) (hlocks : meth.locks = false) (hname : meth.name = yX1_isGone.name) (hA : ∀ q, s.heap.size ≤ q → A q) (hNx : ip_Nx s) : ∀ q ∈ pX1_isGone po, ip_snd p l e rmX1_isGone s m args below meth c D cA A (MQ below (ip_Q ip_Sta D cA ad0 S0 A po) args s 0 0 A) 1 (fun _ => (0, 0)) ip_Sta ad0 S0 q.1 q.2 := by
  have hIs : ∀ S, ip_Sta S → ip_Sta S := fun _ h => h
  have hIn := ip_In_Sta
  have hS9 : CallFix p m c cX1_isGone 1 s args wsX1_isGone RX1 := ⟨hx, hb, hml, hown, hts⟩
  have hin1 : ∀ w ∈ u_ws RX1 TX1 11, w ∈ wsX1_isGone := by decide +kernel
  refine List.forall_mem_cons.mpr ⟨ip_s_aload_n hx hb dX1_isGone_0 rfl rfl, ?_⟩
  refine List.forall_mem_cons.mpr ⟨ip_s_gI hx hb hts hin1 hown rfl (by decide) 8 (by decide) (hts (.fieldLink RX1 18 "IcePads$Jet" "flew" "I") (by decide +kernel)) (fun _ h9 => h9) rfl dX1_isGone_1 rfl, ?_⟩
  refine List.forall_mem_cons.mpr ⟨ip_s_sipush hx hb dX1_isGone_4 rfl rfl, ?_⟩
  refine List.forall_mem_cons.mpr ⟨ip_s_iceq (t := 14) hx hb dX1_isGone_7 (by decide) rfl rfl, ?_⟩
  refine List.forall_mem_cons.mpr ⟨ip_s_iconst hx hb dX1_isGone_10 rfl rfl, ?_⟩
  refine List.forall_mem_cons.mpr ⟨ip_s_go (t := 15) hx hb dX1_isGone_11 (by decide) (Nat.le_of_ble_eq_true rfl) (Nat.le_of_ble_eq_true rfl), ?_⟩
  refine List.forall_mem_cons.mpr ⟨ip_s_iconst hx hb dX1_isGone_14 rfl rfl, ?_⟩
  refine List.forall_mem_cons.mpr ⟨ip_s_zret hx hb hr hlocks (Nat.le_of_ble_eq_true rfl) (Nat.le_of_ble_eq_true rfl) dX1_isGone_15, ?_⟩
  exact fun _ h => absurd h List.not_mem_nil
set_option maxRecDepth 100000 in
set_option maxHeartbeats 4000000 in
theorem vX1_isGone (a : Nat) (S : ip_S) (hS : ip_Sta S) (hp : (S.2.2.2 a).1 = 1 ∧ True) : ip_run (pX1_isGone (postX1_isGone [.inr (.inl (some a))] S)) (fun _ => false) (fun _ _ _ _ => False) 20 0 [some (.inr (.inl (some a)))] [] S := by
  refine And.intro hp.1 ?_
  refine And.intro (fun h1 => ?_) (fun h1 => ?_)
  · refine And.intro (Or.inl rfl) (And.intro ?_ rfl)
    rw [if_pos h1]
  · refine And.intro (Or.inr rfl) (And.intro ?_ rfl)
    rw [if_neg h1]
theorem ctX1_isGone (l : Launch) : ip_CT l yX1_isGone wsX1_isGone rmX1_isGone ip_Sta preX1_isGone postX1_isGone := by
  refine ip_of (cc := cX1_isGone) (maxL := 1) (ret := (some .boolean)) (by decide +kernel) rfl (fun _ => (0, 0)) rfl ?_ ?_
  · intro as S h
    obtain ⟨a, rfl, hq⟩ := ip_e_r h
    exact ⟨Nat.le_of_ble_eq_true rfl, by simp⟩
  intro p e s m args below meth c D cA A ad0 as S h hI hx hb hml hown hts hr hlocks hname hA hNx
  obtain ⟨a, rfl, hq⟩ := ip_e_r h
  refine ip_run_ok (stop := fun _ => false) (tX1_isGone hx hb hml hown hts hr hlocks hname hA hNx) (fun _ _ _ _ h => False.elim h) 20 0 _ _ S ?_
  exact vX1_isGone a S hI hq

def preX1_state : List ip_V → ip_S → Prop := ip_h_r (fun _ => False) (fun a S => (S.2.2.2 a).1 = 1 ∧ True)
def postX1_state : List ip_V → ip_S → List ip_V → ip_S → Prop := ip_h_r (fun _ _ _ => True) (fun a S r S' => r = [.inl (if S.1 a 8 = -900 then (if S.1 a 6 = -900 then 0 else 1) else 2)] ∧ S' = S)
theorem shX1_state : ∀ as S, ip_Sta S → preX1_state as S → ∃ (b : Nat) (as' : List ip_V), as = .inr (.inl (some b)) :: as' ∧ as'.length = 0 ∧ (S.2.2.2 b).1 = 1 := by
  intro as S hI h
  obtain ⟨a, rfl, hq⟩ := ip_e_r h
  exact ⟨_, _, rfl, rfl, hq.1⟩
def rmX1_state : Room := { frames := 2, cells := 0, slots := 0, locals := 80 }
def pX1_state (po : List ip_V → ip_S → Prop) : List (Nat × ip_T) := [(0, ip_t_ar 0 1), (1, ip_t_call 1 preX1_isGone postX1_isGone 4), (4, ip_t_ifeq 9 7), (7, ip_t_ci 2 8), (8, ip_t_iret po), (9, ip_t_ar 0 10), (10, ip_t_gI 1 6 13), (13, ip_t_ci (-900) 16), (16, ip_t_icne 23 19), (19, ip_t_ci 0 20), (20, ip_t_go 24), (23, ip_t_ci 1 24), (24, ip_t_iret po)]
set_option maxRecDepth 100000 in
set_option maxHeartbeats 4000000 in
theorem tX1_state {p : Program} {l : Launch} {e : Env} {s : State} {m : MethodId} {args : Array Value} {below : List Frame} {meth : Method} {c : Code} {D : va_G} {cA : Nat → ClassId} {A : Nat → Prop} {ad0 : Nat → Nat} {S0 : ip_S} {po : List ip_V → ip_S → Prop} (hx : p.tables.exec = Jvm.exec) (hb : c.code = cX1_state) (hml : c.maxLocals = 1) (hown : s.vm.findClass RX1 = some m.cls) (hts : ∀ w ∈ wsX1_state, w.before args s = true) (hr : meth.sig.returnType = (some .int)) (hlocks : meth.locks = false) (hname : meth.name = yX1_state.name) (hA : ∀ q, s.heap.size ≤ q → A q) (hNx : ip_Nx s) : ∀ q ∈ pX1_state po, ip_snd p l e rmX1_state s m args below meth c D cA A (MQ below (ip_Q ip_Sta D cA ad0 S0 A po) args s 0 0 A) 1 (fun _ => (0, 0)) ip_Sta ad0 S0 q.1 q.2 := by
  have hIs : ∀ S, ip_Sta S → ip_Sta S := fun _ h => h
  have hIn := ip_In_Sta
  have hS9 : CallFix p m c cX1_state 1 s args wsX1_state RX1 := ⟨hx, hb, hml, hown, hts⟩
  have hin1 : ∀ w ∈ u_ws RX1 TX1 11, w ∈ wsX1_state := by decide +kernel
  refine List.forall_mem_cons.mpr ⟨ip_s_aload_n hx hb dX1_state_0 rfl rfl, ?_⟩
  refine List.forall_mem_cons.mpr ⟨ip_s_callV hNx hS9 (ctX1_isGone l) (cwV 0 hts gX1_state_X1_isGone rfl rfl rfl (by decide +kernel) ⟨Nat.le_of_ble_eq_true rfl, Nat.le_of_ble_eq_true rfl⟩) (ci := 1) rfl rfl (by decide) (fun as S hI h => shX1_isGone as S hI h) hA dX1_state_1 ⟨Nat.le_of_ble_eq_true rfl, Nat.le_of_ble_eq_true rfl⟩ rfl, ?_⟩
  refine List.forall_mem_cons.mpr ⟨ip_s_ifeq (t := 9) hx hb dX1_state_4 (by decide) rfl rfl, ?_⟩
  refine List.forall_mem_cons.mpr ⟨ip_s_iconst hx hb dX1_state_7 rfl rfl, ?_⟩
  refine List.forall_mem_cons.mpr ⟨ip_s_iret hx hb hr hlocks (Nat.le_of_ble_eq_true rfl) (Nat.le_of_ble_eq_true rfl) dX1_state_8, ?_⟩
  refine List.forall_mem_cons.mpr ⟨ip_s_aload_n hx hb dX1_state_9 rfl rfl, ?_⟩
  refine List.forall_mem_cons.mpr ⟨ip_s_gI hx hb hts hin1 hown rfl (by decide) 6 (by decide) (hts (.fieldLink RX1 9 "IcePads$Jet" "pad" "I") (by decide +kernel)) (fun _ h9 => h9) rfl dX1_state_10 rfl, ?_⟩
  refine List.forall_mem_cons.mpr ⟨ip_s_sipush hx hb dX1_state_13 rfl rfl, ?_⟩
  refine List.forall_mem_cons.mpr ⟨ip_s_icne (t := 23) hx hb dX1_state_16 (by decide) rfl rfl, ?_⟩
  refine List.forall_mem_cons.mpr ⟨ip_s_iconst hx hb dX1_state_19 rfl rfl, ?_⟩
  refine List.forall_mem_cons.mpr ⟨ip_s_go (t := 24) hx hb dX1_state_20 (by decide) (Nat.le_of_ble_eq_true rfl) (Nat.le_of_ble_eq_true rfl), ?_⟩
  refine List.forall_mem_cons.mpr ⟨ip_s_iconst hx hb dX1_state_23 rfl rfl, ?_⟩
  refine List.forall_mem_cons.mpr ⟨ip_s_iret hx hb hr hlocks (Nat.le_of_ble_eq_true rfl) (Nat.le_of_ble_eq_true rfl) dX1_state_24, ?_⟩
  exact fun _ h => absurd h List.not_mem_nil
set_option maxRecDepth 100000 in
set_option maxHeartbeats 4000000 in
theorem vX1_state (a : Nat) (S : ip_S) (hS : ip_Sta S) (hp : (S.2.2.2 a).1 = 1 ∧ True) : ip_run (pX1_state (postX1_state [.inr (.inl (some a))] S)) (fun _ => false) (fun _ _ _ _ => False) 30 0 [some (.inr (.inl (some a)))] [] S := by
  refine And.intro hp ?_
  rintro r S' ⟨rfl, rfl⟩
  refine And.intro (fun h1 => ?_) (fun h1 => ?_)
  · have h2 : S'.1 a 8 = -900 := by
      by_cases q : S'.1 a 8 = -900
      · exact q
      · rw [if_neg q] at h1; exact absurd h1 (by decide)
    refine And.intro hp.1 ?_
    refine And.intro (fun h3 => ?_) (fun h3 => ?_)
    · refine And.intro ?_ rfl
      rw [if_pos h2, if_neg h3]
    · refine And.intro ?_ rfl
      rw [if_pos h2, if_pos h3]
  · have h2 : ¬ S'.1 a 8 = -900 := by
      intro q
      rw [if_pos q] at h1; exact h1 rfl
    refine And.intro ?_ rfl
    rw [if_neg h2]
theorem ctX1_state (l : Launch) : ip_CT l yX1_state wsX1_state rmX1_state ip_Sta preX1_state postX1_state := by
  refine ip_of (cc := cX1_state) (maxL := 1) (ret := (some .int)) (by decide +kernel) rfl (fun _ => (0, 0)) rfl ?_ ?_
  · intro as S h
    obtain ⟨a, rfl, hq⟩ := ip_e_r h
    exact ⟨Nat.le_of_ble_eq_true rfl, by simp⟩
  intro p e s m args below meth c D cA A ad0 as S h hI hx hb hml hown hts hr hlocks hname hA hNx
  obtain ⟨a, rfl, hq⟩ := ip_e_r h
  refine ip_run_ok (stop := fun _ => false) (tX1_state hx hb hml hown hts hr hlocks hname hA hNx) (fun _ _ _ _ h => False.elim h) 30 0 _ _ S ?_
  exact vX1_state a S hI hq

def preX1_treatment : List ip_V → ip_S → Prop := ip_h_r (fun _ => False) (fun a S => (S.2.2.2 a).1 = 1 ∧ True)
def postX1_treatment : List ip_V → ip_S → List ip_V → ip_S → Prop := ip_h_r (fun _ _ _ => True) (fun a S r S' => r = [.inl (2 * S.1 a 3)] ∧ S' = S)
theorem shX1_treatment : ∀ as S, ip_Sta S → preX1_treatment as S → ∃ (b : Nat) (as' : List ip_V), as = .inr (.inl (some b)) :: as' ∧ as'.length = 0 ∧ (S.2.2.2 b).1 = 1 := by
  intro as S hI h
  obtain ⟨a, rfl, hq⟩ := ip_e_r h
  exact ⟨_, _, rfl, rfl, hq.1⟩
def rmX1_treatment : Room := { frames := 1, cells := 0, slots := 0, locals := 40 }
def pX1_treatment (po : List ip_V → ip_S → Prop) : List (Nat × ip_T) := [(0, ip_t_ci 2 1), (1, ip_t_ar 0 2), (2, ip_t_gI 1 3 5), (5, ip_t_imul 6), (6, ip_t_iret po)]
set_option maxRecDepth 100000 in
set_option maxHeartbeats 4000000 in
theorem tX1_treatment {p : Program} {l : Launch} {e : Env} {s : State} {m : MethodId} {args : Array Value} {below : List Frame} {meth : Method} {c : Code} {D : va_G} {cA : Nat → ClassId} {A : Nat → Prop} {ad0 : Nat → Nat} {S0 : ip_S} {po : List ip_V → ip_S → Prop} (hx : p.tables.exec = Jvm.exec) (hb : c.code = cX1_treatment) (hml : c.maxLocals = 1) (hown : s.vm.findClass RX1 = some m.cls) (hts : ∀ w ∈ wsX1_treatment, w.before args s = true) (hr : meth.sig.returnType = (some .int)) (hlocks : meth.locks = false) (hname : meth.name = yX1_treatment.name) (hA : ∀ q, s.heap.size ≤ q → A q) (hNx : ip_Nx s) : ∀ q ∈ pX1_treatment po, ip_snd p l e rmX1_treatment s m args below meth c D cA A (MQ below (ip_Q ip_Sta D cA ad0 S0 A po) args s 0 0 A) 1 (fun _ => (0, 0)) ip_Sta ad0 S0 q.1 q.2 := by
  have hIs : ∀ S, ip_Sta S → ip_Sta S := fun _ h => h
  have hIn := ip_In_Sta
  have hS9 : CallFix p m c cX1_treatment 1 s args wsX1_treatment RX1 := ⟨hx, hb, hml, hown, hts⟩
  have hin1 : ∀ w ∈ u_ws RX1 TX1 11, w ∈ wsX1_treatment := by decide +kernel
  refine List.forall_mem_cons.mpr ⟨ip_s_iconst hx hb dX1_treatment_0 rfl rfl, ?_⟩
  refine List.forall_mem_cons.mpr ⟨ip_s_aload_n hx hb dX1_treatment_1 rfl rfl, ?_⟩
  refine List.forall_mem_cons.mpr ⟨ip_s_gI hx hb hts hin1 hown rfl (by decide) 3 (by decide) (hts (.fieldLink RX1 24 "IcePads$Jet" "size" "I") (by decide +kernel)) (fun _ h9 => h9) rfl dX1_treatment_2 rfl, ?_⟩
  refine List.forall_mem_cons.mpr ⟨ip_s_imul hx hb dX1_treatment_5 rfl, ?_⟩
  refine List.forall_mem_cons.mpr ⟨ip_s_iret hx hb hr hlocks (Nat.le_of_ble_eq_true rfl) (Nat.le_of_ble_eq_true rfl) dX1_treatment_6, ?_⟩
  exact fun _ h => absurd h List.not_mem_nil
set_option maxRecDepth 100000 in
set_option maxHeartbeats 4000000 in
theorem vX1_treatment (a : Nat) (S : ip_S) (hS : ip_Sta S) (hp : (S.2.2.2 a).1 = 1 ∧ True) : ip_run (pX1_treatment (postX1_treatment [.inr (.inl (some a))] S)) (fun _ => false) (fun _ _ _ _ => False) 20 0 [some (.inr (.inl (some a)))] [] S := by
  refine And.intro hp.1 ?_
  exact And.intro rfl rfl
theorem ctX1_treatment (l : Launch) : ip_CT l yX1_treatment wsX1_treatment rmX1_treatment ip_Sta preX1_treatment postX1_treatment := by
  refine ip_of (cc := cX1_treatment) (maxL := 1) (ret := (some .int)) (by decide +kernel) rfl (fun _ => (0, 0)) rfl ?_ ?_
  · intro as S h
    obtain ⟨a, rfl, hq⟩ := ip_e_r h
    exact ⟨Nat.le_of_ble_eq_true rfl, by simp⟩
  intro p e s m args below meth c D cA A ad0 as S h hI hx hb hml hown hts hr hlocks hname hA hNx
  obtain ⟨a, rfl, hq⟩ := ip_e_r h
  refine ip_run_ok (stop := fun _ => false) (tX1_treatment hx hb hml hown hts hr hlocks hname hA hNx) (fun _ _ _ _ h => False.elim h) 20 0 _ _ S ?_
  exact vX1_treatment a S hI hq

def preX1_litresNeeded : List ip_V → ip_S → Prop := ip_h_r (fun _ => False) (fun a S => (S.2.2.2 a).1 = 1 ∧ True)
def postX1_litresNeeded : List ip_V → ip_S → List ip_V → ip_S → Prop := ip_h_r (fun _ _ _ => True) (fun a S r S' => r = [.inl (10 * S.1 a 3)] ∧ S' = S)
theorem shX1_litresNeeded : ∀ as S, ip_Sta S → preX1_litresNeeded as S → ∃ (b : Nat) (as' : List ip_V), as = .inr (.inl (some b)) :: as' ∧ as'.length = 0 ∧ (S.2.2.2 b).1 = 1 := by
  intro as S hI h
  obtain ⟨a, rfl, hq⟩ := ip_e_r h
  exact ⟨_, _, rfl, rfl, hq.1⟩
def rmX1_litresNeeded : Room := { frames := 1, cells := 0, slots := 0, locals := 40 }
def pX1_litresNeeded (po : List ip_V → ip_S → Prop) : List (Nat × ip_T) := [(0, ip_t_ci 10 2), (2, ip_t_ar 0 3), (3, ip_t_gI 1 3 6), (6, ip_t_imul 7), (7, ip_t_iret po)]
set_option maxRecDepth 100000 in
set_option maxHeartbeats 4000000 in
theorem tX1_litresNeeded {p : Program} {l : Launch} {e : Env} {s : State} {m : MethodId} {args : Array Value} {below : List Frame} {meth : Method} {c : Code} {D : va_G} {cA : Nat → ClassId} {A : Nat → Prop} {ad0 : Nat → Nat} {S0 : ip_S} {po : List ip_V → ip_S → Prop} (hx : p.tables.exec = Jvm.exec) (hb : c.code = cX1_litresNeeded) (hml : c.maxLocals = 1) (hown : s.vm.findClass RX1 = some m.cls) (hts : ∀ w ∈ wsX1_litresNeeded, w.before args s = true) (hr : meth.sig.returnType = (some .int)) (hlocks : meth.locks = false) (hname : meth.name = yX1_litresNeeded.name) (hA : ∀ q, s.heap.size ≤ q → A q) (hNx : ip_Nx s) : ∀ q ∈ pX1_litresNeeded po, ip_snd p l e rmX1_litresNeeded s m args below meth c D cA A (MQ below (ip_Q ip_Sta D cA ad0 S0 A po) args s 0 0 A) 1 (fun _ => (0, 0)) ip_Sta ad0 S0 q.1 q.2 := by
  have hIs : ∀ S, ip_Sta S → ip_Sta S := fun _ h => h
  have hIn := ip_In_Sta
  have hS9 : CallFix p m c cX1_litresNeeded 1 s args wsX1_litresNeeded RX1 := ⟨hx, hb, hml, hown, hts⟩
  have hin1 : ∀ w ∈ u_ws RX1 TX1 11, w ∈ wsX1_litresNeeded := by decide +kernel
  refine List.forall_mem_cons.mpr ⟨ip_s_bipush hx hb dX1_litresNeeded_0 rfl rfl, ?_⟩
  refine List.forall_mem_cons.mpr ⟨ip_s_aload_n hx hb dX1_litresNeeded_2 rfl rfl, ?_⟩
  refine List.forall_mem_cons.mpr ⟨ip_s_gI hx hb hts hin1 hown rfl (by decide) 3 (by decide) (hts (.fieldLink RX1 24 "IcePads$Jet" "size" "I") (by decide +kernel)) (fun _ h9 => h9) rfl dX1_litresNeeded_3 rfl, ?_⟩
  refine List.forall_mem_cons.mpr ⟨ip_s_imul hx hb dX1_litresNeeded_6 rfl, ?_⟩
  refine List.forall_mem_cons.mpr ⟨ip_s_iret hx hb hr hlocks (Nat.le_of_ble_eq_true rfl) (Nat.le_of_ble_eq_true rfl) dX1_litresNeeded_7, ?_⟩
  exact fun _ h => absurd h List.not_mem_nil
set_option maxRecDepth 100000 in
set_option maxHeartbeats 4000000 in
theorem vX1_litresNeeded (a : Nat) (S : ip_S) (hS : ip_Sta S) (hp : (S.2.2.2 a).1 = 1 ∧ True) : ip_run (pX1_litresNeeded (postX1_litresNeeded [.inr (.inl (some a))] S)) (fun _ => false) (fun _ _ _ _ => False) 20 0 [some (.inr (.inl (some a)))] [] S := by
  refine And.intro hp.1 ?_
  exact And.intro rfl rfl
theorem ctX1_litresNeeded (l : Launch) : ip_CT l yX1_litresNeeded wsX1_litresNeeded rmX1_litresNeeded ip_Sta preX1_litresNeeded postX1_litresNeeded := by
  refine ip_of (cc := cX1_litresNeeded) (maxL := 1) (ret := (some .int)) (by decide +kernel) rfl (fun _ => (0, 0)) rfl ?_ ?_
  · intro as S h
    obtain ⟨a, rfl, hq⟩ := ip_e_r h
    exact ⟨Nat.le_of_ble_eq_true rfl, by simp⟩
  intro p e s m args below meth c D cA A ad0 as S h hI hx hb hml hown hts hr hlocks hname hA hNx
  obtain ⟨a, rfl, hq⟩ := ip_e_r h
  refine ip_run_ok (stop := fun _ => false) (tX1_litresNeeded hx hb hml hown hts hr hlocks hname hA hNx) (fun _ _ _ _ h => False.elim h) 20 0 _ _ S ?_
  exact vX1_litresNeeded a S hI hq

def preX1_drainNeeded : List ip_V → ip_S → Prop := ip_h_r (fun _ => False) (fun a S => (S.2.2.2 a).1 = 1 ∧ True)
def postX1_drainNeeded : List ip_V → ip_S → List ip_V → ip_S → Prop := ip_h_r (fun _ _ _ => True) (fun a S r S' => r = [.inl (8 * S.1 a 3)] ∧ S' = S)
theorem shX1_drainNeeded : ∀ as S, ip_Sta S → preX1_drainNeeded as S → ∃ (b : Nat) (as' : List ip_V), as = .inr (.inl (some b)) :: as' ∧ as'.length = 0 ∧ (S.2.2.2 b).1 = 1 := by
  intro as S hI h
  obtain ⟨a, rfl, hq⟩ := ip_e_r h
  exact ⟨_, _, rfl, rfl, hq.1⟩
def rmX1_drainNeeded : Room := { frames := 1, cells := 0, slots := 0, locals := 40 }
def pX1_drainNeeded (po : List ip_V → ip_S → Prop) : List (Nat × ip_T) := [(0, ip_t_ci 8 2), (2, ip_t_ar 0 3), (3, ip_t_gI 1 3 6), (6, ip_t_imul 7), (7, ip_t_iret po)]
set_option maxRecDepth 100000 in
set_option maxHeartbeats 4000000 in
theorem tX1_drainNeeded {p : Program} {l : Launch} {e : Env} {s : State} {m : MethodId} {args : Array Value} {below : List Frame} {meth : Method} {c : Code} {D : va_G} {cA : Nat → ClassId} {A : Nat → Prop} {ad0 : Nat → Nat} {S0 : ip_S} {po : List ip_V → ip_S → Prop} (hx : p.tables.exec = Jvm.exec) (hb : c.code = cX1_drainNeeded) (hml : c.maxLocals = 1) (hown : s.vm.findClass RX1 = some m.cls) (hts : ∀ w ∈ wsX1_drainNeeded, w.before args s = true) (hr : meth.sig.returnType = (some .int)) (hlocks : meth.locks = false) (hname : meth.name = yX1_drainNeeded.name) (hA : ∀ q, s.heap.size ≤ q → A q) (hNx : ip_Nx s) : ∀ q ∈ pX1_drainNeeded po, ip_snd p l e rmX1_drainNeeded s m args below meth c D cA A (MQ below (ip_Q ip_Sta D cA ad0 S0 A po) args s 0 0 A) 1 (fun _ => (0, 0)) ip_Sta ad0 S0 q.1 q.2 := by
  have hIs : ∀ S, ip_Sta S → ip_Sta S := fun _ h => h
  have hIn := ip_In_Sta
  have hS9 : CallFix p m c cX1_drainNeeded 1 s args wsX1_drainNeeded RX1 := ⟨hx, hb, hml, hown, hts⟩
  have hin1 : ∀ w ∈ u_ws RX1 TX1 11, w ∈ wsX1_drainNeeded := by decide +kernel
  refine List.forall_mem_cons.mpr ⟨ip_s_bipush hx hb dX1_drainNeeded_0 rfl rfl, ?_⟩
  refine List.forall_mem_cons.mpr ⟨ip_s_aload_n hx hb dX1_drainNeeded_2 rfl rfl, ?_⟩
  refine List.forall_mem_cons.mpr ⟨ip_s_gI hx hb hts hin1 hown rfl (by decide) 3 (by decide) (hts (.fieldLink RX1 24 "IcePads$Jet" "size" "I") (by decide +kernel)) (fun _ h9 => h9) rfl dX1_drainNeeded_3 rfl, ?_⟩
  refine List.forall_mem_cons.mpr ⟨ip_s_imul hx hb dX1_drainNeeded_6 rfl, ?_⟩
  refine List.forall_mem_cons.mpr ⟨ip_s_iret hx hb hr hlocks (Nat.le_of_ble_eq_true rfl) (Nat.le_of_ble_eq_true rfl) dX1_drainNeeded_7, ?_⟩
  exact fun _ h => absurd h List.not_mem_nil
set_option maxRecDepth 100000 in
set_option maxHeartbeats 4000000 in
theorem vX1_drainNeeded (a : Nat) (S : ip_S) (hS : ip_Sta S) (hp : (S.2.2.2 a).1 = 1 ∧ True) : ip_run (pX1_drainNeeded (postX1_drainNeeded [.inr (.inl (some a))] S)) (fun _ => false) (fun _ _ _ _ => False) 20 0 [some (.inr (.inl (some a)))] [] S := by
  refine And.intro hp.1 ?_
  exact And.intro rfl rfl
theorem ctX1_drainNeeded (l : Launch) : ip_CT l yX1_drainNeeded wsX1_drainNeeded rmX1_drainNeeded ip_Sta preX1_drainNeeded postX1_drainNeeded := by
  refine ip_of (cc := cX1_drainNeeded) (maxL := 1) (ret := (some .int)) (by decide +kernel) rfl (fun _ => (0, 0)) rfl ?_ ?_
  · intro as S h
    obtain ⟨a, rfl, hq⟩ := ip_e_r h
    exact ⟨Nat.le_of_ble_eq_true rfl, by simp⟩
  intro p e s m args below meth c D cA A ad0 as S h hI hx hb hml hown hts hr hlocks hname hA hNx
  obtain ⟨a, rfl, hq⟩ := ip_e_r h
  refine ip_run_ok (stop := fun _ => false) (tX1_drainNeeded hx hb hml hown hts hr hlocks hname hA hNx) (fun _ _ _ _ h => False.elim h) 20 0 _ _ S ?_
  exact vX1_drainNeeded a S hI hq

def preX1_begin : List ip_V → ip_S → Prop := ip_h_riii (fun _ => False) (fun a pad mi ho S => (S.2.2.2 a).1 = 1 ∧ True)
def postX1_begin : List ip_V → ip_S → List ip_V → ip_S → Prop := ip_h_riii (fun _ _ _ => True) (fun a pad mi ho S r S' => r = [] ∧ S' = ip_sI (ip_sI (ip_sI S a 6 pad) a 7 mi) a 10 (mi + ho))
theorem shX1_begin : ∀ as S, ip_Sta S → preX1_begin as S → ∃ (b : Nat) (as' : List ip_V), as = .inr (.inl (some b)) :: as' ∧ as'.length = 3 ∧ (S.2.2.2 b).1 = 1 := by
  intro as S hI h
  obtain ⟨a, pad, mi, ho, rfl, hq⟩ := ip_e_riii h
  exact ⟨_, _, rfl, rfl, hq.1⟩
def rmX1_begin : Room := { frames := 1, cells := 0, slots := 0, locals := 40 }
def pX1_begin (po : List ip_V → ip_S → Prop) : List (Nat × ip_T) := [(0, ip_t_ar 0 1), (1, ip_t_il 1 2), (2, ip_t_pI 1 6 5), (5, ip_t_ar 0 6), (6, ip_t_il 2 7), (7, ip_t_pI 1 7 10), (10, ip_t_ar 0 11), (11, ip_t_il 2 12), (12, ip_t_il 3 13), (13, ip_t_iadd 14), (14, ip_t_pI 1 10 17), (17, ip_t_vret po)]
set_option maxRecDepth 100000 in
set_option maxHeartbeats 4000000 in
theorem tX1_begin {p : Program} {l : Launch} {e : Env} {s : State} {m : MethodId} {args : Array Value} {below : List Frame} {meth : Method} {c : Code} {D : va_G} {cA : Nat → ClassId} {A : Nat → Prop} {ad0 : Nat → Nat} {S0 : ip_S} {po : List ip_V → ip_S → Prop} (hx : p.tables.exec = Jvm.exec) (hb : c.code = cX1_begin) (hml : c.maxLocals = 4) (hown : s.vm.findClass RX1 = some m.cls) (hts : ∀ w ∈ wsX1_begin, w.before args s = true) (hr : meth.sig.returnType = none) (hlocks : meth.locks = false) (hname : meth.name = yX1_begin.name) (hA : ∀ q, s.heap.size ≤ q → A q) (hNx : ip_Nx s) : ∀ q ∈ pX1_begin po, ip_snd p l e rmX1_begin s m args below meth c D cA A (MQ below (ip_Q ip_Sta D cA ad0 S0 A po) args s 0 0 A) 4 (fun _ => (0, 0)) ip_Sta ad0 S0 q.1 q.2 := by
  have hIs : ∀ S, ip_Sta S → ip_Sta S := fun _ h => h
  have hIn := ip_In_Sta
  have hS9 : CallFix p m c cX1_begin 4 s args wsX1_begin RX1 := ⟨hx, hb, hml, hown, hts⟩
  have hin1 : ∀ w ∈ u_ws RX1 TX1 11, w ∈ wsX1_begin := by decide +kernel
  refine List.forall_mem_cons.mpr ⟨ip_s_aload_n hx hb dX1_begin_0 rfl rfl, ?_⟩
  refine List.forall_mem_cons.mpr ⟨ip_s_iload_n hx hb dX1_begin_1 rfl rfl, ?_⟩
  refine List.forall_mem_cons.mpr ⟨ip_s_pI hx hb hts hin1 hown rfl (by decide) 6 (by decide) (hts (.fieldLink RX1 9 "IcePads$Jet" "pad" "I") (by decide +kernel)) (fun _ h9 => h9) tyX1 tyX1_ok nmX1 hIn rfl rfl (by decide +kernel) dX1_begin_2 rfl, ?_⟩
  refine List.forall_mem_cons.mpr ⟨ip_s_aload_n hx hb dX1_begin_5 rfl rfl, ?_⟩
  refine List.forall_mem_cons.mpr ⟨ip_s_iload_n hx hb dX1_begin_6 rfl rfl, ?_⟩
  refine List.forall_mem_cons.mpr ⟨ip_s_pI hx hb hts hin1 hown rfl (by decide) 7 (by decide) (hts (.fieldLink RX1 15 "IcePads$Jet" "start" "I") (by decide +kernel)) (fun _ h9 => h9) tyX1 tyX1_ok nmX1 hIn rfl rfl (by decide +kernel) dX1_begin_7 rfl, ?_⟩
  refine List.forall_mem_cons.mpr ⟨ip_s_aload_n hx hb dX1_begin_10 rfl rfl, ?_⟩
  refine List.forall_mem_cons.mpr ⟨ip_s_iload_n hx hb dX1_begin_11 rfl rfl, ?_⟩
  refine List.forall_mem_cons.mpr ⟨ip_s_iload_n hx hb dX1_begin_12 rfl rfl, ?_⟩
  refine List.forall_mem_cons.mpr ⟨ip_s_iadd hx hb dX1_begin_13 rfl, ?_⟩
  refine List.forall_mem_cons.mpr ⟨ip_s_pI hx hb hts hin1 hown rfl (by decide) 10 (by decide) (hts (.fieldLink RX1 44 "IcePads$Jet" "holdsTill" "I") (by decide +kernel)) (fun _ h9 => h9) tyX1 tyX1_ok nmX1 hIn rfl rfl (by decide +kernel) dX1_begin_14 rfl, ?_⟩
  refine List.forall_mem_cons.mpr ⟨ip_s_vret hx hb hr hlocks (Nat.le_of_ble_eq_true rfl) (Nat.le_of_ble_eq_true rfl) dX1_begin_17, ?_⟩
  exact fun _ h => absurd h List.not_mem_nil
set_option maxRecDepth 100000 in
set_option maxHeartbeats 4000000 in
theorem vX1_begin (a : Nat) (pad : Int32) (mi : Int32) (ho : Int32) (S : ip_S) (hS : ip_Sta S) (hp : (S.2.2.2 a).1 = 1 ∧ True) : ip_run (pX1_begin (postX1_begin [.inr (.inl (some a)), .inl pad, .inl mi, .inl ho] S)) (fun _ => false) (fun _ _ _ _ => False) 30 0 [some (.inr (.inl (some a))), some (.inl pad), some (.inl mi), some (.inl ho)] [] S := by
  refine And.intro hp.1 ?_
  refine And.intro hp.1 ?_
  refine And.intro hp.1 ?_
  exact And.intro rfl rfl
theorem ctX1_begin (l : Launch) : ip_CT l yX1_begin wsX1_begin rmX1_begin ip_Sta preX1_begin postX1_begin := by
  refine ip_of (cc := cX1_begin) (maxL := 4) (ret := none) (by decide +kernel) rfl (fun _ => (0, 0)) rfl ?_ ?_
  · intro as S h
    obtain ⟨a, pad, mi, ho, rfl, hq⟩ := ip_e_riii h
    exact ⟨Nat.le_of_ble_eq_true rfl, by simp⟩
  intro p e s m args below meth c D cA A ad0 as S h hI hx hb hml hown hts hr hlocks hname hA hNx
  obtain ⟨a, pad, mi, ho, rfl, hq⟩ := ip_e_riii h
  refine ip_run_ok (stop := fun _ => false) (tX1_begin hx hb hml hown hts hr hlocks hname hA hNx) (fun _ _ _ _ h => False.elim h) 30 0 _ _ S ?_
  exact vX1_begin a pad mi ho S hI hq

def preX1_leave : List ip_V → ip_S → Prop := ip_h_ri (fun _ => False) (fun a mi S => (S.2.2.2 a).1 = 1 ∧ True)
def postX1_leave : List ip_V → ip_S → List ip_V → ip_S → Prop := ip_h_ri (fun _ _ _ => True) (fun a mi S r S' => r = [] ∧ S' = (if mi + S.1 a 4 ≤ S.1 a 10 then ip_sI (ip_sI S a 6 (-900)) a 8 (mi + S.1 a 4) else ip_sI (ip_sI (ip_sI S a 6 (-900)) a 5 (mi + S.1 a 4)) a 9 (S.1 a 9 + 1)))
theorem shX1_leave : ∀ as S, ip_Sta S → preX1_leave as S → ∃ (b : Nat) (as' : List ip_V), as = .inr (.inl (some b)) :: as' ∧ as'.length = 1 ∧ (S.2.2.2 b).1 = 1 := by
  intro as S hI h
  obtain ⟨a, mi, rfl, hq⟩ := ip_e_ri h
  exact ⟨_, _, rfl, rfl, hq.1⟩
def rmX1_leave : Room := { frames := 1, cells := 0, slots := 0, locals := 40 }
def pX1_leave (po : List ip_V → ip_S → Prop) : List (Nat × ip_T) := [(0, ip_t_il 1 1), (1, ip_t_ar 0 2), (2, ip_t_gI 1 4 5), (5, ip_t_iadd 6), (6, ip_t_is 2 7), (7, ip_t_ar 0 8), (8, ip_t_ci (-900) 11), (11, ip_t_pI 1 6 14), (14, ip_t_il 2 15), (15, ip_t_ar 0 16), (16, ip_t_gI 1 10 19), (19, ip_t_icgt 30 22), (22, ip_t_ar 0 23), (23, ip_t_il 2 24), (24, ip_t_pI 1 8 27), (27, ip_t_go 45), (30, ip_t_ar 0 31), (31, ip_t_il 2 32), (32, ip_t_pI 1 5 35), (35, ip_t_ar 0 36), (36, ip_t_dup 37), (37, ip_t_gI 1 9 40), (40, ip_t_ci 1 41), (41, ip_t_iadd 42), (42, ip_t_pI 1 9 45), (45, ip_t_vret po)]
set_option maxRecDepth 100000 in
set_option maxHeartbeats 4000000 in
theorem tX1_leave {p : Program} {l : Launch} {e : Env} {s : State} {m : MethodId} {args : Array Value} {below : List Frame} {meth : Method} {c : Code} {D : va_G} {cA : Nat → ClassId} {A : Nat → Prop} {ad0 : Nat → Nat} {S0 : ip_S} {po : List ip_V → ip_S → Prop} (hx : p.tables.exec = Jvm.exec) (hb : c.code = cX1_leave) (hml : c.maxLocals = 3) (hown : s.vm.findClass RX1 = some m.cls) (hts : ∀ w ∈ wsX1_leave, w.before args s = true) (hr : meth.sig.returnType = none) (hlocks : meth.locks = false) (hname : meth.name = yX1_leave.name) (hA : ∀ q, s.heap.size ≤ q → A q) (hNx : ip_Nx s) : ∀ q ∈ pX1_leave po, ip_snd p l e rmX1_leave s m args below meth c D cA A (MQ below (ip_Q ip_Sta D cA ad0 S0 A po) args s 0 0 A) 3 (fun _ => (0, 0)) ip_Sta ad0 S0 q.1 q.2 := by
  have hIs : ∀ S, ip_Sta S → ip_Sta S := fun _ h => h
  have hIn := ip_In_Sta
  have hS9 : CallFix p m c cX1_leave 3 s args wsX1_leave RX1 := ⟨hx, hb, hml, hown, hts⟩
  have hin1 : ∀ w ∈ u_ws RX1 TX1 11, w ∈ wsX1_leave := by decide +kernel
  refine List.forall_mem_cons.mpr ⟨ip_s_iload_n hx hb dX1_leave_0 rfl rfl, ?_⟩
  refine List.forall_mem_cons.mpr ⟨ip_s_aload_n hx hb dX1_leave_1 rfl rfl, ?_⟩
  refine List.forall_mem_cons.mpr ⟨ip_s_gI hx hb hts hin1 hown rfl (by decide) 4 (by decide) (hts (.fieldLink RX1 33 "IcePads$Jet" "roll" "I") (by decide +kernel)) (fun _ h9 => h9) rfl dX1_leave_2 rfl, ?_⟩
  refine List.forall_mem_cons.mpr ⟨ip_s_iadd hx hb dX1_leave_5 rfl, ?_⟩
  refine List.forall_mem_cons.mpr ⟨ip_s_istore_n hx hb dX1_leave_6 rfl (by decide) rfl, ?_⟩
  refine List.forall_mem_cons.mpr ⟨ip_s_aload_n hx hb dX1_leave_7 rfl rfl, ?_⟩
  refine List.forall_mem_cons.mpr ⟨ip_s_sipush hx hb dX1_leave_8 rfl rfl, ?_⟩
  refine List.forall_mem_cons.mpr ⟨ip_s_pI hx hb hts hin1 hown rfl (by decide) 6 (by decide) (hts (.fieldLink RX1 9 "IcePads$Jet" "pad" "I") (by decide +kernel)) (fun _ h9 => h9) tyX1 tyX1_ok nmX1 hIn rfl rfl (by decide +kernel) dX1_leave_11 rfl, ?_⟩
  refine List.forall_mem_cons.mpr ⟨ip_s_iload_n hx hb dX1_leave_14 rfl rfl, ?_⟩
  refine List.forall_mem_cons.mpr ⟨ip_s_aload_n hx hb dX1_leave_15 rfl rfl, ?_⟩
  refine List.forall_mem_cons.mpr ⟨ip_s_gI hx hb hts hin1 hown rfl (by decide) 10 (by decide) (hts (.fieldLink RX1 44 "IcePads$Jet" "holdsTill" "I") (by decide +kernel)) (fun _ h9 => h9) rfl dX1_leave_16 rfl, ?_⟩
  refine List.forall_mem_cons.mpr ⟨ip_s_icgt (t := 30) hx hb dX1_leave_19 (by decide) rfl rfl, ?_⟩
  refine List.forall_mem_cons.mpr ⟨ip_s_aload_n hx hb dX1_leave_22 rfl rfl, ?_⟩
  refine List.forall_mem_cons.mpr ⟨ip_s_iload_n hx hb dX1_leave_23 rfl rfl, ?_⟩
  refine List.forall_mem_cons.mpr ⟨ip_s_pI hx hb hts hin1 hown rfl (by decide) 8 (by decide) (hts (.fieldLink RX1 18 "IcePads$Jet" "flew" "I") (by decide +kernel)) (fun _ h9 => h9) tyX1 tyX1_ok nmX1 hIn rfl rfl (by decide +kernel) dX1_leave_24 rfl, ?_⟩
  refine List.forall_mem_cons.mpr ⟨ip_s_go (t := 45) hx hb dX1_leave_27 (by decide) (Nat.le_of_ble_eq_true rfl) (Nat.le_of_ble_eq_true rfl), ?_⟩
  refine List.forall_mem_cons.mpr ⟨ip_s_aload_n hx hb dX1_leave_30 rfl rfl, ?_⟩
  refine List.forall_mem_cons.mpr ⟨ip_s_iload_n hx hb dX1_leave_31 rfl rfl, ?_⟩
  refine List.forall_mem_cons.mpr ⟨ip_s_pI hx hb hts hin1 hown rfl (by decide) 5 (by decide) (hts (.fieldLink RX1 30 "IcePads$Jet" "ready" "I") (by decide +kernel)) (fun _ h9 => h9) tyX1 tyX1_ok nmX1 hIn rfl rfl (by decide +kernel) dX1_leave_32 rfl, ?_⟩
  refine List.forall_mem_cons.mpr ⟨ip_s_aload_n hx hb dX1_leave_35 rfl rfl, ?_⟩
  refine List.forall_mem_cons.mpr ⟨ip_s_dup hx hb dX1_leave_36 rfl, ?_⟩
  refine List.forall_mem_cons.mpr ⟨ip_s_gI hx hb hts hin1 hown rfl (by decide) 9 (by decide) (hts (.fieldLink RX1 47 "IcePads$Jet" "turnsBack" "I") (by decide +kernel)) (fun _ h9 => h9) rfl dX1_leave_37 rfl, ?_⟩
  refine List.forall_mem_cons.mpr ⟨ip_s_iconst hx hb dX1_leave_40 rfl rfl, ?_⟩
  refine List.forall_mem_cons.mpr ⟨ip_s_iadd hx hb dX1_leave_41 rfl, ?_⟩
  refine List.forall_mem_cons.mpr ⟨ip_s_pI hx hb hts hin1 hown rfl (by decide) 9 (by decide) (hts (.fieldLink RX1 47 "IcePads$Jet" "turnsBack" "I") (by decide +kernel)) (fun _ h9 => h9) tyX1 tyX1_ok nmX1 hIn rfl rfl (by decide +kernel) dX1_leave_42 rfl, ?_⟩
  refine List.forall_mem_cons.mpr ⟨ip_s_vret hx hb hr hlocks (Nat.le_of_ble_eq_true rfl) (Nat.le_of_ble_eq_true rfl) dX1_leave_45, ?_⟩
  exact fun _ h => absurd h List.not_mem_nil
set_option maxRecDepth 100000 in
set_option maxHeartbeats 4000000 in
theorem vX1_leave (a : Nat) (mi : Int32) (S : ip_S) (hS : ip_Sta S) (hp : (S.2.2.2 a).1 = 1 ∧ True) : ip_run (pX1_leave (postX1_leave [.inr (.inl (some a)), .inl mi] S)) (fun _ => false) (fun _ _ _ _ => False) 50 0 [some (.inr (.inl (some a))), some (.inl mi), none] [] S := by
  refine And.intro hp.1 ?_
  refine And.intro hp.1 ?_
  refine And.intro hp.1 ?_
  refine And.intro (fun h1 => ?_) (fun h1 => ?_)
  · rw [ip_sI_k (by decide)] at h1
    refine And.intro hp.1 ?_
    refine And.intro hp.1 ?_
    refine And.intro hp.1 ?_
    refine And.intro rfl ?_
    rw [if_neg (Int32.not_le.mpr h1), ip_sI_k (by decide), ip_sI_k (by decide)]
  · rw [ip_sI_k (by decide)] at h1
    refine And.intro hp.1 ?_
    refine And.intro rfl ?_
    rw [if_pos (Int32.not_lt.mp h1)]
theorem ctX1_leave (l : Launch) : ip_CT l yX1_leave wsX1_leave rmX1_leave ip_Sta preX1_leave postX1_leave := by
  refine ip_of (cc := cX1_leave) (maxL := 3) (ret := none) (by decide +kernel) rfl (fun _ => (0, 0)) rfl ?_ ?_
  · intro as S h
    obtain ⟨a, mi, rfl, hq⟩ := ip_e_ri h
    exact ⟨Nat.le_of_ble_eq_true rfl, by simp⟩
  intro p e s m args below meth c D cA A ad0 as S h hI hx hb hml hown hts hr hlocks hname hA hNx
  obtain ⟨a, mi, rfl, hq⟩ := ip_e_ri h
  refine ip_run_ok (stop := fun _ => false) (tX1_leave hx hb hml hown hts hr hlocks hname hA hNx) (fun _ _ _ _ h => False.elim h) 50 0 _ _ S ?_
  exact vX1_leave a mi S hI hq

def preX1_late : List ip_V → ip_S → Prop := ip_h_r (fun _ => False) (fun a S => (S.2.2.2 a).1 = 1 ∧ True)
def postX1_late : List ip_V → ip_S → List ip_V → ip_S → Prop := ip_h_r (fun _ _ _ => True) (fun a S r S' => r = [.inl (S.1 a 8 - S.1 a 1 - 2 * S.1 a 3 - S.1 a 4)] ∧ S' = S)
theorem shX1_late : ∀ as S, ip_Sta S → preX1_late as S → ∃ (b : Nat) (as' : List ip_V), as = .inr (.inl (some b)) :: as' ∧ as'.length = 0 ∧ (S.2.2.2 b).1 = 1 := by
  intro as S hI h
  obtain ⟨a, rfl, hq⟩ := ip_e_r h
  exact ⟨_, _, rfl, rfl, hq.1⟩
def rmX1_late : Room := { frames := 2, cells := 0, slots := 0, locals := 80 }
def pX1_late (po : List ip_V → ip_S → Prop) : List (Nat × ip_T) := [(0, ip_t_ar 0 1), (1, ip_t_gI 1 8 4), (4, ip_t_ar 0 5), (5, ip_t_gI 1 1 8), (8, ip_t_isub 9), (9, ip_t_ar 0 10), (10, ip_t_call 1 preX1_treatment postX1_treatment 13), (13, ip_t_isub 14), (14, ip_t_ar 0 15), (15, ip_t_gI 1 4 18), (18, ip_t_isub 19), (19, ip_t_iret po)]
set_option maxRecDepth 100000 in
set_option maxHeartbeats 4000000 in
theorem tX1_late {p : Program} {l : Launch} {e : Env} {s : State} {m : MethodId} {args : Array Value} {below : List Frame} {meth : Method} {c : Code} {D : va_G} {cA : Nat → ClassId} {A : Nat → Prop} {ad0 : Nat → Nat} {S0 : ip_S} {po : List ip_V → ip_S → Prop} (hx : p.tables.exec = Jvm.exec) (hb : c.code = cX1_late) (hml : c.maxLocals = 1) (hown : s.vm.findClass RX1 = some m.cls) (hts : ∀ w ∈ wsX1_late, w.before args s = true) (hr : meth.sig.returnType = (some .int)) (hlocks : meth.locks = false) (hname : meth.name = yX1_late.name) (hA : ∀ q, s.heap.size ≤ q → A q) (hNx : ip_Nx s) : ∀ q ∈ pX1_late po, ip_snd p l e rmX1_late s m args below meth c D cA A (MQ below (ip_Q ip_Sta D cA ad0 S0 A po) args s 0 0 A) 1 (fun _ => (0, 0)) ip_Sta ad0 S0 q.1 q.2 := by
  have hIs : ∀ S, ip_Sta S → ip_Sta S := fun _ h => h
  have hIn := ip_In_Sta
  have hS9 : CallFix p m c cX1_late 1 s args wsX1_late RX1 := ⟨hx, hb, hml, hown, hts⟩
  have hin1 : ∀ w ∈ u_ws RX1 TX1 11, w ∈ wsX1_late := by decide +kernel
  refine List.forall_mem_cons.mpr ⟨ip_s_aload_n hx hb dX1_late_0 rfl rfl, ?_⟩
  refine List.forall_mem_cons.mpr ⟨ip_s_gI hx hb hts hin1 hown rfl (by decide) 8 (by decide) (hts (.fieldLink RX1 18 "IcePads$Jet" "flew" "I") (by decide +kernel)) (fun _ h9 => h9) rfl dX1_late_1 rfl, ?_⟩
  refine List.forall_mem_cons.mpr ⟨ip_s_aload_n hx hb dX1_late_4 rfl rfl, ?_⟩
  refine List.forall_mem_cons.mpr ⟨ip_s_gI hx hb hts hin1 hown rfl (by decide) 1 (by decide) (hts (.fieldLink RX1 27 "IcePads$Jet" "firstReady" "I") (by decide +kernel)) (fun _ h9 => h9) rfl dX1_late_5 rfl, ?_⟩
  refine List.forall_mem_cons.mpr ⟨ip_s_isub hx hb dX1_late_8 rfl, ?_⟩
  refine List.forall_mem_cons.mpr ⟨ip_s_aload_n hx hb dX1_late_9 rfl rfl, ?_⟩
  refine List.forall_mem_cons.mpr ⟨ip_s_callV hNx hS9 (ctX1_treatment l) (cwV 0 hts gX1_late_X1_treatment rfl rfl rfl (by decide +kernel) ⟨Nat.le_of_ble_eq_true rfl, Nat.le_of_ble_eq_true rfl⟩) (ci := 1) rfl rfl (by decide) (fun as S hI h => shX1_treatment as S hI h) hA dX1_late_10 ⟨Nat.le_of_ble_eq_true rfl, Nat.le_of_ble_eq_true rfl⟩ rfl, ?_⟩
  refine List.forall_mem_cons.mpr ⟨ip_s_isub hx hb dX1_late_13 rfl, ?_⟩
  refine List.forall_mem_cons.mpr ⟨ip_s_aload_n hx hb dX1_late_14 rfl rfl, ?_⟩
  refine List.forall_mem_cons.mpr ⟨ip_s_gI hx hb hts hin1 hown rfl (by decide) 4 (by decide) (hts (.fieldLink RX1 33 "IcePads$Jet" "roll" "I") (by decide +kernel)) (fun _ h9 => h9) rfl dX1_late_15 rfl, ?_⟩
  refine List.forall_mem_cons.mpr ⟨ip_s_isub hx hb dX1_late_18 rfl, ?_⟩
  refine List.forall_mem_cons.mpr ⟨ip_s_iret hx hb hr hlocks (Nat.le_of_ble_eq_true rfl) (Nat.le_of_ble_eq_true rfl) dX1_late_19, ?_⟩
  exact fun _ h => absurd h List.not_mem_nil
set_option maxRecDepth 100000 in
set_option maxHeartbeats 4000000 in
theorem vX1_late (a : Nat) (S : ip_S) (hS : ip_Sta S) (hp : (S.2.2.2 a).1 = 1 ∧ True) : ip_run (pX1_late (postX1_late [.inr (.inl (some a))] S)) (fun _ => false) (fun _ _ _ _ => False) 30 0 [some (.inr (.inl (some a)))] [] S := by
  refine And.intro hp.1 ?_
  refine And.intro hp.1 ?_
  refine And.intro hp ?_
  rintro r S' ⟨rfl, rfl⟩
  refine And.intro hp.1 ?_
  exact And.intro rfl rfl
theorem ctX1_late (l : Launch) : ip_CT l yX1_late wsX1_late rmX1_late ip_Sta preX1_late postX1_late := by
  refine ip_of (cc := cX1_late) (maxL := 1) (ret := (some .int)) (by decide +kernel) rfl (fun _ => (0, 0)) rfl ?_ ?_
  · intro as S h
    obtain ⟨a, rfl, hq⟩ := ip_e_r h
    exact ⟨Nat.le_of_ble_eq_true rfl, by simp⟩
  intro p e s m args below meth c D cA A ad0 as S h hI hx hb hml hown hts hr hlocks hname hA hNx
  obtain ⟨a, rfl, hq⟩ := ip_e_r h
  refine ip_run_ok (stop := fun _ => false) (tX1_late hx hb hml hown hts hr hlocks hname hA hNx) (fun _ _ _ _ h => False.elim h) 30 0 _ _ S ?_
  exact vX1_late a S hI hq
