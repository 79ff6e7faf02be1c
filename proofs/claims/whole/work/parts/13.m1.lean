def preX4_within : List ip_V → ip_S → Prop := ip_h_iii (fun _ => False) (fun n lo hi S => True)
def postX4_within : List ip_V → ip_S → List ip_V → ip_S → Prop := ip_h_iii (fun _ _ _ => True) (fun n lo hi S r S' => r = [.inl (if lo ≤ n ∧ n ≤ hi then 1 else 0)] ∧ S' = S)
theorem shsX4_within : ∀ as S, ip_Sta S → preX4_within as S → as.length = 3 := by
  intro as S hI h
  obtain ⟨n, lo, hi, rfl, hq⟩ := ip_e_iii h
  rfl
def rmX4_within : Room := { frames := 1, cells := 0, slots := 0, locals := 40 }
def pX4_within (po : List ip_V → ip_S → Prop) : List (Nat × ip_T) := [(0, ip_t_il 0 1), (1, ip_t_il 1 2), (2, ip_t_iclt 14 5), (5, ip_t_il 0 6), (6, ip_t_il 2 7), (7, ip_t_icgt 14 10), (10, ip_t_ci 1 11), (11, ip_t_go 15), (14, ip_t_ci 0 15), (15, ip_t_zret po)]
set_option maxRecDepth 100000 in
set_option maxHeartbeats 4000000 in
theorem tX4_within {p : Program} {l : Launch} {e : Env} {s : State} {m : MethodId} {args : Array Value} {below : List Frame} {meth : Method} {c : Code} {D : va_G} {cA : Nat → ClassId} {A : Nat → Prop} {ad0 : Nat → Nat} {S0 : ip_S} {po : List ip_V → ip_S → Prop} (hx : p.tables.exec = Jvm.exec) (hb : c.code = cX4_within) (hml : c.maxLocals = 3) (hown : s.vm.findClass RX4 = some m.cls) (hts : ∀ w ∈ wsX4_within, w.before args s = true) (hr : meth.sig.returnType = (some .boolean)) (hlocks : meth.locks = false) (hname : meth.name = yX4_within.name) (hA : ∀ q, s.heap.size ≤ q → A q) (hNx : ip_Nx s) : ∀ q ∈ pX4_within po, ip_snd p l e rmX4_within s m args below meth c D cA A (MQ below (ip_Q ip_Sta D cA ad0 S0 A po) args s 0 0 A) 3 (fun _ => (0, 0)) ip_Sta ad0 S0 q.1 q.2 := by
  have hIs : ∀ S, ip_Sta S → ip_Sta S := fun _ h => h
  have hIn := ip_In_Sta
  have hS9 : CallFix p m c cX4_within 3 s args wsX4_within RX4 := ⟨hx, hb, hml, hown, hts⟩
  refine List.forall_mem_cons.mpr ⟨ip_s_iload_n hx hb dX4_within_0 rfl rfl, ?_⟩
  refine List.forall_mem_cons.mpr ⟨ip_s_iload_n hx hb dX4_within_1 rfl rfl, ?_⟩
  refine List.forall_mem_cons.mpr ⟨ip_s_iclt (t := 14) hx hb dX4_within_2 (by decide) rfl rfl, ?_⟩
  refine List.forall_mem_cons.mpr ⟨ip_s_iload_n hx hb dX4_within_5 rfl rfl, ?_⟩
  refine List.forall_mem_cons.mpr ⟨ip_s_iload_n hx hb dX4_within_6 rfl rfl, ?_⟩
  refine List.forall_mem_cons.mpr ⟨ip_s_icgt (t := 14) hx hb dX4_within_7 (by decide) rfl rfl, ?_⟩
  refine List.forall_mem_cons.mpr ⟨ip_s_iconst hx hb dX4_within_10 rfl rfl, ?_⟩
  refine List.forall_mem_cons.mpr ⟨ip_s_go (t := 15) hx hb dX4_within_11 (by decide) (Nat.le_of_ble_eq_true rfl) (Nat.le_of_ble_eq_true rfl), ?_⟩
  refine List.forall_mem_cons.mpr ⟨ip_s_iconst hx hb dX4_within_14 rfl rfl, ?_⟩
  refine List.forall_mem_cons.mpr ⟨ip_s_zret hx hb hr hlocks (Nat.le_of_ble_eq_true rfl) (Nat.le_of_ble_eq_true rfl) dX4_within_15, ?_⟩
  exact fun _ h => absurd h List.not_mem_nil
set_option maxRecDepth 100000 in
set_option maxHeartbeats 4000000 in
theorem vX4_within (n : Int32) (lo : Int32) (hi : Int32) (S : ip_S) (hS : ip_Sta S) (hp : True) : ip_run (pX4_within (postX4_within [.inl n, .inl lo, .inl hi] S)) (fun _ => false) (fun _ _ _ _ => False) 20 0 [some (.inl n), some (.inl lo), some (.inl hi)] [] S := by
  refine And.intro (fun h1 => ?_) (fun h1 => ?_)
  · refine And.intro (Or.inl rfl) ?_
    trace_state
    sorry
  · refine And.intro (fun h2 => ?_) (fun h2 => ?_)
    · trace_state
      sorry
    · sorry
theorem ctX4_within (l : Launch) : ip_CT l yX4_within wsX4_within rmX4_within ip_Sta preX4_within postX4_within := by
  refine ip_of (cc := cX4_within) (maxL := 3) (ret := (some .boolean)) (by decide +kernel) rfl (fun _ => (0, 0)) rfl ?_ ?_
  · intro as S h
    obtain ⟨n, lo, hi, rfl, hq⟩ := ip_e_iii h
    exact ⟨Nat.le_of_ble_eq_true rfl, by simp⟩
  intro p e s m args below meth c D cA A ad0 as S h hI hx hb hml hown hts hr hlocks hname hA hNx
  obtain ⟨n, lo, hi, rfl, hq⟩ := ip_e_iii h
  refine ip_run_ok (tX4_within hx hb hml hown hts hr hlocks hname hA hNx) (fun _ _ _ _ h => False.elim h) 20 0 _ _ S ?_
  exact vX4_within n lo hi S hI hq
