theorem g_nst_nat {M : ip_M} {s : Int32} : ∀ n, n ≤ 100 → ∃ c, c ≤ n ∧ g_nst M s n = nI c ∧ (c = 0 ↔ ∀ j, j < n → ¬ M 71 j = s)
  | 0, _ => ⟨0, Nat.le_refl _, rfl, fun _ j hj => absurd hj (by omega), fun _ => rfl⟩
  | n + 1, h => by
    obtain ⟨c, h1, h2, h3⟩ := g_nst_nat (M := M) (s := s) n (by omega)
    rw [g_nst, h2]
    by_cases hs : M 71 n = s
    · refine ⟨c + 1, by omega, by rw [if_pos hs, nI_1], fun z => absurd z (by omega), fun z => absurd hs (z n (by omega))⟩
    · refine ⟨c, by omega, by rw [if_neg hs, Int32.add_zero], fun z j hj => ?_, fun z => h3.mpr (fun j hj => z j (by omega))⟩
      rcases Nat.lt_or_ge j n with hl | hg
      · exact h3.mp z j hl
      · have : j = n := by omega
        subst this
        exact hs
theorem ip_padnat {M : ip_M} {nf nj np p : Nat} (hv : ip_vv M nf nj np) (hp : p < 3) : ∃ c, c ≤ 12 ∧ M 64 p = nI c := by
  rcases ip_vp_at hv hp with h | ⟨j, h12, -, -, h1, -⟩
  · exact ⟨0, by omega, h⟩
  · exact ⟨j + 1, by omega, h1⟩
theorem ip_onpads {M : ip_M} {nf nj np : Nat} (hv : ip_vv M nf nj np) : (0 < g_nst M 1 nj ↔ 0 < M 64 0 + M 64 1 + M 64 2) ∧ (¬ 0 < M 64 0 + M 64 1 + M 64 2 → (∀ p, p < 3 → M 64 p = 0) ∧ ∀ j, j < nj → ¬ M 71 j = 1) := by
  have hn12 := hv.1.2.2.2.1
  have hnp3 := hv.1.2.2.2.2.2.2
  obtain ⟨a, ha, ea⟩ := ip_padnat hv (p := 0) (by decide)
  obtain ⟨b, hb, eb⟩ := ip_padnat hv (p := 1) (by decide)
  obtain ⟨c, hc, ec⟩ := ip_padnat hv (p := 2) (by decide)
  obtain ⟨n, hn, en, en0⟩ := g_nst_nat (M := M) (s := 1) nj (by omega)
  have hz : ∀ p, p < 3 → p = 0 ∨ p = 1 ∨ p = 2 := fun p hp => by omega
  have hON : (∀ p, p < 3 → M 64 p = 0) → ∀ j, j < nj → ¬ M 71 j = 1 := by
    intro h0 j hj h1
    obtain ⟨p, hp, hp1⟩ := hv.2.2.2.2.2.2.1 j hj h1
    rw [h0 p (by omega)] at hp1
    exact absurd hp1.symm (nI_ne0 (by omega) (by omega))
  rw [ea, eb, ec, en, nI_add, nI_add, show (0 : Int32) = nI 0 from rfl, nI_ltI (by omega) (by omega), nI_ltI (by omega) (by omega)]
  have hall : ¬ 0 < a + b + c → ∀ p, p < 3 → M 64 p = 0 := by
    intro h p hp
    rcases hz p hp with rfl | rfl | rfl
    · rw [ea, show a = 0 by omega]; rfl
    · rw [eb, show b = 0 by omega]; rfl
    · rw [ec, show c = 0 by omega]; rfl
  refine ⟨⟨fun h => ?_, fun h => ?_⟩, fun h => ⟨hall h, hON (hall h)⟩⟩
  · refine Nat.pos_of_ne_zero (fun z => ?_)
    have := en0.mpr (hON (hall (by omega)))
    omega
  · refine Nat.pos_of_ne_zero (fun z => ?_)
    have hno := en0.mp z
    have key : ∀ p d, p < 3 → M 64 p = nI d → d ≤ 12 → d = 0 := by
      intro p d hp hd hd12
      rcases ip_vp_at hv hp with h0 | ⟨j, y0, y1, -, y2, y3⟩
      · exact ip_nI_inj (b := 0) (by omega) (by omega) (hd.symm.trans h0)
      · exact absurd y3 (hno j y1)
    have := key 0 a (by decide) ea ha
    have := key 1 b (by decide) eb hb
    have := key 2 c (by decide) ec hc
    omega
theorem ip_vs_put {M : ip_M} {k : Nat} {v : Int32} (h : ip_vs M) (hk : k = 11 ∨ k = 12) (h11 : k = 11 → 10 ≤ v.toInt ∧ v.toInt ≤ 1000) (h12 : k = 12 → 0 ≤ v.toInt ∧ v.toInt ≤ 50) : ip_vs (ip_u M 50 k v) := by
  obtain ⟨w1, w2, w3, w4⟩ := h
  unfold ip_vs
  rcases hk with rfl | rfl
  · rw [ip_u_k (by decide), ip_u_same, ip_u_k (by decide), ip_u_k (by decide)]
    exact ⟨w1, h11 rfl, w3, w4⟩
  · rw [ip_u_k (by decide), ip_u_k (by decide), ip_u_same, ip_u_k (by decide)]
    exact ⟨w1, w2, h12 rfl, w4⟩
theorem ip_cS_0 {M : ip_M} {S : ip_S} {k k' : Nat} {v : Int32} (h : ip_cS M S) (hk : (k = 0 ∧ k' = 8) ∨ (k = 10 ∧ k' = 6) ∨ (k = 11 ∧ k' = 9) ∨ (k = 12 ∧ k' = 10) ∨ (k = 13 ∧ k' = 11) ∨ (k = 26 ∧ k' = 12)) : ip_cS (ip_u M 50 k v) (ip_sI S 0 k' v) := by
  obtain ⟨s8, s2, s4, s6, s9, s10, s11, s12, t4, t2, t3⟩ := h
  have key : ∀ c d, ((d = k ∧ c = k') ∨ (d ≠ k ∧ c ≠ k')) → S.1 0 c = M 50 d → (ip_sI S 0 k' v).1 0 c = ip_u M 50 k v 50 d := by
    rintro c d (⟨rfl, rfl⟩ | ⟨h1, h2⟩) e
    · rw [ip_sI_same, ip_u_same]
    · rw [ip_sI_k h2, ip_u_k h1, e]
  refine ⟨key _ _ (by omega) s8, key _ _ (by omega) s2, key _ _ (by omega) s4, key _ _ (by omega) s6, key _ _ (by omega) s9, key _ _ (by omega) s10, key _ _ (by omega) s11, key _ _ (by omega) s12, ?_, ?_, ?_⟩
  · rw [ip_sIP (by decide), ip_u_P (by decide)]; exact t4
  · rw [ip_sIP (by decide), ip_u_P (by decide)]; exact t2
  · rw [ip_sIP (by decide), ip_u_P (by decide)]; exact t3
theorem ip_cR_pads {M : ip_M} {S : ip_S} {v : Int32} (h : ip_cR M S) (hv3 : 1 ≤ v ∧ v ≤ 3) (h0 : ¬ 0 < M 64 0 + M 64 1 + M 64 2) : ip_cR (ip_u M 50 10 v) (ip_sI S 0 6 v) := by
  obtain ⟨nf, nj, np, hv, hS, hF, hJ, hP⟩ := h
  obtain ⟨hz, hon⟩ := (ip_onpads hv).2 h0
  have h1i : (1 : Int32).toInt = 1 := rfl
  have h3i : (3 : Int32).toInt = 3 := rfl
  rw [ip_leI, ip_leI, h1i, h3i] at hv3
  obtain ⟨np', rfl, n1, n2⟩ := ip_small (by omega) hv3
  obtain ⟨v1, v2, v3, v4, v5, v6⟩ := hv
  refine ip_cR_0 (nf := nf) (nj := nj) (np := np') (k := 10) (k' := 6) ?_ hF ?_ hP (ip_cS_0 hS (by omega))
  · refine ⟨?_, ip_vw_c (ip_u_P (by decide)) (ip_u_P (by decide)) (ip_u_P (by decide)) v2, ?_, ip_vf_c (ip_u_P (by decide)) (ip_u_P (by decide)) (ip_u_P (by decide)) (ip_u_P (by decide)) v4, ip_vj_c (ip_u_k (by decide)) (fun q a b => ip_u_P (by omega)) v5, ?_⟩
    · unfold ip_vn
      rw [ip_u_k (by decide), ip_u_k (by decide), ip_u_same]
      exact ⟨v1.1, v1.2.1, v1.2.2.1, v1.2.2.2.1, rfl, by omega, by omega⟩
    · unfold ip_vs
      rw [ip_u_k (by decide), ip_u_k (by decide), ip_u_k (by decide), ip_u_k (by decide)]
      exact v3
    · unfold ip_vp
      rw [ip_u_P (by decide), ip_u_P (by decide)]
      exact ⟨fun p hp => Or.inl (hz p hp), fun j hj h => absurd h (hon j hj), v6.2.2⟩
  · refine ⟨fun j hj => ?_, hJ.2⟩
    obtain ⟨j1, j2, j3, j4, j5, j6, j7, j8, j9, j10, j11, j12, j13⟩ := hJ.1 j hj
    exact ⟨j1, j2, j3, j4, j5, j6, j7, j8, j9, j10, j11, fun z => absurd z (hon j hj), j13⟩

def preX4_changeLimit (M : ip_M) : List ip_V → ip_S → Prop := ip_h_ri (fun _ => False) (fun a v S => a = 0 ∧ ip_cR M S)
def postX4_changeLimit (M : ip_M) : List ip_V → ip_S → List ip_V → ip_S → Prop := ip_h_ri (fun _ _ _ => True) (fun a v S r S' => r = [.inl (if 10 ≤ v ∧ v ≤ 1000 then M 50 11 else -100)] ∧ ip_cR (if 10 ≤ v ∧ v ≤ 1000 then ip_u M 50 11 v else M) S' ∧ ip_fC S S')
theorem shX4_changeLimit (M : ip_M) : ∀ as S, ip_Sta S → preX4_changeLimit M as S → ∃ (b : Nat) (as' : List ip_V), as = .inr (.inl (some b)) :: as' ∧ as'.length = 1 ∧ (S.2.2.2 b).1 = 4 := by
  intro as S hI h
  obtain ⟨a, v, rfl, hq⟩ := ip_e_ri h
  exact ⟨_, _, rfl, rfl, by rw [hq.1, hI.1 0 (by decide)]; rfl⟩
def rmX4_changeLimit : Room := { frames := 2, cells := 0, slots := 0, locals := 80 }
def pX4_changeLimit (po : List ip_V → ip_S → Prop) : List (Nat × ip_T) := [(0, ip_t_il 1 1), (1, ip_t_ci 10 3), (3, ip_t_ci 1000 6), (6, ip_t_call 3 preX4_within postX4_within 9), (9, ip_t_ifne 15 12), (12, ip_t_ci (-100) 14), (14, ip_t_iret po), (15, ip_t_ar 0 16), (16, ip_t_gI0 0 9 19), (19, ip_t_is 2 20), (20, ip_t_ar 0 21), (21, ip_t_il 1 22), (22, ip_t_pI0 0 9 25), (25, ip_t_il 2 26), (26, ip_t_iret po)]
set_option maxRecDepth 100000 in
set_option maxHeartbeats 4000000 in
theorem tX4_changeLimit {p : Program} {l : Launch} {e : Env} {s : State} {m : MethodId} {args : Array Value} {below : List Frame} {meth : Method} {c : Code} {D : va_G} {cA : Nat → ClassId} {A : Nat → Prop} {ad0 : Nat → Nat} {S0 : ip_S} {po : List ip_V → ip_S → Prop} (hx : p.tables.exec = Jvm.exec) (hb : c.code = cX4_changeLimit) (hml : c.maxLocals = 3) (hown : s.vm.findClass RX4 = some m.cls) (hts : ∀ w ∈ wsX4_changeLimit, w.before args s = true) (hr : meth.sig.returnType = (some .int)) (hlocks : meth.locks = false) (hname : meth.name = yX4_changeLimit.name) (hA : ∀ q, s.heap.size ≤ q → A q) (hNx : ip_Nx s) : ∀ q ∈ pX4_changeLimit po, ip_snd p l e rmX4_changeLimit s m args below meth c D cA A (MQ below (ip_Q ip_Sta D cA ad0 S0 A po) args s 0 0 A) 3 (fun _ => (0, 0)) ip_Sta ad0 S0 q.1 q.2 := by
  have hIs : ∀ S, ip_Sta S → ip_Sta S := fun _ h => h
  have hIn := ip_In_Sta
  have hS9 : CallFix p m c cX4_changeLimit 3 s args wsX4_changeLimit RX4 := ⟨hx, hb, hml, hown, hts⟩
  have hin4 : ∀ w ∈ u_ws RX4 TX4 14, w ∈ wsX4_changeLimit := by decide +kernel
  refine List.forall_mem_cons.mpr ⟨ip_s_iload_n hx hb dX4_changeLimit_0 rfl rfl, ?_⟩
  refine List.forall_mem_cons.mpr ⟨ip_s_bipush hx hb dX4_changeLimit_1 rfl rfl, ?_⟩
  refine List.forall_mem_cons.mpr ⟨ip_s_sipush hx hb dX4_changeLimit_3 rfl rfl, ?_⟩
  refine List.forall_mem_cons.mpr ⟨ip_s_callS hNx hS9 (ctX4_within l) (va_cwS 3 hts gX4_changeLimit_X4_within rfl rfl rfl (by decide +kernel) ⟨Nat.le_of_ble_eq_true rfl, Nat.le_of_ble_eq_true rfl⟩) (fun as S hI h => shsX4_within as S hI h) hA dX4_changeLimit_6 ⟨Nat.le_of_ble_eq_true rfl, Nat.le_of_ble_eq_true rfl⟩ rfl, ?_⟩
  refine List.forall_mem_cons.mpr ⟨ip_s_ifne (t := 15) hx hb dX4_changeLimit_9 (by decide) rfl rfl, ?_⟩
  refine List.forall_mem_cons.mpr ⟨ip_s_bipush hx hb dX4_changeLimit_12 rfl rfl, ?_⟩
  refine List.forall_mem_cons.mpr ⟨ip_s_iret hx hb hr hlocks (Nat.le_of_ble_eq_true rfl) (Nat.le_of_ble_eq_true rfl) dX4_changeLimit_14, ?_⟩
  refine List.forall_mem_cons.mpr ⟨ip_s_aload_n hx hb dX4_changeLimit_15 rfl rfl, ?_⟩
  refine List.forall_mem_cons.mpr ⟨ip_s_gI0 hx hb hts hin4 hown rfl (by decide) 9 (by decide) (hts (.fieldLink RX4 42 "IcePads" "limit" "I") (by decide +kernel)) (fun _ h9 => h9) hIs 0 rfl rfl dX4_changeLimit_16 rfl, ?_⟩
  refine List.forall_mem_cons.mpr ⟨ip_s_istore_n hx hb dX4_changeLimit_19 rfl (by decide) rfl, ?_⟩
  refine List.forall_mem_cons.mpr ⟨ip_s_aload_n hx hb dX4_changeLimit_20 rfl rfl, ?_⟩
  refine List.forall_mem_cons.mpr ⟨ip_s_iload_n hx hb dX4_changeLimit_21 rfl rfl, ?_⟩
  refine List.forall_mem_cons.mpr ⟨ip_s_pI0 hx hb hts hin4 hown rfl (by decide) 9 (by decide) (hts (.fieldLink RX4 42 "IcePads" "limit" "I") (by decide +kernel)) (fun _ h9 => h9) tyX4 tyX4_ok nmX4 hIn hIs 0 rfl rfl rfl (by decide +kernel) dX4_changeLimit_22 rfl, ?_⟩
  refine List.forall_mem_cons.mpr ⟨ip_s_iload_n hx hb dX4_changeLimit_25 rfl rfl, ?_⟩
  refine List.forall_mem_cons.mpr ⟨ip_s_iret hx hb hr hlocks (Nat.le_of_ble_eq_true rfl) (Nat.le_of_ble_eq_true rfl) dX4_changeLimit_26, ?_⟩
  exact fun _ h => absurd h List.not_mem_nil
set_option maxRecDepth 100000 in
set_option maxHeartbeats 4000000 in
theorem vX4_changeLimit (M : ip_M) (a : Nat) (v : Int32) (S : ip_S) (hS : ip_Sta S) (hp : a = 0 ∧ ip_cR M S) : ip_run (pX4_changeLimit (postX4_changeLimit M [.inr (.inl (some a)), .inl v] S)) (fun _ => false) (fun _ _ _ _ => False) 40 0 [some (.inr (.inl (some a))), some (.inl v), none] [] S := by
  obtain ⟨rfl, hR⟩ := hp
  have hR' := hR
  obtain ⟨nf, nj, np, hv, hcS, hcF, hcJ, hcP⟩ := hR'
  refine And.intro trivial ?_
  rintro r S' ⟨rfl, rfl⟩
  refine And.intro (fun q => ?_) (fun q => ?_)
  · have q := ip_if1 q
    refine And.intro ?_ (And.intro ?_ (ip_fC.rf.sI (by decide) _ _)) <;> rw [if_pos q]
    · rw [hcS.2.2.2.2.1]
    · have hl : (10 : Int32).toInt = 10 := rfl
      have hh : (1000 : Int32).toInt = 1000 := rfl
      rw [ip_leI, ip_leI, hl, hh] at q
      exact ip_cR_0 (ip_vv_50 hv (by decide) (by decide) (by decide) (by decide) (ip_vs_put hv.2.2.1 (by omega) (fun _ => q) (fun z => absurd z (by decide)))) hcF hcJ hcP (ip_cS_0 hcS (by omega))
  · refine And.intro ?_ (And.intro ?_ ip_fC.rf) <;> rw [if_neg (ip_if0 q)]
    exact hR
theorem ctX4_changeLimit (l : Launch) (M : ip_M) : ip_CT l yX4_changeLimit wsX4_changeLimit rmX4_changeLimit ip_Sta (preX4_changeLimit M) (postX4_changeLimit M) := by
  refine ip_of (cc := cX4_changeLimit) (maxL := 3) (ret := (some .int)) (by decide +kernel) rfl (fun _ => (0, 0)) rfl ?_ ?_
  · intro as S h
    obtain ⟨a, v, rfl, hq⟩ := ip_e_ri h
    exact ⟨Nat.le_of_ble_eq_true rfl, by simp⟩
  intro p e s m args below meth c D cA A ad0 as S h hI hx hb hml hown hts hr hlocks hname hA hNx
  obtain ⟨a, v, rfl, hq⟩ := ip_e_ri h
  refine ip_run_ok (stop := fun _ => false) (tX4_changeLimit hx hb hml hown hts hr hlocks hname hA hNx) (fun _ _ _ _ h => False.elim h) 40 0 _ _ S ?_
  exact vX4_changeLimit M a v S hI hq

def preX4_changeRate (M : ip_M) : List ip_V → ip_S → Prop := ip_h_ri (fun _ => False) (fun a v S => a = 0 ∧ ip_cR M S)
def postX4_changeRate (M : ip_M) : List ip_V → ip_S → List ip_V → ip_S → Prop := ip_h_ri (fun _ _ _ => True) (fun a v S r S' => r = [.inl (if 0 ≤ v ∧ v ≤ 50 then M 50 12 else -100)] ∧ ip_cR (if 0 ≤ v ∧ v ≤ 50 then ip_u M 50 12 v else M) S' ∧ ip_fC S S')
theorem shX4_changeRate (M : ip_M) : ∀ as S, ip_Sta S → preX4_changeRate M as S → ∃ (b : Nat) (as' : List ip_V), as = .inr (.inl (some b)) :: as' ∧ as'.length = 1 ∧ (S.2.2.2 b).1 = 4 := by
  intro as S hI h
  obtain ⟨a, v, rfl, hq⟩ := ip_e_ri h
  exact ⟨_, _, rfl, rfl, by rw [hq.1, hI.1 0 (by decide)]; rfl⟩
def rmX4_changeRate : Room := { frames := 2, cells := 0, slots := 0, locals := 80 }
def pX4_changeRate (po : List ip_V → ip_S → Prop) : List (Nat × ip_T) := [(0, ip_t_il 1 1), (1, ip_t_ci 0 2), (2, ip_t_ci 50 4), (4, ip_t_call 3 preX4_within postX4_within 7), (7, ip_t_ifne 13 10), (10, ip_t_ci (-100) 12), (12, ip_t_iret po), (13, ip_t_ar 0 14), (14, ip_t_gI0 0 10 17), (17, ip_t_is 2 18), (18, ip_t_ar 0 19), (19, ip_t_il 1 20), (20, ip_t_pI0 0 10 23), (23, ip_t_il 2 24), (24, ip_t_iret po)]
set_option maxRecDepth 100000 in
set_option maxHeartbeats 4000000 in
theorem tX4_changeRate {p : Program} {l : Launch} {e : Env} {s : State} {m : MethodId} {args : Array Value} {below : List Frame} {meth : Method} {c : Code} {D : va_G} {cA : Nat → ClassId} {A : Nat → Prop} {ad0 : Nat → Nat} {S0 : ip_S} {po : List ip_V → ip_S → Prop} (hx : p.tables.exec = Jvm.exec) (hb : c.code = cX4_changeRate) (hml : c.maxLocals = 3) (hown : s.vm.findClass RX4 = some m.cls) (hts : ∀ w ∈ wsX4_changeRate, w.before args s = true) (hr : meth.sig.returnType = (some .int)) (hlocks : meth.locks = false) (hname : meth.name = yX4_changeRate.name) (hA : ∀ q, s.heap.size ≤ q → A q) (hNx : ip_Nx s) : ∀ q ∈ pX4_changeRate po, ip_snd p l e rmX4_changeRate s m args below meth c D cA A (MQ below (ip_Q ip_Sta D cA ad0 S0 A po) args s 0 0 A) 3 (fun _ => (0, 0)) ip_Sta ad0 S0 q.1 q.2 := by
  have hIs : ∀ S, ip_Sta S → ip_Sta S := fun _ h => h
  have hIn := ip_In_Sta
  have hS9 : CallFix p m c cX4_changeRate 3 s args wsX4_changeRate RX4 := ⟨hx, hb, hml, hown, hts⟩
  have hin4 : ∀ w ∈ u_ws RX4 TX4 14, w ∈ wsX4_changeRate := by decide +kernel
  refine List.forall_mem_cons.mpr ⟨ip_s_iload_n hx hb dX4_changeRate_0 rfl rfl, ?_⟩
  refine List.forall_mem_cons.mpr ⟨ip_s_iconst hx hb dX4_changeRate_1 rfl rfl, ?_⟩
  refine List.forall_mem_cons.mpr ⟨ip_s_bipush hx hb dX4_changeRate_2 rfl rfl, ?_⟩
  refine List.forall_mem_cons.mpr ⟨ip_s_callS hNx hS9 (ctX4_within l) (va_cwS 3 hts gX4_changeRate_X4_within rfl rfl rfl (by decide +kernel) ⟨Nat.le_of_ble_eq_true rfl, Nat.le_of_ble_eq_true rfl⟩) (fun as S hI h => shsX4_within as S hI h) hA dX4_changeRate_4 ⟨Nat.le_of_ble_eq_true rfl, Nat.le_of_ble_eq_true rfl⟩ rfl, ?_⟩
  refine List.forall_mem_cons.mpr ⟨ip_s_ifne (t := 13) hx hb dX4_changeRate_7 (by decide) rfl rfl, ?_⟩
  refine List.forall_mem_cons.mpr ⟨ip_s_bipush hx hb dX4_changeRate_10 rfl rfl, ?_⟩
  refine List.forall_mem_cons.mpr ⟨ip_s_iret hx hb hr hlocks (Nat.le_of_ble_eq_true rfl) (Nat.le_of_ble_eq_true rfl) dX4_changeRate_12, ?_⟩
  refine List.forall_mem_cons.mpr ⟨ip_s_aload_n hx hb dX4_changeRate_13 rfl rfl, ?_⟩
  refine List.forall_mem_cons.mpr ⟨ip_s_gI0 hx hb hts hin4 hown rfl (by decide) 10 (by decide) (hts (.fieldLink RX4 45 "IcePads" "rate" "I") (by decide +kernel)) (fun _ h9 => h9) hIs 0 rfl rfl dX4_changeRate_14 rfl, ?_⟩
  refine List.forall_mem_cons.mpr ⟨ip_s_istore_n hx hb dX4_changeRate_17 rfl (by decide) rfl, ?_⟩
  refine List.forall_mem_cons.mpr ⟨ip_s_aload_n hx hb dX4_changeRate_18 rfl rfl, ?_⟩
  refine List.forall_mem_cons.mpr ⟨ip_s_iload_n hx hb dX4_changeRate_19 rfl rfl, ?_⟩
  refine List.forall_mem_cons.mpr ⟨ip_s_pI0 hx hb hts hin4 hown rfl (by decide) 10 (by decide) (hts (.fieldLink RX4 45 "IcePads" "rate" "I") (by decide +kernel)) (fun _ h9 => h9) tyX4 tyX4_ok nmX4 hIn hIs 0 rfl rfl rfl (by decide +kernel) dX4_changeRate_20 rfl, ?_⟩
  refine List.forall_mem_cons.mpr ⟨ip_s_iload_n hx hb dX4_changeRate_23 rfl rfl, ?_⟩
  refine List.forall_mem_cons.mpr ⟨ip_s_iret hx hb hr hlocks (Nat.le_of_ble_eq_true rfl) (Nat.le_of_ble_eq_true rfl) dX4_changeRate_24, ?_⟩
  exact fun _ h => absurd h List.not_mem_nil
set_option maxRecDepth 100000 in
set_option maxHeartbeats 4000000 in
theorem vX4_changeRate (M : ip_M) (a : Nat) (v : Int32) (S : ip_S) (hS : ip_Sta S) (hp : a = 0 ∧ ip_cR M S) : ip_run (pX4_changeRate (postX4_changeRate M [.inr (.inl (some a)), .inl v] S)) (fun _ => false) (fun _ _ _ _ => False) 40 0 [some (.inr (.inl (some a))), some (.inl v), none] [] S := by
  obtain ⟨rfl, hR⟩ := hp
  have hR' := hR
  obtain ⟨nf, nj, np, hv, hcS, hcF, hcJ, hcP⟩ := hR'
  refine And.intro trivial ?_
  rintro r S' ⟨rfl, rfl⟩
  refine And.intro (fun q => ?_) (fun q => ?_)
  · have q := ip_if1 q
    refine And.intro ?_ (And.intro ?_ (ip_fC.rf.sI (by decide) _ _)) <;> rw [if_pos q]
    · rw [hcS.2.2.2.2.2.1]
    · have hl : (0 : Int32).toInt = 0 := rfl
      have hh : (50 : Int32).toInt = 50 := rfl
      rw [ip_leI, ip_leI, hl, hh] at q
      exact ip_cR_0 (ip_vv_50 hv (by decide) (by decide) (by decide) (by decide) (ip_vs_put hv.2.2.1 (by omega) (fun z => absurd z (by decide)) (fun _ => q))) hcF hcJ hcP (ip_cS_0 hcS (by omega))
  · refine And.intro ?_ (And.intro ?_ ip_fC.rf) <;> rw [if_neg (ip_if0 q)]
    exact hR
theorem ctX4_changeRate (l : Launch) (M : ip_M) : ip_CT l yX4_changeRate wsX4_changeRate rmX4_changeRate ip_Sta (preX4_changeRate M) (postX4_changeRate M) := by
  refine ip_of (cc := cX4_changeRate) (maxL := 3) (ret := (some .int)) (by decide +kernel) rfl (fun _ => (0, 0)) rfl ?_ ?_
  · intro as S h
    obtain ⟨a, v, rfl, hq⟩ := ip_e_ri h
    exact ⟨Nat.le_of_ble_eq_true rfl, by simp⟩
  intro p e s m args below meth c D cA A ad0 as S h hI hx hb hml hown hts hr hlocks hname hA hNx
  obtain ⟨a, v, rfl, hq⟩ := ip_e_ri h
  refine ip_run_ok (stop := fun _ => false) (tX4_changeRate hx hb hml hown hts hr hlocks hname hA hNx) (fun _ _ _ _ h => False.elim h) 40 0 _ _ S ?_
  exact vX4_changeRate M a v S hI hq

def preX4_changePads (M : ip_M) : List ip_V → ip_S → Prop := ip_h_ri (fun _ => False) (fun a v S => a = 0 ∧ ip_cR M S)
def postX4_changePads (M : ip_M) : List ip_V → ip_S → List ip_V → ip_S → Prop := ip_h_ri (fun _ _ _ => True) (fun a v S r S' => r = [.inl (if 1 ≤ v ∧ v ≤ 3 then (if 0 < M 64 0 + M 64 1 + M 64 2 then -200 else M 50 10) else -100)] ∧ ip_cR (if 1 ≤ v ∧ v ≤ 3 then (if 0 < M 64 0 + M 64 1 + M 64 2 then M else ip_u M 50 10 v) else M) S' ∧ ip_fC S S')
theorem shX4_changePads (M : ip_M) : ∀ as S, ip_Sta S → preX4_changePads M as S → ∃ (b : Nat) (as' : List ip_V), as = .inr (.inl (some b)) :: as' ∧ as'.length = 1 ∧ (S.2.2.2 b).1 = 4 := by
  intro as S hI h
  obtain ⟨a, v, rfl, hq⟩ := ip_e_ri h
  exact ⟨_, _, rfl, rfl, by rw [hq.1, hI.1 0 (by decide)]; rfl⟩
def rmX4_changePads : Room := { frames := 4, cells := 0, slots := 0, locals := 160 }
def pX4_changePads (po : List ip_V → ip_S → Prop) : List (Nat × ip_T) := [(0, ip_t_il 1 1), (1, ip_t_ci 1 2), (2, ip_t_ci 3 3), (3, ip_t_call 3 preX4_within postX4_within 6), (6, ip_t_ifne 12 9), (9, ip_t_ci (-100) 11), (11, ip_t_iret po), (12, ip_t_ar 0 13), (13, ip_t_ci 1 14), (14, ip_t_callG 2 preX4_jetsIn postX4_jetsIn 17), (17, ip_t_ifle 24 20), (20, ip_t_ci (-200) 23), (23, ip_t_iret po), (24, ip_t_ar 0 25), (25, ip_t_gI0 0 6 28), (28, ip_t_is 2 29), (29, ip_t_ar 0 30), (30, ip_t_il 1 31), (31, ip_t_pI0 0 6 34), (34, ip_t_il 2 35), (35, ip_t_iret po)]
set_option maxRecDepth 100000 in
set_option maxHeartbeats 4000000 in
theorem tX4_changePads {p : Program} {l : Launch} {e : Env} {s : State} {m : MethodId} {args : Array Value} {below : List Frame} {meth : Method} {c : Code} {D : va_G} {cA : Nat → ClassId} {A : Nat → Prop} {ad0 : Nat → Nat} {S0 : ip_S} {po : List ip_V → ip_S → Prop} (hx : p.tables.exec = Jvm.exec) (hb : c.code = cX4_changePads) (hml : c.maxLocals = 3) (hown : s.vm.findClass RX4 = some m.cls) (hts : ∀ w ∈ wsX4_changePads, w.before args s = true) (hr : meth.sig.returnType = (some .int)) (hlocks : meth.locks = false) (hname : meth.name = yX4_changePads.name) (hA : ∀ q, s.heap.size ≤ q → A q) (hNx : ip_Nx s) : ∀ q ∈ pX4_changePads po, ip_snd p l e rmX4_changePads s m args below meth c D cA A (MQ below (ip_Q ip_Sta D cA ad0 S0 A po) args s 0 0 A) 3 (fun _ => (0, 0)) ip_Sta ad0 S0 q.1 q.2 := by
  have hIs : ∀ S, ip_Sta S → ip_Sta S := fun _ h => h
  have hIn := ip_In_Sta
  have hS9 : CallFix p m c cX4_changePads 3 s args wsX4_changePads RX4 := ⟨hx, hb, hml, hown, hts⟩
  have hin4 : ∀ w ∈ u_ws RX4 TX4 14, w ∈ wsX4_changePads := by decide +kernel
  refine List.forall_mem_cons.mpr ⟨ip_s_iload_n hx hb dX4_changePads_0 rfl rfl, ?_⟩
  refine List.forall_mem_cons.mpr ⟨ip_s_iconst hx hb dX4_changePads_1 rfl rfl, ?_⟩
  refine List.forall_mem_cons.mpr ⟨ip_s_iconst hx hb dX4_changePads_2 rfl rfl, ?_⟩
  refine List.forall_mem_cons.mpr ⟨ip_s_callS hNx hS9 (ctX4_within l) (va_cwS 3 hts gX4_changePads_X4_within rfl rfl rfl (by decide +kernel) ⟨Nat.le_of_ble_eq_true rfl, Nat.le_of_ble_eq_true rfl⟩) (fun as S hI h => shsX4_within as S hI h) hA dX4_changePads_3 ⟨Nat.le_of_ble_eq_true rfl, Nat.le_of_ble_eq_true rfl⟩ rfl, ?_⟩
  refine List.forall_mem_cons.mpr ⟨ip_s_ifne (t := 12) hx hb dX4_changePads_6 (by decide) rfl rfl, ?_⟩
  refine List.forall_mem_cons.mpr ⟨ip_s_bipush hx hb dX4_changePads_9 rfl rfl, ?_⟩
  refine List.forall_mem_cons.mpr ⟨ip_s_iret hx hb hr hlocks (Nat.le_of_ble_eq_true rfl) (Nat.le_of_ble_eq_true rfl) dX4_changePads_11, ?_⟩
  refine List.forall_mem_cons.mpr ⟨ip_s_aload_n hx hb dX4_changePads_12 rfl rfl, ?_⟩
  refine List.forall_mem_cons.mpr ⟨ip_s_iconst hx hb dX4_changePads_13 rfl rfl, ?_⟩
  refine List.forall_mem_cons.mpr ⟨ip_s_G (fun M => ip_s_callV hNx hS9 (ctX4_jetsIn l M) (cwV 1 hts gX4_changePads_X4_jetsIn rfl rfl rfl (by decide +kernel) ⟨Nat.le_of_ble_eq_true rfl, Nat.le_of_ble_eq_true rfl⟩) (ci := 4) rfl rfl (by decide) (fun as S hI h => shX4_jetsIn M as S hI h) hA dX4_changePads_14 ⟨Nat.le_of_ble_eq_true rfl, Nat.le_of_ble_eq_true rfl⟩ rfl), ?_⟩
  refine List.forall_mem_cons.mpr ⟨ip_s_ifle (t := 24) hx hb dX4_changePads_17 (by decide) rfl rfl, ?_⟩
  refine List.forall_mem_cons.mpr ⟨ip_s_sipush hx hb dX4_changePads_20 rfl rfl, ?_⟩
  refine List.forall_mem_cons.mpr ⟨ip_s_iret hx hb hr hlocks (Nat.le_of_ble_eq_true rfl) (Nat.le_of_ble_eq_true rfl) dX4_changePads_23, ?_⟩
  refine List.forall_mem_cons.mpr ⟨ip_s_aload_n hx hb dX4_changePads_24 rfl rfl, ?_⟩
  refine List.forall_mem_cons.mpr ⟨ip_s_gI0 hx hb hts hin4 hown rfl (by decide) 6 (by decide) (hts (.fieldLink RX4 38 "IcePads" "padCount" "I") (by decide +kernel)) (fun _ h9 => h9) hIs 0 rfl rfl dX4_changePads_25 rfl, ?_⟩
  refine List.forall_mem_cons.mpr ⟨ip_s_istore_n hx hb dX4_changePads_28 rfl (by decide) rfl, ?_⟩
  refine List.forall_mem_cons.mpr ⟨ip_s_aload_n hx hb dX4_changePads_29 rfl rfl, ?_⟩
  refine List.forall_mem_cons.mpr ⟨ip_s_iload_n hx hb dX4_changePads_30 rfl rfl, ?_⟩
  refine List.forall_mem_cons.mpr ⟨ip_s_pI0 hx hb hts hin4 hown rfl (by decide) 6 (by decide) (hts (.fieldLink RX4 38 "IcePads" "padCount" "I") (by decide +kernel)) (fun _ h9 => h9) tyX4 tyX4_ok nmX4 hIn hIs 0 rfl rfl rfl (by decide +kernel) dX4_changePads_31 rfl, ?_⟩
  refine List.forall_mem_cons.mpr ⟨ip_s_iload_n hx hb dX4_changePads_34 rfl rfl, ?_⟩
  refine List.forall_mem_cons.mpr ⟨ip_s_iret hx hb hr hlocks (Nat.le_of_ble_eq_true rfl) (Nat.le_of_ble_eq_true rfl) dX4_changePads_35, ?_⟩
  exact fun _ h => absurd h List.not_mem_nil
set_option maxRecDepth 100000 in
set_option maxHeartbeats 4000000 in
theorem vX4_changePads (M : ip_M) (a : Nat) (v : Int32) (S : ip_S) (hS : ip_Sta S) (hp : a = 0 ∧ ip_cR M S) : ip_run (pX4_changePads (postX4_changePads M [.inr (.inl (some a)), .inl v] S)) (fun _ => false) (fun _ _ _ _ => False) 40 0 [some (.inr (.inl (some a))), some (.inl v), none] [] S := by
  obtain ⟨rfl, hR⟩ := hp
  have hR' := hR
  obtain ⟨nf, nj, np, hv, hcS, hcF, hcJ, hcP⟩ := hR'
  refine And.intro trivial ?_
  rintro r S' ⟨rfl, rfl⟩
  refine And.intro (fun q => ?_) (fun q => ?_)
  · have q := ip_if1 q
    refine Exists.intro M (And.intro (And.intro rfl hR) ?_)
    rintro r S' ⟨rfl, rfl⟩
    rw [ip_vv_nj hv]
    refine And.intro (fun q2 => ?_) (fun q2 => ?_)
    · have h0 : ¬ 0 < M 64 0 + M 64 1 + M 64 2 := fun z => absurd ((ip_onpads hv).1.mpr z) (Int32.not_lt.mpr q2)
      refine And.intro ?_ (And.intro ?_ (ip_fC.rf.sI (by decide) _ _)) <;> rw [if_pos q, if_neg h0]
      · rw [hcS.2.2.2.1]
      · exact ip_cR_pads hR q h0
    · have h0 := (ip_onpads hv).1.mp (Int32.not_le.mp q2)
      refine And.intro ?_ (And.intro ?_ ip_fC.rf) <;> rw [if_pos q, if_pos h0]
      exact hR
  · refine And.intro ?_ (And.intro ?_ ip_fC.rf) <;> rw [if_neg (ip_if0 q)]
    exact hR
theorem ctX4_changePads (l : Launch) (M : ip_M) : ip_CT l yX4_changePads wsX4_changePads rmX4_changePads ip_Sta (preX4_changePads M) (postX4_changePads M) := by
  refine ip_of (cc := cX4_changePads) (maxL := 3) (ret := (some .int)) (by decide +kernel) rfl (fun _ => (0, 0)) rfl ?_ ?_
  · intro as S h
    obtain ⟨a, v, rfl, hq⟩ := ip_e_ri h
    exact ⟨Nat.le_of_ble_eq_true rfl, by simp⟩
  intro p e s m args below meth c D cA A ad0 as S h hI hx hb hml hown hts hr hlocks hname hA hNx
  obtain ⟨a, v, rfl, hq⟩ := ip_e_ri h
  refine ip_run_ok (stop := fun _ => false) (tX4_changePads hx hb hml hown hts hr hlocks hname hA hNx) (fun _ _ _ _ h => False.elim h) 40 0 _ _ S ?_
  exact vX4_changePads M a v S hI hq
