theorem ip_b2 {n b k : Nat} {x y z : Int} (h : x = (n : Int) - 1 - b) (q : ¬ x < 0) (q2 : ¬ x < y - z) (hy : y = n) (hz : z = 30) (hk : k + b = 30) (hn : n < 300) : b + 1 ≤ n ∧ b + 1 ≤ 30 ∧ k - 1 < k ∧ k - 1 + (b + 1) = 30 ∧ x = ((n - (b + 1) : Nat) : Int) ∧ 0 ≤ x ∧ x < 300 := by
  subst hy hz
  refine ⟨by omega, by omega, by omega, by omega, by omega, by omega, by omega⟩
theorem ip_b3 {n b : Nat} {x y : Int} (h : x = (n : Int) - 1 - b) (q : 0 ≤ x ∧ x < 300) (hy : y = -1) : -2147483648 ≤ x + y ∧ x + y < 2147483648 ∧ x + y = (n : Int) - 1 - ((b + 1 : Nat) : Int) := by
  subst hy
  refine ⟨by omega, by omega, by omega⟩
theorem ip_nsm {n b : Nat} (h : n < 300) : n - (b + 1) < 2 ^ 31 := by omega

def preX5_coldOf (M : ip_M) : List ip_V → ip_S → Prop := ip_h_ri (fun _ => False) (fun a m S => a = 50 ∧ ip_eM M S ∧ ip_vw M ∧ 0 ≤ m ∧ m ≤ 299)
def postX5_coldOf (M : ip_M) : List ip_V → ip_S → List ip_V → ip_S → Prop := ip_h_ri (fun _ _ _ => True) (fun a m S r S' => r = [.inl (ip_cold (M 51) (M 52) m.toNatClampNeg)] ∧ S' = S)
theorem shX5_coldOf (M : ip_M) : ∀ as S, ip_Sta S → preX5_coldOf M as S → ∃ (b : Nat) (as' : List ip_V), as = .inr (.inl (some b)) :: as' ∧ as'.length = 1 ∧ (S.2.2.2 b).1 = 5 := by
  intro as S hI h
  obtain ⟨a, m, rfl, hq⟩ := ip_e_ri h
  exact ⟨_, _, rfl, rfl, by rw [hq.1, hI.1 50 (by decide)]; rfl⟩
def rmX5_coldOf : Room := { frames := 1, cells := 0, slots := 0, locals := 40 }
def pX5_coldOf (po : List ip_V → ip_S → Prop) : List (Nat × ip_T) := [(0, ip_t_ar 0 1), (1, ip_t_gR0 50 51 4), (4, ip_t_il 1 5), (5, ip_t_ld 7 6), (6, ip_t_ifeq 16 9), (9, ip_t_ar 0 10), (10, ip_t_gR0 50 52 13), (13, ip_t_il 1 14), (14, ip_t_ld 6 15), (15, ip_t_iret po), (16, ip_t_ci 100 18), (18, ip_t_is 2 19), (19, ip_t_il 1 20), (20, ip_t_ci 1 21), (21, ip_t_isub 22), (22, ip_t_is 3 23), (23, ip_t_il 3 24), (24, ip_t_iflt 71 27), (27, ip_t_il 3 28), (28, ip_t_il 1 29), (29, ip_t_ci 30 31), (31, ip_t_isub 32), (32, ip_t_iclt 71 35), (35, ip_t_ar 0 36), (36, ip_t_gR0 50 51 39), (39, ip_t_il 3 40), (40, ip_t_ld 7 41), (41, ip_t_ifeq 63 44), (44, ip_t_ar 0 45), (45, ip_t_gR0 50 52 48), (48, ip_t_il 3 49), (49, ip_t_ld 6 50), (50, ip_t_il 2 51), (51, ip_t_icge 63 54), (54, ip_t_ar 0 55), (55, ip_t_gR0 50 52 58), (58, ip_t_il 3 59), (59, ip_t_ld 6 60), (60, ip_t_go 64), (63, ip_t_il 2 64), (64, ip_t_is 2 65), (65, ip_t_inc 3 (-1) 68), (68, ip_t_go 23), (71, ip_t_il 2 72), (72, ip_t_ci 100 74), (74, ip_t_icne 81 77), (77, ip_t_ci 0 78), (78, ip_t_go 82), (81, ip_t_il 2 82), (82, ip_t_iret po)]
set_option maxRecDepth 100000 in
set_option maxHeartbeats 4000000 in
theorem tX5_coldOf {p : Program} {l : Launch} {e : Env} {s : State} {m : MethodId} {args : Array Value} {below : List Frame} {meth : Method} {c : Code} {D : va_G} {cA : Nat → ClassId} {A : Nat → Prop} {ad0 : Nat → Nat} {S0 : ip_S} {po : List ip_V → ip_S → Prop} (hx : p.tables.exec = Jvm.exec) (hb : c.code = cX5_coldOf) (hml : c.maxLocals = 4) (hown : s.vm.findClass RX5 = some m.cls) (hts : ∀ w ∈ wsX5_coldOf, w.before args s = true) (hr : meth.sig.returnType = (some .int)) (hlocks : meth.locks = false) (hname : meth.name = yX5_coldOf.name) (hA : ∀ q, s.heap.size ≤ q → A q) (hNx : ip_Nx s) : ∀ q ∈ pX5_coldOf po, ip_snd p l e rmX5_coldOf s m args below meth c D cA A (MQ below (ip_Q ip_Sta D cA ad0 S0 A po) args s 0 0 A) 4 (fun _ => (0, 0)) ip_Sta ad0 S0 q.1 q.2 := by
  have hIs : ∀ S, ip_Sta S → ip_Sta S := fun _ h => h
  have hIn := ip_In_Sta
  have hS9 : CallFix p m c cX5_coldOf 4 s args wsX5_coldOf RX5 := ⟨hx, hb, hml, hown, hts⟩
  have hin5 : ∀ w ∈ u_ws RX5 TX5 32, w ∈ wsX5_coldOf := by decide +kernel
  refine List.forall_mem_cons.mpr ⟨ip_s_aload_n hx hb dX5_coldOf_0 rfl rfl, ?_⟩
  refine List.forall_mem_cons.mpr ⟨ip_s_gR0 hx hb hts hin5 hown rfl (by decide) 1 (by decide) (hts (.fieldLink RX5 7 "IcePadsModel" "isTold" "[Z") (by decide +kernel)) (fun _ h9 => h9) hIs 50 51 rfl (by decide) rfl dX5_coldOf_1 rfl, ?_⟩
  refine List.forall_mem_cons.mpr ⟨ip_s_iload_n hx hb dX5_coldOf_4 rfl rfl, ?_⟩
  refine List.forall_mem_cons.mpr ⟨ip_s_ldz hx hb hIs dX5_coldOf_5 rfl, ?_⟩
  refine List.forall_mem_cons.mpr ⟨ip_s_ifeq (t := 16) hx hb dX5_coldOf_6 (by decide) rfl rfl, ?_⟩
  refine List.forall_mem_cons.mpr ⟨ip_s_aload_n hx hb dX5_coldOf_9 rfl rfl, ?_⟩
  refine List.forall_mem_cons.mpr ⟨ip_s_gR0 hx hb hts hin5 hown rfl (by decide) 2 (by decide) (hts (.fieldLink RX5 13 "IcePadsModel" "cold" "[I") (by decide +kernel)) (fun _ h9 => h9) hIs 50 52 rfl (by decide) rfl dX5_coldOf_10 rfl, ?_⟩
  refine List.forall_mem_cons.mpr ⟨ip_s_iload_n hx hb dX5_coldOf_13 rfl rfl, ?_⟩
  refine List.forall_mem_cons.mpr ⟨ip_s_ldi hx hb hIs dX5_coldOf_14 rfl, ?_⟩
  refine List.forall_mem_cons.mpr ⟨ip_s_iret hx hb hr hlocks (Nat.le_of_ble_eq_true rfl) (Nat.le_of_ble_eq_true rfl) dX5_coldOf_15, ?_⟩
  refine List.forall_mem_cons.mpr ⟨ip_s_bipush hx hb dX5_coldOf_16 rfl rfl, ?_⟩
  refine List.forall_mem_cons.mpr ⟨ip_s_istore_n hx hb dX5_coldOf_18 rfl (by decide) rfl, ?_⟩
  refine List.forall_mem_cons.mpr ⟨ip_s_iload_n hx hb dX5_coldOf_19 rfl rfl, ?_⟩
  refine List.forall_mem_cons.mpr ⟨ip_s_iconst hx hb dX5_coldOf_20 rfl rfl, ?_⟩
  refine List.forall_mem_cons.mpr ⟨ip_s_isub hx hb dX5_coldOf_21 rfl, ?_⟩
  refine List.forall_mem_cons.mpr ⟨ip_s_istore_n hx hb dX5_coldOf_22 rfl (by decide) rfl, ?_⟩
  refine List.forall_mem_cons.mpr ⟨ip_s_iload_n hx hb dX5_coldOf_23 rfl rfl, ?_⟩
  refine List.forall_mem_cons.mpr ⟨ip_s_iflt (t := 71) hx hb dX5_coldOf_24 (by decide) rfl rfl, ?_⟩
  refine List.forall_mem_cons.mpr ⟨ip_s_iload_n hx hb dX5_coldOf_27 rfl rfl, ?_⟩
  refine List.forall_mem_cons.mpr ⟨ip_s_iload_n hx hb dX5_coldOf_28 rfl rfl, ?_⟩
  refine List.forall_mem_cons.mpr ⟨ip_s_bipush hx hb dX5_coldOf_29 rfl rfl, ?_⟩
  refine List.forall_mem_cons.mpr ⟨ip_s_isub hx hb dX5_coldOf_31 rfl, ?_⟩
  refine List.forall_mem_cons.mpr ⟨ip_s_iclt (t := 71) hx hb dX5_coldOf_32 (by decide) rfl rfl, ?_⟩
  refine List.forall_mem_cons.mpr ⟨ip_s_aload_n hx hb dX5_coldOf_35 rfl rfl, ?_⟩
  refine List.forall_mem_cons.mpr ⟨ip_s_gR0 hx hb hts hin5 hown rfl (by decide) 1 (by decide) (hts (.fieldLink RX5 7 "IcePadsModel" "isTold" "[Z") (by decide +kernel)) (fun _ h9 => h9) hIs 50 51 rfl (by decide) rfl dX5_coldOf_36 rfl, ?_⟩
  refine List.forall_mem_cons.mpr ⟨ip_s_iload_n hx hb dX5_coldOf_39 rfl rfl, ?_⟩
  refine List.forall_mem_cons.mpr ⟨ip_s_ldz hx hb hIs dX5_coldOf_40 rfl, ?_⟩
  refine List.forall_mem_cons.mpr ⟨ip_s_ifeq (t := 63) hx hb dX5_coldOf_41 (by decide) rfl rfl, ?_⟩
  refine List.forall_mem_cons.mpr ⟨ip_s_aload_n hx hb dX5_coldOf_44 rfl rfl, ?_⟩
  refine List.forall_mem_cons.mpr ⟨ip_s_gR0 hx hb hts hin5 hown rfl (by decide) 2 (by decide) (hts (.fieldLink RX5 13 "IcePadsModel" "cold" "[I") (by decide +kernel)) (fun _ h9 => h9) hIs 50 52 rfl (by decide) rfl dX5_coldOf_45 rfl, ?_⟩
  refine List.forall_mem_cons.mpr ⟨ip_s_iload_n hx hb dX5_coldOf_48 rfl rfl, ?_⟩
  refine List.forall_mem_cons.mpr ⟨ip_s_ldi hx hb hIs dX5_coldOf_49 rfl, ?_⟩
  refine List.forall_mem_cons.mpr ⟨ip_s_iload_n hx hb dX5_coldOf_50 rfl rfl, ?_⟩
  refine List.forall_mem_cons.mpr ⟨ip_s_icge (t := 63) hx hb dX5_coldOf_51 (by decide) rfl rfl, ?_⟩
  refine List.forall_mem_cons.mpr ⟨ip_s_aload_n hx hb dX5_coldOf_54 rfl rfl, ?_⟩
  refine List.forall_mem_cons.mpr ⟨ip_s_gR0 hx hb hts hin5 hown rfl (by decide) 2 (by decide) (hts (.fieldLink RX5 13 "IcePadsModel" "cold" "[I") (by decide +kernel)) (fun _ h9 => h9) hIs 50 52 rfl (by decide) rfl dX5_coldOf_55 rfl, ?_⟩
  refine List.forall_mem_cons.mpr ⟨ip_s_iload_n hx hb dX5_coldOf_58 rfl rfl, ?_⟩
  refine List.forall_mem_cons.mpr ⟨ip_s_ldi hx hb hIs dX5_coldOf_59 rfl, ?_⟩
  refine List.forall_mem_cons.mpr ⟨ip_s_go (t := 64) hx hb dX5_coldOf_60 (by decide) (Nat.le_of_ble_eq_true rfl) (Nat.le_of_ble_eq_true rfl), ?_⟩
  refine List.forall_mem_cons.mpr ⟨ip_s_iload_n hx hb dX5_coldOf_63 rfl rfl, ?_⟩
  refine List.forall_mem_cons.mpr ⟨ip_s_istore_n hx hb dX5_coldOf_64 rfl (by decide) rfl, ?_⟩
  refine List.forall_mem_cons.mpr ⟨ip_s_iinc hx hb dX5_coldOf_65 rfl (by decide) rfl, ?_⟩
  refine List.forall_mem_cons.mpr ⟨ip_s_go (t := 23) hx hb dX5_coldOf_68 (by decide) (Nat.le_of_ble_eq_true rfl) (Nat.le_of_ble_eq_true rfl), ?_⟩
  refine List.forall_mem_cons.mpr ⟨ip_s_iload_n hx hb dX5_coldOf_71 rfl rfl, ?_⟩
  refine List.forall_mem_cons.mpr ⟨ip_s_bipush hx hb dX5_coldOf_72 rfl rfl, ?_⟩
  refine List.forall_mem_cons.mpr ⟨ip_s_icne (t := 81) hx hb dX5_coldOf_74 (by decide) rfl rfl, ?_⟩
  refine List.forall_mem_cons.mpr ⟨ip_s_iconst hx hb dX5_coldOf_77 rfl rfl, ?_⟩
  refine List.forall_mem_cons.mpr ⟨ip_s_go (t := 82) hx hb dX5_coldOf_78 (by decide) (Nat.le_of_ble_eq_true rfl) (Nat.le_of_ble_eq_true rfl), ?_⟩
  refine List.forall_mem_cons.mpr ⟨ip_s_iload_n hx hb dX5_coldOf_81 rfl rfl, ?_⟩
  refine List.forall_mem_cons.mpr ⟨ip_s_iret hx hb hr hlocks (Nat.le_of_ble_eq_true rfl) (Nat.le_of_ble_eq_true rfl) dX5_coldOf_82, ?_⟩
  exact fun _ h => absurd h List.not_mem_nil
abbrev iX5_coldOf (M : ip_M) (a : Nat) (m : Int32) (S : ip_S) : Nat → ip_N := fun k pc loc st S1 => ∃ (b : Nat) (x2 x3 : Int32), x3.toInt = (m.toNatClampNeg : Int) - 1 - b ∧ b ≤ 30 ∧ b ≤ m.toNatClampNeg ∧ k + b = 30 ∧ pc = 23 ∧ st = [] ∧ S1 = S ∧ loc = [some (.inr (.inl (some a))), some (.inl m), some (.inl x2), some (.inl x3)] ∧ M 51 m.toNatClampNeg = 0 ∧ x2 = (ip_cL (M 51) (M 52) m.toNatClampNeg b).getD 100
set_option maxRecDepth 100000 in
set_option maxHeartbeats 4000000 in
theorem lpX5_coldOf (M : ip_M) (a : Nat) (m : Int32) (S : ip_S) (hS : ip_Sta S) (hp : a = 50 ∧ ip_eM M S ∧ ip_vw M ∧ 0 ≤ m ∧ m ≤ 299) : ∀ k pc loc st S1, iX5_coldOf M a m S k pc loc st S1 → ip_run (pX5_coldOf (postX5_coldOf M [.inr (.inl (some a)), .inl m] S)) (fun pc => Nat.beq pc 23) (fun pc loc st S2 => ∃ k', k' < k ∧ iX5_coldOf M a m S k' pc loc st S2) 60 pc loc st S1 := by
  obtain ⟨rfl, hE, hw, hm⟩ := hp
  obtain ⟨n, hn, rfl⟩ := ip_mi hm
  have hcn : (nI n).toNatClampNeg = n := nI_clamp (by omega)
  have hni : (nI n).toInt = n := nI_toInt (by omega)
  have h30 : (30 : Int32).toInt = 30 := rfl
  have h100 : (100 : Int32).toInt = 100 := rfl
  have h0 : (0 : Int32).toInt = 0 := rfl
  have hm1 : (-1 : Int32).toInt = -1 := rfl
  have hw' : ∀ i, ¬ M 51 i = 0 → -30 ≤ (M 52 i).toInt ∧ (M 52 i).toInt ≤ 5 := fun i h => ⟨(hw i h).1, (hw i h).2.1⟩
  rintro k pc loc st S1 ⟨b, x2, x3, hx3, hb, hbn, hk, rfl, rfl, rfl, rfl, ht, hv⟩
  rw [hcn] at hx3 hbn ht hv
  have hr1 : ip_cL (M 51) (M 52) n 30 = ip_cL (M 51) (M 52) n b → ¬ x2 = 100 → x2 = ip_cold (M 51) (M 52) n := by
    intro he q
    unfold ip_cold
    rw [if_pos ht, he]
    generalize ip_cL (M 51) (M 52) n b = o at hv
    cases o with
    | none => exact absurd hv q
    | some v => rw [hv]; rfl
  have hr2 : ip_cL (M 51) (M 52) n 30 = ip_cL (M 51) (M 52) n b → x2 = 100 → 0 = ip_cold (M 51) (M 52) n := by
    intro he q
    unfold ip_cold
    rw [if_pos ht, he]
    cases ho : ip_cL (M 51) (M 52) n b with
    | none => rfl
    | some v =>
      rw [ho] at hv
      have h1 := ip_cL_rng hw' b v ho
      have h2 : x2 = v := hv
      rw [← h2, q, h100] at h1
      omega
  refine And.intro (fun q => ?_) (fun q => ?_)
  · rw [ip_ltI, h0] at q
    have hbn' : n ≤ b := by omega
    have he : ip_cL (M 51) (M 52) n 30 = ip_cL (M 51) (M 52) n b := by rw [show (30 : Nat) = b + (30 - b) by omega]; exact ip_cL_stop _ _ hbn'
    refine And.intro (fun q => And.intro ?_ rfl) (fun q => And.intro ?_ rfl)
    · rw [hcn, ← hr1 he q]
    · rw [hcn, ← hr2 he q]
  · rw [ip_ltI, h0] at q
    refine And.intro (fun q2 => ?_) (fun q2 => ?_)
    · rw [ip_ltI, ip_subI (by omega) (by omega)] at q2
      have he : ip_cL (M 51) (M 52) n 30 = ip_cL (M 51) (M 52) n b := by rw [show b = 30 by omega]
      refine And.intro (fun q => And.intro ?_ rfl) (fun q => And.intro ?_ rfl)
      · rw [hcn, ← hr1 he q]
      · rw [hcn, ← hr2 he q]
    · rw [ip_ltI, ip_subI (by omega) (by omega)] at q2
      obtain ⟨hb1, hk2, hk1, hk3, hxx, hx0, hx9⟩ := ip_b2 hx3 q q2 hni h30 hk hn
      obtain ⟨hy1, hy2, hy3⟩ := ip_b3 hx3 ⟨hx0, hx9⟩ hm1
      have hnx : (x3 + -1).toInt = (n : Int) - 1 - ((b + 1 : Nat) : Int) := (ip_addI hy1 hy2).trans hy3
      have hin : vp_in x3 300 := vp_in_iff.mpr ⟨hx0, hx9⟩
      have hx : x3 = nI (n - (b + 1)) := ip_ofI hxx
      have hcl : x3.toNatClampNeg = n - (b + 1) := by rw [hx]; exact nI_clamp (ip_nsm hn)
      have e1 : S1.1 51 x3.toNatClampNeg = M 51 (n - (b + 1)) := by rw [hcl]; exact congrFun (hE 51 (by decide)) _
      have e2 : S1.1 52 x3.toNatClampNeg = M 52 (n - (b + 1)) := by rw [hcl]; exact congrFun (hE 52 (by decide)) _
      refine And.intro hin ?_
      refine And.intro (fun q3 => ?_) (fun q3 => ?_)
      · rw [e1] at q3
        refine Exists.intro (k - 1) (And.intro hk1 ⟨b + 1, _, _, ?_, hk2, ?_, hk3, rfl, rfl, rfl, rfl, ?_, ?_⟩)
        · rw [hcn]; exact hnx
        · rw [hcn]; exact hb1
        · rw [hcn]; exact ht
        · rw [hcn, hv, ip_cL, if_neg (fun z => z.2 q3)]
      · rw [e1] at q3
        refine And.intro hin ?_
        refine And.intro (fun q4 => ?_) (fun q4 => ?_)
        · rw [e2] at q4
          refine Exists.intro (k - 1) (And.intro hk1 ⟨b + 1, _, _, ?_, hk2, ?_, hk3, rfl, rfl, rfl, rfl, ?_, ?_⟩)
          · rw [hcn]; exact hnx
          · rw [hcn]; exact hb1
          · rw [hcn]; exact ht
          · rw [hcn, ip_cL, if_pos ⟨hb1, q3⟩]
            cases ho : ip_cL (M 51) (M 52) n b with
            | none =>
              rw [ho] at hv
              have h1 := (hw' _ q3).2
              rw [ip_leI, hv] at q4
              exact absurd (Int.le_trans q4 h1) (by decide)
            | some v =>
              rw [ho] at hv
              have h2 : x2 = v := hv
              rw [h2] at q4
              simp only [Option.getD_some]
              rw [if_neg (Int32.not_lt.mpr q4), h2]
        · rw [e2] at q4
          refine And.intro hin ?_
          refine Exists.intro (k - 1) (And.intro hk1 ⟨b + 1, _, _, ?_, hk2, ?_, hk3, rfl, rfl, rfl, rfl, ?_, ?_⟩)
          · rw [hcn]; exact hnx
          · rw [hcn]; exact hb1
          · rw [hcn]; exact ht
          · rw [hcn, e2, ip_cL, if_pos ⟨hb1, q3⟩]
            cases ho : ip_cL (M 51) (M 52) n b with
            | none => rfl
            | some v =>
              rw [ho] at hv
              have h2 : x2 = v := hv
              rw [h2] at q4
              simp only [Option.getD_some]
              rw [if_pos (Int32.not_le.mp q4)]
set_option maxRecDepth 100000 in
set_option maxHeartbeats 4000000 in
theorem vX5_coldOf (M : ip_M) (a : Nat) (m : Int32) (S : ip_S) (hS : ip_Sta S) (hp : a = 50 ∧ ip_eM M S ∧ ip_vw M ∧ 0 ≤ m ∧ m ≤ 299) : ip_run (pX5_coldOf (postX5_coldOf M [.inr (.inl (some a)), .inl m] S)) (fun pc => Nat.beq pc 23) (fun pc loc st S2 => ∃ k, iX5_coldOf M a m S k pc loc st S2) 60 0 [some (.inr (.inl (some a))), some (.inl m), none, none] [] S := by
  obtain ⟨rfl, hE, hw, hm⟩ := hp
  obtain ⟨n, hn, rfl⟩ := ip_mi hm
  have hcn : (nI n).toNatClampNeg = n := nI_clamp (by omega)
  have e1 : S.1 51 (nI n).toNatClampNeg = M 51 (nI n).toNatClampNeg := congrFun (hE 51 (by decide)) _
  have e2 : S.1 52 (nI n).toNatClampNeg = M 52 (nI n).toNatClampNeg := congrFun (hE 52 (by decide)) _
  refine And.intro (ip_in hm rfl) ?_
  refine And.intro (fun q => ?_) (fun q => ?_)
  · rw [e1] at q
    refine Exists.intro 30 ⟨0, 100, nI n - 1, ?_, by omega, by omega, rfl, rfl, rfl, rfl, rfl, q, rfl⟩
    have h1 : (nI n).toInt = n := nI_toInt (by omega)
    have h2 : (1 : Int32).toInt = 1 := rfl
    rw [ip_subI (by omega) (by omega), hcn]
    omega
  · rw [e1] at q
    refine And.intro (ip_in hm rfl) (And.intro ?_ rfl)
    unfold ip_cold
    rw [if_neg q, e2]
theorem ctX5_coldOf (l : Launch) (M : ip_M) : ip_CT l yX5_coldOf wsX5_coldOf rmX5_coldOf ip_Sta (preX5_coldOf M) (postX5_coldOf M) := by
  refine ip_of (cc := cX5_coldOf) (maxL := 4) (ret := (some .int)) (by decide +kernel) rfl (fun _ => (0, 0)) rfl ?_ ?_
  · intro as S h
    obtain ⟨a, m, rfl, hq⟩ := ip_e_ri h
    exact ⟨Nat.le_of_ble_eq_true rfl, by simp⟩
  intro p e s m args below meth c D cA A ad0 as S h hI hx hb hml hown hts hr hlocks hname hA hNx
  obtain ⟨a, m, rfl, hq⟩ := ip_e_ri h
  have ht := tX5_coldOf (D := D) (cA := cA) (A := A) (ad0 := ad0) (l := l) (e := e) (below := below) (S0 := S) (po := postX5_coldOf M [.inr (.inl (some a)), .inl m] S) hx hb hml hown hts hr hlocks hname hA hNx
  refine ip_run_ok ht (fun pc loc st S2 hh => ?_) 60 0 _ _ S (vX5_coldOf M a m S hI hq)
  obtain ⟨k, hk⟩ := hh
  exact ip_loop ht (iX5_coldOf M a m S) (lpX5_coldOf M a m S hI hq) k pc loc st S2 hk

def preX5_fallOf (M : ip_M) : List ip_V → ip_S → Prop := ip_h_ri (fun _ => False) (fun a m S => a = 50 ∧ ip_eM M S ∧ ip_vw M ∧ 0 ≤ m ∧ m ≤ 299)
def postX5_fallOf (M : ip_M) : List ip_V → ip_S → List ip_V → ip_S → Prop := ip_h_ri (fun _ _ _ => True) (fun a m S r S' => r = [.inl (ip_fall (M 51) (M 53) m.toNatClampNeg)] ∧ S' = S)
theorem shX5_fallOf (M : ip_M) : ∀ as S, ip_Sta S → preX5_fallOf M as S → ∃ (b : Nat) (as' : List ip_V), as = .inr (.inl (some b)) :: as' ∧ as'.length = 1 ∧ (S.2.2.2 b).1 = 5 := by
  intro as S hI h
  obtain ⟨a, m, rfl, hq⟩ := ip_e_ri h
  exact ⟨_, _, rfl, rfl, by rw [hq.1, hI.1 50 (by decide)]; rfl⟩
def rmX5_fallOf : Room := { frames := 1, cells := 0, slots := 0, locals := 40 }
def pX5_fallOf (po : List ip_V → ip_S → Prop) : List (Nat × ip_T) := [(0, ip_t_ar 0 1), (1, ip_t_gR0 50 51 4), (4, ip_t_il 1 5), (5, ip_t_ld 7 6), (6, ip_t_ifeq 16 9), (9, ip_t_ar 0 10), (10, ip_t_gR0 50 53 13), (13, ip_t_il 1 14), (14, ip_t_ld 6 15), (15, ip_t_iret po), (16, ip_t_ci 0 17), (17, ip_t_is 2 18), (18, ip_t_il 1 19), (19, ip_t_ci 1 20), (20, ip_t_isub 21), (21, ip_t_is 3 22), (22, ip_t_il 3 23), (23, ip_t_iflt 70 26), (26, ip_t_il 3 27), (27, ip_t_il 1 28), (28, ip_t_ci 30 30), (30, ip_t_isub 31), (31, ip_t_iclt 70 34), (34, ip_t_ar 0 35), (35, ip_t_gR0 50 51 38), (38, ip_t_il 3 39), (39, ip_t_ld 7 40), (40, ip_t_ifeq 62 43), (43, ip_t_ar 0 44), (44, ip_t_gR0 50 53 47), (47, ip_t_il 3 48), (48, ip_t_ld 6 49), (49, ip_t_il 2 50), (50, ip_t_icle 62 53), (53, ip_t_ar 0 54), (54, ip_t_gR0 50 53 57), (57, ip_t_il 3 58), (58, ip_t_ld 6 59), (59, ip_t_go 63), (62, ip_t_il 2 63), (63, ip_t_is 2 64), (64, ip_t_inc 3 (-1) 67), (67, ip_t_go 22), (70, ip_t_il 2 71), (71, ip_t_iret po)]
set_option maxRecDepth 100000 in
set_option maxHeartbeats 4000000 in
theorem tX5_fallOf {p : Program} {l : Launch} {e : Env} {s : State} {m : MethodId} {args : Array Value} {below : List Frame} {meth : Method} {c : Code} {D : va_G} {cA : Nat → ClassId} {A : Nat → Prop} {ad0 : Nat → Nat} {S0 : ip_S} {po : List ip_V → ip_S → Prop} (hx : p.tables.exec = Jvm.exec) (hb : c.code = cX5_fallOf) (hml : c.maxLocals = 4) (hown : s.vm.findClass RX5 = some m.cls) (hts : ∀ w ∈ wsX5_fallOf, w.before args s = true) (hr : meth.sig.returnType = (some .int)) (hlocks : meth.locks = false) (hname : meth.name = yX5_fallOf.name) (hA : ∀ q, s.heap.size ≤ q → A q) (hNx : ip_Nx s) : ∀ q ∈ pX5_fallOf po, ip_snd p l e rmX5_fallOf s m args below meth c D cA A (MQ below (ip_Q ip_Sta D cA ad0 S0 A po) args s 0 0 A) 4 (fun _ => (0, 0)) ip_Sta ad0 S0 q.1 q.2 := by
  have hIs : ∀ S, ip_Sta S → ip_Sta S := fun _ h => h
  have hIn := ip_In_Sta
  have hS9 : CallFix p m c cX5_fallOf 4 s args wsX5_fallOf RX5 := ⟨hx, hb, hml, hown, hts⟩
  have hin5 : ∀ w ∈ u_ws RX5 TX5 32, w ∈ wsX5_fallOf := by decide +kernel
  refine List.forall_mem_cons.mpr ⟨ip_s_aload_n hx hb dX5_fallOf_0 rfl rfl, ?_⟩
  refine List.forall_mem_cons.mpr ⟨ip_s_gR0 hx hb hts hin5 hown rfl (by decide) 1 (by decide) (hts (.fieldLink RX5 7 "IcePadsModel" "isTold" "[Z") (by decide +kernel)) (fun _ h9 => h9) hIs 50 51 rfl (by decide) rfl dX5_fallOf_1 rfl, ?_⟩
  refine List.forall_mem_cons.mpr ⟨ip_s_iload_n hx hb dX5_fallOf_4 rfl rfl, ?_⟩
  refine List.forall_mem_cons.mpr ⟨ip_s_ldz hx hb hIs dX5_fallOf_5 rfl, ?_⟩
  refine List.forall_mem_cons.mpr ⟨ip_s_ifeq (t := 16) hx hb dX5_fallOf_6 (by decide) rfl rfl, ?_⟩
  refine List.forall_mem_cons.mpr ⟨ip_s_aload_n hx hb dX5_fallOf_9 rfl rfl, ?_⟩
  refine List.forall_mem_cons.mpr ⟨ip_s_gR0 hx hb hts hin5 hown rfl (by decide) 3 (by decide) (hts (.fieldLink RX5 17 "IcePadsModel" "fall" "[I") (by decide +kernel)) (fun _ h9 => h9) hIs 50 53 rfl (by decide) rfl dX5_fallOf_10 rfl, ?_⟩
  refine List.forall_mem_cons.mpr ⟨ip_s_iload_n hx hb dX5_fallOf_13 rfl rfl, ?_⟩
  refine List.forall_mem_cons.mpr ⟨ip_s_ldi hx hb hIs dX5_fallOf_14 rfl, ?_⟩
  refine List.forall_mem_cons.mpr ⟨ip_s_iret hx hb hr hlocks (Nat.le_of_ble_eq_true rfl) (Nat.le_of_ble_eq_true rfl) dX5_fallOf_15, ?_⟩
  refine List.forall_mem_cons.mpr ⟨ip_s_iconst hx hb dX5_fallOf_16 rfl rfl, ?_⟩
  refine List.forall_mem_cons.mpr ⟨ip_s_istore_n hx hb dX5_fallOf_17 rfl (by decide) rfl, ?_⟩
  refine List.forall_mem_cons.mpr ⟨ip_s_iload_n hx hb dX5_fallOf_18 rfl rfl, ?_⟩
  refine List.forall_mem_cons.mpr ⟨ip_s_iconst hx hb dX5_fallOf_19 rfl rfl, ?_⟩
  refine List.forall_mem_cons.mpr ⟨ip_s_isub hx hb dX5_fallOf_20 rfl, ?_⟩
  refine List.forall_mem_cons.mpr ⟨ip_s_istore_n hx hb dX5_fallOf_21 rfl (by decide) rfl, ?_⟩
  refine List.forall_mem_cons.mpr ⟨ip_s_iload_n hx hb dX5_fallOf_22 rfl rfl, ?_⟩
  refine List.forall_mem_cons.mpr ⟨ip_s_iflt (t := 70) hx hb dX5_fallOf_23 (by decide) rfl rfl, ?_⟩
  refine List.forall_mem_cons.mpr ⟨ip_s_iload_n hx hb dX5_fallOf_26 rfl rfl, ?_⟩
  refine List.forall_mem_cons.mpr ⟨ip_s_iload_n hx hb dX5_fallOf_27 rfl rfl, ?_⟩
  refine List.forall_mem_cons.mpr ⟨ip_s_bipush hx hb dX5_fallOf_28 rfl rfl, ?_⟩
  refine List.forall_mem_cons.mpr ⟨ip_s_isub hx hb dX5_fallOf_30 rfl, ?_⟩
  refine List.forall_mem_cons.mpr ⟨ip_s_iclt (t := 70) hx hb dX5_fallOf_31 (by decide) rfl rfl, ?_⟩
  refine List.forall_mem_cons.mpr ⟨ip_s_aload_n hx hb dX5_fallOf_34 rfl rfl, ?_⟩
  refine List.forall_mem_cons.mpr ⟨ip_s_gR0 hx hb hts hin5 hown rfl (by decide) 1 (by decide) (hts (.fieldLink RX5 7 "IcePadsModel" "isTold" "[Z") (by decide +kernel)) (fun _ h9 => h9) hIs 50 51 rfl (by decide) rfl dX5_fallOf_35 rfl, ?_⟩
  refine List.forall_mem_cons.mpr ⟨ip_s_iload_n hx hb dX5_fallOf_38 rfl rfl, ?_⟩
  refine List.forall_mem_cons.mpr ⟨ip_s_ldz hx hb hIs dX5_fallOf_39 rfl, ?_⟩
  refine List.forall_mem_cons.mpr ⟨ip_s_ifeq (t := 62) hx hb dX5_fallOf_40 (by decide) rfl rfl, ?_⟩
  refine List.forall_mem_cons.mpr ⟨ip_s_aload_n hx hb dX5_fallOf_43 rfl rfl, ?_⟩
  refine List.forall_mem_cons.mpr ⟨ip_s_gR0 hx hb hts hin5 hown rfl (by decide) 3 (by decide) (hts (.fieldLink RX5 17 "IcePadsModel" "fall" "[I") (by decide +kernel)) (fun _ h9 => h9) hIs 50 53 rfl (by decide) rfl dX5_fallOf_44 rfl, ?_⟩
  refine List.forall_mem_cons.mpr ⟨ip_s_iload_n hx hb dX5_fallOf_47 rfl rfl, ?_⟩
  refine List.forall_mem_cons.mpr ⟨ip_s_ldi hx hb hIs dX5_fallOf_48 rfl, ?_⟩
  refine List.forall_mem_cons.mpr ⟨ip_s_iload_n hx hb dX5_fallOf_49 rfl rfl, ?_⟩
  refine List.forall_mem_cons.mpr ⟨ip_s_icle (t := 62) hx hb dX5_fallOf_50 (by decide) rfl rfl, ?_⟩
  refine List.forall_mem_cons.mpr ⟨ip_s_aload_n hx hb dX5_fallOf_53 rfl rfl, ?_⟩
  refine List.forall_mem_cons.mpr ⟨ip_s_gR0 hx hb hts hin5 hown rfl (by decide) 3 (by decide) (hts (.fieldLink RX5 17 "IcePadsModel" "fall" "[I") (by decide +kernel)) (fun _ h9 => h9) hIs 50 53 rfl (by decide) rfl dX5_fallOf_54 rfl, ?_⟩
  refine List.forall_mem_cons.mpr ⟨ip_s_iload_n hx hb dX5_fallOf_57 rfl rfl, ?_⟩
  refine List.forall_mem_cons.mpr ⟨ip_s_ldi hx hb hIs dX5_fallOf_58 rfl, ?_⟩
  refine List.forall_mem_cons.mpr ⟨ip_s_go (t := 63) hx hb dX5_fallOf_59 (by decide) (Nat.le_of_ble_eq_true rfl) (Nat.le_of_ble_eq_true rfl), ?_⟩
  refine List.forall_mem_cons.mpr ⟨ip_s_iload_n hx hb dX5_fallOf_62 rfl rfl, ?_⟩
  refine List.forall_mem_cons.mpr ⟨ip_s_istore_n hx hb dX5_fallOf_63 rfl (by decide) rfl, ?_⟩
  refine List.forall_mem_cons.mpr ⟨ip_s_iinc hx hb dX5_fallOf_64 rfl (by decide) rfl, ?_⟩
  refine List.forall_mem_cons.mpr ⟨ip_s_go (t := 22) hx hb dX5_fallOf_67 (by decide) (Nat.le_of_ble_eq_true rfl) (Nat.le_of_ble_eq_true rfl), ?_⟩
  refine List.forall_mem_cons.mpr ⟨ip_s_iload_n hx hb dX5_fallOf_70 rfl rfl, ?_⟩
  refine List.forall_mem_cons.mpr ⟨ip_s_iret hx hb hr hlocks (Nat.le_of_ble_eq_true rfl) (Nat.le_of_ble_eq_true rfl) dX5_fallOf_71, ?_⟩
  exact fun _ h => absurd h List.not_mem_nil
abbrev iX5_fallOf (M : ip_M) (a : Nat) (m : Int32) (S : ip_S) : Nat → ip_N := fun k pc loc st S1 => ∃ (b : Nat) (x2 x3 : Int32), x3.toInt = (m.toNatClampNeg : Int) - 1 - b ∧ b ≤ 30 ∧ b ≤ m.toNatClampNeg ∧ k + b = 30 ∧ pc = 22 ∧ st = [] ∧ S1 = S ∧ loc = [some (.inr (.inl (some a))), some (.inl m), some (.inl x2), some (.inl x3)] ∧ M 51 m.toNatClampNeg = 0 ∧ x2 = ip_fL (M 51) (M 53) m.toNatClampNeg b
set_option maxRecDepth 100000 in
set_option maxHeartbeats 4000000 in
theorem lpX5_fallOf (M : ip_M) (a : Nat) (m : Int32) (S : ip_S) (hS : ip_Sta S) (hp : a = 50 ∧ ip_eM M S ∧ ip_vw M ∧ 0 ≤ m ∧ m ≤ 299) : ∀ k pc loc st S1, iX5_fallOf M a m S k pc loc st S1 → ip_run (pX5_fallOf (postX5_fallOf M [.inr (.inl (some a)), .inl m] S)) (fun pc => Nat.beq pc 22) (fun pc loc st S2 => ∃ k', k' < k ∧ iX5_fallOf M a m S k' pc loc st S2) 60 pc loc st S1 := by
  obtain ⟨rfl, hE, hw, hm⟩ := hp
  obtain ⟨n, hn, rfl⟩ := ip_mi hm
  have hcn : (nI n).toNatClampNeg = n := nI_clamp (by omega)
  have hni : (nI n).toInt = n := nI_toInt (by omega)
  have h30 : (30 : Int32).toInt = 30 := rfl
  have h0 : (0 : Int32).toInt = 0 := rfl
  have hm1 : (-1 : Int32).toInt = -1 := rfl
  rintro k pc loc st S1 ⟨b, x2, x3, hx3, hb, hbn, hk, rfl, rfl, rfl, rfl, ht, hv⟩
  rw [hcn] at hx3 hbn ht hv
  have hr1 : ip_fL (M 51) (M 53) n 30 = ip_fL (M 51) (M 53) n b → x2 = ip_fall (M 51) (M 53) n := by
    intro he
    unfold ip_fall
    rw [if_pos ht, he, hv]
  refine And.intro (fun q => ?_) (fun q => ?_)
  · rw [ip_ltI, h0] at q
    have hbn' : n ≤ b := by omega
    have he : ip_fL (M 51) (M 53) n 30 = ip_fL (M 51) (M 53) n b := by rw [show (30 : Nat) = b + (30 - b) by omega]; exact ip_fL_stop _ _ hbn'
    refine And.intro ?_ rfl
    rw [hcn, ← hr1 he]
  · rw [ip_ltI, h0] at q
    refine And.intro (fun q2 => ?_) (fun q2 => ?_)
    · rw [ip_ltI, ip_subI (by omega) (by omega)] at q2
      have he : ip_fL (M 51) (M 53) n 30 = ip_fL (M 51) (M 53) n b := by rw [show b = 30 by omega]
      refine And.intro ?_ rfl
      rw [hcn, ← hr1 he]
    · rw [ip_ltI, ip_subI (by omega) (by omega)] at q2
      obtain ⟨hb1, hk2, hk1, hk3, hxx, hx0, hx9⟩ := ip_b2 hx3 q q2 hni h30 hk hn
      obtain ⟨hy1, hy2, hy3⟩ := ip_b3 hx3 ⟨hx0, hx9⟩ hm1
      have hnx : (x3 + -1).toInt = (n : Int) - 1 - ((b + 1 : Nat) : Int) := (ip_addI hy1 hy2).trans hy3
      have hin : vp_in x3 300 := vp_in_iff.mpr ⟨hx0, hx9⟩
      have hx : x3 = nI (n - (b + 1)) := ip_ofI hxx
      have hcl : x3.toNatClampNeg = n - (b + 1) := by rw [hx]; exact nI_clamp (ip_nsm hn)
      have e1 : S1.1 51 x3.toNatClampNeg = M 51 (n - (b + 1)) := by rw [hcl]; exact congrFun (hE 51 (by decide)) _
      have e2 : S1.1 53 x3.toNatClampNeg = M 53 (n - (b + 1)) := by rw [hcl]; exact congrFun (hE 53 (by decide)) _
      refine And.intro hin ?_
      refine And.intro (fun q3 => ?_) (fun q3 => ?_)
      · rw [e1] at q3
        refine Exists.intro (k - 1) (And.intro hk1 ⟨b + 1, _, _, ?_, hk2, ?_, hk3, rfl, rfl, rfl, rfl, ?_, ?_⟩)
        · rw [hcn]; exact hnx
        · rw [hcn]; exact hb1
        · rw [hcn]; exact ht
        · rw [hcn, hv, ip_fL, if_neg (fun z => z.2 q3)]
      · rw [e1] at q3
        refine And.intro hin ?_
        refine And.intro (fun q4 => ?_) (fun q4 => ?_)
        · rw [e2] at q4
          refine Exists.intro (k - 1) (And.intro hk1 ⟨b + 1, _, _, ?_, hk2, ?_, hk3, rfl, rfl, rfl, rfl, ?_, ?_⟩)
          · rw [hcn]; exact hnx
          · rw [hcn]; exact hb1
          · rw [hcn]; exact ht
          · rw [hcn, ip_fL, if_pos ⟨hb1, q3⟩, ← hv, if_neg (Int32.not_lt.mpr q4)]
        · rw [e2] at q4
          refine And.intro hin ?_
          refine Exists.intro (k - 1) (And.intro hk1 ⟨b + 1, _, _, ?_, hk2, ?_, hk3, rfl, rfl, rfl, rfl, ?_, ?_⟩)
          · rw [hcn]; exact hnx
          · rw [hcn]; exact hb1
          · rw [hcn]; exact ht
          · rw [hcn, e2, ip_fL, if_pos ⟨hb1, q3⟩, ← hv, if_pos (Int32.not_le.mp q4)]
set_option maxRecDepth 100000 in
set_option maxHeartbeats 4000000 in
theorem vX5_fallOf (M : ip_M) (a : Nat) (m : Int32) (S : ip_S) (hS : ip_Sta S) (hp : a = 50 ∧ ip_eM M S ∧ ip_vw M ∧ 0 ≤ m ∧ m ≤ 299) : ip_run (pX5_fallOf (postX5_fallOf M [.inr (.inl (some a)), .inl m] S)) (fun pc => Nat.beq pc 22) (fun pc loc st S2 => ∃ k, iX5_fallOf M a m S k pc loc st S2) 60 0 [some (.inr (.inl (some a))), some (.inl m), none, none] [] S := by
  obtain ⟨rfl, hE, hw, hm⟩ := hp
  obtain ⟨n, hn, rfl⟩ := ip_mi hm
  have hcn : (nI n).toNatClampNeg = n := nI_clamp (by omega)
  have e1 : S.1 51 (nI n).toNatClampNeg = M 51 (nI n).toNatClampNeg := congrFun (hE 51 (by decide)) _
  have e2 : S.1 53 (nI n).toNatClampNeg = M 53 (nI n).toNatClampNeg := congrFun (hE 53 (by decide)) _
  refine And.intro (ip_in hm rfl) ?_
  refine And.intro (fun q => ?_) (fun q => ?_)
  · rw [e1] at q
    refine Exists.intro 30 ⟨0, 0, nI n - 1, ?_, by omega, by omega, rfl, rfl, rfl, rfl, rfl, q, rfl⟩
    have h1 : (nI n).toInt = n := nI_toInt (by omega)
    have h2 : (1 : Int32).toInt = 1 := rfl
    rw [ip_subI (by omega) (by omega), hcn]
    omega
  · rw [e1] at q
    refine And.intro (ip_in hm rfl) (And.intro ?_ rfl)
    unfold ip_fall
    rw [if_neg q, e2]
theorem ctX5_fallOf (l : Launch) (M : ip_M) : ip_CT l yX5_fallOf wsX5_fallOf rmX5_fallOf ip_Sta (preX5_fallOf M) (postX5_fallOf M) := by
  refine ip_of (cc := cX5_fallOf) (maxL := 4) (ret := (some .int)) (by decide +kernel) rfl (fun _ => (0, 0)) rfl ?_ ?_
  · intro as S h
    obtain ⟨a, m, rfl, hq⟩ := ip_e_ri h
    exact ⟨Nat.le_of_ble_eq_true rfl, by simp⟩
  intro p e s m args below meth c D cA A ad0 as S h hI hx hb hml hown hts hr hlocks hname hA hNx
  obtain ⟨a, m, rfl, hq⟩ := ip_e_ri h
  have ht := tX5_fallOf (D := D) (cA := cA) (A := A) (ad0 := ad0) (l := l) (e := e) (below := below) (S0 := S) (po := postX5_fallOf M [.inr (.inl (some a)), .inl m] S) hx hb hml hown hts hr hlocks hname hA hNx
  refine ip_run_ok ht (fun pc loc st S2 hh => ?_) 60 0 _ _ S (vX5_fallOf M a m S hI hq)
  obtain ⟨k, hk⟩ := hh
  exact ip_loop ht (iX5_fallOf M a m S) (lpX5_fallOf M a m S hI hq) k pc loc st S2 hk
