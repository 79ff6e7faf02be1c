def ip_wr (M M1 : ip_M) (l : List Nat) : Prop := ip_pq M M1 ∧ M1 50 28 = nI l.length ∧ ∀ x, x < l.length → M1 79 x = nI (l.getD x 0)
def g_acc (M : ip_M) (v : Nat) : Int32 × List Nat := ((g_all (g_mn M) (g_mn M) []).take v).foldl (g_upd M (g_V M)) (2147483647, [])
theorem g_acc_s {M : ip_M} {v : Nat} (h : v < g_fa (g_mn M)) : g_acc M (v + 1) = g_upd M (g_V M) (g_acc M v) (g_pm (g_mn M) v) := by
  have h5 := g_mn5 M
  rw [← g_all_len (g_mn M) (by omega)] at h
  unfold g_acc g_pm
  rw [List.take_succ_eq_append_getElem h, List.foldl_append, ip_getD h]
  rfl
theorem g_acc_all (M : ip_M) : g_acc M (g_fa (g_mn M)) = g_bst M := by
  have h5 := g_mn5 M
  unfold g_acc g_bst
  rw [← g_all_len (g_mn M) (by omega), List.take_length]
theorem g_acc_ok {M : ip_M} {nf nj np : Nat} (hv : ip_vv M nf nj np) : ∀ v, v + 1 ≤ g_fa (g_mn M) → g_ok (g_mn M) (g_acc M (v + 1))
  | 0, h => by
    have h5 := g_mn5 M
    rw [g_acc_s h]
    exact g_upd_ok hv.2.2.1.1 (g_V_jb hv) h5 (g_pm_ok (by omega) h) (Or.inr rfl)
  | v + 1, h => by
    have h5 := g_mn5 M
    rw [g_acc_s h]
    exact g_upd_ok hv.2.2.1.1 (g_V_jb hv) h5 (g_pm_ok (by omega) h) (Or.inl (g_acc_ok hv v (by omega)))
theorem g_fa_w {m i : Nat} (h2 : 2 ≤ i) (h : i ≤ m + 1 ∨ i = 2) (hm : m < i) : g_fa (i - 1) = g_fa m := by
  rcases h with h | h
  · rw [show i - 1 = m by omega]
  · subst h
    rcases (show m = 0 ∨ m = 1 by omega) with rfl | rfl <;> rfl
theorem ip_map_getD {V : Nat → Nat} {P : List Nat} {i : Nat} (h : i < P.length) : (P.map V).getD i 0 = V (P.getD i 0) := by
  rw [ip_getD h, ip_getD (by rw [List.length_map]; exact h), List.getElem_map]
theorem ip_wr.row {M M1 : ip_M} {l L : List Nat} (h : ip_wr M M1 l) : ip_wr M (g_row M1 L) l := by
  refine ⟨h.1.row L, ?_, fun x hx => ?_⟩
  · rw [g_row_p (by decide)]; exact h.2.1
  · rw [g_row_p (by decide)]; exact h.2.2 x hx
theorem ip_wr.b {M M1 : ip_M} {l : List Nat} (h : ip_wr M M1 l) (i : Nat) (v : Int32) : ip_wr M (ip_u M1 81 i v) l := by
  refine ⟨h.1.u (Or.inl (by decide)) v, ?_, fun x hx => ?_⟩
  · rw [ip_u_p (by decide)]; exact h.2.1
  · rw [ip_u_p (by decide)]; exact h.2.2 x hx
theorem ip_wr.add {M M1 : ip_M} {l : List Nat} {j : Nat} (h : ip_wr M M1 l) (hl : l.length < 5) : ip_wr M (ip_u (ip_u M1 79 l.length (nI j)) 50 28 (nI l.length + 1)) (l ++ [j]) := by
  have el : (l ++ [j]).length = l.length + 1 := List.length_append
  refine ⟨(h.1.u (Or.inl (by decide)) _).u (Or.inr ⟨rfl, rfl⟩) _, ?_, fun x hx => ?_⟩
  · rw [ip_u_same, el, nI_1]
  · rw [ip_u_p (by decide)]
    by_cases e : x = l.length
    · subst e
      rw [ip_u_same, ip_getD hx]
      simp
    · rw [ip_u_k e, h.2.2 x (by omega), ip_getD hx, ip_getD (by omega), List.getElem_append_left (by omega)]
def ip_PB (M M1 : ip_M) (v : Nat) (x2 : Int32) : Prop := (v = 0 ∧ x2 = -1) ∨ (0 < v ∧ x2 = (g_acc M v).1 ∧ ∀ x, x < g_mn M → M1 81 x = nI (g_V M ((g_acc M v).2.getD x 0)))

def preX5_findPlan (M : ip_M) : List ip_V → ip_S → Prop := ip_h_r (fun _ => False) (fun a S => a = 50 ∧ ip_eM M S ∧ ∃ nf nj np, ip_vv M nf nj np)
def postX5_findPlan (M : ip_M) : List ip_V → ip_S → List ip_V → ip_S → Prop := ip_h_r (fun _ _ _ => True) (fun a S r S' => r = [.inl (g_bst M).1] ∧ ∃ M1, ip_EM M1 S S' ∧ ip_pq M M1 ∧ M1 50 28 = nI (g_mn M) ∧ ∀ i, i < g_mn M → M1 81 i = nI (g_V M ((g_bst M).2.getD i 0)))
theorem shX5_findPlan (M : ip_M) : ∀ as S, ip_Sta S → preX5_findPlan M as S → ∃ (b : Nat) (as' : List ip_V), as = .inr (.inl (some b)) :: as' ∧ as'.length = 0 ∧ (S.2.2.2 b).1 = 5 := by
  intro as S hI h
  obtain ⟨a, rfl, hq⟩ := ip_e_r h
  exact ⟨_, _, rfl, rfl, by rw [hq.1, hI.1 50 (by decide)]; rfl⟩
def rmX5_findPlan : Room := { frames := 2, cells := 0, slots := 0, locals := 80 }
def pX5_findPlan (po : List ip_V → ip_S → Prop) : List (Nat × ip_T) := [(0, ip_t_ar 0 1), (1, ip_t_ci 0 2), (2, ip_t_pI0 50 28 5), (5, ip_t_ci 0 6), (6, ip_t_is 1 7), (7, ip_t_il 1 8), (8, ip_t_ar 0 9), (9, ip_t_gI0 50 15 12), (12, ip_t_icge 58 15), (15, ip_t_ar 0 16), (16, ip_t_gI0 50 28 19), (19, ip_t_ci 5 20), (20, ip_t_icge 58 23), (23, ip_t_ar 0 24), (24, ip_t_gR0 50 71 27), (27, ip_t_il 1 28), (28, ip_t_ld 6 29), (29, ip_t_ifne 52 32), (32, ip_t_ar 0 33), (33, ip_t_gR0 50 79 36), (36, ip_t_ar 0 37), (37, ip_t_gI0 50 28 40), (40, ip_t_il 1 41), (41, ip_t_st 42), (42, ip_t_ar 0 43), (43, ip_t_dup 44), (44, ip_t_gI0 50 28 47), (47, ip_t_ci 1 48), (48, ip_t_iadd 49), (49, ip_t_pI0 50 28 52), (52, ip_t_inc 1 1 55), (55, ip_t_go 7), (58, ip_t_ci 1 59), (59, ip_t_is 1 60), (60, ip_t_ci 2 61), (61, ip_t_is 2 62), (62, ip_t_il 2 63), (63, ip_t_ar 0 64), (64, ip_t_gI0 50 28 67), (67, ip_t_icgt 80 70), (70, ip_t_il 1 71), (71, ip_t_il 2 72), (72, ip_t_imul 73), (73, ip_t_is 1 74), (74, ip_t_inc 2 1 77), (77, ip_t_go 62), (80, ip_t_ci (-1) 81), (81, ip_t_is 2 82), (82, ip_t_ci 0 83), (83, ip_t_is 3 84), (84, ip_t_il 3 85), (85, ip_t_il 1 86), (86, ip_t_icge 151 89), (89, ip_t_ar 0 90), (90, ip_t_il 3 91), (91, ip_t_callG 2 preX5_take postX5_take 94), (94, ip_t_ar 0 95), (95, ip_t_callG 1 preX5_lates postX5_lates 98), (98, ip_t_is 4 100), (100, ip_t_il 2 101), (101, ip_t_iflt 110 104), (104, ip_t_il 4 106), (106, ip_t_il 2 107), (107, ip_t_icge 145 110), (110, ip_t_il 4 112), (112, ip_t_is 2 113), (113, ip_t_ci 0 114), (114, ip_t_is 5 116), (116, ip_t_il 5 118), (118, ip_t_ar 0 119), (119, ip_t_gI0 50 28 122), (122, ip_t_icge 145 125), (125, ip_t_ar 0 126), (126, ip_t_gR0 50 81 129), (129, ip_t_il 5 131), (131, ip_t_ar 0 132), (132, ip_t_gR0 50 80 135), (135, ip_t_il 5 137), (137, ip_t_ld 6 138), (138, ip_t_st 139), (139, ip_t_inc 5 1 142), (142, ip_t_go 116), (145, ip_t_inc 3 1 148), (148, ip_t_go 84), (151, ip_t_il 2 152), (152, ip_t_ifge 159 155), (155, ip_t_ci 0 156), (156, ip_t_go 160), (159, ip_t_il 2 160), (160, ip_t_iret po)]
set_option maxRecDepth 100000 in
set_option maxHeartbeats 4000000 in
theorem tX5_findPlan {p : Program} {l : Launch} {e : Env} {s : State} {m : MethodId} {args : Array Value} {below : List Frame} {meth : Method} {c : Code} {D : va_G} {cA : Nat → ClassId} {A : Nat → Prop} {ad0 : Nat → Nat} {S0 : ip_S} {po : List ip_V → ip_S → Prop} (hx : p.tables.exec = Jvm.exec) (hb : c.code = cX5_findPlan) (hml : c.maxLocals = 6) (hown : s.vm.findClass RX5 = some m.cls) (hts : ∀ w ∈ wsX5_findPlan, w.before args s = true) (hr : meth.sig.returnType = (some .int)) (hlocks : meth.locks = false) (hname : meth.name = yX5_findPlan.name) (hA : ∀ q, s.heap.size ≤ q → A q) (hNx : ip_Nx s) : ∀ q ∈ pX5_findPlan po, ip_snd p l e rmX5_findPlan s m args below meth c D cA A (MQ below (ip_Q ip_Sta D cA ad0 S0 A po) args s 0 0 A) 6 (fun _ => (0, 0)) ip_Sta ad0 S0 q.1 q.2 := by
  have hIs : ∀ S, ip_Sta S → ip_Sta S := fun _ h => h
  have hIn := ip_In_Sta
  have hS9 : CallFix p m c cX5_findPlan 6 s args wsX5_findPlan RX5 := ⟨hx, hb, hml, hown, hts⟩
  have hin5 : ∀ w ∈ u_ws RX5 TX5 32, w ∈ wsX5_findPlan := by decide +kernel
  refine List.forall_mem_cons.mpr ⟨ip_s_aload_n hx hb dX5_findPlan_0 rfl rfl, ?_⟩
  refine List.forall_mem_cons.mpr ⟨ip_s_iconst hx hb dX5_findPlan_1 rfl rfl, ?_⟩
  refine List.forall_mem_cons.mpr ⟨ip_s_pI0 hx hb hts hin5 hown rfl (by decide) 28 (by decide) (hts (.fieldLink RX5 145 "IcePadsModel" "many" "I") (by decide +kernel)) (fun _ h9 => h9) tyX5 tyX5_ok nmX5 hIn hIs 50 rfl rfl rfl (by decide +kernel) dX5_findPlan_2 rfl, ?_⟩
  refine List.forall_mem_cons.mpr ⟨ip_s_iconst hx hb dX5_findPlan_5 rfl rfl, ?_⟩
  refine List.forall_mem_cons.mpr ⟨ip_s_istore_n hx hb dX5_findPlan_6 rfl (by decide) rfl, ?_⟩
  refine List.forall_mem_cons.mpr ⟨ip_s_iload_n hx hb dX5_findPlan_7 rfl rfl, ?_⟩
  refine List.forall_mem_cons.mpr ⟨ip_s_aload_n hx hb dX5_findPlan_8 rfl rfl, ?_⟩
  refine List.forall_mem_cons.mpr ⟨ip_s_gI0 hx hb hts hin5 hown rfl (by decide) 15 (by decide) (hts (.fieldLink RX5 120 "IcePadsModel" "jets" "I") (by decide +kernel)) (fun _ h9 => h9) hIs 50 rfl rfl dX5_findPlan_9 rfl, ?_⟩
  refine List.forall_mem_cons.mpr ⟨ip_s_icge (t := 58) hx hb dX5_findPlan_12 (by decide) rfl rfl, ?_⟩
  refine List.forall_mem_cons.mpr ⟨ip_s_aload_n hx hb dX5_findPlan_15 rfl rfl, ?_⟩
  refine List.forall_mem_cons.mpr ⟨ip_s_gI0 hx hb hts hin5 hown rfl (by decide) 28 (by decide) (hts (.fieldLink RX5 145 "IcePadsModel" "many" "I") (by decide +kernel)) (fun _ h9 => h9) hIs 50 rfl rfl dX5_findPlan_16 rfl, ?_⟩
  refine List.forall_mem_cons.mpr ⟨ip_s_iconst hx hb dX5_findPlan_19 rfl rfl, ?_⟩
  refine List.forall_mem_cons.mpr ⟨ip_s_icge (t := 58) hx hb dX5_findPlan_20 (by decide) rfl rfl, ?_⟩
  refine List.forall_mem_cons.mpr ⟨ip_s_aload_n hx hb dX5_findPlan_23 rfl rfl, ?_⟩
  refine List.forall_mem_cons.mpr ⟨ip_s_gR0 hx hb hts hin5 hown rfl (by decide) 21 (by decide) (hts (.fieldLink RX5 63 "IcePadsModel" "state" "[I") (by decide +kernel)) (fun _ h9 => h9) hIs 50 71 rfl (by decide) rfl dX5_findPlan_24 rfl, ?_⟩
  refine List.forall_mem_cons.mpr ⟨ip_s_iload_n hx hb dX5_findPlan_27 rfl rfl, ?_⟩
  refine List.forall_mem_cons.mpr ⟨ip_s_ldi hx hb hIs dX5_findPlan_28 rfl, ?_⟩
  refine List.forall_mem_cons.mpr ⟨ip_s_ifne (t := 52) hx hb dX5_findPlan_29 (by decide) rfl rfl, ?_⟩
  refine List.forall_mem_cons.mpr ⟨ip_s_aload_n hx hb dX5_findPlan_32 rfl rfl, ?_⟩
  refine List.forall_mem_cons.mpr ⟨ip_s_gR0 hx hb hts hin5 hown rfl (by decide) 29 (by decide) (hts (.fieldLink RX5 78 "IcePadsModel" "waiting" "[I") (by decide +kernel)) (fun _ h9 => h9) hIs 50 79 rfl (by decide) rfl dX5_findPlan_33 rfl, ?_⟩
  refine List.forall_mem_cons.mpr ⟨ip_s_aload_n hx hb dX5_findPlan_36 rfl rfl, ?_⟩
  refine List.forall_mem_cons.mpr ⟨ip_s_gI0 hx hb hts hin5 hown rfl (by decide) 28 (by decide) (hts (.fieldLink RX5 145 "IcePadsModel" "many" "I") (by decide +kernel)) (fun _ h9 => h9) hIs 50 rfl rfl dX5_findPlan_37 rfl, ?_⟩
  refine List.forall_mem_cons.mpr ⟨ip_s_iload_n hx hb dX5_findPlan_40 rfl rfl, ?_⟩
  refine List.forall_mem_cons.mpr ⟨ip_s_sti hx hb hIn hIs dX5_findPlan_41 rfl, ?_⟩
  refine List.forall_mem_cons.mpr ⟨ip_s_aload_n hx hb dX5_findPlan_42 rfl rfl, ?_⟩
  refine List.forall_mem_cons.mpr ⟨ip_s_dup hx hb dX5_findPlan_43 rfl, ?_⟩
  refine List.forall_mem_cons.mpr ⟨ip_s_gI0 hx hb hts hin5 hown rfl (by decide) 28 (by decide) (hts (.fieldLink RX5 145 "IcePadsModel" "many" "I") (by decide +kernel)) (fun _ h9 => h9) hIs 50 rfl rfl dX5_findPlan_44 rfl, ?_⟩
  refine List.forall_mem_cons.mpr ⟨ip_s_iconst hx hb dX5_findPlan_47 rfl rfl, ?_⟩
  refine List.forall_mem_cons.mpr ⟨ip_s_iadd hx hb dX5_findPlan_48 rfl, ?_⟩
  refine List.forall_mem_cons.mpr ⟨ip_s_pI0 hx hb hts hin5 hown rfl (by decide) 28 (by decide) (hts (.fieldLink RX5 145 "IcePadsModel" "many" "I") (by decide +kernel)) (fun _ h9 => h9) tyX5 tyX5_ok nmX5 hIn hIs 50 rfl rfl rfl (by decide +kernel) dX5_findPlan_49 rfl, ?_⟩
  refine List.forall_mem_cons.mpr ⟨ip_s_iinc hx hb dX5_findPlan_52 rfl (by decide) rfl, ?_⟩
  refine List.forall_mem_cons.mpr ⟨ip_s_go (t := 7) hx hb dX5_findPlan_55 (by decide) (Nat.le_of_ble_eq_true rfl) (Nat.le_of_ble_eq_true rfl), ?_⟩
  refine List.forall_mem_cons.mpr ⟨ip_s_iconst hx hb dX5_findPlan_58 rfl rfl, ?_⟩
  refine List.forall_mem_cons.mpr ⟨ip_s_istore_n hx hb dX5_findPlan_59 rfl (by decide) rfl, ?_⟩
  refine List.forall_mem_cons.mpr ⟨ip_s_iconst hx hb dX5_findPlan_60 rfl rfl, ?_⟩
  refine List.forall_mem_cons.mpr ⟨ip_s_istore_n hx hb dX5_findPlan_61 rfl (by decide) rfl, ?_⟩
  refine List.forall_mem_cons.mpr ⟨ip_s_iload_n hx hb dX5_findPlan_62 rfl rfl, ?_⟩
  refine List.forall_mem_cons.mpr ⟨ip_s_aload_n hx hb dX5_findPlan_63 rfl rfl, ?_⟩
  refine List.forall_mem_cons.mpr ⟨ip_s_gI0 hx hb hts hin5 hown rfl (by decide) 28 (by decide) (hts (.fieldLink RX5 145 "IcePadsModel" "many" "I") (by decide +kernel)) (fun _ h9 => h9) hIs 50 rfl rfl dX5_findPlan_64 rfl, ?_⟩
  refine List.forall_mem_cons.mpr ⟨ip_s_icgt (t := 80) hx hb dX5_findPlan_67 (by decide) rfl rfl, ?_⟩
  refine List.forall_mem_cons.mpr ⟨ip_s_iload_n hx hb dX5_findPlan_70 rfl rfl, ?_⟩
  refine List.forall_mem_cons.mpr ⟨ip_s_iload_n hx hb dX5_findPlan_71 rfl rfl, ?_⟩
  refine List.forall_mem_cons.mpr ⟨ip_s_imul hx hb dX5_findPlan_72 rfl, ?_⟩
  refine List.forall_mem_cons.mpr ⟨ip_s_istore_n hx hb dX5_findPlan_73 rfl (by decide) rfl, ?_⟩
  refine List.forall_mem_cons.mpr ⟨ip_s_iinc hx hb dX5_findPlan_74 rfl (by decide) rfl, ?_⟩
  refine List.forall_mem_cons.mpr ⟨ip_s_go (t := 62) hx hb dX5_findPlan_77 (by decide) (Nat.le_of_ble_eq_true rfl) (Nat.le_of_ble_eq_true rfl), ?_⟩
  refine List.forall_mem_cons.mpr ⟨ip_s_iconst hx hb dX5_findPlan_80 rfl rfl, ?_⟩
  refine List.forall_mem_cons.mpr ⟨ip_s_istore_n hx hb dX5_findPlan_81 rfl (by decide) rfl, ?_⟩
  refine List.forall_mem_cons.mpr ⟨ip_s_iconst hx hb dX5_findPlan_82 rfl rfl, ?_⟩
  refine List.forall_mem_cons.mpr ⟨ip_s_istore_n hx hb dX5_findPlan_83 rfl (by decide) rfl, ?_⟩
  refine List.forall_mem_cons.mpr ⟨ip_s_iload_n hx hb dX5_findPlan_84 rfl rfl, ?_⟩
  refine List.forall_mem_cons.mpr ⟨ip_s_iload_n hx hb dX5_findPlan_85 rfl rfl, ?_⟩
  refine List.forall_mem_cons.mpr ⟨ip_s_icge (t := 151) hx hb dX5_findPlan_86 (by decide) rfl rfl, ?_⟩
  refine List.forall_mem_cons.mpr ⟨ip_s_aload_n hx hb dX5_findPlan_89 rfl rfl, ?_⟩
  refine List.forall_mem_cons.mpr ⟨ip_s_iload_n hx hb dX5_findPlan_90 rfl rfl, ?_⟩
  refine List.forall_mem_cons.mpr ⟨ip_s_G (fun M => ip_s_callV hNx hS9 (ctX5_take l M) (cwV 1 hts gX5_findPlan_X5_take rfl rfl rfl (by decide +kernel) ⟨Nat.le_of_ble_eq_true rfl, Nat.le_of_ble_eq_true rfl⟩) (ci := 5) rfl rfl (by decide) (fun as S hI h => shX5_take M as S hI h) hA dX5_findPlan_91 ⟨Nat.le_of_ble_eq_true rfl, Nat.le_of_ble_eq_true rfl⟩ rfl), ?_⟩
  refine List.forall_mem_cons.mpr ⟨ip_s_aload_n hx hb dX5_findPlan_94 rfl rfl, ?_⟩
  refine List.forall_mem_cons.mpr ⟨ip_s_G (fun M => ip_s_callV hNx hS9 (ctX5_lates l M) (cwV 0 hts gX5_findPlan_X5_lates rfl rfl rfl (by decide +kernel) ⟨Nat.le_of_ble_eq_true rfl, Nat.le_of_ble_eq_true rfl⟩) (ci := 5) rfl rfl (by decide) (fun as S hI h => shX5_lates M as S hI h) hA dX5_findPlan_95 ⟨Nat.le_of_ble_eq_true rfl, Nat.le_of_ble_eq_true rfl⟩ rfl), ?_⟩
  refine List.forall_mem_cons.mpr ⟨ip_s_istore hx hb dX5_findPlan_98 (by decide) rfl, ?_⟩
  refine List.forall_mem_cons.mpr ⟨ip_s_iload_n hx hb dX5_findPlan_100 rfl rfl, ?_⟩
  refine List.forall_mem_cons.mpr ⟨ip_s_iflt (t := 110) hx hb dX5_findPlan_101 (by decide) rfl rfl, ?_⟩
  refine List.forall_mem_cons.mpr ⟨ip_s_iload hx hb dX5_findPlan_104 rfl, ?_⟩
  refine List.forall_mem_cons.mpr ⟨ip_s_iload_n hx hb dX5_findPlan_106 rfl rfl, ?_⟩
  refine List.forall_mem_cons.mpr ⟨ip_s_icge (t := 145) hx hb dX5_findPlan_107 (by decide) rfl rfl, ?_⟩
  refine List.forall_mem_cons.mpr ⟨ip_s_iload hx hb dX5_findPlan_110 rfl, ?_⟩
  refine List.forall_mem_cons.mpr ⟨ip_s_istore_n hx hb dX5_findPlan_112 rfl (by decide) rfl, ?_⟩
  refine List.forall_mem_cons.mpr ⟨ip_s_iconst hx hb dX5_findPlan_113 rfl rfl, ?_⟩
  refine List.forall_mem_cons.mpr ⟨ip_s_istore hx hb dX5_findPlan_114 (by decide) rfl, ?_⟩
  refine List.forall_mem_cons.mpr ⟨ip_s_iload hx hb dX5_findPlan_116 rfl, ?_⟩
  refine List.forall_mem_cons.mpr ⟨ip_s_aload_n hx hb dX5_findPlan_118 rfl rfl, ?_⟩
  refine List.forall_mem_cons.mpr ⟨ip_s_gI0 hx hb hts hin5 hown rfl (by decide) 28 (by decide) (hts (.fieldLink RX5 145 "IcePadsModel" "many" "I") (by decide +kernel)) (fun _ h9 => h9) hIs 50 rfl rfl dX5_findPlan_119 rfl, ?_⟩
  refine List.forall_mem_cons.mpr ⟨ip_s_icge (t := 145) hx hb dX5_findPlan_122 (by decide) rfl rfl, ?_⟩
  refine List.forall_mem_cons.mpr ⟨ip_s_aload_n hx hb dX5_findPlan_125 rfl rfl, ?_⟩
  refine List.forall_mem_cons.mpr ⟨ip_s_gR0 hx hb hts hin5 hown rfl (by decide) 31 (by decide) (hts (.fieldLink RX5 84 "IcePadsModel" "bestRow" "[I") (by decide +kernel)) (fun _ h9 => h9) hIs 50 81 rfl (by decide) rfl dX5_findPlan_126 rfl, ?_⟩
  refine List.forall_mem_cons.mpr ⟨ip_s_iload hx hb dX5_findPlan_129 rfl, ?_⟩
  refine List.forall_mem_cons.mpr ⟨ip_s_aload_n hx hb dX5_findPlan_131 rfl rfl, ?_⟩
  refine List.forall_mem_cons.mpr ⟨ip_s_gR0 hx hb hts hin5 hown rfl (by decide) 30 (by decide) (hts (.fieldLink RX5 81 "IcePadsModel" "row" "[I") (by decide +kernel)) (fun _ h9 => h9) hIs 50 80 rfl (by decide) rfl dX5_findPlan_132 rfl, ?_⟩
  refine List.forall_mem_cons.mpr ⟨ip_s_iload hx hb dX5_findPlan_135 rfl, ?_⟩
  refine List.forall_mem_cons.mpr ⟨ip_s_ldi hx hb hIs dX5_findPlan_137 rfl, ?_⟩
  refine List.forall_mem_cons.mpr ⟨ip_s_sti hx hb hIn hIs dX5_findPlan_138 rfl, ?_⟩
  refine List.forall_mem_cons.mpr ⟨ip_s_iinc hx hb dX5_findPlan_139 rfl (by decide) rfl, ?_⟩
  refine List.forall_mem_cons.mpr ⟨ip_s_go (t := 116) hx hb dX5_findPlan_142 (by decide) (Nat.le_of_ble_eq_true rfl) (Nat.le_of_ble_eq_true rfl), ?_⟩
  refine List.forall_mem_cons.mpr ⟨ip_s_iinc hx hb dX5_findPlan_145 rfl (by decide) rfl, ?_⟩
  refine List.forall_mem_cons.mpr ⟨ip_s_go (t := 84) hx hb dX5_findPlan_148 (by decide) (Nat.le_of_ble_eq_true rfl) (Nat.le_of_ble_eq_true rfl), ?_⟩
  refine List.forall_mem_cons.mpr ⟨ip_s_iload_n hx hb dX5_findPlan_151 rfl rfl, ?_⟩
  refine List.forall_mem_cons.mpr ⟨ip_s_ifge (t := 159) hx hb dX5_findPlan_152 (by decide) rfl rfl, ?_⟩
  refine List.forall_mem_cons.mpr ⟨ip_s_iconst hx hb dX5_findPlan_155 rfl rfl, ?_⟩
  refine List.forall_mem_cons.mpr ⟨ip_s_go (t := 160) hx hb dX5_findPlan_156 (by decide) (Nat.le_of_ble_eq_true rfl) (Nat.le_of_ble_eq_true rfl), ?_⟩
  refine List.forall_mem_cons.mpr ⟨ip_s_iload_n hx hb dX5_findPlan_159 rfl rfl, ?_⟩
  refine List.forall_mem_cons.mpr ⟨ip_s_iret hx hb hr hlocks (Nat.le_of_ble_eq_true rfl) (Nat.le_of_ble_eq_true rfl) dX5_findPlan_160, ?_⟩
  exact fun _ h => absurd h List.not_mem_nil
abbrev iX5_findPlan (M : ip_M) (a : Nat) (S : ip_S) : Nat → ip_N := fun k pc loc st S1 => ∃ (nf nj np : Nat) (M1 : ip_M), ip_vv M nf nj np ∧ ip_EM M1 S S1 ∧ st = [] ∧ ((pc = 7 ∧ ∃ (i : Nat) (x1 : Int32), loc = [some (.inr (.inl (some a))), some (.inl x1), none, none, none, none] ∧ x1 = nI i ∧ i ≤ nj ∧ ip_wr M M1 (g_wl M i) ∧ k + i = 100000) ∨ (pc = 62 ∧ ∃ (i : Nat) (x1 x2 : Int32), loc = [some (.inr (.inl (some a))), some (.inl x1), some (.inl x2), none, none, none] ∧ x1 = nI (g_fa (i - 1)) ∧ x2 = nI i ∧ 2 ≤ i ∧ (i ≤ g_mn M + 1 ∨ i = 2) ∧ ip_wr M M1 (g_wt M) ∧ k + i = 50000) ∨ (pc = 84 ∧ ∃ (v : Nat) (x1 x2 x3 : Int32) (y4 y5 : Option ip_V), loc = [some (.inr (.inl (some a))), some (.inl x1), some (.inl x2), some (.inl x3), y4, y5] ∧ x1 = nI (g_fa (g_mn M)) ∧ x3 = nI v ∧ v ≤ g_fa (g_mn M) ∧ ip_wr M M1 (g_wt M) ∧ ip_PB M M1 v x2 ∧ k + 100 * v = 40000) ∨ (pc = 116 ∧ ∃ (v i : Nat) (x1 x2 x3 x5 : Int32) (y4 : Option ip_V), loc = [some (.inr (.inl (some a))), some (.inl x1), some (.inl x2), some (.inl x3), y4, some (.inl x5)] ∧ x1 = nI (g_fa (g_mn M)) ∧ x3 = nI v ∧ x5 = nI i ∧ v < g_fa (g_mn M) ∧ i ≤ g_mn M ∧ ip_wr M M1 (g_wt M) ∧ x2 = (g_acc M (v + 1)).1 ∧ (g_acc M (v + 1)).2 = g_pm (g_mn M) v ∧ (∀ x, x < i → M1 81 x = nI (g_V M ((g_pm (g_mn M) v).getD x 0))) ∧ (∀ x, x < g_mn M → M1 80 x = nI (g_V M ((g_pm (g_mn M) v).getD x 0))) ∧ k + 100 * v + i = 39990))
set_option maxRecDepth 100000 in
set_option maxHeartbeats 4000000 in
theorem lpX5_findPlan (M : ip_M) (a : Nat) (S : ip_S) (hS : ip_Sta S) (hp : a = 50 ∧ ip_eM M S ∧ ∃ nf nj np, ip_vv M nf nj np) : ∀ k pc loc st S1, iX5_findPlan M a S k pc loc st S1 → ip_run (pX5_findPlan (postX5_findPlan M [.inr (.inl (some a))] S)) (fun pc => Nat.beq pc 7 || Nat.beq pc 62 || Nat.beq pc 84 || Nat.beq pc 116) (fun pc loc st S2 => ∃ k', k' < k ∧ iX5_findPlan M a S k' pc loc st S2) 120 pc loc st S1 := by
  obtain ⟨rfl, hE, -⟩ := hp
  have h5 := g_mn5 M
  have hf5 := g_fa_5 (g_mn M) (by omega)
  rintro k pc loc st S1 ⟨nf, nj, np, M1, hv, hT, rfl, ⟨rfl, i, x1, rfl, rfl, hi, hw, hk⟩ | ⟨rfl, i, x1, x2, rfl, rfl, rfl, hi2, hi, hw, hk⟩ | ⟨rfl, v, x1, x2, x3, y4, y5, rfl, rfl, rfl, hv9, hw, hB, hk⟩ | ⟨rfl, v, i, x1, x2, x3, x5, y4, rfl, rfl, rfl, rfl, hv9, hi, hw, hx2, hP, hb, hr80, hk⟩⟩
  · have hnj := hv.1.2.2.1
    have hnj12 := hv.1.2.2.2.1
    have hl5 := g_wl_len M i
    have e15 : S1.1 50 15 = nI nj := by rw [congrFun (hT.1 50 (by decide)) 15, hw.1 50 15 (by decide) (by decide)]; exact hnj
    have e28 : S1.1 50 28 = nI (g_wl M i).length := by rw [congrFun (hT.1 50 (by decide)) 28]; exact hw.2.1
    have hex : g_wl M i = g_wt M → ∃ k', k' < k ∧ iX5_findPlan M 50 S k' 62 [some (.inr (.inl (some 50))), some (.inl 1), some (.inl 2), none, none, none] [] S1 := by
      intro e
      rw [e] at hw
      exact Exists.intro 49998 (And.intro (by omega) ⟨nf, nj, np, M1, hv, hT, rfl, Or.inr (Or.inl ⟨rfl, 2, _, _, rfl, rfl, rfl, by omega, Or.inr rfl, hw, rfl⟩)⟩)
    refine And.intro (fun q => ?_) (fun q => ?_)
    · rw [e15, nI_leI (by omega) (by omega)] at q
      refine hex ?_
      unfold g_wt
      rw [g_nj_vv hv, show i = nj by omega]
    · rw [e15, nI_leI (by omega) (by omega)] at q
      refine And.intro (fun q2 => ?_) (fun q2 => ?_)
      · have q2 : nI 5 ≤ S1.1 50 28 := q2
        rw [e28, nI_leI (by omega) (by omega)] at q2
        refine hex ?_
        unfold g_wt
        rw [g_nj_vv hv]
        have := g_wl_full M q2 (nj - i)
        rw [show i + (nj - i) = nj by omega] at this
        exact this.symm
      · have q2 : ¬ nI 5 ≤ S1.1 50 28 := q2
        rw [e28, nI_leI (by omega) (by omega)] at q2
        obtain ⟨in1, c1⟩ := ip_inN (i := i) (n := 12) (N := 12) (by omega) (by decide) (by decide)
        refine And.intro in1 ?_
        rw [c1]
        have e71 : S1.1 71 i = M 71 i := by rw [congrFun (hT.1 71 (by decide)) i, hw.1 71 i (by decide) (by omega)]
        rw [e71]
        refine And.intro (fun q3 => ?_) (fun q3 => ?_)
        · refine Exists.intro (k - 1) (And.intro (by omega) ⟨nf, nj, np, M1, hv, hT, rfl, Or.inl ⟨rfl, i + 1, _, rfl, nI_1 i, by omega, ?_, by omega⟩⟩)
          have e : g_wl M (i + 1) = g_wl M i := if_neg (fun z => q3 z.2)
          rw [e]
          exact hw
        · obtain ⟨in2, c2⟩ := ip_inN (i := (g_wl M i).length) (n := 5) (N := 5) (by omega) (by decide) (by decide)
          refine And.intro (show vp_in (S1.1 50 28) 5 by rw [e28]; exact in2) ?_
          rw [e28, c2]
          have e28' : (ip_sI S1 79 (g_wl M i).length (nI i)).1 50 28 = nI (g_wl M i).length := (ip_sI_p (by decide)).trans e28
          refine Exists.intro (k - 1) (And.intro (by omega) ⟨nf, nj, np, ip_u (ip_u M1 79 (g_wl M i).length (nI i)) 50 28 (nI (g_wl M i).length + 1), hv, ?_, rfl, Or.inl ⟨rfl, i + 1, _, rfl, nI_1 i, by omega, ?_, by omega⟩⟩)
          · rw [e28']
            exact (hT.u (by decide) _ _).u (by decide) _ _
          · have e : g_wl M (i + 1) = g_wl M i ++ [i] := if_pos ⟨by omega, q3⟩
            rw [e]
            exact hw.add (by omega)
  · have e28 : S1.1 50 28 = nI (g_mn M) := by rw [congrFun (hT.1 50 (by decide)) 28]; exact hw.2.1
    refine And.intro (fun q => ?_) (fun q => ?_)
    · rw [e28, nI_ltI (by omega) (by omega)] at q
      refine Exists.intro 40000 (And.intro (by omega) ⟨nf, nj, np, M1, hv, hT, rfl, Or.inr (Or.inr (Or.inl ⟨rfl, 0, _, _, _, _, _, rfl, ?_, rfl, Nat.zero_le _, hw, Or.inl ⟨rfl, rfl⟩, rfl⟩))⟩)
      rw [g_fa_w hi2 hi q]
    · rw [e28, nI_ltI (by omega) (by omega)] at q
      refine Exists.intro (k - 1) (And.intro (by omega) ⟨nf, nj, np, M1, hv, hT, rfl, Or.inr (Or.inl ⟨rfl, i + 1, _, _, rfl, ?_, nI_1 i, by omega, Or.inl (by omega), hw, by omega⟩)⟩)
      rw [pk_mul, g_fa_s (by omega)]
      rfl
  · refine And.intro (fun q => ?_) (fun q => ?_)
    · rw [nI_leI (by omega) (by omega)] at q
      have e : v = g_fa (g_mn M) := Nat.le_antisymm hv9 q
      subst e
      have hok := g_bst_ok hv
      rcases hB with ⟨h, -⟩ | ⟨-, rfl, h81⟩
      · have := g_fa_pos (g_mn M)
        omega
      rw [g_acc_all] at h81 ⊢
      refine And.intro (fun q2 => ?_) (fun q2 => ?_)
      · exact And.intro rfl ⟨M1, hT, hw.1, hw.2.1, h81⟩
      · refine absurd ?_ q2
        rw [ip_leI]
        exact hok.1.1
    · rw [nI_leI (by omega) (by omega)] at q
      have hv9 : v < g_fa (g_mn M) := Nat.lt_of_not_le q
      refine Exists.intro M1 (And.intro (And.intro rfl (And.intro hT.1 ⟨g_mn M, v, hw.2.1, h5, rfl, hv9⟩)) ?_)
      rintro r S2 ⟨rfl, hS2⟩
      have cm : (M1 50 28).toNatClampNeg = g_mn M := by rw [hw.2.1]; exact nI_clamp (by have : (g_wt M).length = g_mn M := rfl; omega)
      rw [cm, nI_clamp (by omega)] at hS2
      obtain ⟨pl, pe⟩ := g_pm_ok (show g_mn M < 6 by omega) hv9
      have hT2 := hT.tr hS2
      have h79 : ∀ x, x < g_mn M → M1 79 x = nI (g_V M x) := hw.2.2
      have hr80 : ∀ x, x < g_mn M → g_row M1 (g_pm (g_mn M) v) 80 x = nI (g_V M ((g_pm (g_mn M) v).getD x 0)) := by
        intro x hx
        unfold g_row
        rw [if_pos ⟨rfl, by omega⟩]
        exact h79 _ (pe _ (ip_getD_mem (by omega)))
      refine Exists.intro (g_row M1 (g_pm (g_mn M) v), (g_pm (g_mn M) v).map (g_V M)) (And.intro (And.intro rfl (And.intro hS2.1 (And.intro ?_ (And.intro ?_ ?_)))) ?_)
      · show g_row M1 (g_pm (g_mn M) v) 50 28 = nI ((g_pm (g_mn M) v).map (g_V M)).length
        rw [g_row_p (by decide), List.length_map, pl]
        exact hw.2.1
      · show ((g_pm (g_mn M) v).map (g_V M)).length ≤ 5
        rw [List.length_map, pl]
        exact h5
      · intro i hi
        have hi : i < ((g_pm (g_mn M) v).map (g_V M)).length := hi
        rw [List.length_map, pl] at hi
        show ((g_pm (g_mn M) v).map (g_V M)).getD i 0 < 12 ∧ g_row M1 (g_pm (g_mn M) v) 80 i = nI (((g_pm (g_mn M) v).map (g_V M)).getD i 0)
        rw [ip_map_getD (by omega)]
        refine ⟨?_, hr80 i hi⟩
        have := g_V_lt (M := M) (pe _ (ip_getD_mem (x := i) (by omega)))
        rw [g_nj_vv hv] at this
        have := hv.1.2.2.2.1
        omega
      rintro r S3 ⟨rfl, rfl⟩
      show (fun x => _) _
      have ec : (((g_pm (g_mn M) v).map (g_V M)).foldl (fun a j => g_stp (g_row M1 (g_pm (g_mn M) v)) j a) (g_row M1 (g_pm (g_mn M) v) 50 0, 0)) = g_cst M (g_V M) (g_pm (g_mn M) v) := (hw.1.row _).cst _ _
      rw [ec]
      have hcb := (g_cst_b (V := g_V M) hv.2.2.1.1 (g_pm (g_mn M) v) (by omega) (fun y hy => g_V_jb hv y (pe y hy))).2
      have eMx : (2147483647 : Int32).toInt = 2147483647 := rfl
      refine And.intro (fun q2 => ?_) (fun q2 => ?_)
      · have hnew : g_acc M (v + 1) = ((g_cst M (g_V M) (g_pm (g_mn M) v)).2, g_pm (g_mn M) v) := by
          rw [g_acc_s hv9]
          refine if_pos ?_
          rcases hB with ⟨rfl, -⟩ | ⟨hv0, rfl, -⟩
          · show (g_cst M (g_V M) (g_pm (g_mn M) 0)).2 < 2147483647
            rw [ip_ltI, eMx]
            omega
          · exfalso
            have hok := g_acc_ok hv (v - 1) (by omega)
            rw [show v - 1 + 1 = v by omega] at hok
            rw [ip_ltI] at q2
            have := hok.1.1
            have e0 : (0 : Int32).toInt = 0 := rfl
            omega
        exact Exists.intro (39990 - 100 * v) (And.intro (by omega) ⟨nf, nj, np, _, hv, hT2, rfl, Or.inr (Or.inr (Or.inr ⟨rfl, v, 0, _, _, _, _, _, rfl, rfl, rfl, rfl, hv9, Nat.zero_le _, hw.row, by rw [hnew], by rw [hnew], fun x hx => absurd hx (Nat.not_lt_zero _), hr80, by omega⟩))⟩)
      · rcases hB with ⟨rfl, rfl⟩ | ⟨hv0, rfl, h81⟩
        · exact absurd (by decide) q2
        refine And.intro (fun q3 => ?_) (fun q3 => ?_)
        · have hsame : g_acc M (v + 1) = g_acc M v := by
            rw [g_acc_s hv9]
            exact if_neg (Int32.not_lt.mpr q3)
          refine Exists.intro (40000 - 100 * (v + 1)) (And.intro (by omega) ⟨nf, nj, np, _, hv, hT2, rfl, Or.inr (Or.inr (Or.inl ⟨rfl, v + 1, _, _, _, _, _, rfl, rfl, nI_1 v, by omega, hw.row, Or.inr ⟨by omega, by rw [hsame], fun x hx => ?_⟩, by omega⟩))⟩)
          rw [hsame, g_row_p (by decide)]
          exact h81 x hx
        · have hnew : g_acc M (v + 1) = ((g_cst M (g_V M) (g_pm (g_mn M) v)).2, g_pm (g_mn M) v) := by
            rw [g_acc_s hv9]
            exact if_pos (Int32.not_le.mp q3)
          exact Exists.intro (39990 - 100 * v) (And.intro (by omega) ⟨nf, nj, np, _, hv, hT2, rfl, Or.inr (Or.inr (Or.inr ⟨rfl, v, 0, _, _, _, _, _, rfl, rfl, rfl, rfl, hv9, Nat.zero_le _, hw.row, by rw [hnew], by rw [hnew], fun x hx => absurd hx (Nat.not_lt_zero _), hr80, by omega⟩))⟩)
  · have e28 : S1.1 50 28 = nI (g_mn M) := by rw [congrFun (hT.1 50 (by decide)) 28]; exact hw.2.1
    refine And.intro (fun q => ?_) (fun q => ?_)
    · rw [e28, nI_leI (by omega) (by omega)] at q
      have e : i = g_mn M := Nat.le_antisymm hi q
      subst e
      refine Exists.intro (40000 - 100 * (v + 1)) (And.intro (by omega) ⟨nf, nj, np, M1, hv, hT, rfl, Or.inr (Or.inr (Or.inl ⟨rfl, v + 1, _, _, _, _, _, rfl, rfl, nI_1 v, by omega, hw, Or.inr ⟨by omega, hx2, fun x hx => ?_⟩, by omega⟩))⟩)
      rw [hP]
      exact hb x hx
    · rw [e28, nI_leI (by omega) (by omega)] at q
      obtain ⟨in1, c1⟩ := ip_inN (i := i) (n := 5) (N := 5) (by omega) (by decide) (by decide)
      refine And.intro in1 (And.intro in1 ?_)
      rw [c1]
      have e80 : S1.1 80 i = nI (g_V M ((g_pm (g_mn M) v).getD i 0)) := by rw [congrFun (hT.1 80 (by decide)) i]; exact hr80 i (by omega)
      rw [e80]
      refine Exists.intro (k - 1) (And.intro (by omega) ⟨nf, nj, np, _, hv, hT.u (by decide) _ _, rfl, Or.inr (Or.inr (Or.inr ⟨rfl, v, i + 1, _, _, _, _, _, rfl, rfl, rfl, nI_1 i, hv9, by omega, hw.b _ _, hx2, hP, fun x hx => ?_, fun x hx => ?_, by omega⟩))⟩)
      · by_cases e : x = i
        · subst e
          rw [ip_u_same]
        · rw [ip_u_k e]
          exact hb x (by omega)
      · rw [ip_u_p (by decide)]
        exact hr80 x hx
set_option maxRecDepth 100000 in
set_option maxHeartbeats 4000000 in
theorem vX5_findPlan (M : ip_M) (a : Nat) (S : ip_S) (hS : ip_Sta S) (hp : a = 50 ∧ ip_eM M S ∧ ∃ nf nj np, ip_vv M nf nj np) : ip_run (pX5_findPlan (postX5_findPlan M [.inr (.inl (some a))] S)) (fun pc => Nat.beq pc 7 || Nat.beq pc 62 || Nat.beq pc 84 || Nat.beq pc 116) (fun pc loc st S2 => ∃ k, iX5_findPlan M a S k pc loc st S2) 120 0 [some (.inr (.inl (some a))), none, none, none, none, none] [] S := by
  obtain ⟨rfl, hE, nf, nj, np, hv⟩ := hp
  refine Exists.intro 100000 ⟨nf, nj, np, _, hv, (ip_EM.rf hE).u (by decide) _ _, rfl, Or.inl ⟨rfl, 0, _, rfl, rfl, Nat.zero_le _, ?_, rfl⟩⟩
  exact ⟨ip_pq.rf.u (Or.inr ⟨rfl, rfl⟩) _, ip_u_same, fun x hx => absurd hx (Nat.not_lt_zero _)⟩
theorem ctX5_findPlan (l : Launch) (M : ip_M) : ip_CT l yX5_findPlan wsX5_findPlan rmX5_findPlan ip_Sta (preX5_findPlan M) (postX5_findPlan M) := by
  refine ip_of (cc := cX5_findPlan) (maxL := 6) (ret := (some .int)) (by decide +kernel) rfl (fun _ => (0, 0)) rfl ?_ ?_
  · intro as S h
    obtain ⟨a, rfl, hq⟩ := ip_e_r h
    exact ⟨Nat.le_of_ble_eq_true rfl, by simp⟩
  intro p e s m args below meth c D cA A ad0 as S h hI hx hb hml hown hts hr hlocks hname hA hNx
  obtain ⟨a, rfl, hq⟩ := ip_e_r h
  have ht := tX5_findPlan (D := D) (cA := cA) (A := A) (ad0 := ad0) (l := l) (e := e) (below := below) (S0 := S) (po := postX5_findPlan M [.inr (.inl (some a))] S) hx hb hml hown hts hr hlocks hname hA hNx
  refine ip_run_ok ht (fun pc loc st S2 hh => ?_) 120 0 _ _ S (vX5_findPlan M a S hI hq)
  obtain ⟨k, hk⟩ := hh
  exact ip_loop ht (iX5_findPlan M a S) (lpX5_findPlan M a S hI hq) k pc loc st S2 hk

def preX5_plan (M : ip_M) : List ip_V → ip_S → Prop := ip_h_rii (fun _ => False) (fun a w i S => a = 50 ∧ ip_eM M S ∧ ∃ nf nj np, ip_vv M nf nj np)
def postX5_plan (M : ip_M) : List ip_V → ip_S → List ip_V → ip_S → Prop := ip_h_rii (fun _ _ _ => True) (fun a w i S r S' => r = [.inl (g_plan M w i)] ∧ ∃ M1, ip_EM M1 S S' ∧ ip_pq M M1)
theorem shX5_plan (M : ip_M) : ∀ as S, ip_Sta S → preX5_plan M as S → ∃ (b : Nat) (as' : List ip_V), as = .inr (.inl (some b)) :: as' ∧ as'.length = 2 ∧ (S.2.2.2 b).1 = 5 := by
  intro as S hI h
  obtain ⟨a, w, i, rfl, hq⟩ := ip_e_rii h
  exact ⟨_, _, rfl, rfl, by rw [hq.1, hI.1 50 (by decide)]; rfl⟩
def rmX5_plan : Room := { frames := 3, cells := 0, slots := 0, locals := 120 }
def pX5_plan (po : List ip_V → ip_S → Prop) : List (Nat × ip_T) := [(0, ip_t_il 1 1), (1, ip_t_ci 0 2), (2, ip_t_ci 2 3), (3, ip_t_call 3 preX5_in postX5_in 6), (6, ip_t_ifeq 23 9), (9, ip_t_il 1 10), (10, ip_t_ci 1 11), (11, ip_t_icne 26 14), (14, ip_t_il 2 15), (15, ip_t_ci 0 16), (16, ip_t_ci 4 17), (17, ip_t_call 3 preX5_in postX5_in 20), (20, ip_t_ifne 26 23), (23, ip_t_ci (-100) 25), (25, ip_t_iret po), (26, ip_t_ar 0 27), (27, ip_t_callG 1 preX5_findPlan postX5_findPlan 30), (30, ip_t_is 3 31), (31, ip_t_il 1 32), (32, ip_t_ifne 42 35), (35, ip_t_ar 0 36), (36, ip_t_gI0 50 28 39), (39, ip_t_go 71), (42, ip_t_il 1 43), (43, ip_t_ci 2 44), (44, ip_t_icne 51 47), (47, ip_t_il 3 48), (48, ip_t_go 71), (51, ip_t_il 2 52), (52, ip_t_ar 0 53), (53, ip_t_gI0 50 28 56), (56, ip_t_icge 68 59), (59, ip_t_ar 0 60), (60, ip_t_gR0 50 81 63), (63, ip_t_il 2 64), (64, ip_t_ld 6 65), (65, ip_t_go 71), (68, ip_t_ci (-900) 71), (71, ip_t_iret po)]
set_option maxRecDepth 100000 in
set_option maxHeartbeats 4000000 in
theorem tX5_plan {p : Program} {l : Launch} {e : Env} {s : State} {m : MethodId} {args : Array Value} {below : List Frame} {meth : Method} {c : Code} {D : va_G} {cA : Nat → ClassId} {A : Nat → Prop} {ad0 : Nat → Nat} {S0 : ip_S} {po : List ip_V → ip_S → Prop} (hx : p.tables.exec = Jvm.exec) (hb : c.code = cX5_plan) (hml : c.maxLocals = 4) (hown : s.vm.findClass RX5 = some m.cls) (hts : ∀ w ∈ wsX5_plan, w.before args s = true) (hr : meth.sig.returnType = (some .int)) (hlocks : meth.locks = false) (hname : meth.name = yX5_plan.name) (hA : ∀ q, s.heap.size ≤ q → A q) (hNx : ip_Nx s) : ∀ q ∈ pX5_plan po, ip_snd p l e rmX5_plan s m args below meth c D cA A (MQ below (ip_Q ip_Sta D cA ad0 S0 A po) args s 0 0 A) 4 (fun _ => (0, 0)) ip_Sta ad0 S0 q.1 q.2 := by
  have hIs : ∀ S, ip_Sta S → ip_Sta S := fun _ h => h
  have hIn := ip_In_Sta
  have hS9 : CallFix p m c cX5_plan 4 s args wsX5_plan RX5 := ⟨hx, hb, hml, hown, hts⟩
  have hin5 : ∀ w ∈ u_ws RX5 TX5 32, w ∈ wsX5_plan := by decide +kernel
  refine List.forall_mem_cons.mpr ⟨ip_s_iload_n hx hb dX5_plan_0 rfl rfl, ?_⟩
  refine List.forall_mem_cons.mpr ⟨ip_s_iconst hx hb dX5_plan_1 rfl rfl, ?_⟩
  refine List.forall_mem_cons.mpr ⟨ip_s_iconst hx hb dX5_plan_2 rfl rfl, ?_⟩
  refine List.forall_mem_cons.mpr ⟨ip_s_callS hNx hS9 (ctX5_in l) (va_cwS 3 hts gX5_plan_X5_in rfl rfl rfl (by decide +kernel) ⟨Nat.le_of_ble_eq_true rfl, Nat.le_of_ble_eq_true rfl⟩) (fun as S hI h => shsX5_in as S hI h) hA dX5_plan_3 ⟨Nat.le_of_ble_eq_true rfl, Nat.le_of_ble_eq_true rfl⟩ rfl, ?_⟩
  refine List.forall_mem_cons.mpr ⟨ip_s_ifeq (t := 23) hx hb dX5_plan_6 (by decide) rfl rfl, ?_⟩
  refine List.forall_mem_cons.mpr ⟨ip_s_iload_n hx hb dX5_plan_9 rfl rfl, ?_⟩
  refine List.forall_mem_cons.mpr ⟨ip_s_iconst hx hb dX5_plan_10 rfl rfl, ?_⟩
  refine List.forall_mem_cons.mpr ⟨ip_s_icne (t := 26) hx hb dX5_plan_11 (by decide) rfl rfl, ?_⟩
  refine List.forall_mem_cons.mpr ⟨ip_s_iload_n hx hb dX5_plan_14 rfl rfl, ?_⟩
  refine List.forall_mem_cons.mpr ⟨ip_s_iconst hx hb dX5_plan_15 rfl rfl, ?_⟩
  refine List.forall_mem_cons.mpr ⟨ip_s_iconst hx hb dX5_plan_16 rfl rfl, ?_⟩
  refine List.forall_mem_cons.mpr ⟨ip_s_callS hNx hS9 (ctX5_in l) (va_cwS 3 hts gX5_plan_X5_in rfl rfl rfl (by decide +kernel) ⟨Nat.le_of_ble_eq_true rfl, Nat.le_of_ble_eq_true rfl⟩) (fun as S hI h => shsX5_in as S hI h) hA dX5_plan_17 ⟨Nat.le_of_ble_eq_true rfl, Nat.le_of_ble_eq_true rfl⟩ rfl, ?_⟩
  refine List.forall_mem_cons.mpr ⟨ip_s_ifne (t := 26) hx hb dX5_plan_20 (by decide) rfl rfl, ?_⟩
  refine List.forall_mem_cons.mpr ⟨ip_s_bipush hx hb dX5_plan_23 rfl rfl, ?_⟩
  refine List.forall_mem_cons.mpr ⟨ip_s_iret hx hb hr hlocks (Nat.le_of_ble_eq_true rfl) (Nat.le_of_ble_eq_true rfl) dX5_plan_25, ?_⟩
  refine List.forall_mem_cons.mpr ⟨ip_s_aload_n hx hb dX5_plan_26 rfl rfl, ?_⟩
  refine List.forall_mem_cons.mpr ⟨ip_s_G (fun M => ip_s_callV hNx hS9 (ctX5_findPlan l M) (cwV 0 hts gX5_plan_X5_findPlan rfl rfl rfl (by decide +kernel) ⟨Nat.le_of_ble_eq_true rfl, Nat.le_of_ble_eq_true rfl⟩) (ci := 5) rfl rfl (by decide) (fun as S hI h => shX5_findPlan M as S hI h) hA dX5_plan_27 ⟨Nat.le_of_ble_eq_true rfl, Nat.le_of_ble_eq_true rfl⟩ rfl), ?_⟩
  refine List.forall_mem_cons.mpr ⟨ip_s_istore_n hx hb dX5_plan_30 rfl (by decide) rfl, ?_⟩
  refine List.forall_mem_cons.mpr ⟨ip_s_iload_n hx hb dX5_plan_31 rfl rfl, ?_⟩
  refine List.forall_mem_cons.mpr ⟨ip_s_ifne (t := 42) hx hb dX5_plan_32 (by decide) rfl rfl, ?_⟩
  refine List.forall_mem_cons.mpr ⟨ip_s_aload_n hx hb dX5_plan_35 rfl rfl, ?_⟩
  refine List.forall_mem_cons.mpr ⟨ip_s_gI0 hx hb hts hin5 hown rfl (by decide) 28 (by decide) (hts (.fieldLink RX5 145 "IcePadsModel" "many" "I") (by decide +kernel)) (fun _ h9 => h9) hIs 50 rfl rfl dX5_plan_36 rfl, ?_⟩
  refine List.forall_mem_cons.mpr ⟨ip_s_go (t := 71) hx hb dX5_plan_39 (by decide) (Nat.le_of_ble_eq_true rfl) (Nat.le_of_ble_eq_true rfl), ?_⟩
  refine List.forall_mem_cons.mpr ⟨ip_s_iload_n hx hb dX5_plan_42 rfl rfl, ?_⟩
  refine List.forall_mem_cons.mpr ⟨ip_s_iconst hx hb dX5_plan_43 rfl rfl, ?_⟩
  refine List.forall_mem_cons.mpr ⟨ip_s_icne (t := 51) hx hb dX5_plan_44 (by decide) rfl rfl, ?_⟩
  refine List.forall_mem_cons.mpr ⟨ip_s_iload_n hx hb dX5_plan_47 rfl rfl, ?_⟩
  refine List.forall_mem_cons.mpr ⟨ip_s_go (t := 71) hx hb dX5_plan_48 (by decide) (Nat.le_of_ble_eq_true rfl) (Nat.le_of_ble_eq_true rfl), ?_⟩
  refine List.forall_mem_cons.mpr ⟨ip_s_iload_n hx hb dX5_plan_51 rfl rfl, ?_⟩
  refine List.forall_mem_cons.mpr ⟨ip_s_aload_n hx hb dX5_plan_52 rfl rfl, ?_⟩
  refine List.forall_mem_cons.mpr ⟨ip_s_gI0 hx hb hts hin5 hown rfl (by decide) 28 (by decide) (hts (.fieldLink RX5 145 "IcePadsModel" "many" "I") (by decide +kernel)) (fun _ h9 => h9) hIs 50 rfl rfl dX5_plan_53 rfl, ?_⟩
  refine List.forall_mem_cons.mpr ⟨ip_s_icge (t := 68) hx hb dX5_plan_56 (by decide) rfl rfl, ?_⟩
  refine List.forall_mem_cons.mpr ⟨ip_s_aload_n hx hb dX5_plan_59 rfl rfl, ?_⟩
  refine List.forall_mem_cons.mpr ⟨ip_s_gR0 hx hb hts hin5 hown rfl (by decide) 31 (by decide) (hts (.fieldLink RX5 84 "IcePadsModel" "bestRow" "[I") (by decide +kernel)) (fun _ h9 => h9) hIs 50 81 rfl (by decide) rfl dX5_plan_60 rfl, ?_⟩
  refine List.forall_mem_cons.mpr ⟨ip_s_iload_n hx hb dX5_plan_63 rfl rfl, ?_⟩
  refine List.forall_mem_cons.mpr ⟨ip_s_ldi hx hb hIs dX5_plan_64 rfl, ?_⟩
  refine List.forall_mem_cons.mpr ⟨ip_s_go (t := 71) hx hb dX5_plan_65 (by decide) (Nat.le_of_ble_eq_true rfl) (Nat.le_of_ble_eq_true rfl), ?_⟩
  refine List.forall_mem_cons.mpr ⟨ip_s_sipush hx hb dX5_plan_68 rfl rfl, ?_⟩
  refine List.forall_mem_cons.mpr ⟨ip_s_iret hx hb hr hlocks (Nat.le_of_ble_eq_true rfl) (Nat.le_of_ble_eq_true rfl) dX5_plan_71, ?_⟩
  exact fun _ h => absurd h List.not_mem_nil
abbrev iX5_plan (M : ip_M) (a : Nat) (w : Int32) (i : Int32) (S : ip_S) : Nat → ip_N := fun k pc loc st S1 => pc = 26 ∧ st = [] ∧ S1 = S ∧ k = 0 ∧ ((0 ≤ w ∧ w ≤ 2) ∧ (w = 1 → 0 ≤ i ∧ i ≤ 4)) ∧ loc = [some (.inr (.inl (some a))), some (.inl w), some (.inl i), none]
set_option maxRecDepth 100000 in
set_option maxHeartbeats 4000000 in
theorem lpX5_plan (M : ip_M) (a : Nat) (w : Int32) (i : Int32) (S : ip_S) (hS : ip_Sta S) (hp : a = 50 ∧ ip_eM M S ∧ ∃ nf nj np, ip_vv M nf nj np) : ∀ k pc loc st S1, iX5_plan M a w i S k pc loc st S1 → ip_run (pX5_plan (postX5_plan M [.inr (.inl (some a)), .inl w, .inl i] S)) (fun pc => Nat.beq pc 26) (fun pc loc st S2 => ∃ k', k' < k ∧ iX5_plan M a w i S k' pc loc st S2) 60 pc loc st S1 := by
  obtain ⟨rfl, hE, nf, nj, np, hv⟩ := hp
  rintro k pc loc st S1 ⟨rfl, rfl, rfl, rfl, hq, rfl⟩
  have h5 := g_mn5 M
  refine Exists.intro M (And.intro (And.intro rfl (And.intro hE ⟨nf, nj, np, hv⟩)) ?_)
  rintro r S2 ⟨rfl, M1, hT, hpq, h28, h81⟩
  have e28 : S2.1 50 28 = nI (g_mn M) := (congrFun (hT.1 50 (by decide)) 28).trans h28
  refine And.intro (fun q => ?_) (fun q => ?_)
  rotate_left
  · refine And.intro ?_ ⟨M1, hT, hpq⟩
    unfold g_plan
    rw [if_pos hq, if_pos q, e28]
  refine And.intro (fun q2 => ?_) (fun q2 => ?_)
  rotate_left
  · refine And.intro ?_ ⟨M1, hT, hpq⟩
    unfold g_plan
    rw [if_pos hq, if_neg q, if_pos q2]
  have hw1 : w = 1 := by
    rcases ip_k012 hq.1 with h | h | h
    · exact absurd h q
    · exact h
    · exact absurd h q2
  have hi := hq.2 hw1
  refine And.intro (fun q3 => ?_) (fun q3 => ?_)
  · refine And.intro ?_ ⟨M1, hT, hpq⟩
    rw [e28] at q3
    unfold g_plan
    rw [if_pos hq, if_neg q, if_neg q2, if_neg (Int32.not_lt.mpr q3)]
  · rw [e28] at q3
    have b0 : (0 : Int32).toInt = 0 := rfl
    have b4 : (4 : Int32).toInt = 4 := rfl
    have hi' := hi
    rw [ip_leI, ip_leI, b0, b4] at hi'
    obtain ⟨x, rfl, hx0, hx4⟩ := ip_small (by omega) hi'
    have q4 := Int32.not_le.mp q3
    rw [nI_ltI (by omega) (by omega)] at q4
    obtain ⟨in1, c1⟩ := ip_inN (i := x) (n := 5) (N := 5) (by omega) (by decide) (by decide)
    refine And.intro in1 ?_
    refine And.intro ?_ ⟨M1, hT, hpq⟩
    unfold g_plan
    rw [if_pos hq, if_neg q, if_neg q2, if_pos (Int32.not_le.mp q3), c1, congrFun (hT.1 81 (by decide)) x, h81 x q4]
set_option maxRecDepth 100000 in
set_option maxHeartbeats 4000000 in
theorem vX5_plan (M : ip_M) (a : Nat) (w : Int32) (i : Int32) (S : ip_S) (hS : ip_Sta S) (hp : a = 50 ∧ ip_eM M S ∧ ∃ nf nj np, ip_vv M nf nj np) : ip_run (pX5_plan (postX5_plan M [.inr (.inl (some a)), .inl w, .inl i] S)) (fun pc => Nat.beq pc 26) (fun pc loc st S2 => ∃ k, iX5_plan M a w i S k pc loc st S2) 60 0 [some (.inr (.inl (some a))), some (.inl w), some (.inl i), none] [] S := by
  obtain ⟨rfl, hE, nf, nj, np, hv⟩ := hp
  refine And.intro trivial ?_
  rintro r S' ⟨rfl, rfl⟩
  refine And.intro (fun q => ?_) (fun q => ?_)
  · refine And.intro ?_ ⟨M, ip_EM.rf hE, ip_pq.rf⟩
    unfold g_plan
    rw [if_neg (fun z => ip_if0 q z.1)]
  have q := ip_if1 q
  refine And.intro (fun q2 => ?_) (fun q2 => ?_)
  · exact Exists.intro 0 ⟨rfl, rfl, rfl, rfl, ⟨q, fun z => absurd z q2⟩, rfl⟩
  · refine And.intro trivial ?_
    rintro r S' ⟨rfl, rfl⟩
    refine And.intro (fun q3 => ?_) (fun q3 => ?_)
    · have q3 := ip_if1 q3
      exact Exists.intro 0 ⟨rfl, rfl, rfl, rfl, ⟨q, fun _ => q3⟩, rfl⟩
    · refine And.intro ?_ ⟨M, ip_EM.rf hE, ip_pq.rf⟩
      unfold g_plan
      rw [if_neg (fun z => ip_if0 q3 (z.2 q2))]
theorem ctX5_plan (l : Launch) (M : ip_M) : ip_CT l yX5_plan wsX5_plan rmX5_plan ip_Sta (preX5_plan M) (postX5_plan M) := by
  refine ip_of (cc := cX5_plan) (maxL := 4) (ret := (some .int)) (by decide +kernel) rfl (fun _ => (0, 0)) rfl ?_ ?_
  · intro as S h
    obtain ⟨a, w, i, rfl, hq⟩ := ip_e_rii h
    exact ⟨Nat.le_of_ble_eq_true rfl, by simp⟩
  intro p e s m args below meth c D cA A ad0 as S h hI hx hb hml hown hts hr hlocks hname hA hNx
  obtain ⟨a, w, i, rfl, hq⟩ := ip_e_rii h
  have ht := tX5_plan (D := D) (cA := cA) (A := A) (ad0 := ad0) (l := l) (e := e) (below := below) (S0 := S) (po := postX5_plan M [.inr (.inl (some a)), .inl w, .inl i] S) hx hb hml hown hts hr hlocks hname hA hNx
  refine ip_run_ok ht (fun pc loc st S2 hh => ?_) 60 0 _ _ S (vX5_plan M a w i S hI hq)
  obtain ⟨k, hk⟩ := hh
  exact ip_loop ht (iX5_plan M a w i S) (lpX5_plan M a w i S hI hq) k pc loc st S2 hk
