/-! the planner's rows -/
def ip_gt (M : ip_M) (S : ip_S) : Prop := S.1 8 4 = nI (g_mn M) ∧ ∀ x, x < g_mn M → S.2.1 9 x = some (30 + g_V M x)
def ip_fG (S S' : ip_S) : Prop := (∀ q, q ≠ 8 → S'.1 q = S.1 q) ∧ (∀ q, q ≠ 9 → S'.2.1 q = S.2.1 q) ∧ S'.2.2 = S.2.2
def ip_fPl (S S' : ip_S) : Prop := (∀ q, q < 8 ∨ 12 < q → S'.1 q = S.1 q) ∧ S'.1 8 4 = S.1 8 4 ∧ S'.2 = S.2
theorem ip_fPl.rf {S : ip_S} : ip_fPl S S := ⟨fun _ _ => rfl, rfl, rfl⟩
theorem ip_fPl.tr {S S1 S2 : ip_S} (h : ip_fPl S S1) (h2 : ip_fPl S1 S2) : ip_fPl S S2 := ⟨fun q a => (h2.1 q a).trans (h.1 q a), h2.2.1.trans h.2.1, h2.2.2.trans h.2.2⟩
theorem ip_fPl.sI {S S1 : ip_S} (h : ip_fPl S S1) {p k : Nat} (hp : (p = 8 ∧ k ≠ 4) ∨ (9 ≤ p ∧ p ≤ 12)) (v : Int32) : ip_fPl S (ip_sI S1 p k v) := by
  refine ⟨fun q a => (ip_sIP (by omega)).trans (h.1 q a), ?_, h.2.2⟩
  rw [← h.2.1]
  exact if_neg (fun z => by omega)
theorem ip_cR_pl {M : ip_M} {S S' : ip_S} (h : ip_cR M S) (e1 : ∀ q, q < 8 ∨ 12 < q → S'.1 q = S.1 q) (e2 : ∀ q, q ≠ 9 → S'.2.1 q = S.2.1 q) (e3 : S'.2.2.2 = S.2.2.2) : ip_cR M S' := by
  obtain ⟨nf, nj, np, hv, hS, hF, hJ, hP⟩ := h
  refine ⟨nf, nj, np, hv, ?_, ip_cF_c hv.1.2.1 (fun q a b => e1 q (by omega)) (fun q a => e2 q (by omega)) (fun q _ _ => by rw [e3]) (fun _ _ _ => rfl) hF, ip_cJ_c hv.1.2.2.2.1 (fun q a b => e1 q (by omega)) (fun q a => e2 q (by omega)) (fun q _ _ => by rw [e3]) rfl (fun _ _ _ => rfl) hJ, ip_cP_c (e2 7 (by decide)) rfl hP⟩
  unfold ip_cS
  rw [e1 0 (by omega), e1 2 (by omega), e1 3 (by omega), e1 4 (by omega)]
  exact hS
theorem ip_fPl.cR {M : ip_M} {S S' : ip_S} (h : ip_fPl S S') (hR : ip_cR M S) : ip_cR M S' := ip_cR_pl hR h.1 (fun q _ => by rw [h.2.2]) (by rw [h.2.2])
theorem ip_fPl.gt {M : ip_M} {S S' : ip_S} (h : ip_fPl S S') (hR : ip_gt M S) : ip_gt M S' := ⟨h.2.1.trans hR.1, fun x hx => by rw [h.2.2]; exact hR.2 x hx⟩

def preX2_gather (M : ip_M) : List ip_V → ip_S → Prop := ip_h_rr (fun _ => False) (fun a jj S => a = 8 ∧ jj = 6 ∧ ip_cR M S)
def postX2_gather (M : ip_M) : List ip_V → ip_S → List ip_V → ip_S → Prop := ip_h_rr (fun _ _ _ => True) (fun a jj S r S' => r = [] ∧ ip_gt M S' ∧ ip_fG S S')
theorem shX2_gather (M : ip_M) : ∀ as S, ip_Sta S → preX2_gather M as S → ∃ (b : Nat) (as' : List ip_V), as = .inr (.inl (some b)) :: as' ∧ as'.length = 1 ∧ (S.2.2.2 b).1 = 2 := by
  intro as S hI h
  obtain ⟨a, jj, rfl, hq⟩ := ip_e_rr h
  exact ⟨_, _, rfl, rfl, by rw [hq.1, hI.1 8 (by decide)]; rfl⟩
def rmX2_gather : Room := { frames := 3, cells := 0, slots := 0, locals := 120 }
def pX2_gather (po : List ip_V → ip_S → Prop) : List (Nat × ip_T) := [(0, ip_t_ar 0 1), (1, ip_t_ci 0 2), (2, ip_t_pI0 8 4 5), (5, ip_t_ci 0 6), (6, ip_t_is 2 7), (7, ip_t_il 2 8), (8, ip_t_ar 1 9), (9, ip_t_len 10), (10, ip_t_icge 69 13), (13, ip_t_ar 0 14), (14, ip_t_gI0 8 4 17), (17, ip_t_ar 0 18), (18, ip_t_gR0 8 9 21), (21, ip_t_len 22), (22, ip_t_icge 69 25), (25, ip_t_ar 1 26), (26, ip_t_il 2 27), (27, ip_t_lda 9 28), (28, ip_t_as 3 29), (29, ip_t_ar 3 30), (30, ip_t_null 63 33), (33, ip_t_ar 3 34), (34, ip_t_call 1 preX1_state postX1_state 37), (37, ip_t_ifeq 43 40), (40, ip_t_go 63), (43, ip_t_ar 0 44), (44, ip_t_gR0 8 9 47), (47, ip_t_ar 0 48), (48, ip_t_gI0 8 4 51), (51, ip_t_ar 3 52), (52, ip_t_sta 9 1 53), (53, ip_t_ar 0 54), (54, ip_t_dup 55), (55, ip_t_gI0 8 4 58), (58, ip_t_ci 1 59), (59, ip_t_iadd 60), (60, ip_t_pI0 8 4 63), (63, ip_t_inc 2 1 66), (66, ip_t_go 7), (69, ip_t_vret po)]
set_option maxRecDepth 100000 in
set_option maxHeartbeats 4000000 in
theorem tX2_gather {p : Program} {l : Launch} {e : Env} {s : State} {m : MethodId} {args : Array Value} {below : List Frame} {meth : Method} {c : Code} {D : va_G} {cA : Nat → ClassId} {A : Nat → Prop} {ad0 : Nat → Nat} {S0 : ip_S} {po : List ip_V → ip_S → Prop} (hx : p.tables.exec = Jvm.exec) (hb : c.code = cX2_gather) (hml : c.maxLocals = 4) (hown : s.vm.findClass RX2 = some m.cls) (hts : ∀ w ∈ wsX2_gather, w.before args s = true) (hr : meth.sig.returnType = none) (hlocks : meth.locks = false) (hname : meth.name = yX2_gather.name) (hA : ∀ q, s.heap.size ≤ q → A q) (hNx : ip_Nx s) : ∀ q ∈ pX2_gather po, ip_snd p l e rmX2_gather s m args below meth c D cA A (MQ below (ip_Q ip_Sta D cA ad0 S0 A po) args s 0 0 A) 4 (fun _ => (0, 0)) ip_Sta ad0 S0 q.1 q.2 := by
  have hIs : ∀ S, ip_Sta S → ip_Sta S := fun _ h => h
  have hIn := ip_In_Sta
  have hS9 : CallFix p m c cX2_gather 4 s args wsX2_gather RX2 := ⟨hx, hb, hml, hown, hts⟩
  have hin2 : ∀ w ∈ u_ws RX2 TX2 6, w ∈ wsX2_gather := by decide +kernel
  refine List.forall_mem_cons.mpr ⟨ip_s_aload_n hx hb dX2_gather_0 rfl rfl, ?_⟩
  refine List.forall_mem_cons.mpr ⟨ip_s_iconst hx hb dX2_gather_1 rfl rfl, ?_⟩
  refine List.forall_mem_cons.mpr ⟨ip_s_pI0 hx hb hts hin2 hown rfl (by decide) 4 (by decide) (hts (.fieldLink RX2 28 "IcePads$Planner" "size" "I") (by decide +kernel)) (fun _ h9 => h9) tyX2 tyX2_ok nmX2 hIn hIs 8 rfl rfl rfl (by decide +kernel) dX2_gather_2 rfl, ?_⟩
  refine List.forall_mem_cons.mpr ⟨ip_s_iconst hx hb dX2_gather_5 rfl rfl, ?_⟩
  refine List.forall_mem_cons.mpr ⟨ip_s_istore_n hx hb dX2_gather_6 rfl (by decide) rfl, ?_⟩
  refine List.forall_mem_cons.mpr ⟨ip_s_iload_n hx hb dX2_gather_7 rfl rfl, ?_⟩
  refine List.forall_mem_cons.mpr ⟨ip_s_aload_n hx hb dX2_gather_8 rfl rfl, ?_⟩
  refine List.forall_mem_cons.mpr ⟨ip_s_len hx hb hIs dX2_gather_9 rfl, ?_⟩
  refine List.forall_mem_cons.mpr ⟨ip_s_icge (t := 69) hx hb dX2_gather_10 (by decide) rfl rfl, ?_⟩
  refine List.forall_mem_cons.mpr ⟨ip_s_aload_n hx hb dX2_gather_13 rfl rfl, ?_⟩
  refine List.forall_mem_cons.mpr ⟨ip_s_gI0 hx hb hts hin2 hown rfl (by decide) 4 (by decide) (hts (.fieldLink RX2 28 "IcePads$Planner" "size" "I") (by decide +kernel)) (fun _ h9 => h9) hIs 8 rfl rfl dX2_gather_14 rfl, ?_⟩
  refine List.forall_mem_cons.mpr ⟨ip_s_aload_n hx hb dX2_gather_17 rfl rfl, ?_⟩
  refine List.forall_mem_cons.mpr ⟨ip_s_gR0 hx hb hts hin2 hown rfl (by decide) 0 (by decide) (hts (.fieldLink RX2 11 "IcePads$Planner" "waiting" "[LIcePads$Jet;") (by decide +kernel)) (fun _ h9 => h9) hIs 8 9 rfl (by decide) rfl dX2_gather_18 rfl, ?_⟩
  refine List.forall_mem_cons.mpr ⟨ip_s_len hx hb hIs dX2_gather_21 rfl, ?_⟩
  refine List.forall_mem_cons.mpr ⟨ip_s_icge (t := 69) hx hb dX2_gather_22 (by decide) rfl rfl, ?_⟩
  refine List.forall_mem_cons.mpr ⟨ip_s_aload_n hx hb dX2_gather_25 rfl rfl, ?_⟩
  refine List.forall_mem_cons.mpr ⟨ip_s_iload_n hx hb dX2_gather_26 rfl rfl, ?_⟩
  refine List.forall_mem_cons.mpr ⟨ip_s_lda9 hx hb hIs dX2_gather_27 rfl, ?_⟩
  refine List.forall_mem_cons.mpr ⟨ip_s_astore_n hx hb dX2_gather_28 rfl (by decide) rfl, ?_⟩
  refine List.forall_mem_cons.mpr ⟨ip_s_aload_n hx hb dX2_gather_29 rfl rfl, ?_⟩
  refine List.forall_mem_cons.mpr ⟨ip_s_ifnull (t := 63) hx hb dX2_gather_30 (by decide) rfl rfl, ?_⟩
  refine List.forall_mem_cons.mpr ⟨ip_s_aload_n hx hb dX2_gather_33 rfl rfl, ?_⟩
  refine List.forall_mem_cons.mpr ⟨ip_s_callV hNx hS9 (ctX1_state l) (cwV 0 hts gX2_gather_X1_state rfl rfl rfl (by decide +kernel) ⟨Nat.le_of_ble_eq_true rfl, Nat.le_of_ble_eq_true rfl⟩) (ci := 1) rfl rfl (by decide) (fun as S hI h => shX1_state as S hI h) hA dX2_gather_34 ⟨Nat.le_of_ble_eq_true rfl, Nat.le_of_ble_eq_true rfl⟩ rfl, ?_⟩
  refine List.forall_mem_cons.mpr ⟨ip_s_ifeq (t := 43) hx hb dX2_gather_37 (by decide) rfl rfl, ?_⟩
  refine List.forall_mem_cons.mpr ⟨ip_s_go (t := 63) hx hb dX2_gather_40 (by decide) (Nat.le_of_ble_eq_true rfl) (Nat.le_of_ble_eq_true rfl), ?_⟩
  refine List.forall_mem_cons.mpr ⟨ip_s_aload_n hx hb dX2_gather_43 rfl rfl, ?_⟩
  refine List.forall_mem_cons.mpr ⟨ip_s_gR0 hx hb hts hin2 hown rfl (by decide) 0 (by decide) (hts (.fieldLink RX2 11 "IcePads$Planner" "waiting" "[LIcePads$Jet;") (by decide +kernel)) (fun _ h9 => h9) hIs 8 9 rfl (by decide) rfl dX2_gather_44 rfl, ?_⟩
  refine List.forall_mem_cons.mpr ⟨ip_s_aload_n hx hb dX2_gather_47 rfl rfl, ?_⟩
  refine List.forall_mem_cons.mpr ⟨ip_s_gI0 hx hb hts hin2 hown rfl (by decide) 4 (by decide) (hts (.fieldLink RX2 28 "IcePads$Planner" "size" "I") (by decide +kernel)) (fun _ h9 => h9) hIs 8 rfl rfl dX2_gather_48 rfl, ?_⟩
  refine List.forall_mem_cons.mpr ⟨ip_s_aload_n hx hb dX2_gather_51 rfl rfl, ?_⟩
  refine List.forall_mem_cons.mpr ⟨ip_s_sta9 hx hb hIn hIs dX2_gather_52 rfl, ?_⟩
  refine List.forall_mem_cons.mpr ⟨ip_s_aload_n hx hb dX2_gather_53 rfl rfl, ?_⟩
  refine List.forall_mem_cons.mpr ⟨ip_s_dup hx hb dX2_gather_54 rfl, ?_⟩
  refine List.forall_mem_cons.mpr ⟨ip_s_gI0 hx hb hts hin2 hown rfl (by decide) 4 (by decide) (hts (.fieldLink RX2 28 "IcePads$Planner" "size" "I") (by decide +kernel)) (fun _ h9 => h9) hIs 8 rfl rfl dX2_gather_55 rfl, ?_⟩
  refine List.forall_mem_cons.mpr ⟨ip_s_iconst hx hb dX2_gather_58 rfl rfl, ?_⟩
  refine List.forall_mem_cons.mpr ⟨ip_s_iadd hx hb dX2_gather_59 rfl, ?_⟩
  refine List.forall_mem_cons.mpr ⟨ip_s_pI0 hx hb hts hin2 hown rfl (by decide) 4 (by decide) (hts (.fieldLink RX2 28 "IcePads$Planner" "size" "I") (by decide +kernel)) (fun _ h9 => h9) tyX2 tyX2_ok nmX2 hIn hIs 8 rfl rfl rfl (by decide +kernel) dX2_gather_60 rfl, ?_⟩
  refine List.forall_mem_cons.mpr ⟨ip_s_iinc hx hb dX2_gather_63 rfl (by decide) rfl, ?_⟩
  refine List.forall_mem_cons.mpr ⟨ip_s_go (t := 7) hx hb dX2_gather_66 (by decide) (Nat.le_of_ble_eq_true rfl) (Nat.le_of_ble_eq_true rfl), ?_⟩
  refine List.forall_mem_cons.mpr ⟨ip_s_vret hx hb hr hlocks (Nat.le_of_ble_eq_true rfl) (Nat.le_of_ble_eq_true rfl) dX2_gather_69, ?_⟩
  exact fun _ h => absurd h List.not_mem_nil
abbrev iX2_gather (M : ip_M) (a : Nat) (jj : Nat) (S : ip_S) : Nat → ip_N := fun k pc loc st S1 => ∃ (i nf nj np : Nat) (x2 : Int32) (y3 : Option ip_V), pc = 7 ∧ st = [] ∧ loc = [some (.inr (.inl (some a))), some (.inr (.inl (some jj))), some (.inl x2), y3] ∧ x2 = nI i ∧ i ≤ 12 ∧ ip_vv M nf nj np ∧ ip_cJ M S nj np ∧ S1.1 8 4 = nI (g_wl M (min i nj)).length ∧ (∀ x, x < (g_wl M (min i nj)).length → S1.2.1 9 x = some (30 + (g_wl M (min i nj)).getD x 0)) ∧ ip_fG S S1 ∧ k + i = 12
set_option maxRecDepth 100000 in
set_option maxHeartbeats 4000000 in
theorem lpX2_gather (M : ip_M) (a : Nat) (jj : Nat) (S : ip_S) (hS : ip_Sta S) (hp : a = 8 ∧ jj = 6 ∧ ip_cR M S) : ∀ k pc loc st S1, iX2_gather M a jj S k pc loc st S1 → ip_run (pX2_gather (postX2_gather M [.inr (.inl (some a)), .inr (.inl (some jj))] S)) (fun pc => Nat.beq pc 7) (fun pc loc st S2 => ∃ k', k' < k ∧ iX2_gather M a jj S k' pc loc st S2) 70 pc loc st S1 := by
  obtain ⟨rfl, rfl, -⟩ := hp
  rintro k pc loc st S1 ⟨i, nf, nj, np, x2, y3, rfl, rfl, rfl, rfl, hi, hv, hcJ, e4, hrow, hG, hk⟩
  have hnj12 := hv.1.2.2.2.1
  have hl5 := g_wl_len M (min i nj)
  have hend : g_wl M (min i nj) = g_wt M → ip_gt M S1 := by
    intro e
    rw [e] at e4 hrow
    exact ⟨e4, hrow⟩
  refine And.intro (fun q => ?_) (fun q => ?_)
  · have q : nI 12 ≤ nI i := q
    rw [nI_leI (by omega) (by omega)] at q
    refine And.intro rfl (And.intro (hend ?_) hG)
    unfold g_wt
    rw [g_nj_vv hv, Nat.min_eq_right (by omega)]
  · have q : ¬ nI 12 ≤ nI i := q
    rw [nI_leI (by omega) (by omega)] at q
    refine And.intro (fun q2 => ?_) (fun q2 => ?_)
    · have q2 : nI 5 ≤ S1.1 8 4 := q2
      rw [e4, nI_leI (by omega) (by omega)] at q2
      refine And.intro rfl (And.intro (hend ?_) hG)
      unfold g_wt
      rw [g_nj_vv hv]
      have := g_wl_full M q2 (nj - min i nj)
      rw [show min i nj + (nj - min i nj) = nj by omega] at this
      exact this.symm
    · have q2 : ¬ nI 5 ≤ S1.1 8 4 := q2
      rw [e4, nI_leI (by omega) (by omega)] at q2
      obtain ⟨in1, c1⟩ := ip_inN (i := i) (n := 12) (N := 12) (by omega) (by decide) (by decide)
      refine And.intro in1 (fun o ho => ?_)
      rw [c1, hG.2.1 6 (by decide)] at ho
      by_cases hij : i < nj
      · have em : min i nj = i := Nat.min_eq_left (by omega)
        have em1 : min (i + 1) nj = i + 1 := Nat.min_eq_left (by omega)
        rw [em] at e4 hrow q2 hl5
        obtain ⟨j1, j2, -⟩ := hcJ.1 i hij
        rw [j1] at ho
        subst ho
        have hst := (ip_stJ hv hcJ hij).1
        rw [← hG.1 (30 + i) (by omega)] at hst
        have k2 : (S1.2.2.2 (30 + i)).1 = 1 := by rw [hG.2.2]; exact j2
        refine And.intro (And.intro k2 trivial) ?_
        rintro r S2 ⟨rfl, rfl⟩
        rw [hst]
        refine And.intro (fun q3 => ?_) (fun q3 => ?_)
        · obtain ⟨in2, c2⟩ := ip_inN (i := (g_wl M i).length) (n := 5) (N := 5) (by omega) (by decide) (by decide)
          refine And.intro (show vp_in (S2.1 8 4) 5 by rw [e4]; exact in2) (And.intro k2 ?_)
          rw [e4, c2]
          have ew : g_wl M (i + 1) = g_wl M i ++ [i] := if_pos ⟨by omega, q3⟩
          have el : (g_wl M i ++ [i]).length = (g_wl M i).length + 1 := List.length_append
          have e4' : (ip_sR S2 9 (g_wl M i).length (some (30 + i))).1 8 4 = nI (g_wl M i).length := e4
          refine Exists.intro (k - 1) (And.intro (by omega) ⟨i + 1, nf, nj, np, _, _, rfl, rfl, rfl, nI_1 i, by omega, hv, hcJ, ?_, ?_, ?_, by omega⟩)
          · rw [em1, ew, ip_sI_same, e4', el, nI_1]
          · rw [em1, ew]
            intro x hx
            show (if 9 = 9 ∧ x = (g_wl M i).length then some (30 + i) else S2.2.1 9 x) = _
            by_cases e : x = (g_wl M i).length
            · subst e
              rw [if_pos ⟨rfl, rfl⟩, ip_getD hx]
              simp
            · rw [if_neg (fun z => e z.2), hrow x (by omega), ip_getD hx, ip_getD (by omega), List.getElem_append_left (by omega)]
          · exact ⟨fun q a => (ip_sIP a).trans (hG.1 q a), fun q a => (funext (fun j => if_neg (fun z => a z.1))).trans (hG.2.1 q a), hG.2.2⟩
        · have ew : g_wl M (i + 1) = g_wl M i := if_neg (fun z => q3 z.2)
          exact Exists.intro (k - 1) (And.intro (by omega) ⟨i + 1, nf, nj, np, _, _, rfl, rfl, rfl, nI_1 i, by omega, hv, hcJ, by rw [em1, ew]; exact e4, by rw [em1, ew]; exact hrow, hG, by omega⟩)
      · have em : min i nj = nj := Nat.min_eq_right (by omega)
        have em1 : min (i + 1) nj = nj := Nat.min_eq_right (by omega)
        rw [em] at e4 hrow
        rw [(hcJ.2 i (by omega) (by omega)).1] at ho
        subst ho
        exact Exists.intro (k - 1) (And.intro (by omega) ⟨i + 1, nf, nj, np, _, _, rfl, rfl, rfl, nI_1 i, by omega, hv, hcJ, by rw [em1]; exact e4, by rw [em1]; exact hrow, hG, by omega⟩)
set_option maxRecDepth 100000 in
set_option maxHeartbeats 4000000 in
theorem vX2_gather (M : ip_M) (a : Nat) (jj : Nat) (S : ip_S) (hS : ip_Sta S) (hp : a = 8 ∧ jj = 6 ∧ ip_cR M S) : ip_run (pX2_gather (postX2_gather M [.inr (.inl (some a)), .inr (.inl (some jj))] S)) (fun pc => Nat.beq pc 7) (fun pc loc st S2 => ∃ k, iX2_gather M a jj S k pc loc st S2) 70 0 [some (.inr (.inl (some a))), some (.inr (.inl (some jj))), none, none] [] S := by
  obtain ⟨rfl, rfl, nf, nj, np, hv, hcS, hcF, hcJ, hcP⟩ := hp
  exact Exists.intro 12 ⟨0, nf, nj, np, _, _, rfl, rfl, rfl, rfl, Nat.zero_le _, hv, hcJ, by rw [ip_sI_same, Nat.zero_min]; rfl, fun x hx => by rw [Nat.zero_min] at hx; exact absurd hx (Nat.not_lt_zero _), ⟨fun q a => ip_sIP a, fun _ _ => rfl, rfl⟩, rfl⟩
theorem ctX2_gather (l : Launch) (M : ip_M) : ip_CT l yX2_gather wsX2_gather rmX2_gather ip_Sta (preX2_gather M) (postX2_gather M) := by
  refine ip_of (cc := cX2_gather) (maxL := 4) (ret := none) (by decide +kernel) rfl (fun _ => (0, 0)) rfl ?_ ?_
  · intro as S h
    obtain ⟨a, jj, rfl, hq⟩ := ip_e_rr h
    exact ⟨Nat.le_of_ble_eq_true rfl, by simp⟩
  intro p e s m args below meth c D cA A ad0 as S h hI hx hb hml hown hts hr hlocks hname hA hNx
  obtain ⟨a, jj, rfl, hq⟩ := ip_e_rr h
  have ht := tX2_gather (D := D) (cA := cA) (A := A) (ad0 := ad0) (l := l) (e := e) (below := below) (S0 := S) (po := postX2_gather M [.inr (.inl (some a)), .inr (.inl (some jj))] S) hx hb hml hown hts hr hlocks hname hA hNx
  refine ip_run_ok ht (fun pc loc st S2 hh => ?_) 70 0 _ _ S (vX2_gather M a jj S hI hq)
  obtain ⟨k, hk⟩ := hh
  exact ip_loop ht (iX2_gather M a jj S) (lpX2_gather M a jj S hI hq) k pc loc st S2 hk

def preX2_keep : List ip_V → ip_S → Prop := ip_h_ri (fun _ => False) (fun a la S => a = 8 ∧ ∃ m, m ≤ 5 ∧ S.1 8 4 = nI m)
def postX2_keep : List ip_V → ip_S → List ip_V → ip_S → Prop := ip_h_ri (fun _ _ _ => True) (fun a la S r S' => r = [] ∧ S'.1 8 5 = la ∧ (∀ x, x < (S.1 8 4).toNatClampNeg → S'.1 12 x = S.1 11 x) ∧ ip_fPl S S' ∧ S'.1 10 = S.1 10 ∧ S'.1 11 = S.1 11)
theorem shX2_keep : ∀ as S, ip_Sta S → preX2_keep as S → ∃ (b : Nat) (as' : List ip_V), as = .inr (.inl (some b)) :: as' ∧ as'.length = 1 ∧ (S.2.2.2 b).1 = 2 := by
  intro as S hI h
  obtain ⟨a, la, rfl, hq⟩ := ip_e_ri h
  exact ⟨_, _, rfl, rfl, by rw [hq.1, hI.1 8 (by decide)]; rfl⟩
def rmX2_keep : Room := { frames := 1, cells := 0, slots := 0, locals := 40 }
def pX2_keep (po : List ip_V → ip_S → Prop) : List (Nat × ip_T) := [(0, ip_t_ar 0 1), (1, ip_t_il 1 2), (2, ip_t_pI0 8 5 5), (5, ip_t_ci 0 6), (6, ip_t_is 2 7), (7, ip_t_il 2 8), (8, ip_t_ar 0 9), (9, ip_t_gI0 8 4 12), (12, ip_t_icge 33 15), (15, ip_t_ar 0 16), (16, ip_t_gR0 8 12 19), (19, ip_t_il 2 20), (20, ip_t_ar 0 21), (21, ip_t_gR0 8 11 24), (24, ip_t_il 2 25), (25, ip_t_ld 6 26), (26, ip_t_st 27), (27, ip_t_inc 2 1 30), (30, ip_t_go 7), (33, ip_t_vret po)]
set_option maxRecDepth 100000 in
set_option maxHeartbeats 4000000 in
theorem tX2_keep {p : Program} {l : Launch} {e : Env} {s : State} {m : MethodId} {args : Array Value} {below : List Frame} {meth : Method} {c : Code} {D : va_G} {cA : Nat → ClassId} {A : Nat → Prop} {ad0 : Nat → Nat} {S0 : ip_S} {po : List ip_V → ip_S → Prop} (hx : p.tables.exec = Jvm.exec) (hb : c.code = cX2_keep) (hml : c.maxLocals = 3) (hown : s.vm.findClass RX2 = some m.cls) (hts : ∀ w ∈ wsX2_keep, w.before args s = true) (hr : meth.sig.returnType = none) (hlocks : meth.locks = false) (hname : meth.name = yX2_keep.name) (hA : ∀ q, s.heap.size ≤ q → A q) (hNx : ip_Nx s) : ∀ q ∈ pX2_keep po, ip_snd p l e rmX2_keep s m args below meth c D cA A (MQ below (ip_Q ip_Sta D cA ad0 S0 A po) args s 0 0 A) 3 (fun _ => (0, 0)) ip_Sta ad0 S0 q.1 q.2 := by
  have hIs : ∀ S, ip_Sta S → ip_Sta S := fun _ h => h
  have hIn := ip_In_Sta
  have hS9 : CallFix p m c cX2_keep 3 s args wsX2_keep RX2 := ⟨hx, hb, hml, hown, hts⟩
  have hin2 : ∀ w ∈ u_ws RX2 TX2 6, w ∈ wsX2_keep := by decide +kernel
  refine List.forall_mem_cons.mpr ⟨ip_s_aload_n hx hb dX2_keep_0 rfl rfl, ?_⟩
  refine List.forall_mem_cons.mpr ⟨ip_s_iload_n hx hb dX2_keep_1 rfl rfl, ?_⟩
  refine List.forall_mem_cons.mpr ⟨ip_s_pI0 hx hb hts hin2 hown rfl (by decide) 5 (by decide) (hts (.fieldLink RX2 39 "IcePads$Planner" "least" "I") (by decide +kernel)) (fun _ h9 => h9) tyX2 tyX2_ok nmX2 hIn hIs 8 rfl rfl rfl (by decide +kernel) dX2_keep_2 rfl, ?_⟩
  refine List.forall_mem_cons.mpr ⟨ip_s_iconst hx hb dX2_keep_5 rfl rfl, ?_⟩
  refine List.forall_mem_cons.mpr ⟨ip_s_istore_n hx hb dX2_keep_6 rfl (by decide) rfl, ?_⟩
  refine List.forall_mem_cons.mpr ⟨ip_s_iload_n hx hb dX2_keep_7 rfl rfl, ?_⟩
  refine List.forall_mem_cons.mpr ⟨ip_s_aload_n hx hb dX2_keep_8 rfl rfl, ?_⟩
  refine List.forall_mem_cons.mpr ⟨ip_s_gI0 hx hb hts hin2 hown rfl (by decide) 4 (by decide) (hts (.fieldLink RX2 28 "IcePads$Planner" "size" "I") (by decide +kernel)) (fun _ h9 => h9) hIs 8 rfl rfl dX2_keep_9 rfl, ?_⟩
  refine List.forall_mem_cons.mpr ⟨ip_s_icge (t := 33) hx hb dX2_keep_12 (by decide) rfl rfl, ?_⟩
  refine List.forall_mem_cons.mpr ⟨ip_s_aload_n hx hb dX2_keep_15 rfl rfl, ?_⟩
  refine List.forall_mem_cons.mpr ⟨ip_s_gR0 hx hb hts hin2 hown rfl (by decide) 3 (by decide) (hts (.fieldLink RX2 25 "IcePads$Planner" "best" "[I") (by decide +kernel)) (fun _ h9 => h9) hIs 8 12 rfl (by decide) rfl dX2_keep_16 rfl, ?_⟩
  refine List.forall_mem_cons.mpr ⟨ip_s_iload_n hx hb dX2_keep_19 rfl rfl, ?_⟩
  refine List.forall_mem_cons.mpr ⟨ip_s_aload_n hx hb dX2_keep_20 rfl rfl, ?_⟩
  refine List.forall_mem_cons.mpr ⟨ip_s_gR0 hx hb hts hin2 hown rfl (by decide) 2 (by decide) (hts (.fieldLink RX2 21 "IcePads$Planner" "order" "[I") (by decide +kernel)) (fun _ h9 => h9) hIs 8 11 rfl (by decide) rfl dX2_keep_21 rfl, ?_⟩
  refine List.forall_mem_cons.mpr ⟨ip_s_iload_n hx hb dX2_keep_24 rfl rfl, ?_⟩
  refine List.forall_mem_cons.mpr ⟨ip_s_ldi hx hb hIs dX2_keep_25 rfl, ?_⟩
  refine List.forall_mem_cons.mpr ⟨ip_s_sti hx hb hIn hIs dX2_keep_26 rfl, ?_⟩
  refine List.forall_mem_cons.mpr ⟨ip_s_iinc hx hb dX2_keep_27 rfl (by decide) rfl, ?_⟩
  refine List.forall_mem_cons.mpr ⟨ip_s_go (t := 7) hx hb dX2_keep_30 (by decide) (Nat.le_of_ble_eq_true rfl) (Nat.le_of_ble_eq_true rfl), ?_⟩
  refine List.forall_mem_cons.mpr ⟨ip_s_vret hx hb hr hlocks (Nat.le_of_ble_eq_true rfl) (Nat.le_of_ble_eq_true rfl) dX2_keep_33, ?_⟩
  exact fun _ h => absurd h List.not_mem_nil
abbrev iX2_keep (a : Nat) (la : Int32) (S : ip_S) : Nat → ip_N := fun k pc loc st S1 => ∃ (m i : Nat) (x2 : Int32), pc = 7 ∧ st = [] ∧ loc = [some (.inr (.inl (some a))), some (.inl la), some (.inl x2)] ∧ m ≤ 5 ∧ S.1 8 4 = nI m ∧ x2 = nI i ∧ i ≤ m ∧ S1.1 8 5 = la ∧ (∀ x, x < i → S1.1 12 x = S.1 11 x) ∧ ip_fPl S S1 ∧ S1.1 10 = S.1 10 ∧ S1.1 11 = S.1 11 ∧ k + i = m
set_option maxRecDepth 100000 in
set_option maxHeartbeats 4000000 in
theorem lpX2_keep (a : Nat) (la : Int32) (S : ip_S) (hS : ip_Sta S) (hp : a = 8 ∧ ∃ m, m ≤ 5 ∧ S.1 8 4 = nI m) : ∀ k pc loc st S1, iX2_keep a la S k pc loc st S1 → ip_run (pX2_keep (postX2_keep [.inr (.inl (some a)), .inl la] S)) (fun pc => Nat.beq pc 7) (fun pc loc st S2 => ∃ k', k' < k ∧ iX2_keep a la S k' pc loc st S2) 50 pc loc st S1 := by
  obtain ⟨rfl, -⟩ := hp
  rintro k pc loc st S1 ⟨m, i, x2, rfl, rfl, rfl, hm, e4, rfl, hi, h5, hb, hL, h10, h11, hk⟩
  have e4' : S1.1 8 4 = nI m := hL.2.1.trans e4
  refine And.intro (fun q => ?_) (fun q => ?_)
  · rw [e4', nI_leI (by omega) (by omega)] at q
    refine And.intro rfl (And.intro h5 (And.intro (fun x hx => ?_) (And.intro hL (And.intro h10 h11))))
    rw [e4, nI_clamp (by omega)] at hx
    exact hb x (by omega)
  · rw [e4', nI_leI (by omega) (by omega)] at q
    obtain ⟨in1, c1⟩ := ip_inN (i := i) (n := 5) (N := 5) (by omega) (by decide) (by decide)
    refine And.intro in1 (And.intro in1 ?_)
    rw [c1, congrFun h11 i]
    refine Exists.intro (k - 1) (And.intro (by omega) ⟨m, i + 1, _, rfl, rfl, rfl, hm, e4, nI_1 i, by omega, ?_, fun x hx => ?_, hL.sI (Or.inr ⟨by decide, by decide⟩) _, (ip_sIP (by decide)).trans h10, (ip_sIP (by decide)).trans h11, by omega⟩)
    · rw [ip_sI_p (by decide)]; exact h5
    · by_cases e : x = i
      · subst e
        rw [ip_sI_same]
      · rw [ip_sI_k e]
        exact hb x (by omega)
set_option maxRecDepth 100000 in
set_option maxHeartbeats 4000000 in
theorem vX2_keep (a : Nat) (la : Int32) (S : ip_S) (hS : ip_Sta S) (hp : a = 8 ∧ ∃ m, m ≤ 5 ∧ S.1 8 4 = nI m) : ip_run (pX2_keep (postX2_keep [.inr (.inl (some a)), .inl la] S)) (fun pc => Nat.beq pc 7) (fun pc loc st S2 => ∃ k, iX2_keep a la S k pc loc st S2) 50 0 [some (.inr (.inl (some a))), some (.inl la), none] [] S := by
  obtain ⟨rfl, m, hm, e4⟩ := hp
  exact Exists.intro m ⟨m, 0, _, rfl, rfl, rfl, hm, e4, rfl, Nat.zero_le _, ip_sI_same, fun x hx => absurd hx (Nat.not_lt_zero _), ip_fPl.rf.sI (Or.inl ⟨rfl, by decide⟩) _, ip_sIP (by decide), ip_sIP (by decide), rfl⟩
theorem ctX2_keep (l : Launch) : ip_CT l yX2_keep wsX2_keep rmX2_keep ip_Sta (preX2_keep) (postX2_keep) := by
  refine ip_of (cc := cX2_keep) (maxL := 3) (ret := none) (by decide +kernel) rfl (fun _ => (0, 0)) rfl ?_ ?_
  · intro as S h
    obtain ⟨a, la, rfl, hq⟩ := ip_e_ri h
    exact ⟨Nat.le_of_ble_eq_true rfl, by simp⟩
  intro p e s m args below meth c D cA A ad0 as S h hI hx hb hml hown hts hr hlocks hname hA hNx
  obtain ⟨a, la, rfl, hq⟩ := ip_e_ri h
  have ht := tX2_keep (D := D) (cA := cA) (A := A) (ad0 := ad0) (l := l) (e := e) (below := below) (S0 := S) (po := postX2_keep [.inr (.inl (some a)), .inl la] S) hx hb hml hown hts hr hlocks hname hA hNx
  refine ip_run_ok ht (fun pc loc st S2 hh => ?_) 50 0 _ _ S (vX2_keep a la S hI hq)
  obtain ⟨k, hk⟩ := hh
  exact ip_loop ht (iX2_keep a la S) (lpX2_keep a la S hI hq) k pc loc st S2 hk

def preX2_numberAt : List ip_V → ip_S → Prop := ip_h_ri (fun _ => False) (fun a i S => a = 8 ∧ ∃ m, m ≤ 5 ∧ S.1 8 4 = nI m)
def postX2_numberAt : List ip_V → ip_S → List ip_V → ip_S → Prop := ip_h_ri (fun _ _ _ => True) (fun a i S r S' => r = [.inl (if 0 ≤ i ∧ i ≤ S.1 8 4 - 1 then S.1 12 i.toNatClampNeg else -900)] ∧ S' = S)
theorem shX2_numberAt : ∀ as S, ip_Sta S → preX2_numberAt as S → ∃ (b : Nat) (as' : List ip_V), as = .inr (.inl (some b)) :: as' ∧ as'.length = 1 ∧ (S.2.2.2 b).1 = 2 := by
  intro as S hI h
  obtain ⟨a, i, rfl, hq⟩ := ip_e_ri h
  exact ⟨_, _, rfl, rfl, by rw [hq.1, hI.1 8 (by decide)]; rfl⟩
def rmX2_numberAt : Room := { frames := 2, cells := 0, slots := 0, locals := 80 }
def pX2_numberAt (po : List ip_V → ip_S → Prop) : List (Nat × ip_T) := [(0, ip_t_il 1 1), (1, ip_t_ci 0 2), (2, ip_t_ar 0 3), (3, ip_t_gI0 8 4 6), (6, ip_t_ci 1 7), (7, ip_t_isub 8), (8, ip_t_call 3 preX4_within postX4_within 11), (11, ip_t_ifeq 23 14), (14, ip_t_ar 0 15), (15, ip_t_gR0 8 12 18), (18, ip_t_il 1 19), (19, ip_t_ld 6 20), (20, ip_t_go 26), (23, ip_t_ci (-900) 26), (26, ip_t_iret po)]
set_option maxRecDepth 100000 in
set_option maxHeartbeats 4000000 in
theorem tX2_numberAt {p : Program} {l : Launch} {e : Env} {s : State} {m : MethodId} {args : Array Value} {below : List Frame} {meth : Method} {c : Code} {D : va_G} {cA : Nat → ClassId} {A : Nat → Prop} {ad0 : Nat → Nat} {S0 : ip_S} {po : List ip_V → ip_S → Prop} (hx : p.tables.exec = Jvm.exec) (hb : c.code = cX2_numberAt) (hml : c.maxLocals = 2) (hown : s.vm.findClass RX2 = some m.cls) (hts : ∀ w ∈ wsX2_numberAt, w.before args s = true) (hr : meth.sig.returnType = (some .int)) (hlocks : meth.locks = false) (hname : meth.name = yX2_numberAt.name) (hA : ∀ q, s.heap.size ≤ q → A q) (hNx : ip_Nx s) : ∀ q ∈ pX2_numberAt po, ip_snd p l e rmX2_numberAt s m args below meth c D cA A (MQ below (ip_Q ip_Sta D cA ad0 S0 A po) args s 0 0 A) 2 (fun _ => (0, 0)) ip_Sta ad0 S0 q.1 q.2 := by
  have hIs : ∀ S, ip_Sta S → ip_Sta S := fun _ h => h
  have hIn := ip_In_Sta
  have hS9 : CallFix p m c cX2_numberAt 2 s args wsX2_numberAt RX2 := ⟨hx, hb, hml, hown, hts⟩
  have hin2 : ∀ w ∈ u_ws RX2 TX2 6, w ∈ wsX2_numberAt := by decide +kernel
  refine List.forall_mem_cons.mpr ⟨ip_s_iload_n hx hb dX2_numberAt_0 rfl rfl, ?_⟩
  refine List.forall_mem_cons.mpr ⟨ip_s_iconst hx hb dX2_numberAt_1 rfl rfl, ?_⟩
  refine List.forall_mem_cons.mpr ⟨ip_s_aload_n hx hb dX2_numberAt_2 rfl rfl, ?_⟩
  refine List.forall_mem_cons.mpr ⟨ip_s_gI0 hx hb hts hin2 hown rfl (by decide) 4 (by decide) (hts (.fieldLink RX2 28 "IcePads$Planner" "size" "I") (by decide +kernel)) (fun _ h9 => h9) hIs 8 rfl rfl dX2_numberAt_3 rfl, ?_⟩
  refine List.forall_mem_cons.mpr ⟨ip_s_iconst hx hb dX2_numberAt_6 rfl rfl, ?_⟩
  refine List.forall_mem_cons.mpr ⟨ip_s_isub hx hb dX2_numberAt_7 rfl, ?_⟩
  refine List.forall_mem_cons.mpr ⟨ip_s_callSN hNx hS9 (ctX4_within l) ⟨va_cnB 3 hts gX2_numberAt_X4_within_n46 rfl rfl rfl hNx.2.2.1 (hts (.initialized RX4) (by decide +kernel)) (by decide +kernel) ⟨Nat.le_of_ble_eq_true rfl, Nat.le_of_ble_eq_true rfl⟩, hts (.static yX4_within) (by decide +kernel), trivial⟩ (fun as S hI h => shsX4_within as S hI h) hA dX2_numberAt_8 ⟨Nat.le_of_ble_eq_true rfl, Nat.le_of_ble_eq_true rfl⟩ rfl, ?_⟩
  refine List.forall_mem_cons.mpr ⟨ip_s_ifeq (t := 23) hx hb dX2_numberAt_11 (by decide) rfl rfl, ?_⟩
  refine List.forall_mem_cons.mpr ⟨ip_s_aload_n hx hb dX2_numberAt_14 rfl rfl, ?_⟩
  refine List.forall_mem_cons.mpr ⟨ip_s_gR0 hx hb hts hin2 hown rfl (by decide) 3 (by decide) (hts (.fieldLink RX2 25 "IcePads$Planner" "best" "[I") (by decide +kernel)) (fun _ h9 => h9) hIs 8 12 rfl (by decide) rfl dX2_numberAt_15 rfl, ?_⟩
  refine List.forall_mem_cons.mpr ⟨ip_s_iload_n hx hb dX2_numberAt_18 rfl rfl, ?_⟩
  refine List.forall_mem_cons.mpr ⟨ip_s_ldi hx hb hIs dX2_numberAt_19 rfl, ?_⟩
  refine List.forall_mem_cons.mpr ⟨ip_s_go (t := 26) hx hb dX2_numberAt_20 (by decide) (Nat.le_of_ble_eq_true rfl) (Nat.le_of_ble_eq_true rfl), ?_⟩
  refine List.forall_mem_cons.mpr ⟨ip_s_sipush hx hb dX2_numberAt_23 rfl rfl, ?_⟩
  refine List.forall_mem_cons.mpr ⟨ip_s_iret hx hb hr hlocks (Nat.le_of_ble_eq_true rfl) (Nat.le_of_ble_eq_true rfl) dX2_numberAt_26, ?_⟩
  exact fun _ h => absurd h List.not_mem_nil
set_option maxRecDepth 100000 in
set_option maxHeartbeats 4000000 in
theorem vX2_numberAt (a : Nat) (i : Int32) (S : ip_S) (hS : ip_Sta S) (hp : a = 8 ∧ ∃ m, m ≤ 5 ∧ S.1 8 4 = nI m) : ip_run (pX2_numberAt (postX2_numberAt [.inr (.inl (some a)), .inl i] S)) (fun _ => false) (fun _ _ _ _ => False) 40 0 [some (.inr (.inl (some a))), some (.inl i)] [] S := by
  obtain ⟨rfl, m, hm, e4⟩ := hp
  refine And.intro trivial ?_
  rintro r S' ⟨rfl, rfl⟩
  refine And.intro (fun q => ?_) (fun q => ?_)
  · refine And.intro ?_ rfl
    rw [if_neg (ip_if0 q)]
  · have q := ip_if1 q
    have q' := q
    rw [e4, ip_leI, ip_leI] at q'
    have b0 : (0 : Int32).toInt = 0 := rfl
    have b1 : (1 : Int32).toInt = 1 := rfl
    rw [ip_subI (by rw [nI_toInt (by omega), b1]; omega) (by rw [nI_toInt (by omega), b1]; omega), nI_toInt (by omega), b0, b1] at q'
    obtain ⟨x, rfl, hx0, hx4⟩ := ip_small (by omega) q'
    obtain ⟨in1, c1⟩ := ip_inN (i := x) (n := 5) (N := 5) (by omega) (by decide) (by decide)
    refine And.intro in1 (And.intro ?_ rfl)
    rw [if_pos q]
theorem ctX2_numberAt (l : Launch) : ip_CT l yX2_numberAt wsX2_numberAt rmX2_numberAt ip_Sta (preX2_numberAt) (postX2_numberAt) := by
  refine ip_of (cc := cX2_numberAt) (maxL := 2) (ret := (some .int)) (by decide +kernel) rfl (fun _ => (0, 0)) rfl ?_ ?_
  · intro as S h
    obtain ⟨a, i, rfl, hq⟩ := ip_e_ri h
    exact ⟨Nat.le_of_ble_eq_true rfl, by simp⟩
  intro p e s m args below meth c D cA A ad0 as S h hI hx hb hml hown hts hr hlocks hname hA hNx
  obtain ⟨a, i, rfl, hq⟩ := ip_e_ri h
  refine ip_run_ok (stop := fun _ => false) (tX2_numberAt hx hb hml hown hts hr hlocks hname hA hNx) (fun _ _ _ _ h => False.elim h) 40 0 _ _ S ?_
  exact vX2_numberAt a i S hI hq
