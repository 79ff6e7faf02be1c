theorem ip_may_rng {M : ip_M} {nf nj np b : Nat} (hv : ip_vv M nf nj np) (hb : b < nj) (hm : g_may M b) : (M 68 b).toInt ≤ (M 50 0).toInt ∧ (M 50 13 + 8 * M 66 b).toInt = (M 50 13).toInt + 8 * (M 66 b).toInt ∧ (M 50 13).toInt + 8 * (M 66 b).toInt ≤ 1000 := by
  obtain ⟨-, h2, -, h4⟩ := hm
  have c1 := (hv.2.2.2.2.1 b hb).1
  obtain ⟨-, w2, -, w4⟩ := hv.2.2.1
  have h8 : (8 : Int32).toInt = 8 := rfl
  have e8 : ((8 : Int32) * M 66 b).toInt = 8 * (M 66 b).toInt := by rw [ip_mulI (by rw [h8]; omega) (by rw [h8]; omega), h8]
  have es : (M 50 13 + 8 * M 66 b).toInt = (M 50 13).toInt + 8 * (M 66 b).toInt := by rw [ip_addI (by rw [e8]; omega) (by rw [e8]; omega), e8]
  rw [ip_leI] at h2 h4
  rw [es] at h4
  exact ⟨h2, es, by omega⟩
theorem ip_vv_bg {M : ip_M} {nf nj np p : Nat} (hv : ip_vv M nf nj np) (hp : p < np) : ip_vv (g_bg1 M p) nf nj np := by
  rcases ip_bg_case (p := p) hv with h | ⟨b, hb, hm, h0, -, h⟩
  · rw [h]; exact hv
  rw [h]
  have hm1 := ip_may_rng hv hb hm
  obtain ⟨fl, hfl, hfl1⟩ := (hv.2.2.2.2.1 b hb).2.2.2.2.1
  have hgr := g_hold_rng (n := (M 50 0).toNatClampNeg) hv hfl
  have hcf : (M 70 b).toNatClampNeg = fl := by rw [hfl1]; exact nI_clamp (by have := hv.1.2.1; omega)
  rw [← hcf] at hgr
  obtain ⟨v1, v2, v3, v4, v5, v6⟩ := hv
  obtain ⟨f, g, g13, g64, g71, g72, g73⟩ := g_bgM_f (M := M) (p := p) (b := b)
  have hb0 := hm.1
  have hp3 : p < 3 := Nat.lt_of_lt_of_le hp v1.2.2.2.2.2.2
  have hnj := v1.2.2.2.1
  have F : ∀ q, q = 51 ∨ q = 52 ∨ q = 53 ∨ q = 55 ∨ q = 56 ∨ q = 57 ∨ q = 58 ∨ q = 66 ∨ q = 67 ∨ q = 68 ∨ q = 69 ∨ q = 70 ∨ q = 75 → g_bgM M p b q = M q := fun q hq => f q (by omega) (by omega) (by omega) (by omega) (by omega) (by omega)
  refine ⟨?_, ip_vw_c (F 51 (by omega)) (F 52 (by omega)) (F 53 (by omega)) v2, ?_, ip_vf_c (F 55 (by omega)) (F 56 (by omega)) (F 57 (by omega)) (F 58 (by omega)) v4, ?_, ?_⟩
  · unfold ip_vn
    rw [g 4 (by decide) (by decide), g 15 (by decide) (by decide), g 10 (by decide) (by decide)]
    exact v1
  · unfold ip_vs
    rw [g 0 (by decide) (by decide), g 11 (by decide) (by decide), g 12 (by decide) (by decide), g13, hm1.2.1]
    obtain ⟨w1, w2, w3, w4⟩ := v3
    have c1 := (v5 b hb).1
    exact ⟨w1, w2, w3, by omega, hm1.2.2⟩
  · intro i hi
    obtain ⟨c1, c2, c3, c4, c5, c6, c7, c8⟩ := v5 i hi
    rw [F 66 (by omega), F 67 (by omega), F 68 (by omega), F 69 (by omega), F 70 (by omega), F 75 (by omega), g 0 (by decide) (by decide), g71, g72, g73]
    by_cases hib : i = b
    · subst hib
      rw [if_pos rfl, if_pos rfl, if_pos rfl]
      refine ⟨c1, c2, c3, c4, c5, Or.inr (Or.inl rfl), fun _ => ⟨v3.1, by omega, hm1.1, hgr⟩, fun z => absurd z (by decide), fun z => absurd (c8.mpr z) (by rw [hb0]; decide)⟩
    · rw [if_neg hib, if_neg hib, if_neg hib]
      exact ⟨c1, c2, c3, c4, c5, c6, c7, c8⟩
  · obtain ⟨a1, a2, a3⟩ := v6
    have hno : ∀ q, q < 3 → ∀ i, i < nj → M 64 q = nI (i + 1) → i ≠ b := by
      intro q hq i hi hqi e
      subst e
      rcases a1 q hq with z | ⟨-, i', y1, y2, y3⟩
      · rw [z] at hqi
        exact absurd hqi.symm (nI_ne0 (by omega) (by omega))
      · have := ip_nI_inj (a := i' + 1) (b := i + 1) (by omega) (by omega) (y2.symm.trans hqi)
        have : i' = i := by omega
        subst this
        rw [hb0] at y3
        exact absurd y3 (by decide)
    refine ⟨fun q hq => ?_, fun i hi hi1 => ?_, fun q q' hq hq' he hne => ?_⟩
    · rw [g64]
      by_cases hqp : q = p
      · subst hqp
        refine Or.inr ⟨hp, b, hb, by rw [if_pos rfl], by rw [g71, if_pos rfl]⟩
      · rw [if_neg hqp]
        rcases a1 q hq with z | ⟨y0, i, y1, y2, y3⟩
        · exact Or.inl z
        · exact Or.inr ⟨y0, i, y1, y2, by rw [g71, if_neg (hno q hq i y1 y2)]; exact y3⟩
    · rw [g71] at hi1
      by_cases hib : i = b
      · subst hib
        exact ⟨p, hp, by rw [g64, if_pos rfl]⟩
      · rw [if_neg hib] at hi1
        obtain ⟨q, hq, hq1⟩ := a2 i hi hi1
        refine ⟨q, hq, ?_⟩
        rw [g64, if_neg]
        · exact hq1
        · intro e
          subst e
          rw [h0] at hq1
          exact absurd hq1.symm (nI_ne0 (by omega) (by omega))
    · have hx : ∀ r, r < 3 → r ≠ p → nI (b + 1) = M 64 r → False := by
        intro r hr hrp e
        rcases a1 r hr with z | ⟨-, i, y1, y2, y3⟩
        · rw [z] at e
          exact absurd e (nI_ne0 (by omega) (by omega))
        · have := ip_nI_inj (a := b + 1) (b := i + 1) (by omega) (by omega) (e.trans y2)
          exact hno r hr i y1 y2 (by omega)
      rw [g64] at hne
      rw [g64, g64] at he
      by_cases h1 : q = p
      · by_cases h2 : q' = p
        · rw [h1, h2]
        · rw [if_pos h1, if_neg h2] at he
          exact (hx q' hq' h2 he).elim
      · by_cases h2 : q' = p
        · rw [if_neg h1, if_pos h2] at he
          exact (hx q hq h1 he.symm).elim
        · rw [if_neg h1, if_neg h2] at he
          rw [if_neg h1] at hne
          exact a3 q q' hq hq' he hne
theorem ip_Lt_bg {M : ip_M} {nf nj np p n : Nat} (hv : ip_vv M nf nj np) (h : ip_Lt M n) : ip_Lt (g_bg1 M p) n := by
  rcases ip_bg_case (p := p) hv with e | ⟨b, hb, hm, h0, -, e⟩
  · rw [e]; exact h
  rw [e]
  obtain ⟨f, g, g13, g64, g71, g72, g73⟩ := g_bgM_f (M := M) (p := p) (b := b)
  have c1 := (hv.2.2.2.2.1 b hb).1
  have hnj := hv.1.2.2.2.1
  intro q hq hq3 j hj hqj
  rw [g64] at hqj
  rw [g 0 (by decide) (by decide), g72, f 66 (by decide) (by decide) (by decide) (by decide) (by decide) (by decide)]
  by_cases hqp : q = p
  · rw [if_pos hqp] at hqj
    have := ip_nI_inj (a := b + 1) (b := j + 1) (by omega) (by omega) hqj
    have hjb : j = b := by omega
    subst hjb
    rw [if_pos rfl]
    omega
  · rw [if_neg hqp] at hqj
    have hjb : j ≠ b := by
      intro e2
      subst e2
      rcases ip_vp_at hv hq3 with z | ⟨i, y0, y1, -, y2, y3⟩
      · rw [z] at hqj
        exact absurd hqj.symm (nI_ne0 (by omega) (by omega))
      · have := ip_nI_inj (a := i + 1) (b := j + 1) (by omega) (by omega) (y2.symm.trans hqj)
        have : i = j := by omega
        subst this
        rw [hm.1] at y3
        exact absurd y3 (by decide)
    rw [if_neg hjb]
    exact h q hq hq3 j hj hqj
theorem ip_vv_now {M : ip_M} {nf nj np : Nat} (hv : ip_vv M nf nj np) (h : ip_Lt M np) (hn : (M 50 0).toInt ≤ 298) : ip_vv (ip_u M 50 0 (M 50 0 + 1)) nf nj np := by
  obtain ⟨v1, v2, v3, v4, v5, v6⟩ := hv
  have f : ∀ q, q ≠ 50 → ip_u M 50 0 (M 50 0 + 1) q = M q := fun q a => ip_u_P a
  have g : ∀ k, k ≠ 0 → ip_u M 50 0 (M 50 0 + 1) 50 k = M 50 k := fun k a => ip_u_k a
  have h1 : (1 : Int32).toInt = 1 := rfl
  have hn0 := v3.1
  have e0 : (M 50 0 + 1).toInt = (M 50 0).toInt + 1 := by rw [ip_addI (by rw [h1]; omega) (by rw [h1]; omega), h1]
  refine ⟨?_, ip_vw_c (f 51 (by decide)) (f 52 (by decide)) (f 53 (by decide)) v2, ?_, ip_vf_c (f 55 (by decide)) (f 56 (by decide)) (f 57 (by decide)) (f 58 (by decide)) v4, ?_, ?_⟩
  · unfold ip_vn
    rw [g 4 (by decide), g 15 (by decide), g 10 (by decide)]
    exact v1
  · unfold ip_vs
    rw [g 13 (by decide), g 11 (by decide), g 12 (by decide), ip_u_same, e0]
    exact ⟨⟨by omega, by omega⟩, v3.2⟩
  · intro i hi
    obtain ⟨c1, c2, c3, c4, c5, c6, c7, c8⟩ := v5 i hi
    rw [f 66 (by decide), f 67 (by decide), f 68 (by decide), f 69 (by decide), f 70 (by decide), f 71 (by decide), f 72 (by decide), f 73 (by decide), f 75 (by decide), ip_u_same, e0]
    refine ⟨c1, c2, c3, c4, c5, c6, fun z => ?_, c8⟩
    obtain ⟨d1, d2, d3, d4⟩ := c7 z
    obtain ⟨p, hp, hp1⟩ := v6.2.1 i hi z
    have := h p hp (by have := v1.2.2.2.2.2.2; omega) i (by have := v1.2.2.2.1; omega) hp1
    exact ⟨d1, this, by omega, d4⟩
  · unfold ip_vp at v6 ⊢
    rw [f 64 (by decide), f 71 (by decide)]
    exact v6
def g_lvs (M : ip_M) : Nat → ip_M
  | 0 => M
  | p + 1 => g_lv1 (g_lvs M p) p
def g_bgs (M : ip_M) : Nat → ip_M
  | 0 => M
  | p + 1 => g_bg1 (g_bgs M p) p
def g_mid (M : ip_M) : ip_M := g_bgs (g_lvs (g_dr M) (M 50 10).toNatClampNeg) (M 50 10).toNatClampNeg
def g_min (M : ip_M) : ip_M := ip_u (g_mid M) 50 0 (g_mid M 50 0 + 1)
def g_mins (M : ip_M) : Nat → ip_M
  | 0 => M
  | n + 1 => g_min (g_mins M n)
theorem g_lv1_50 {M : ip_M} {p : Nat} : g_lv1 M p 50 = M 50 := by
  unfold g_lv1
  split
  · rfl
  · split
    · split
      · rw [ip_u_P (by decide), ip_u_P (by decide), ip_u_P (by decide)]
      · rw [ip_u_P (by decide), ip_u_P (by decide), ip_u_P (by decide), ip_u_P (by decide)]
    · rfl
theorem ip_lvs {M : ip_M} {nf nj np : Nat} (hv : ip_vv M nf nj np) : ∀ p, p ≤ 3 → ip_vv (g_lvs M p) nf nj np ∧ ip_Lt (g_lvs M p) p ∧ g_lvs M p 50 = M 50
  | 0, _ => ⟨hv, fun p hp => absurd hp (by omega), rfl⟩
  | p + 1, h => by
    obtain ⟨h1, h2, h3⟩ := ip_lvs hv p (by omega)
    exact ⟨ip_vv_lv h1 (by omega), ip_Lt_lv h1 (by omega) h2, g_lv1_50.trans h3⟩
theorem g_bg1_50 {M : ip_M} {p k : Nat} (h : k ≠ 13) (h2 : k ≠ 26) : g_bg1 M p 50 k = M 50 k := by
  unfold g_bg1
  split
  · cases g_pick M (M 50 15).toNatClampNeg with
    | none => rfl
    | some b => exact (g_bgM_f (M := M) (p := p) (b := b)).2.1 k h h2
  · rfl
theorem ip_bgs {M : ip_M} {nf nj np : Nat} (hv : ip_vv M nf nj np) (hL : ip_Lt M np) : ∀ p, p ≤ np → ip_vv (g_bgs M p) nf nj np ∧ ip_Lt (g_bgs M p) np ∧ ∀ k, k ≠ 13 → k ≠ 26 → g_bgs M p 50 k = M 50 k
  | 0, _ => ⟨hv, hL, fun _ _ _ => rfl⟩
  | p + 1, h => by
    obtain ⟨h1, h2, h3⟩ := ip_bgs hv hL p (by omega)
    exact ⟨ip_vv_bg h1 (by omega), ip_Lt_bg h1 h2, fun k a b => (g_bg1_50 a b).trans (h3 k a b)⟩
theorem ip_vv_np {M : ip_M} {nf nj np : Nat} (hv : ip_vv M nf nj np) : (M 50 10).toNatClampNeg = np := by rw [hv.1.2.2.2.2.1]; exact nI_clamp (by have := hv.1.2.2.2.2.2.2; omega)
theorem ip_vv_nj {M : ip_M} {nf nj np : Nat} (hv : ip_vv M nf nj np) : (M 50 15).toNatClampNeg = nj := by rw [hv.1.2.2.1]; exact nI_clamp (by have := hv.1.2.2.2.1; omega)
theorem ip_mid {M : ip_M} {nf nj np : Nat} (hv : ip_vv M nf nj np) : ip_vv (g_mid M) nf nj np ∧ ip_Lt (g_mid M) np ∧ g_mid M 50 0 = M 50 0 := by
  have h3 := hv.1.2.2.2.2.2.2
  unfold g_mid
  rw [ip_vv_np hv]
  obtain ⟨a1, a2, a3⟩ := ip_lvs (ip_vv_dr hv) np h3
  obtain ⟨b1, b2, b3⟩ := ip_bgs a1 a2 np (Nat.le_refl _)
  refine ⟨b1, b2, ?_⟩
  rw [b3 0 (by decide) (by decide), a3]
  exact ip_u_k (by decide)
theorem ip_vv_min {M : ip_M} {nf nj np : Nat} (hv : ip_vv M nf nj np) (hn : (M 50 0).toInt ≤ 298) : ip_vv (g_min M) nf nj np ∧ (g_min M 50 0).toInt = (M 50 0).toInt + 1 := by
  obtain ⟨h1, h2, h3⟩ := ip_mid hv
  have h1i : (1 : Int32).toInt = 1 := rfl
  have hn0 := hv.2.2.1.1
  refine ⟨ip_vv_now h1 h2 (by rw [h3]; exact hn), ?_⟩
  unfold g_min
  rw [ip_u_same, h3, ip_addI (by rw [h1i]; omega) (by rw [h1i]; omega), h1i]
theorem ip_vv_mins {M : ip_M} {nf nj np : Nat} (hv : ip_vv M nf nj np) : ∀ n : Nat, (M 50 0).toInt + n ≤ 299 → ip_vv (g_mins M n) nf nj np ∧ (g_mins M n 50 0).toInt = (M 50 0).toInt + n
  | 0, _ => ⟨hv, by simp [g_mins]⟩
  | n + 1, h => by
    obtain ⟨h1, h2⟩ := ip_vv_mins hv n (by omega)
    obtain ⟨h3, h4⟩ := ip_vv_min h1 (by omega)
    exact ⟨h3, by rw [g_mins, h4, h2]; omega⟩
