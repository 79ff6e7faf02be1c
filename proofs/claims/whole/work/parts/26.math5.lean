/-! the picture stays valid through a minute -/
theorem ip_vn_c {M M' : ip_M} {nf nj np : Nat} (h : M' 50 = M 50) (hv : ip_vn M nf nj np) : ip_vn M' nf nj np := by unfold ip_vn at hv ⊢; rw [h]; exact hv
theorem ip_vs_c {M M' : ip_M} (h : M' 50 = M 50) (hv : ip_vs M) : ip_vs M' := by unfold ip_vs at hv ⊢; rw [h]; exact hv
theorem ip_vw_c {M M' : ip_M} (h1 : M' 51 = M 51) (h2 : M' 52 = M 52) (h3 : M' 53 = M 53) (hv : ip_vw M) : ip_vw M' := by unfold ip_vw at hv ⊢; rw [h1, h2, h3]; exact hv
theorem ip_vf_c {M M' : ip_M} {nf : Nat} (h1 : M' 55 = M 55) (h2 : M' 56 = M 56) (h3 : M' 57 = M 57) (h4 : M' 58 = M 58) (hv : ip_vf M nf) : ip_vf M' nf := by unfold ip_vf at hv ⊢; rw [h1, h2, h3, h4]; exact hv
theorem ip_int_rng {a b : Int32} {x y : Int} (ha : 0 ≤ a.toInt ∧ a.toInt ≤ 299) (hb : 1 ≤ b.toInt ∧ b.toInt ≤ 20) : (a + b).toInt = a.toInt + b.toInt := ip_addI (by omega) (by omega)
theorem ip_not900 {a : Int32} (h : 0 ≤ a.toInt) : ¬ a = -900 := by
  intro e
  rw [e] at h
  exact absurd h (by decide)
theorem ip_lv_case {M : ip_M} {nf nj np p : Nat} (hv : ip_vv M nf nj np) (hp : p < 3) : g_lv1 M p = M ∨ ∃ j, j < nj ∧ M 64 p = nI (j + 1) ∧ M 71 j = 1 ∧ M 72 j + 2 * M 66 j = M 50 0 ∧ (g_lv1 M p = ip_u (ip_u (ip_u M 64 p 0) 71 j 2) 75 j (M 50 0 + M 69 j) ∨ g_lv1 M p = ip_u (ip_u (ip_u (ip_u M 64 p 0) 71 j 0) 68 j (M 50 0 + M 69 j)) 74 j (M 74 j + 1)) := by
  rcases ip_vp_at hv hp with h | ⟨j, h12, hj, -, h1, h2⟩
  · exact Or.inl (g_lv1_0 h)
  · by_cases ht : M 72 j + 2 * M 66 j = M 50 0
    · refine Or.inr ⟨j, hj, h1, h2, ht, ?_⟩
      rw [g_lv1_j h1 h12, if_pos ht]
      split
      · exact Or.inl rfl
      · exact Or.inr rfl
    · left
      rw [g_lv1_j h1 h12, if_neg ht]
theorem ip_nI_inj {a b : Nat} (ha : a < 100) (hb : b < 100) (h : nI a = nI b) : a = b := (nI_eq (by omega) (by omega)).mp h
/-- a pad is left: what the pads say -/
theorem ip_vp_out {M M' : ip_M} {nj np p j : Nat} {v : Int32} (hnj : nj ≤ 12) (hv : ip_vp M nj np) (hp : p < 3) (h64 : M' 64 = ip_u M 64 p 0 64) (h71 : M' 71 = ip_u M 71 j v 71) (hj : j < nj) (hpj : M 64 p = nI (j + 1)) (hv1 : ¬ v = 1) : ip_vp M' nj np := by
  obtain ⟨a1, a2, a3⟩ := hv
  have e64 : ∀ q, M' 64 q = if q = p then 0 else M 64 q := by
    intro q
    rw [h64]
    by_cases hq : q = p
    · subst hq; rw [ip_u_same, if_pos rfl]
    · rw [ip_u_k hq, if_neg hq]
  have e71 : ∀ i, M' 71 i = if i = j then v else M 71 i := by
    intro i
    rw [h71]
    by_cases hq : i = j
    · subst hq; rw [ip_u_same, if_pos rfl]
    · rw [ip_u_k hq, if_neg hq]
  refine ⟨fun q hq => ?_, fun i hi h1 => ?_, fun q q' hq hq' he hne => ?_⟩
  · rw [e64]
    by_cases hqp : q = p
    · left; rw [if_pos hqp]
    · rw [if_neg hqp]
      rcases a1 q hq with h | ⟨b1, i, b2, b3, b4⟩
      · exact Or.inl h
      · refine Or.inr ⟨b1, i, b2, b3, ?_⟩
        rw [e71, if_neg]
        · exact b4
        · intro e
          subst e
          exact hqp (a3 q p hq hp (by rw [b3, hpj]) (by rw [b3]; exact nI_ne0 (by omega) (by omega)))
  · rw [e71] at h1
    by_cases hij : i = j
    · rw [if_pos hij] at h1; exact absurd h1 hv1
    · rw [if_neg hij] at h1
      obtain ⟨q, hq, hq2⟩ := a2 i hi h1
      refine ⟨q, hq, ?_⟩
      rw [e64, if_neg]
      · exact hq2
      · intro e
        subst e
        rw [hpj] at hq2
        have := ip_nI_inj (by omega) (by omega) hq2
        omega
  · rw [e64] at hne
    rw [e64, e64] at he
    by_cases hqp : q = p
    · rw [if_pos hqp] at hne; exact absurd rfl hne
    · rw [if_neg hqp] at hne he
      by_cases hqp' : q' = p
      · rw [if_pos hqp'] at he; exact absurd he hne
      · rw [if_neg hqp'] at he
        exact a3 q q' hq hq' he hne
theorem ip_vv_lv {M : ip_M} {nf nj np p : Nat} (hv : ip_vv M nf nj np) (hp : p < 3) : ip_vv (g_lv1 M p) nf nj np := by
  rcases ip_lv_case hv hp with h | ⟨j, hj, h64, h71, ht, h | h⟩
  · rw [h]; exact hv
  · rw [h]
    obtain ⟨v1, v2, v3, v4, v5, v6⟩ := hv
    have f : ∀ q, q ≠ 64 → q ≠ 71 → q ≠ 75 → ip_u (ip_u (ip_u M 64 p 0) 71 j 2) 75 j (M 50 0 + M 69 j) q = M q := fun q a b c => by rw [ip_u_P c, ip_u_P b, ip_u_P a]
    refine ⟨ip_vn_c (f 50 (by decide) (by decide) (by decide)) v1, ip_vw_c (f 51 (by decide) (by decide) (by decide)) (f 52 (by decide) (by decide) (by decide)) (f 53 (by decide) (by decide) (by decide)) v2, ip_vs_c (f 50 (by decide) (by decide) (by decide)) v3, ip_vf_c (f 55 (by decide) (by decide) (by decide)) (f 56 (by decide) (by decide) (by decide)) (f 57 (by decide) (by decide) (by decide)) (f 58 (by decide) (by decide) (by decide)) v4, ?_, ?_⟩
    · intro i hi
      obtain ⟨c1, c2, c3, c4, c5, c6, c7, c8⟩ := v5 i hi
      rw [f 66 (by decide) (by decide) (by decide), f 69 (by decide) (by decide) (by decide), f 67 (by decide) (by decide) (by decide), f 68 (by decide) (by decide) (by decide), f 70 (by decide) (by decide) (by decide), f 72 (by decide) (by decide) (by decide), f 73 (by decide) (by decide) (by decide), f 50 (by decide) (by decide) (by decide)]
      by_cases hij : i = j
      · subst hij
        have e71 : ip_u (ip_u (ip_u M 64 p 0) 71 i 2) 75 i (M 50 0 + M 69 i) 71 i = 2 := by rw [ip_u_p (by decide), ip_u_same]
        have e75 : ip_u (ip_u (ip_u M 64 p 0) 71 i 2) 75 i (M 50 0 + M 69 i) 75 i = M 50 0 + M 69 i := ip_u_same
        rw [e71, e75]
        refine ⟨c1, c2, c3, c4, c5, Or.inr (Or.inr rfl), fun h => absurd h (by decide), fun _ => ip_not900 ?_, fun _ => rfl⟩
        have hn := v3.1
        rw [ip_addI (by omega) (by omega)]
        omega
      · have e71 : ip_u (ip_u (ip_u M 64 p 0) 71 j 2) 75 j (M 50 0 + M 69 j) 71 i = M 71 i := by rw [ip_u_p (by decide), ip_u_k hij, ip_u_p (by decide)]
        have e75 : ip_u (ip_u (ip_u M 64 p 0) 71 j 2) 75 j (M 50 0 + M 69 j) 75 i = M 75 i := by rw [ip_u_k hij, ip_u_p (by decide), ip_u_p (by decide)]
        rw [e71, e75]
        exact ⟨c1, c2, c3, c4, c5, c6, c7, c8⟩
    · refine ip_vp_out (j := j) (v := 2) v1.2.2.2.1 v6 hp ?_ ?_ hj h64 (by decide)
      · rw [ip_u_P (by decide), ip_u_P (by decide)]
      · rw [ip_u_P (by decide)]
        funext i
        simp only [ip_u]
        by_cases hij : i = j <;> simp [hij]
  · rw [h]
    obtain ⟨v1, v2, v3, v4, v5, v6⟩ := hv
    have f : ∀ q, q ≠ 64 → q ≠ 71 → q ≠ 68 → q ≠ 74 → ip_u (ip_u (ip_u (ip_u M 64 p 0) 71 j 0) 68 j (M 50 0 + M 69 j)) 74 j (M 74 j + 1) q = M q := fun q a b c d => by rw [ip_u_P d, ip_u_P c, ip_u_P b, ip_u_P a]
    refine ⟨ip_vn_c (f 50 (by decide) (by decide) (by decide) (by decide)) v1, ip_vw_c (f 51 (by decide) (by decide) (by decide) (by decide)) (f 52 (by decide) (by decide) (by decide) (by decide)) (f 53 (by decide) (by decide) (by decide) (by decide)) v2, ip_vs_c (f 50 (by decide) (by decide) (by decide) (by decide)) v3, ip_vf_c (f 55 (by decide) (by decide) (by decide) (by decide)) (f 56 (by decide) (by decide) (by decide) (by decide)) (f 57 (by decide) (by decide) (by decide) (by decide)) (f 58 (by decide) (by decide) (by decide) (by decide)) v4, ?_, ?_⟩
    · intro i hi
      obtain ⟨c1, c2, c3, c4, c5, c6, c7, c8⟩ := v5 i hi
      rw [f 66 (by decide) (by decide) (by decide) (by decide), f 69 (by decide) (by decide) (by decide) (by decide), f 67 (by decide) (by decide) (by decide) (by decide), f 75 (by decide) (by decide) (by decide) (by decide), f 70 (by decide) (by decide) (by decide) (by decide), f 72 (by decide) (by decide) (by decide) (by decide), f 73 (by decide) (by decide) (by decide) (by decide), f 50 (by decide) (by decide) (by decide) (by decide)]
      by_cases hij : i = j
      · subst hij
        have e71 : ip_u (ip_u (ip_u (ip_u M 64 p 0) 71 i 0) 68 i (M 50 0 + M 69 i)) 74 i (M 74 i + 1) 71 i = 0 := by rw [ip_u_p (by decide), ip_u_p (by decide), ip_u_same]
        have e68 : ip_u (ip_u (ip_u (ip_u M 64 p 0) 71 i 0) 68 i (M 50 0 + M 69 i)) 74 i (M 74 i + 1) 68 i = M 50 0 + M 69 i := by rw [ip_u_p (by decide), ip_u_same]
        rw [e71, e68]
        have hn := v3.1
        obtain ⟨d1, d2, d3, d4⟩ := c7 h71
        refine ⟨c1, c2, c3, ?_, c5, Or.inl rfl, fun h => absurd h (by decide), fun h => absurd h (by decide), fun h => absurd (c8.mpr h) (by rw [h71]; decide)⟩
        rw [ip_addI (by omega) (by omega)]
        omega
      · have e71 : ip_u (ip_u (ip_u (ip_u M 64 p 0) 71 j 0) 68 j (M 50 0 + M 69 j)) 74 j (M 74 j + 1) 71 i = M 71 i := by rw [ip_u_p (by decide), ip_u_p (by decide), ip_u_k hij, ip_u_p (by decide)]
        have e68 : ip_u (ip_u (ip_u (ip_u M 64 p 0) 71 j 0) 68 j (M 50 0 + M 69 j)) 74 j (M 74 j + 1) 68 i = M 68 i := by rw [ip_u_p (by decide), ip_u_k hij, ip_u_p (by decide), ip_u_p (by decide)]
        rw [e71, e68]
        exact ⟨c1, c2, c3, c4, c5, c6, c7, c8⟩
    · refine ip_vp_out (j := j) (v := 0) v1.2.2.2.1 v6 hp ?_ ?_ hj h64 (by decide)
      · rw [ip_u_P (by decide), ip_u_P (by decide), ip_u_P (by decide)]
      · rw [ip_u_P (by decide), ip_u_P (by decide)]
        funext i
        simp only [ip_u]
        by_cases hij : i = j <;> simp [hij]
