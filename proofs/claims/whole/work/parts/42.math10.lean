/-! a pad is left -/
theorem ip_cJ_out {M M' : ip_M} {S S' : ip_S} {nj np p j : Nat} (hn12 : nj ≤ 12) (hJ : ip_cJ M S nj np) (hj : j < nj) (hpj : M 64 p = nI (j + 1)) (e64 : ∀ q, q ≠ p → M' 64 q = M 64 q)
    (eM : ∀ q, 66 ≤ q → q ≤ 75 → ∀ i, i ≠ j → M' q i = M q i) (eS : ∀ q, q ≠ 30 + j → S'.1 q = S.1 q) (eR : ∀ q, q ≠ 7 → S'.2.1 q = S.2.1 q) (eK : S'.2.2.2 = S.2.2.2)
    (hme : S'.1 (30 + j) 0 = nI j ∧ S'.1 (30 + j) 1 = M' 67 j ∧ M' 70 j = M 70 j ∧ S'.1 (30 + j) 3 = M' 66 j ∧ S'.1 (30 + j) 4 = M' 69 j ∧ S'.1 (30 + j) 5 = M' 68 j ∧ S'.1 (30 + j) 7 = M' 72 j ∧ S'.1 (30 + j) 8 = M' 75 j ∧ S'.1 (30 + j) 9 = M' 74 j ∧ ¬ M' 71 j = 1 ∧ S'.1 (30 + j) 6 = -900) : ip_cJ M' S' nj np := by
  refine ⟨fun i hi => ?_, fun i h1 h2 => ?_⟩
  · obtain ⟨j1, j2, j3, j4, j5, j6, j7, j8, j9, j10, j11, j12, j13⟩ := hJ.1 i hi
    rw [eR 6 (by decide), eR (30 + i) (by omega), eK]
    by_cases hij : i = j
    · subst hij
      obtain ⟨m1, m2, m3, m4, m5, m6, m7, m8, m9, m10, m11⟩ := hme
      rw [m3]
      exact ⟨j1, j2, m1, m2, j5, m4, m5, m6, m7, m8, m9, fun z => absurd z m10, fun _ => m11⟩
    · rw [eS (30 + i) (by omega), eM 66 (by decide) (by decide) i hij, eM 67 (by decide) (by decide) i hij, eM 68 (by decide) (by decide) i hij, eM 69 (by decide) (by decide) i hij, eM 70 (by decide) (by decide) i hij, eM 71 (by decide) (by decide) i hij, eM 72 (by decide) (by decide) i hij, eM 73 (by decide) (by decide) i hij, eM 74 (by decide) (by decide) i hij, eM 75 (by decide) (by decide) i hij]
      refine ⟨j1, j2, j3, j4, j5, j6, j7, j8, j9, j10, j11, fun z => ?_, j13⟩
      obtain ⟨k1, q, k2, k3, k4⟩ := j12 z
      refine ⟨k1, q, k2, ?_, k4⟩
      rw [e64 q]
      · exact k3
      · intro e
        subst e
        have := ip_nI_inj (a := i + 1) (b := j + 1) (by omega) (by omega) (k3.symm.trans hpj)
        omega
  · rw [eR 6 (by decide), eK]
    exact hJ.2 i h1 h2
theorem ip_cP_out {M M' : ip_M} {S S' : ip_S} {p : Nat} (hP : ip_cP M S) (e64 : ∀ q, q ≠ p → M' 64 q = M 64 q) (h0 : M' 64 p = 0) (e7 : ∀ q, S'.2.1 7 q = if q = p then none else S.2.1 7 q) : ip_cP M' S' := by
  intro q hq
  rw [e7]
  by_cases hqp : q = p
  · subst hqp
    rw [if_pos rfl, if_pos h0]
  · rw [if_neg hqp, e64 q hqp]
    exact hP q hq
theorem ip_cR_fly {M : ip_M} {S : ip_S} {nf nj np p j : Nat} {fl : Int32} (hv : ip_vv M nf nj np) (hv' : ip_vv (ip_u (ip_u (ip_u M 64 p 0) 71 j 2) 75 j fl) nf nj np) (hS : ip_cS M S) (hF : ip_cF M S nf) (hJ : ip_cJ M S nj np) (hP : ip_cP M S) (hj : j < nj) (hpj : M 64 p = nI (j + 1)) : ip_cR (ip_u (ip_u (ip_u M 64 p 0) 71 j 2) 75 j fl) (ip_sI (ip_sI (ip_sR S 7 p none) (30 + j) 6 (-900)) (30 + j) 8 fl) := by
  have hn12 := hv.1.2.2.2.1
  have F : ∀ q, q ≠ 64 → q ≠ 71 → q ≠ 75 → ip_u (ip_u (ip_u M 64 p 0) 71 j 2) 75 j fl q = M q := fun q a b c => by rw [ip_u_P c, ip_u_P b, ip_u_P a]
  have G : ∀ q, q ≠ 30 + j → (ip_sI (ip_sI (ip_sR S 7 p none) (30 + j) 6 (-900)) (30 + j) 8 fl).1 q = S.1 q := fun q a => by rw [ip_sIP a, ip_sIP a]; rfl
  have e64 : ∀ q, q ≠ p → ip_u (ip_u (ip_u M 64 p 0) 71 j 2) 75 j fl 64 q = M 64 q := fun q a => by rw [ip_u_p (by decide), ip_u_p (by decide), ip_u_k a]
  have eR : ∀ q, q ≠ 7 → (ip_sI (ip_sI (ip_sR S 7 p none) (30 + j) 6 (-900)) (30 + j) 8 fl).2.1 q = S.2.1 q := fun q a => funext (fun k => if_neg (fun z => a z.1))
  obtain ⟨j1, j2, j3, j4, j5, j6, j7, j8, j9, j10, j11, j12, j13⟩ := hJ.1 j hj
  refine ⟨nf, nj, np, hv', ?_, ip_cF_c hv.1.2.1 (fun q a b => G q (by omega)) (fun q a => eR q (by omega)) (fun _ _ _ => rfl) (fun q a b => F q (by omega) (by omega) (by omega)) hF, ip_cJ_out hn12 hJ hj hpj e64 ?_ G eR rfl ?_, ip_cP_out hP e64 ?_ ?_⟩
  · unfold ip_cS
    rw [F 50 (by decide) (by decide) (by decide), F 51 (by decide) (by decide) (by decide), F 52 (by decide) (by decide) (by decide), F 53 (by decide) (by decide) (by decide), G 0 (by omega), G 2 (by omega), G 3 (by omega), G 4 (by omega)]
    exact hS
  · intro q a b i hij
    rw [ip_u_k hij, ip_u_k hij, ip_u_p (by omega)]
  · refine ⟨?_, ?_, ?_, ?_, ?_, ?_, ?_, ?_, ?_, ?_, ?_⟩
    · rw [ip_sI_k (by decide), ip_sI_k (by decide)]; exact j3
    · rw [ip_sI_k (by decide), ip_sI_k (by decide), F 67 (by decide) (by decide) (by decide)]; exact j4
    · rw [F 70 (by decide) (by decide) (by decide)]
    · rw [ip_sI_k (by decide), ip_sI_k (by decide), F 66 (by decide) (by decide) (by decide)]; exact j6
    · rw [ip_sI_k (by decide), ip_sI_k (by decide), F 69 (by decide) (by decide) (by decide)]; exact j7
    · rw [ip_sI_k (by decide), ip_sI_k (by decide), F 68 (by decide) (by decide) (by decide)]; exact j8
    · rw [ip_sI_k (by decide), ip_sI_k (by decide), F 72 (by decide) (by decide) (by decide)]; exact j9
    · rw [ip_sI_same, ip_u_same]
    · rw [ip_sI_k (by decide), ip_sI_k (by decide), F 74 (by decide) (by decide) (by decide)]; exact j11
    · rw [ip_u_p (by decide), ip_u_same]; decide
    · rw [ip_sI_k (by decide), ip_sI_same]
  · rw [ip_u_p (by decide), ip_u_p (by decide), ip_u_same]
  · intro q
    show (if 7 = 7 ∧ q = p then none else S.2.1 7 q) = _
    by_cases hq : q = p <;> simp [hq]
theorem ip_cR_back {M : ip_M} {S : ip_S} {nf nj np p j : Nat} {fl bk : Int32} (hv : ip_vv M nf nj np) (hv' : ip_vv (ip_u (ip_u (ip_u (ip_u M 64 p 0) 71 j 0) 68 j fl) 74 j bk) nf nj np) (hS : ip_cS M S) (hF : ip_cF M S nf) (hJ : ip_cJ M S nj np) (hP : ip_cP M S) (hj : j < nj) (hpj : M 64 p = nI (j + 1)) : ip_cR (ip_u (ip_u (ip_u (ip_u M 64 p 0) 71 j 0) 68 j fl) 74 j bk) (ip_sI (ip_sI (ip_sI (ip_sR S 7 p none) (30 + j) 6 (-900)) (30 + j) 5 fl) (30 + j) 9 bk) := by
  have hn12 := hv.1.2.2.2.1
  have F : ∀ q, q ≠ 64 → q ≠ 71 → q ≠ 68 → q ≠ 74 → ip_u (ip_u (ip_u (ip_u M 64 p 0) 71 j 0) 68 j fl) 74 j bk q = M q := fun q a b c d => by rw [ip_u_P d, ip_u_P c, ip_u_P b, ip_u_P a]
  have G : ∀ q, q ≠ 30 + j → (ip_sI (ip_sI (ip_sI (ip_sR S 7 p none) (30 + j) 6 (-900)) (30 + j) 5 fl) (30 + j) 9 bk).1 q = S.1 q := fun q a => by rw [ip_sIP a, ip_sIP a, ip_sIP a]; rfl
  have e64 : ∀ q, q ≠ p → ip_u (ip_u (ip_u (ip_u M 64 p 0) 71 j 0) 68 j fl) 74 j bk 64 q = M 64 q := fun q a => by rw [ip_u_p (by decide), ip_u_p (by decide), ip_u_p (by decide), ip_u_k a]
  have eR : ∀ q, q ≠ 7 → (ip_sI (ip_sI (ip_sI (ip_sR S 7 p none) (30 + j) 6 (-900)) (30 + j) 5 fl) (30 + j) 9 bk).2.1 q = S.2.1 q := fun q a => funext (fun k => if_neg (fun z => a z.1))
  obtain ⟨j1, j2, j3, j4, j5, j6, j7, j8, j9, j10, j11, j12, j13⟩ := hJ.1 j hj
  have D := fun (q : Nat) (a : q ≠ 64) (b : q ≠ 71) (c : q ≠ 68) (d : q ≠ 74) => F q a b c d
  refine ⟨nf, nj, np, hv', ?_, ip_cF_c hv.1.2.1 (fun q a b => G q (by omega)) (fun q a => eR q (by omega)) (fun _ _ _ => rfl) (fun q a b => F q (by omega) (by omega) (by omega) (by omega)) hF, ip_cJ_out hn12 hJ hj hpj e64 ?_ G eR rfl ?_, ip_cP_out hP e64 ?_ ?_⟩
  · unfold ip_cS
    rw [F 50 (by decide) (by decide) (by decide) (by decide), F 51 (by decide) (by decide) (by decide) (by decide), F 52 (by decide) (by decide) (by decide) (by decide), F 53 (by decide) (by decide) (by decide) (by decide), G 0 (by omega), G 2 (by omega), G 3 (by omega), G 4 (by omega)]
    exact hS
  · intro q a b i hij
    rw [ip_u_k hij, ip_u_k hij, ip_u_k hij, ip_u_p (by omega)]
  · refine ⟨?_, ?_, ?_, ?_, ?_, ?_, ?_, ?_, ?_, ?_, ?_⟩
    · rw [ip_sI_k (by decide), ip_sI_k (by decide), ip_sI_k (by decide)]; exact j3
    · rw [ip_sI_k (by decide), ip_sI_k (by decide), ip_sI_k (by decide), F 67 (by decide) (by decide) (by decide) (by decide)]; exact j4
    · rw [F 70 (by decide) (by decide) (by decide) (by decide)]
    · rw [ip_sI_k (by decide), ip_sI_k (by decide), ip_sI_k (by decide), F 66 (by decide) (by decide) (by decide) (by decide)]; exact j6
    · rw [ip_sI_k (by decide), ip_sI_k (by decide), ip_sI_k (by decide), F 69 (by decide) (by decide) (by decide) (by decide)]; exact j7
    · rw [ip_sI_k (by decide), ip_sI_same, ip_u_p (by decide), ip_u_same]
    · rw [ip_sI_k (by decide), ip_sI_k (by decide), ip_sI_k (by decide), F 72 (by decide) (by decide) (by decide) (by decide)]; exact j9
    · rw [ip_sI_k (by decide), ip_sI_k (by decide), ip_sI_k (by decide), F 75 (by decide) (by decide) (by decide) (by decide)]; exact j10
    · rw [ip_sI_same, ip_u_same]
    · rw [ip_u_p (by decide), ip_u_p (by decide), ip_u_same]; decide
    · rw [ip_sI_k (by decide), ip_sI_k (by decide), ip_sI_same]
  · rw [ip_u_p (by decide), ip_u_p (by decide), ip_u_p (by decide), ip_u_same]
  · intro q
    show (if 7 = 7 ∧ q = p then none else S.2.1 7 q) = _
    by_cases hq : q = p <;> simp [hq]
