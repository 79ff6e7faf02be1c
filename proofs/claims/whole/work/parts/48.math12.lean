/-! a jet comes -/
theorem g_jetM_P {M : ip_M} {n : Nat} {s r far f : Int32} {q : Nat} (h0 : q ≠ 50) (h : q < 66 ∨ q = 73 ∨ 75 < q) : g_jetM M n s r far f q = M q := by
  unfold g_jetM
  rw [ip_u_P (by omega), ip_u_P (by omega), ip_u_P (by omega), ip_u_P (by omega), ip_u_P (by omega), ip_u_P (by omega), ip_u_P (by omega), ip_u_P (by omega), ip_u_P (by omega), ip_u_P (by omega)]
theorem g_jetM_0 {M : ip_M} {n : Nat} {s r far f : Int32} {k : Nat} (h : k ≠ 15) : g_jetM M n s r far f 50 k = M 50 k := by
  unfold g_jetM
  rw [ip_u_k h, ip_u_p (by omega), ip_u_p (by omega), ip_u_p (by omega), ip_u_p (by omega), ip_u_p (by omega), ip_u_p (by omega), ip_u_p (by omega), ip_u_p (by omega), ip_u_p (by omega)]
theorem g_jetM_k {M : ip_M} {n : Nat} {s r far f : Int32} {q i : Nat} (h0 : q ≠ 50) (h : i ≠ n) : g_jetM M n s r far f q i = M q i := by
  unfold g_jetM
  rw [ip_u_p h0, ip_u_k h, ip_u_k h, ip_u_k h, ip_u_k h, ip_u_k h, ip_u_k h, ip_u_k h, ip_u_k h, ip_u_k h]
theorem g_jetM_v (M : ip_M) (n : Nat) (s r far f : Int32) : g_jetM M n s r far f 66 n = s ∧ g_jetM M n s r far f 67 n = r ∧ g_jetM M n s r far f 68 n = r ∧ g_jetM M n s r far f 69 n = far ∧ g_jetM M n s r far f 70 n = f ∧ g_jetM M n s r far f 71 n = 0 ∧ g_jetM M n s r far f 72 n = -900 ∧ g_jetM M n s r far f 74 n = 0 ∧ g_jetM M n s r far f 75 n = -900 ∧ g_jetM M n s r far f 50 15 = M 50 15 + 1 := by
  refine ⟨?_, ?_, ?_, ?_, ?_, ?_, ?_, ?_, ?_, ?_⟩ <;> simp [g_jetM, ip_u]
theorem ip_vv_jet {M : ip_M} {nf nj np f : Nat} {s r far : Int32} (hv : ip_vv M nf nj np) (hn : nj < 12) (hf : f < nf) (hs : 1 ≤ s.toInt ∧ s.toInt ≤ 5) (hr : (M 50 0).toInt ≤ r.toInt ∧ r.toInt ≤ 299) (hfar : 1 ≤ far.toInt ∧ far.toInt ≤ 20) : ip_vv (g_jetM M nj s r far (nI f)) nf (nj + 1) np := by
  obtain ⟨g66, g67, g68, g69, g70, g71, g72, g74, g75, g15⟩ := g_jetM_v M nj s r far (nI f)
  obtain ⟨⟨v1, v2, v3, v4, v5, v6, v7⟩, vw, vs, vf, vj, vp⟩ := hv
  refine ⟨⟨(g_jetM_0 (by decide)).trans v1, v2, ?_, by omega, (g_jetM_0 (by decide)).trans v5, v6, v7⟩, ip_vw_c (g_jetM_P (by decide) (by decide)) (g_jetM_P (by decide) (by decide)) (g_jetM_P (by decide) (by decide)) vw, ?_, ip_vf_c (g_jetM_P (by decide) (by decide)) (g_jetM_P (by decide) (by decide)) (g_jetM_P (by decide) (by decide)) (g_jetM_P (by decide) (by decide)) vf, ?_, ?_⟩
  · rw [g15, v3]; exact nI_1 nj
  · unfold ip_vs
    rw [g_jetM_0 (by decide), g_jetM_0 (by decide), g_jetM_0 (by decide), g_jetM_0 (by decide)]
    exact vs
  · intro j hj
    rw [g_jetM_0 (by decide)]
    by_cases e : j = nj
    · subst e
      rw [g66, g67, g68, g69, g70, g71, g75]
      have h0 := vs.1
      refine ⟨hs, hfar, ⟨by omega, hr.2⟩, ⟨Int.le_refl _, by omega⟩, ⟨f, hf, rfl⟩, Or.inl rfl, fun z => absurd z (by decide), ⟨fun z => absurd z (by decide), fun z => absurd rfl z⟩⟩
    · rw [g_jetM_k (by decide) e, g_jetM_k (by decide) e, g_jetM_k (by decide) e, g_jetM_k (by decide) e, g_jetM_k (by decide) e, g_jetM_k (by decide) e, g_jetM_k (by decide) e, g_jetM_k (by decide) e, g_jetM_k (by decide) e]
      exact vj j (by omega)
  · have e64 : g_jetM M nj s r far (nI f) 64 = M 64 := g_jetM_P (by decide) (by decide)
    unfold ip_vp
    rw [e64]
    refine ⟨fun p hp => ?_, fun j hj h1 => ?_, vp.2.2⟩
    · rcases vp.1 p hp with h | ⟨a, j, b, c, d⟩
      · exact Or.inl h
      · exact Or.inr ⟨a, j, by omega, c, by rw [g_jetM_k (by decide) (by omega)]; exact d⟩
    · by_cases e : j = nj
      · subst e
        rw [g71] at h1
        exact absurd h1 (by decide)
      · rw [g_jetM_k (by decide) e] at h1
        exact vp.2.1 j (by omega) h1
def ip_jI (S : ip_S) (n : Nat) (s r far : Int32) (f : Nat) : ip_S := (ip_sR (ip_sR (ip_sI (ip_sI (ip_sI (ip_sI (ip_sI (ip_sI (ip_sI (ip_sI (ip_nw S (30 + n) (1, 0)) (30 + n) 6 (-900)) (30 + n) 7 (-900)) (30 + n) 8 (-900)) (30 + n) 0 (nI n)) (30 + n) 3 s) (30 + n) 1 r) (30 + n) 5 r) (30 + n) 4 far) (30 + n) 2 (some (20 + f))) 6 n (some (30 + n)))
def ip_jS (S : ip_S) (n : Nat) (s r far : Int32) (f : Nat) (v : Int32) : ip_S := ip_sI (ip_jI S n s r far f) 0 4 v
theorem ip_jI_0 {S : ip_S} {n : Nat} {s r far : Int32} {f k : Nat} : (ip_jI S n s r far f).1 0 k = S.1 0 k := by
  have h : ¬ 0 = 30 + n := by omega
  simp [ip_jI, ip_sI, ip_sR, ip_nw, h]
theorem ip_jS_P {S : ip_S} {n : Nat} {s r far : Int32} {f : Nat} {v : Int32} {q : Nat} (h : q ≠ 30 + n) (h0 : q ≠ 0) : (ip_jS S n s r far f v).1 q = S.1 q := by
  funext k
  simp [ip_jS, ip_jI, ip_sI, ip_sR, ip_nw, h, h0]
theorem ip_jS_0 {S : ip_S} {n : Nat} {s r far : Int32} {f : Nat} {v : Int32} {k : Nat} (h0 : k ≠ 4) : (ip_jS S n s r far f v).1 0 k = S.1 0 k := by
  have h : ¬ 0 = 30 + n := by omega
  simp [ip_jS, ip_jI, ip_sI, ip_sR, ip_nw, h, h0]
theorem ip_jS_R {S : ip_S} {n : Nat} {s r far : Int32} {f : Nat} {v : Int32} {q : Nat} (h : q ≠ 30 + n) (h0 : q ≠ 6) : (ip_jS S n s r far f v).2.1 q = S.2.1 q := by
  funext k
  simp [ip_jS, ip_jI, ip_sI, ip_sR, ip_nw, h, h0]
theorem ip_jS_6 {S : ip_S} {n : Nat} {s r far : Int32} {f : Nat} {v : Int32} {k : Nat} : (ip_jS S n s r far f v).2.1 6 k = if k = n then some (30 + n) else S.2.1 6 k := by
  have h : ¬ 6 = 30 + n := by omega
  simp [ip_jS, ip_jI, ip_sI, ip_sR, ip_nw, h]
theorem ip_jS_K {S : ip_S} {n : Nat} {s r far : Int32} {f : Nat} {v : Int32} {q : Nat} (h : q ≠ 30 + n) : (ip_jS S n s r far f v).2.2.2 q = S.2.2.2 q := by
  simp [ip_jS, ip_jI, ip_sI, ip_sR, ip_nw, h]
theorem ip_jS_v (S : ip_S) (n : Nat) (s r far : Int32) (f : Nat) (v : Int32) : (ip_jS S n s r far f v).2.2.2 (30 + n) = (1, 0) ∧ (ip_jS S n s r far f v).1 (30 + n) 0 = nI n ∧ (ip_jS S n s r far f v).1 (30 + n) 1 = r ∧ (ip_jS S n s r far f v).2.1 (30 + n) 2 = some (20 + f) ∧ (ip_jS S n s r far f v).1 (30 + n) 3 = s ∧ (ip_jS S n s r far f v).1 (30 + n) 4 = far ∧ (ip_jS S n s r far f v).1 (30 + n) 5 = r ∧ (ip_jS S n s r far f v).1 (30 + n) 6 = -900 ∧ (ip_jS S n s r far f v).1 (30 + n) 7 = -900 ∧ (ip_jS S n s r far f v).1 (30 + n) 8 = -900 ∧ (ip_jS S n s r far f v).1 (30 + n) 9 = 0 ∧ (ip_jS S n s r far f v).1 0 4 = v := by
  have h : ¬ 30 + n = 6 := by omega
  have h0 : ¬ 30 + n = 0 := by omega
  refine ⟨?_, ?_, ?_, ?_, ?_, ?_, ?_, ?_, ?_, ?_, ?_, ?_⟩ <;> simp [ip_jS, ip_jI, ip_sI, ip_sR, ip_nw, h]
theorem ip_cR_jet {M : ip_M} {S : ip_S} {nf nj np f : Nat} {s r far : Int32} (hv : ip_vv M nf nj np) (hS : ip_cS M S) (hF : ip_cF M S nf) (hJ : ip_cJ M S nj np) (hP : ip_cP M S) (hn : nj < 12) (hf : f < nf) (hs : 1 ≤ s.toInt ∧ s.toInt ≤ 5) (hr : (M 50 0).toInt ≤ r.toInt ∧ r.toInt ≤ 299) (hfar : 1 ≤ far.toInt ∧ far.toInt ≤ 20) : ip_cR (g_jetM M nj s r far (nI f)) (ip_jS S nj s r far f (M 50 15 + 1)) := by
  have hv' := ip_vv_jet hv hn hf hs hr hfar
  have hnf := hv.1.2.1
  obtain ⟨g66, g67, g68, g69, g70, g71, g72, g74, g75, g15⟩ := g_jetM_v M nj s r far (nI f)
  obtain ⟨w1, w2, w3, w4, w5, w6, w7, w8, w9, w10, w11, w12⟩ := ip_jS_v S nj s r far f (M 50 15 + 1)
  have e64 : g_jetM M nj s r far (nI f) 64 = M 64 := g_jetM_P (by decide) (by decide)
  refine ⟨nf, nj + 1, np, hv', ?_, ip_cF_c hnf (fun p a b => ip_jS_P (by omega) (by omega)) (fun p a => ip_jS_R (by omega) (by omega)) (fun p a b => ip_jS_K (by omega)) (fun q a b => g_jetM_P (by omega) (by omega)) hF, ⟨fun j hj => ?_, fun j h1 h2 => ?_⟩, ip_cP_c (ip_jS_R (by omega) (by omega)) e64 hP⟩
  · obtain ⟨s8, s2, s4, s6, s9, s10, s11, s12, t4, t2, t3⟩ := hS
    unfold ip_cS
    rw [w12, g15, ip_jS_0 (by decide), ip_jS_0 (by decide), ip_jS_0 (by decide), ip_jS_0 (by decide), ip_jS_0 (by decide), ip_jS_0 (by decide), ip_jS_0 (by decide), g_jetM_0 (by decide), g_jetM_0 (by decide), g_jetM_0 (by decide), g_jetM_0 (by decide), g_jetM_0 (by decide), g_jetM_0 (by decide), g_jetM_0 (by decide), ip_jS_P (q := 4) (by omega) (by omega), ip_jS_P (q := 2) (by omega) (by omega), ip_jS_P (q := 3) (by omega) (by omega), g_jetM_P (q := 51) (by decide) (by decide), g_jetM_P (q := 52) (by decide) (by decide), g_jetM_P (q := 53) (by decide) (by decide)]
    exact ⟨s8, s2, rfl, s6, s9, s10, s11, s12, t4, t2, t3⟩
  · rw [ip_jS_6, e64]
    by_cases e : j = nj
    · subst e
      rw [g66, g67, g68, g69, g70, g71, g72, g74, g75, w1, w2, w3, w4, w5, w6, w7, w8, w9, w10, w11, if_pos rfl, nI_clamp (by omega)]
      exact ⟨rfl, rfl, rfl, rfl, rfl, rfl, rfl, rfl, rfl, rfl, rfl, fun z => absurd z (by decide), fun _ => rfl⟩
    · rw [if_neg e, ip_jS_K (by omega), ip_jS_P (by omega) (by omega), ip_jS_R (by omega) (by omega), g_jetM_k (by decide) e, g_jetM_k (by decide) e, g_jetM_k (by decide) e, g_jetM_k (by decide) e, g_jetM_k (by decide) e, g_jetM_k (by decide) e, g_jetM_k (by decide) e, g_jetM_k (by decide) e, g_jetM_k (by decide) e, g_jetM_k (by decide) e]
      exact hJ.1 j (by omega)
  · rw [ip_jS_6, if_neg (by omega), ip_jS_K (by omega)]
    exact hJ.2 j (by omega) h2
theorem ip_jS_fC {S : ip_S} {n : Nat} {s r far : Int32} {f : Nat} {v : Int32} (h : n < 12) : ip_fC S (ip_jS S n s r far f v) :=
  (((((((((((ip_fC.rf.nw (by omega) _).sI (by omega) _ _).sI (by omega) _ _).sI (by omega) _ _).sI (by omega) _ _).sI (by omega) _ _).sI (by omega) _ _).sI (by omega) _ _).sI (by omega) _ _).sR _ _ _).sR _ _ _).sI (by omega) _ _
/-! a fluid comes -/
theorem g_fluidM_P {M : ip_M} {n : Nat} {k a b c d t p li : Int32} {q : Nat} (h0 : q ≠ 50) (h : q < 55 ∨ 59 < q) : g_fluidM M n k a b c d t p li q = M q := by
  unfold g_fluidM
  rw [ip_u_P (by omega), ip_u_P (by omega), ip_u_P (by omega), ip_u_P (by omega), ip_u_P (by omega), ip_u_P (by omega), ip_u_P (by omega), ip_u_P (by omega), ip_u_P (by omega)]
theorem g_fluidM_0 {M : ip_M} {n : Nat} {k a b c d t p li : Int32} {j : Nat} (h : j ≠ 4) : g_fluidM M n k a b c d t p li 50 j = M 50 j := by
  unfold g_fluidM
  rw [ip_u_k h, ip_u_p (by omega), ip_u_p (by omega), ip_u_p (by omega), ip_u_p (by omega), ip_u_p (by omega), ip_u_p (by omega), ip_u_p (by omega), ip_u_p (by omega)]
theorem g_fluidM_k {M : ip_M} {n : Nat} {k a b c d t p li : Int32} {q i : Nat} (h0 : q ≠ 50) (h1 : q ≠ 56) (h : i ≠ n) : g_fluidM M n k a b c d t p li q i = M q i := by
  unfold g_fluidM
  rw [ip_u_p h0, ip_u_k h, ip_u_k h, ip_u_k h, ip_u_p h1, ip_u_p h1, ip_u_p h1, ip_u_p h1, ip_u_k h]
theorem g_fluidM_56 {M : ip_M} {n : Nat} {k a b c d t p li : Int32} {i : Nat} (h : i < 4 * n ∨ 4 * n + 3 < i) : g_fluidM M n k a b c d t p li 56 i = M 56 i := by
  unfold g_fluidM
  rw [ip_u_p (by omega), ip_u_p (by omega), ip_u_p (by omega), ip_u_p (by omega), ip_u_k (by omega), ip_u_k (by omega), ip_u_k (by omega), ip_u_k (by omega), ip_u_p (by omega)]
theorem g_fluidM_v (M : ip_M) (n : Nat) (k a b c d t p li : Int32) : g_fluidM M n k a b c d t p li 55 n = k ∧ g_fluidM M n k a b c d t p li 57 n = t ∧ g_fluidM M n k a b c d t p li 58 n = p ∧ g_fluidM M n k a b c d t p li 59 n = li ∧ g_fluidM M n k a b c d t p li 56 (4 * n) = a ∧ g_fluidM M n k a b c d t p li 56 (4 * n + 1) = b ∧ g_fluidM M n k a b c d t p li 56 (4 * n + 2) = c ∧ g_fluidM M n k a b c d t p li 56 (4 * n + 3) = d ∧ g_fluidM M n k a b c d t p li 50 4 = M 50 4 + 1 := by
  refine ⟨?_, ?_, ?_, ?_, ?_, ?_, ?_, ?_, ?_⟩ <;> simp [g_fluidM, ip_u]
theorem ip_l4 {j : Nat} (h : j < 4) : j = 0 ∨ j = 1 ∨ j = 2 ∨ j = 3 := by omega
theorem ip_spI {a b c d : Int32} (h : g_spans a b c d) : (0 ≤ a.toInt ∧ a.toInt ≤ 100) ∧ (0 ≤ b.toInt ∧ b.toInt ≤ 100) ∧ (0 ≤ c.toInt ∧ c.toInt ≤ 100) ∧ (0 ≤ d.toInt ∧ d.toInt ≤ 100) := by
  obtain ⟨h1, h2, h3, h4, h5⟩ := h
  have k0 : (0 : Int32).toInt = 0 := rfl
  have k1 : (100 : Int32).toInt = 100 := rfl
  rw [ip_leI] at h1 h2 h3 h4 h5
  omega
theorem ip_k012 {k : Int32} (h : 0 ≤ k ∧ k ≤ 2) : k = 0 ∨ k = 1 ∨ k = 2 := by
  have h0 : (0 : Int32).toInt = 0 := rfl
  have h1 : (1 : Int32).toInt = 1 := rfl
  have h2 : (2 : Int32).toInt = 2 := rfl
  rw [ip_leI, ip_leI, h0, h2] at h
  rw [ip_eqI, ip_eqI, ip_eqI, h0, h1, h2]
  omega
theorem ip_vv_fluid {M : ip_M} {nf nj np : Nat} {k a b c d t p li : Int32} (hv : ip_vv M nf nj np) (hn : nf < 4) (hk : 0 ≤ k ∧ k ≤ 2) (hs : g_spans a b c d) (ht : ¬ k = 0 → 1 ≤ t ∧ t ≤ 4) (hp : k = 2 → 1 ≤ p ∧ p ≤ 10) : ip_vv (g_fluidM M nf k a b c d t p li) (nf + 1) nj np := by
  obtain ⟨g55, g57, g58, g59, ga, gb, gc, gd, g4⟩ := g_fluidM_v M nf k a b c d t p li
  obtain ⟨⟨v1, v2, v3, v4, v5, v6, v7⟩, vw, vs, vf, vj, vp⟩ := hv
  refine ⟨⟨?_, by omega, (g_fluidM_0 (by decide)).trans v3, v4, (g_fluidM_0 (by decide)).trans v5, v6, v7⟩, ip_vw_c (g_fluidM_P (by decide) (by decide)) (g_fluidM_P (by decide) (by decide)) (g_fluidM_P (by decide) (by decide)) vw, ?_, ?_, ?_, ip_vp_c (g_fluidM_P (by decide) (by decide)) (g_fluidM_P (by decide) (by decide)) vp⟩
  · rw [g4, v1]; exact nI_1 nf
  · unfold ip_vs
    rw [g_fluidM_0 (by decide), g_fluidM_0 (by decide), g_fluidM_0 (by decide), g_fluidM_0 (by decide)]
    exact vs
  · intro i hi
    by_cases e : i = nf
    · subst e
      rw [g55, g57, g58]
      obtain ⟨s1, s2, s3, s4⟩ := ip_spI hs
      refine ⟨ip_k012 hk, fun j hj => ?_, fun z => ?_, fun z => ?_⟩
      · rcases ip_l4 hj with rfl | rfl | rfl | rfl
        · rw [Nat.add_zero, ga]; exact s1
        · rw [gb]; exact s2
        · rw [gc]; exact s3
        · rw [gd]; exact s4
      · have q := ht z
        rw [ip_leI, ip_leI] at q
        exact q
      · have q := hp z
        rw [ip_leI, ip_leI] at q
        exact q
    · rw [g_fluidM_k (by decide) (by decide) e, g_fluidM_k (by decide) (by decide) e, g_fluidM_k (by decide) (by decide) e]
      obtain ⟨c1, c2, c3, c4⟩ := vf i (by omega)
      refine ⟨c1, fun j hj => ?_, c3, c4⟩
      rw [g_fluidM_56 (by omega)]
      exact c2 j hj
  · have h := ip_vj_c (M := M) (M' := g_fluidM M nf k a b c d t p li) (g_fluidM_0 (by decide)) (fun q x y => g_fluidM_P (by omega) (by omega)) vj
    intro j hj
    obtain ⟨c1, c2, c3, c4, ⟨f, c5, c6⟩, c7, c8, c9⟩ := h j hj
    exact ⟨c1, c2, c3, c4, ⟨f, by omega, c6⟩, c7, c8, c9⟩
def ip_sp (S : ip_S) (n : Nat) (a b c d : Int32) : ip_S := ip_sI (ip_sI (ip_sI (ip_sI (ip_nw S (20 + n + 4) (6, 4)) (20 + n + 4) 0 a) (20 + n + 4) 1 b) (20 + n + 4) 2 c) (20 + n + 4) 3 d
def ip_fI (S : ip_S) (n : Nat) (k a b c d t p li : Int32) : ip_S := (ip_sR (ip_sI (ip_sI (ip_sI (ip_sR (ip_sI (ip_nw (ip_sp S n a b c d) (20 + n) (0, 0)) (20 + n) 0 k) (20 + n) 1 (some (20 + n + 4))) (20 + n) 2 t) (20 + n) 3 p) (20 + n) 4 li) 5 n (some (20 + n)))
def ip_fS (S : ip_S) (n : Nat) (k a b c d t p li : Int32) (v : Int32) : ip_S := ip_sI (ip_fI S n k a b c d t p li) 0 2 v
theorem ip_fI_0 {S : ip_S} {n : Nat} {k a b c d t p li : Int32} {j : Nat} : (ip_fI S n k a b c d t p li).1 0 j = S.1 0 j := by
  have h : ¬ 0 = 20 + n := by omega
  have h4 : ¬ 0 = 20 + n + 4 := by omega
  simp [ip_fI, ip_sp, ip_sI, ip_sR, ip_nw, h, h4]
theorem ip_fS_P {S : ip_S} {n : Nat} {k a b c d t p li : Int32} {v : Int32} {q : Nat} (h : q ≠ 20 + n) (h4 : q ≠ 20 + n + 4) (h0 : q ≠ 0) : (ip_fS S n k a b c d t p li v).1 q = S.1 q := by
  funext k
  simp only [ip_fS, ip_fI, ip_sp, ip_sI, ip_sR, ip_nw, h, h0, h4, false_and, if_false]
theorem ip_fS_0 {S : ip_S} {n : Nat} {k a b c d t p li : Int32} {v : Int32} {j : Nat} (h0 : j ≠ 2) : (ip_fS S n k a b c d t p li v).1 0 j = S.1 0 j := by
  have h : ¬ 0 = 20 + n := by omega
  have h4 : ¬ 0 = 20 + n + 4 := by omega
  simp only [ip_fS, ip_fI, ip_sp, ip_sI, ip_sR, ip_nw, h, h0, h4, false_and, and_false, if_false]
theorem ip_fS_R {S : ip_S} {n : Nat} {k a b c d t p li : Int32} {v : Int32} {q : Nat} (h : q ≠ 20 + n) (h4 : q ≠ 20 + n + 4) (h0 : q ≠ 5) : (ip_fS S n k a b c d t p li v).2.1 q = S.2.1 q := by
  funext k
  simp only [ip_fS, ip_fI, ip_sp, ip_sI, ip_sR, ip_nw, h, h0, h4, false_and, if_false]
theorem ip_fS_5 {S : ip_S} {n : Nat} {k a b c d t p li : Int32} {v : Int32} {j : Nat} : (ip_fS S n k a b c d t p li v).2.1 5 j = if j = n then some (20 + n) else S.2.1 5 j := by
  have h : ¬ 5 = 20 + n := by omega
  have h4 : ¬ 5 = 20 + n + 4 := by omega
  simp only [ip_fS, ip_fI, ip_sp, ip_sI, ip_sR, ip_nw, h, h4, false_and, if_false, true_and]
theorem ip_fS_K {S : ip_S} {n : Nat} {k a b c d t p li : Int32} {v : Int32} {q : Nat} (h : q ≠ 20 + n) (h4 : q ≠ 20 + n + 4) : (ip_fS S n k a b c d t p li v).2.2.2 q = S.2.2.2 q := by
  simp only [ip_fS, ip_fI, ip_sp, ip_sI, ip_sR, ip_nw, h, h4, false_and, if_false]
theorem ip_fS_v (S : ip_S) (n : Nat) (k a b c d t p li : Int32) (v : Int32) : (ip_fS S n k a b c d t p li v).2.2.2 (20 + n) = (0, 0) ∧ (ip_fS S n k a b c d t p li v).2.2.2 (20 + n + 4) = (6, 4) ∧ (ip_fS S n k a b c d t p li v).2.1 (20 + n) 1 = some (20 + n + 4) ∧ (ip_fS S n k a b c d t p li v).1 (20 + n) 0 = k ∧ (ip_fS S n k a b c d t p li v).1 (20 + n) 2 = t ∧ (ip_fS S n k a b c d t p li v).1 (20 + n) 3 = p ∧ (ip_fS S n k a b c d t p li v).1 (20 + n) 4 = li ∧ (ip_fS S n k a b c d t p li v).1 (20 + n + 4) 0 = a ∧ (ip_fS S n k a b c d t p li v).1 (20 + n + 4) 1 = b ∧ (ip_fS S n k a b c d t p li v).1 (20 + n + 4) 2 = c ∧ (ip_fS S n k a b c d t p li v).1 (20 + n + 4) 3 = d ∧ (ip_fS S n k a b c d t p li v).1 0 2 = v := by
  have h : ¬ 20 + n + 4 = 20 + n := by omega
  have h5 : ¬ 20 + n = 5 := by omega
  have h0 : ¬ 20 + n = 0 := by omega
  have h6 : ¬ 20 + n + 4 = 0 := by omega
  have h7 : ¬ 20 + n = 20 + n + 4 := by omega
  refine ⟨?_, ?_, ?_, ?_, ?_, ?_, ?_, ?_, ?_, ?_, ?_, ?_⟩ <;> simp [ip_fS, ip_fI, ip_sp, ip_sI, ip_sR, ip_nw, h, h5, h0, h6, h7]
theorem ip_cR_fluid {M : ip_M} {S : ip_S} {nf nj np : Nat} {k a b c d t p li : Int32} (hv : ip_vv M nf nj np) (hS : ip_cS M S) (hF : ip_cF M S nf) (hJ : ip_cJ M S nj np) (hP : ip_cP M S) (hn : nf < 4) (hk : 0 ≤ k ∧ k ≤ 2) (hs : g_spans a b c d) (ht : ¬ k = 0 → 1 ≤ t ∧ t ≤ 4) (hp : k = 2 → 1 ≤ p ∧ p ≤ 10) : ip_cR (g_fluidM M nf k a b c d t p li) (ip_fS S nf k a b c d t p li (M 50 4 + 1)) := by
  have hv' := ip_vv_fluid (li := li) hv hn hk hs ht hp
  have hnj := hv.1.2.2.2.1
  obtain ⟨g55, g57, g58, g59, ga, gb, gc, gd, g4⟩ := g_fluidM_v M nf k a b c d t p li
  obtain ⟨w1, w2, w3, w4, w5, w6, w7, w8, w9, w10, w11, w12⟩ := ip_fS_v S nf k a b c d t p li (M 50 4 + 1)
  have e64 : g_fluidM M nf k a b c d t p li 64 = M 64 := g_fluidM_P (by decide) (by decide)
  refine ⟨nf + 1, nj, np, hv', ?_, ⟨fun i hi => ?_, fun i h1 h2 => ?_⟩, ip_cJ_c hnj (fun p a b => ip_fS_P (by omega) (by omega) (by omega)) (fun p a => ip_fS_R (by omega) (by omega) (by omega)) (fun p a b => ip_fS_K (by omega) (by omega)) e64 (fun q a b => g_fluidM_P (by omega) (by omega)) hJ, ip_cP_c (ip_fS_R (by omega) (by omega) (by omega)) e64 hP⟩
  · obtain ⟨s8, s2, s4, s6, s9, s10, s11, s12, t4, t2, t3⟩ := hS
    unfold ip_cS
    rw [w12, g4, ip_fS_0 (by decide), ip_fS_0 (by decide), ip_fS_0 (by decide), ip_fS_0 (by decide), ip_fS_0 (by decide), ip_fS_0 (by decide), ip_fS_0 (by decide), g_fluidM_0 (by decide), g_fluidM_0 (by decide), g_fluidM_0 (by decide), g_fluidM_0 (by decide), g_fluidM_0 (by decide), g_fluidM_0 (by decide), g_fluidM_0 (by decide), ip_fS_P (q := 4) (by omega) (by omega) (by omega), ip_fS_P (q := 2) (by omega) (by omega) (by omega), ip_fS_P (q := 3) (by omega) (by omega) (by omega), g_fluidM_P (q := 51) (by decide) (by decide), g_fluidM_P (q := 52) (by decide) (by decide), g_fluidM_P (q := 53) (by decide) (by decide)]
    exact ⟨s8, rfl, s4, s6, s9, s10, s11, s12, t4, t2, t3⟩
  · rw [ip_fS_5]
    by_cases e : i = nf
    · subst e
      rw [g55, g57, g58, g59, w1, w2, w3, w4, w5, w6, w7, if_pos rfl]
      refine ⟨rfl, rfl, rfl, rfl, rfl, rfl, rfl, rfl, fun j hj => ?_⟩
      rcases ip_l4 hj with rfl | rfl | rfl | rfl
      · rw [w8]; exact ga.symm
      · rw [w9]; exact gb.symm
      · rw [w10]; exact gc.symm
      · rw [w11]; exact gd.symm
    · rw [if_neg e, ip_fS_K (by omega) (by omega), ip_fS_K (by omega) (by omega), ip_fS_P (by omega) (by omega) (by omega), ip_fS_P (by omega) (by omega) (by omega), ip_fS_R (by omega) (by omega) (by omega), g_fluidM_k (by decide) (by decide) e, g_fluidM_k (by decide) (by decide) e, g_fluidM_k (by decide) (by decide) e, g_fluidM_k (by decide) (by decide) e]
      obtain ⟨f1, f2, f3, f4, f5, f6, f7, f8, f9⟩ := hF.1 i (by omega)
      refine ⟨f1, f2, f3, f4, f5, f6, f7, f8, fun j hj => ?_⟩
      rw [g_fluidM_56 (by omega)]
      exact f9 j hj
  · rw [ip_fS_5, if_neg (by omega), ip_fS_K (by omega) (by omega), ip_fS_K (by omega) (by omega)]
    exact hF.2 i (by omega) h2
theorem ip_fS_fC {S : ip_S} {n : Nat} {k a b c d t p li : Int32} {v : Int32} (h : n < 4) : ip_fC S (ip_fS S n k a b c d t p li v) :=
  (((((((((((((ip_fC.rf.nw (by omega) _).sI (by omega) _ _).sI (by omega) _ _).sI (by omega) _ _).sI (by omega) _ _).nw (by omega) _).sI (by omega) _ _).sR _ _ _).sI (by omega) _ _).sI (by omega) _ _).sI (by omega) _ _).sR _ _ _).sI (by omega) _ _)
