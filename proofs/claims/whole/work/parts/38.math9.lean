/-! what a write leaves of the relation -/
theorem ip_vj_c {M M' : ip_M} {nf nj : Nat} (h0 : M' 50 0 = M 50 0) (h : ∀ q, 66 ≤ q → q ≤ 75 → M' q = M q) (hv : ip_vj M nf nj) : ip_vj M' nf nj := by
  unfold ip_vj at hv ⊢
  rw [h0, h 66 (by decide) (by decide), h 67 (by decide) (by decide), h 68 (by decide) (by decide), h 69 (by decide) (by decide), h 70 (by decide) (by decide), h 71 (by decide) (by decide), h 72 (by decide) (by decide), h 73 (by decide) (by decide), h 75 (by decide) (by decide)]
  exact hv
theorem ip_vp_c {M M' : ip_M} {nj np : Nat} (h1 : M' 64 = M 64) (h2 : M' 71 = M 71) (hv : ip_vp M nj np) : ip_vp M' nj np := by
  unfold ip_vp at hv ⊢
  rw [h1, h2]
  exact hv
theorem ip_cF_c {M M' : ip_M} {S S' : ip_S} {nf : Nat} (hnf : nf ≤ 4) (e1 : ∀ p, 20 ≤ p → p < 28 → S'.1 p = S.1 p) (e2 : ∀ p, p = 5 ∨ (20 ≤ p ∧ p < 28) → S'.2.1 p = S.2.1 p) (e3 : ∀ p, 20 ≤ p → p < 28 → S'.2.2.2 p = S.2.2.2 p) (m : ∀ q, 55 ≤ q → q ≤ 59 → M' q = M q) (h : ip_cF M S nf) : ip_cF M' S' nf := by
  refine ⟨fun i hi => ?_, fun i hi h4 => ?_⟩
  · rw [e1 (20 + i) (by omega) (by omega), e1 (20 + i + 4) (by omega) (by omega), e2 5 (by omega), e2 (20 + i) (by omega), e3 (20 + i) (by omega) (by omega), e3 (20 + i + 4) (by omega) (by omega), m 55 (by decide) (by decide), m 56 (by decide) (by decide), m 57 (by decide) (by decide), m 58 (by decide) (by decide), m 59 (by decide) (by decide)]
    exact h.1 i hi
  · rw [e2 5 (by omega), e3 (20 + i) (by omega) (by omega), e3 (20 + i + 4) (by omega) (by omega)]
    exact h.2 i hi h4
theorem ip_cJ_c {M M' : ip_M} {S S' : ip_S} {nj np : Nat} (hnj : nj ≤ 12) (e1 : ∀ p, 30 ≤ p → p < 42 → S'.1 p = S.1 p) (e2 : ∀ p, p = 6 ∨ (30 ≤ p ∧ p < 42) → S'.2.1 p = S.2.1 p) (e3 : ∀ p, 30 ≤ p → p < 42 → S'.2.2.2 p = S.2.2.2 p) (m64 : M' 64 = M 64) (m : ∀ q, 66 ≤ q → q ≤ 75 → M' q = M q) (h : ip_cJ M S nj np) : ip_cJ M' S' nj np := by
  refine ⟨fun j hj => ?_, fun j hj h12 => ?_⟩
  · rw [e1 (30 + j) (by omega) (by omega), e2 6 (by omega), e2 (30 + j) (by omega), e3 (30 + j) (by omega) (by omega), m64, m 66 (by decide) (by decide), m 67 (by decide) (by decide), m 68 (by decide) (by decide), m 69 (by decide) (by decide), m 70 (by decide) (by decide), m 71 (by decide) (by decide), m 72 (by decide) (by decide), m 73 (by decide) (by decide), m 74 (by decide) (by decide), m 75 (by decide) (by decide)]
    exact h.1 j hj
  · rw [e2 6 (by omega), e3 (30 + j) (by omega) (by omega)]
    exact h.2 j hj h12
theorem ip_cP_c {M M' : ip_M} {S S' : ip_S} (e2 : S'.2.1 7 = S.2.1 7) (m64 : M' 64 = M 64) (h : ip_cP M S) : ip_cP M' S' := by
  unfold ip_cP at h ⊢
  rw [e2, m64]
  exact h
/-- numbers of the class alone changed, outside fluids and jets; the picture outside what these two parts read -/
theorem ip_cR_c {M M' : ip_M} {S S' : ip_S} {nf nj np : Nat} (hv : ip_vv M' nf nj np) (hS : ip_cS M' S') (e1 : ∀ p, 20 ≤ p → p < 50 → S'.1 p = S.1 p) (e2 : S'.2 = S.2) (m64 : M' 64 = M 64) (m1 : ∀ q, 55 ≤ q → q ≤ 59 → M' q = M q) (m2 : ∀ q, 66 ≤ q → q ≤ 75 → M' q = M q) (hF : ip_cF M S nf) (hJ : ip_cJ M S nj np) (hP : ip_cP M S) : ip_cR M' S' :=
  ⟨nf, nj, np, hv, hS, ip_cF_c hv.1.2.1 (fun p a b => e1 p a (by omega)) (fun p _ => by rw [e2]) (fun p _ _ => by rw [e2]) m1 hF, ip_cJ_c hv.1.2.2.2.1 (fun p a b => e1 p (by omega) (by omega)) (fun p _ => by rw [e2]) (fun p _ _ => by rw [e2]) m64 m2 hJ, ip_cP_c (by rw [e2]) m64 hP⟩
theorem ip_sIP {S : ip_S} {p k q : Nat} {v : Int32} (h : q ≠ p) : (ip_sI S p k v).1 q = S.1 q := funext (fun _ => ip_sI_p h)
theorem ip_sI_u {M : ip_M} {S : ip_S} {p q k : Nat} {v : Int32} (h : S.1 p = M q) : (ip_sI S p k v).1 p = ip_u M q k v q := by
  funext j
  show (if p = p ∧ j = k then v else S.1 p j) = (if q = q ∧ j = k then v else M q j)
  rw [h]
  by_cases hj : j = k <;> simp [hj]
theorem ip_cR_weather {M : ip_M} {S : ip_S} {m : Nat} {c f : Int32} (h : ip_cR M S) (hc : -30 ≤ c ∧ c ≤ 5) (hf : 0 ≤ f ∧ f ≤ 3) : ip_cR (ip_u (ip_u (ip_u M 51 m 1) 52 m c) 53 m f) (ip_sI (ip_sI (ip_sI S 2 m c) 3 m f) 4 m 1) := by
  obtain ⟨nf, nj, np, hv, ⟨s8, s2, s4, s6, s9, s10, s11, s12, t4, t2, t3⟩, hF, hJ, hP⟩ := h
  have F : ∀ q, q ≠ 51 → q ≠ 52 → q ≠ 53 → ip_u (ip_u (ip_u M 51 m 1) 52 m c) 53 m f q = M q := fun q a b d => by rw [ip_u_P d, ip_u_P b, ip_u_P a]
  have hvv : ip_vv (ip_u (ip_u (ip_u M 51 m 1) 52 m c) 53 m f) nf nj np := by
    obtain ⟨v1, v2, v3, v4, v5, v6⟩ := hv
    refine ⟨ip_vn_c (F 50 (by decide) (by decide) (by decide)) v1, ?_, ip_vs_c (F 50 (by decide) (by decide) (by decide)) v3, ip_vf_c (F 55 (by decide) (by decide) (by decide)) (F 56 (by decide) (by decide) (by decide)) (F 57 (by decide) (by decide) (by decide)) (F 58 (by decide) (by decide) (by decide)) v4, ip_vj_c (by rw [F 50 (by decide) (by decide) (by decide)]) (fun q a b => F q (by omega) (by omega) (by omega)) v5, ip_vp_c (F 64 (by decide) (by decide) (by decide)) (F 71 (by decide) (by decide) (by decide)) v6⟩
    intro i hi
    rw [ip_u_p (by decide), ip_u_p (by decide)] at hi
    rw [ip_u_p (q := 52) (by decide)]
    by_cases him : i = m
    · subst him
      rw [ip_u_same, ip_u_same]
      have h1 : (-30 : Int32).toInt = -30 := rfl
      have h2 : (5 : Int32).toInt = 5 := rfl
      have h3 : (0 : Int32).toInt = 0 := rfl
      have h4 : (3 : Int32).toInt = 3 := rfl
      rw [ip_leI, ip_leI, h1, h2] at hc
      rw [ip_leI, ip_leI, h3, h4] at hf
      exact ⟨hc.1, hc.2, hf.1, hf.2⟩
    · rw [ip_u_k him] at hi
      have a1 : ip_u (ip_u M 51 m 1) 52 m c 52 i = M 52 i := by rw [ip_u_k him, ip_u_p (by decide)]
      have a2 : ip_u (ip_u (ip_u M 51 m 1) 52 m c) 53 m f 53 i = M 53 i := by rw [ip_u_k him, ip_u_p (by decide), ip_u_p (by decide)]
      rw [a1, a2]
      exact v2 i hi
  refine ip_cR_c (M := M) (S := S) hvv ?_ (fun p a b => by rw [ip_sIP (by omega), ip_sIP (by omega), ip_sIP (by omega)]) rfl (F 64 (by decide) (by decide) (by decide)) (fun q a b => F q (by omega) (by omega) (by omega)) (fun q a b => F q (by omega) (by omega) (by omega)) hF hJ hP
  unfold ip_cS
  rw [F 50 (by decide) (by decide) (by decide), ip_sIP (q := 0) (by decide), ip_sIP (q := 0) (by decide), ip_sIP (q := 0) (by decide)]
  refine ⟨s8, s2, s4, s6, s9, s10, s11, s12, ?_, ?_, ?_⟩
  · rw [ip_u_P (q := 51) (by decide), ip_u_P (q := 51) (by decide)]
    exact ip_sI_u (by rw [ip_sIP (by decide), ip_sIP (by decide)]; exact t4)
  · rw [ip_sIP (q := 2) (by decide), ip_sIP (q := 2) (by decide), ip_u_P (q := 52) (by decide)]
    exact ip_sI_u (by rw [ip_u_P (by decide)]; exact t2)
  · rw [ip_sIP (q := 3) (by decide)]
    exact ip_sI_u (by rw [ip_sIP (by decide), ip_u_P (by decide), ip_u_P (by decide)]; exact t3)
theorem ip_cR_loses {M : ip_M} {S : ip_S} {m : Nat} (h : ip_cR M S) : ip_cR (ip_u M 51 m 0) (ip_sI S 4 m 0) := by
  obtain ⟨nf, nj, np, hv, ⟨s8, s2, s4, s6, s9, s10, s11, s12, t4, t2, t3⟩, hF, hJ, hP⟩ := h
  have F : ∀ q, q ≠ 51 → ip_u M 51 m 0 q = M q := fun q a => ip_u_P a
  have hvv : ip_vv (ip_u M 51 m 0) nf nj np := by
    obtain ⟨v1, v2, v3, v4, v5, v6⟩ := hv
    refine ⟨ip_vn_c (F 50 (by decide)) v1, ?_, ip_vs_c (F 50 (by decide)) v3, ip_vf_c (F 55 (by decide)) (F 56 (by decide)) (F 57 (by decide)) (F 58 (by decide)) v4, ip_vj_c (by rw [F 50 (by decide)]) (fun q a b => F q (by omega)) v5, ip_vp_c (F 64 (by decide)) (F 71 (by decide)) v6⟩
    intro i hi
    rw [F 52 (by decide), F 53 (by decide)]
    by_cases him : i = m
    · subst him
      rw [ip_u_same] at hi
      exact absurd rfl hi
    · rw [ip_u_k him] at hi
      exact v2 i hi
  refine ip_cR_c (M := M) (S := S) hvv ?_ (fun p a b => by rw [ip_sIP (by omega)]) rfl (F 64 (by decide)) (fun q a b => F q (by omega)) (fun q a b => F q (by omega)) hF hJ hP
  unfold ip_cS
  rw [F 50 (by decide), F 52 (by decide), F 53 (by decide), ip_sIP (q := 0) (by decide), ip_sIP (q := 2) (by decide), ip_sIP (q := 3) (by decide)]
  exact ⟨s8, s2, s4, s6, s9, s10, s11, s12, ip_sI_u t4, t2, t3⟩
theorem ip_cR_fill {M : ip_M} {S : ip_S} {nf nj np i : Nat} {n : Int32} (hv : ip_vv M nf nj np) (hi : i < nf) (hS : ip_cS M S) (hF : ip_cF M S nf) (hJ : ip_cJ M S nj np) (hP : ip_cP M S) : ip_cR (ip_u M 59 i n) (ip_sI S (20 + i) 4 n) := by
  have F : ∀ q, q ≠ 59 → ip_u M 59 i n q = M q := fun q a => ip_u_P a
  have hnf := hv.1.2.1
  have G : ∀ p, p ≠ 20 + i → (ip_sI S (20 + i) 4 n).1 p = S.1 p := fun p a => ip_sIP a
  obtain ⟨v1, v2, v3, v4, v5, v6⟩ := hv
  refine ⟨nf, nj, np, ⟨ip_vn_c (F 50 (by decide)) v1, ip_vw_c (F 51 (by decide)) (F 52 (by decide)) (F 53 (by decide)) v2, ip_vs_c (F 50 (by decide)) v3, ip_vf_c (F 55 (by decide)) (F 56 (by decide)) (F 57 (by decide)) (F 58 (by decide)) v4, ip_vj_c (by rw [F 50 (by decide)]) (fun q a b => F q (by omega)) v5, ip_vp_c (F 64 (by decide)) (F 71 (by decide)) v6⟩, ?_, ?_, ip_cJ_c v1.2.2.2.1 (fun p a b => G p (by omega)) (fun _ _ => rfl) (fun _ _ _ => rfl) (F 64 (by decide)) (fun q a b => F q (by omega)) hJ, ip_cP_c rfl (F 64 (by decide)) hP⟩
  · unfold ip_cS
    rw [F 50 (by decide), F 51 (by decide), F 52 (by decide), F 53 (by decide), G 0 (by omega), G 2 (by omega), G 3 (by omega), G 4 (by omega)]
    exact hS
  · refine ⟨fun k hk => ?_, hF.2⟩
    obtain ⟨f1, f2, f3, f4, f5, f6, f7, f8, f9⟩ := hF.1 k hk
    rw [F 55 (by decide), F 56 (by decide), F 57 (by decide), F 58 (by decide), G (20 + k + 4) (by omega)]
    refine ⟨f1, f2, f3, f4, ?_, ?_, ?_, ?_, f9⟩
    · rw [ip_sI_k (by decide)]; exact f5
    · rw [ip_sI_k (by decide)]; exact f6
    · rw [ip_sI_k (by decide)]; exact f7
    · by_cases hki : k = i
      · subst hki
        rw [ip_sI_same, ip_u_same]
      · rw [ip_u_k hki, G (20 + k) (by omega)]
        exact f8
/-- a number of the airfield itself -/
theorem ip_cR_0 {M : ip_M} {S : ip_S} {nf nj np k k' : Nat} {v : Int32} (hv : ip_vv (ip_u M 50 k v) nf nj np) (hF : ip_cF M S nf) (hJ : ip_cJ M S nj np) (hP : ip_cP M S) (hS : ip_cS (ip_u M 50 k v) (ip_sI S 0 k' v)) : ip_cR (ip_u M 50 k v) (ip_sI S 0 k' v) :=
  ip_cR_c (M := M) (S := S) hv hS (fun p a b => ip_sIP (by omega)) rfl (ip_u_P (by decide)) (fun q a b => ip_u_P (by omega)) (fun q a b => ip_u_P (by omega)) hF hJ hP
theorem ip_vv_50 {M : ip_M} {nf nj np k : Nat} {v : Int32} (hv : ip_vv M nf nj np) (h0 : k ≠ 0) (h4 : k ≠ 4) (h15 : k ≠ 15) (h10 : k ≠ 10) (hs : ip_vs (ip_u M 50 k v)) : ip_vv (ip_u M 50 k v) nf nj np := by
  obtain ⟨v1, v2, v3, v4, v5, v6⟩ := hv
  refine ⟨?_, ip_vw_c (ip_u_P (by decide)) (ip_u_P (by decide)) (ip_u_P (by decide)) v2, hs, ip_vf_c (ip_u_P (by decide)) (ip_u_P (by decide)) (ip_u_P (by decide)) (ip_u_P (by decide)) v4, ip_vj_c (ip_u_k (Ne.symm h0)) (fun q a b => ip_u_P (by omega)) v5, ip_vp_c (ip_u_P (by decide)) (ip_u_P (by decide)) v6⟩
  unfold ip_vn
  rw [ip_u_k (Ne.symm h4), ip_u_k (Ne.symm h15), ip_u_k (Ne.symm h10)]
  exact v1
