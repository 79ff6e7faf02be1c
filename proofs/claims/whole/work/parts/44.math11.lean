/-! a jet begins -/
def ip_sB (S : ip_S) (f b p : Nat) (li dr bg mi hd : Int32) : ip_S := ip_sI (ip_sI (ip_sI (ip_sR (ip_sI (ip_sI (ip_sI S (20 + f) 4 li) 0 11 dr) 0 12 bg) 7 p (some (30 + b))) (30 + b) 6 (nI p)) (30 + b) 7 mi) (30 + b) 10 (mi + hd)
theorem g_bgM_59 {M : ip_M} {p b i : Nat} : g_bgM M p b 59 i = (if i = (M 70 b).toNatClampNeg then M 59 (M 70 b).toNatClampNeg - 10 * M 66 b else M 59 i) ∧ g_bgM M p b 50 26 = M 50 26 + 1 := by
  unfold g_bgM
  refine ⟨?_, ?_⟩
  · rw [ip_u_p (by decide), ip_u_p (by decide)]
    by_cases h : i = (M 70 b).toNatClampNeg
    · subst h
      rw [ip_u_same, if_pos rfl]
    · rw [ip_u_k h, if_neg h, ip_u_p (by decide), ip_u_p (by decide), ip_u_p (by decide), ip_u_p (by decide)]
  · rw [ip_u_same]
theorem ip_cR_bg {M : ip_M} {S : ip_S} {nf nj np p b f : Nat} (hv : ip_vv M nf nj np) (hv' : ip_vv (g_bgM M p b) nf nj np) (hS : ip_cS M S) (hF : ip_cF M S nf) (hJ : ip_cJ M S nj np) (hP : ip_cP M S) (hb : b < nj) (hf : f < nf) (hfb : (M 70 b).toNatClampNeg = f) (hp : p < np) (h0 : M 64 p = 0) (hb0 : M 71 b = 0) :
    ip_cR (g_bgM M p b) (ip_sB S f b p (M 59 f - 10 * M 66 b) (M 50 13 + 8 * M 66 b) (M 50 26 + 1) (M 50 0) (g_hold M f (M 50 0).toNatClampNeg)) := by
  have hn12 := hv.1.2.2.2.1
  have hnf := hv.1.2.1
  have hnp3 := hv.1.2.2.2.2.2.2
  obtain ⟨F, g, g13, g64, g71, g72, g73⟩ := g_bgM_f (M := M) (p := p) (b := b)
  have F' : ∀ q, q = 51 ∨ q = 52 ∨ q = 53 ∨ q = 55 ∨ q = 56 ∨ q = 57 ∨ q = 58 ∨ q = 66 ∨ q = 67 ∨ q = 68 ∨ q = 69 ∨ q = 70 ∨ q = 74 ∨ q = 75 → g_bgM M p b q = M q := fun q hq => F q (by omega) (by omega) (by omega) (by omega) (by omega) (by omega)
  have g59 := fun i => (g_bgM_59 (M := M) (p := p) (b := b) (i := i)).1
  have g26 := (g_bgM_59 (M := M) (p := p) (b := b) (i := 0)).2
  rw [hfb] at g59 g73
  have G : ∀ q, q ≠ 0 → q ≠ 20 + f → q ≠ 30 + b → (ip_sB S f b p (M 59 f - 10 * M 66 b) (M 50 13 + 8 * M 66 b) (M 50 26 + 1) (M 50 0) (g_hold M f (M 50 0).toNatClampNeg)).1 q = S.1 q := by
    intro q a1 a2 a3
    unfold ip_sB
    rw [ip_sIP a3, ip_sIP a3, ip_sIP a3]
    show (ip_sI (ip_sI (ip_sI S (20 + f) 4 (M 59 f - 10 * M 66 b)) 0 11 (M 50 13 + 8 * M 66 b)) 0 12 (M 50 26 + 1)).1 q = S.1 q
    rw [ip_sIP a1, ip_sIP a1, ip_sIP a2]
  have G0 : ∀ k, k ≠ 11 → k ≠ 12 → (ip_sB S f b p (M 59 f - 10 * M 66 b) (M 50 13 + 8 * M 66 b) (M 50 26 + 1) (M 50 0) (g_hold M f (M 50 0).toNatClampNeg)).1 0 k = S.1 0 k := by
    intro k a1 a2
    unfold ip_sB
    rw [ip_sI_p (by omega), ip_sI_p (by omega), ip_sI_p (by omega)]
    show (ip_sI (ip_sI (ip_sI S (20 + f) 4 (M 59 f - 10 * M 66 b)) 0 11 (M 50 13 + 8 * M 66 b)) 0 12 (M 50 26 + 1)).1 0 k = S.1 0 k
    rw [ip_sI_k a2, ip_sI_k a1, ip_sI_p (by omega)]
  have G11 : (ip_sB S f b p (M 59 f - 10 * M 66 b) (M 50 13 + 8 * M 66 b) (M 50 26 + 1) (M 50 0) (g_hold M f (M 50 0).toNatClampNeg)).1 0 11 = M 50 13 + 8 * M 66 b := by
    unfold ip_sB
    rw [ip_sI_p (by omega), ip_sI_p (by omega), ip_sI_p (by omega)]
    show (ip_sI (ip_sI (ip_sI S (20 + f) 4 (M 59 f - 10 * M 66 b)) 0 11 (M 50 13 + 8 * M 66 b)) 0 12 (M 50 26 + 1)).1 0 11 = _
    rw [ip_sI_k (by decide), ip_sI_same]
  have G12 : (ip_sB S f b p (M 59 f - 10 * M 66 b) (M 50 13 + 8 * M 66 b) (M 50 26 + 1) (M 50 0) (g_hold M f (M 50 0).toNatClampNeg)).1 0 12 = M 50 26 + 1 := by
    unfold ip_sB
    rw [ip_sI_p (by omega), ip_sI_p (by omega), ip_sI_p (by omega)]
    show (ip_sI (ip_sI (ip_sI S (20 + f) 4 (M 59 f - 10 * M 66 b)) 0 11 (M 50 13 + 8 * M 66 b)) 0 12 (M 50 26 + 1)).1 0 12 = _
    rw [ip_sI_same]
  have Gf : ∀ k, (ip_sB S f b p (M 59 f - 10 * M 66 b) (M 50 13 + 8 * M 66 b) (M 50 26 + 1) (M 50 0) (g_hold M f (M 50 0).toNatClampNeg)).1 (20 + f) k = if k = 4 then M 59 f - 10 * M 66 b else S.1 (20 + f) k := by
    intro k
    unfold ip_sB
    rw [ip_sI_p (by omega), ip_sI_p (by omega), ip_sI_p (by omega)]
    show (ip_sI (ip_sI (ip_sI S (20 + f) 4 (M 59 f - 10 * M 66 b)) 0 11 (M 50 13 + 8 * M 66 b)) 0 12 (M 50 26 + 1)).1 (20 + f) k = _
    rw [ip_sI_p (by omega), ip_sI_p (by omega)]
    by_cases hk : k = 4
    · subst hk; rw [ip_sI_same, if_pos rfl]
    · rw [ip_sI_k hk, if_neg hk]
  have Gb : ∀ k, k ≠ 6 → k ≠ 7 → k ≠ 10 → (ip_sB S f b p (M 59 f - 10 * M 66 b) (M 50 13 + 8 * M 66 b) (M 50 26 + 1) (M 50 0) (g_hold M f (M 50 0).toNatClampNeg)).1 (30 + b) k = S.1 (30 + b) k := by
    intro k a1 a2 a3
    unfold ip_sB
    rw [ip_sI_k a3, ip_sI_k a2, ip_sI_k a1]
    show (ip_sI (ip_sI (ip_sI S (20 + f) 4 (M 59 f - 10 * M 66 b)) 0 11 (M 50 13 + 8 * M 66 b)) 0 12 (M 50 26 + 1)).1 (30 + b) k = _
    rw [ip_sI_p (by omega), ip_sI_p (by omega), ip_sI_p (by omega)]
  have GR : ∀ q, q ≠ 7 → (ip_sB S f b p (M 59 f - 10 * M 66 b) (M 50 13 + 8 * M 66 b) (M 50 26 + 1) (M 50 0) (g_hold M f (M 50 0).toNatClampNeg)).2.1 q = S.2.1 q := fun q a => funext (fun k => if_neg (fun z => a z.1))
  refine ⟨nf, nj, np, hv', ?_, ⟨fun i hi => ?_, fun i hi h4 => ?_⟩, ⟨fun j hj => ?_, fun j hj h12 => ?_⟩, ?_⟩
  · obtain ⟨s8, s2, s4, s6, s9, s10, s11, s12, t4, t2, t3⟩ := hS
    refine ⟨?_, ?_, ?_, ?_, ?_, ?_, ?_, ?_, ?_, ?_, ?_⟩
    · rw [G0 8 (by decide) (by decide), g 0 (by decide) (by decide)]; exact s8
    · rw [G0 2 (by decide) (by decide), g 4 (by decide) (by decide)]; exact s2
    · rw [G0 4 (by decide) (by decide), g 15 (by decide) (by decide)]; exact s4
    · rw [G0 6 (by decide) (by decide), g 10 (by decide) (by decide)]; exact s6
    · rw [G0 9 (by decide) (by decide), g 11 (by decide) (by decide)]; exact s9
    · rw [G0 10 (by decide) (by decide), g 12 (by decide) (by decide)]; exact s10
    · rw [G11, g13]
    · rw [G12, g26]
    · rw [G 4 (by omega) (by omega) (by omega), F' 51 (by omega)]; exact t4
    · rw [G 2 (by omega) (by omega) (by omega), F' 52 (by omega)]; exact t2
    · rw [G 3 (by omega) (by omega) (by omega), F' 53 (by omega)]; exact t3
  · obtain ⟨f1, f2, f3, f4, f5, f6, f7, f8, f9⟩ := hF.1 i hi
    rw [GR 5 (by decide), GR (20 + i) (by omega), F' 55 (by omega), F' 56 (by omega), F' 57 (by omega), F' 58 (by omega), g59, G (20 + i + 4) (by omega) (by omega) (by omega)]
    by_cases hif : i = f
    · subst hif
      rw [Gf 0, Gf 2, Gf 3, Gf 4]
      exact ⟨f1, f2, f3, f4, f5, f6, f7, by rw [if_pos rfl, if_pos rfl], f9⟩
    · rw [G (20 + i) (by omega) (by omega) (by omega), if_neg hif]
      exact ⟨f1, f2, f3, f4, f5, f6, f7, f8, f9⟩
  · rw [GR 5 (by decide)]
    exact hF.2 i hi h4
  · obtain ⟨j1, j2, j3, j4, j5, j6, j7, j8, j9, j10, j11, j12, j13⟩ := hJ.1 j hj
    rw [GR 6 (by decide), GR (30 + j) (by omega), F' 66 (by omega), F' 67 (by omega), F' 68 (by omega), F' 69 (by omega), F' 70 (by omega), F' 74 (by omega), F' 75 (by omega), g71, g72, g73]
    by_cases hjb : j = b
    · subst hjb
      rw [Gb 0 (by decide) (by decide) (by decide), Gb 1 (by decide) (by decide) (by decide), Gb 3 (by decide) (by decide) (by decide), Gb 4 (by decide) (by decide) (by decide), Gb 5 (by decide) (by decide) (by decide), Gb 8 (by decide) (by decide) (by decide), Gb 9 (by decide) (by decide) (by decide), if_pos rfl, if_pos rfl, if_pos rfl]
      refine ⟨j1, j2, j3, j4, j5, j6, j7, j8, ?_, j10, j11, fun _ => ⟨?_, p, hp, by rw [g64, if_pos rfl], ?_⟩, fun z => absurd rfl z⟩
      · unfold ip_sB; rw [ip_sI_k (by decide), ip_sI_same]
      · unfold ip_sB; rw [ip_sI_same]
      · unfold ip_sB; rw [ip_sI_k (by decide), ip_sI_k (by decide), ip_sI_same]
    · rw [G (30 + j) (by omega) (by omega) (by omega), if_neg hjb, if_neg hjb, if_neg hjb]
      refine ⟨j1, j2, j3, j4, j5, j6, j7, j8, j9, j10, j11, fun z => ?_, j13⟩
      obtain ⟨k1, q, k2, k3, k4⟩ := j12 z
      refine ⟨k1, q, k2, ?_, k4⟩
      rw [g64, if_neg]
      · exact k3
      · intro e
        subst e
        rw [h0] at k3
        exact absurd k3.symm (nI_ne0 (by omega) (by omega))
  · rw [GR 6 (by decide)]
    exact hJ.2 j hj h12
  · intro q hq
    rw [g64]
    show (if 7 = 7 ∧ q = p then some (30 + b) else S.2.1 7 q) = _
    by_cases hqp : q = p
    · rw [if_pos ⟨rfl, hqp⟩, if_pos hqp, if_neg (nI_ne0 (by omega) (by omega)), nI_clamp (by omega), show 29 + (b + 1) = 30 + b by omega]
    · rw [if_neg (fun z => hqp z.2), if_neg hqp]
      exact hP q hq
