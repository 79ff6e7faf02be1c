theorem ip_small {x : Int32} {lo hi : Int} (h0 : 0 ≤ lo) (h : lo ≤ x.toInt ∧ x.toInt ≤ hi) : ∃ n : Nat, x = nI n ∧ lo ≤ n ∧ (n : Int) ≤ hi := ⟨x.toInt.toNat, ip_ofI (by omega), by omega, by omega⟩
theorem ip_thin_rng {sp c : Int32} (h : 0 ≤ sp.toInt ∧ sp.toInt ≤ 100) : ∃ n : Nat, ip_thin sp c = nI n ∧ n ≤ 100 := by
  obtain ⟨n, rfl, h1, h2⟩ := ip_small (by omega) h
  unfold ip_thin
  split
  · refine ⟨n / 2, ?_, by omega⟩
    rw [show (2 : Int32) = nI 2 from rfl, pk_div (by omega) (by omega) (by omega)]
  · exact ⟨n, rfl, by omega⟩
theorem ip_hold_rng {k t q sp c : Int32} (hk : k = 0 ∨ k = 1 ∨ k = 2) (hs : 0 ≤ sp.toInt ∧ sp.toInt ≤ 100) (ht : ¬ k = 0 → 1 ≤ t.toInt ∧ t.toInt ≤ 4) (hq : k = 2 → 1 ≤ q.toInt ∧ q.toInt ≤ 10) : 0 ≤ (ip_hold k t q sp c).toInt ∧ (ip_hold k t q sp c).toInt ≤ 400 := by
  obtain ⟨n, hn, hn1⟩ := ip_thin_rng (c := c) hs
  unfold ip_hold
  rw [hn]
  have hN : ∀ m : Nat, m ≤ 400 → 0 ≤ (nI m).toInt ∧ (nI m).toInt ≤ 400 := fun m hm => by rw [nI_toInt (by omega)]; omega
  split
  · exact hN n (by omega)
  · rename_i h0
    obtain ⟨t', rfl, t1, t2⟩ := ip_small (by omega) (ht h0)
    have hm : n * t' ≤ 100 * 4 := Nat.mul_le_mul hn1 (by omega)
    split
    · rw [pk_mul]; exact hN _ hm
    · rename_i h1
      have h2 : k = 2 := by rcases hk with h | h | h; exact absurd h h0; exact absurd h h1; exact h
      obtain ⟨q', rfl, q1, q2⟩ := ip_small (by omega) (hq h2)
      have hm2 : n * t' * q' ≤ 400 * 10 := Nat.mul_le_mul hm (by omega)
      rw [pk_mul, pk_mul, show (10 : Int32) = nI 10 from rfl, pk_div (by omega) (by omega) (by omega)]
      exact hN _ (by omega)
theorem g_hold_rng {M : ip_M} {nf nj np f n : Nat} (hv : ip_vv M nf nj np) (hf : f < nf) : 0 ≤ (g_hold M f n).toInt ∧ (g_hold M f n).toInt ≤ 400 := by
  obtain ⟨h1, h2, h3, h4⟩ := hv.2.2.2.1 f hf
  obtain ⟨fl, hfl, -, hf2⟩ := ip_fallN hv.2.1 n
  unfold g_hold
  rw [hf2]
  exact ip_hold_rng h1 (h2 fl hfl) h3 h4
def g_dr (M : ip_M) : ip_M := ip_u M 50 13 (if M 50 12 < M 50 13 then M 50 13 - M 50 12 else 0)
theorem ip_vv_dr {M : ip_M} {nf nj np : Nat} (hv : ip_vv M nf nj np) : ip_vv (g_dr M) nf nj np := by
  obtain ⟨v1, v2, v3, v4, v5, v6⟩ := hv
  unfold g_dr
  have f : ∀ q, q ≠ 50 → ip_u M 50 13 (if M 50 12 < M 50 13 then M 50 13 - M 50 12 else 0) q = M q := fun q a => ip_u_P a
  have g : ∀ k, k ≠ 13 → ip_u M 50 13 (if M 50 12 < M 50 13 then M 50 13 - M 50 12 else 0) 50 k = M 50 k := fun k a => ip_u_k a
  refine ⟨?_, ip_vw_c (f 51 (by decide)) (f 52 (by decide)) (f 53 (by decide)) v2, ?_, ip_vf_c (f 55 (by decide)) (f 56 (by decide)) (f 57 (by decide)) (f 58 (by decide)) v4, ?_, ?_⟩
  · unfold ip_vn
    rw [g 4 (by decide), g 15 (by decide), g 10 (by decide)]
    exact v1
  · unfold ip_vs
    rw [g 0 (by decide), g 11 (by decide), g 12 (by decide), ip_u_same]
    obtain ⟨w1, w2, w3, w4⟩ := v3
    refine ⟨w1, w2, w3, ?_⟩
    split
    · rename_i hlt
      rw [ip_ltI] at hlt
      rw [ip_subI (by omega) (by omega)]
      omega
    · have : (0 : Int32).toInt = 0 := rfl
      omega
  · unfold ip_vj at v5 ⊢
    rw [g 0 (by decide), f 66 (by decide), f 67 (by decide), f 68 (by decide), f 69 (by decide), f 70 (by decide), f 71 (by decide), f 72 (by decide), f 73 (by decide), f 75 (by decide)]
    exact v5
  · unfold ip_vp at v6 ⊢
    rw [f 64 (by decide), f 71 (by decide)]
    exact v6
/-- no jet on the first pads is due -/
def ip_Lt (M : ip_M) (n : Nat) : Prop := ∀ p, p < n → p < 3 → ∀ j, j < 12 → M 64 p = nI (j + 1) → (M 50 0).toInt + 1 ≤ (M 72 j).toInt + 2 * (M 66 j).toInt
theorem ip_Lt_lv {M : ip_M} {nf nj np p : Nat} (hv : ip_vv M nf nj np) (hp : p < 3) (h : ip_Lt M p) : ip_Lt (g_lv1 M p) (p + 1) := by
  have key : ∀ M' : ip_M, (∀ q, q ≠ p → M' 64 q = M 64 q) → M' 64 p = 0 → M' 50 = M 50 → M' 72 = M 72 → M' 66 = M 66 → ip_Lt M' (p + 1) := by
    intro M' e1 e2 e3 e4 e5 q hq hq3 j hj hqj
    by_cases hqp : q = p
    · rw [hqp, e2] at hqj
      exact absurd hqj.symm (nI_ne0 (by omega) (by omega))
    · rw [e1 q hqp] at hqj
      rw [e3, e4, e5]
      exact h q (by omega) hq3 j hj hqj
  rcases ip_vp_at hv hp with h0 | ⟨j, h12, hj, -, h1, h2⟩
  · rw [g_lv1_0 h0]
    exact key M (fun _ _ => rfl) h0 rfl rfl rfl
  · rw [g_lv1_j h1 h12]
    split
    · split
      · exact key _ (fun q hq => by rw [ip_u_p (by decide), ip_u_p (by decide), ip_u_k hq]) (by rw [ip_u_p (by decide), ip_u_p (by decide), ip_u_same]) (by rw [ip_u_P (by decide), ip_u_P (by decide), ip_u_P (by decide)]) (by rw [ip_u_P (by decide), ip_u_P (by decide), ip_u_P (by decide)]) (by rw [ip_u_P (by decide), ip_u_P (by decide), ip_u_P (by decide)])
      · exact key _ (fun q hq => by rw [ip_u_p (by decide), ip_u_p (by decide), ip_u_p (by decide), ip_u_k hq]) (by rw [ip_u_p (by decide), ip_u_p (by decide), ip_u_p (by decide), ip_u_same]) (by rw [ip_u_P (by decide), ip_u_P (by decide), ip_u_P (by decide), ip_u_P (by decide)]) (by rw [ip_u_P (by decide), ip_u_P (by decide), ip_u_P (by decide), ip_u_P (by decide)]) (by rw [ip_u_P (by decide), ip_u_P (by decide), ip_u_P (by decide), ip_u_P (by decide)])
    · rename_i ht
      intro q hq hq3 i hi hqi
      by_cases hqp : q = p
      · subst hqp
        have hij : i = j := by
          have := ip_nI_inj (a := i + 1) (b := j + 1) (by omega) (by omega) (hqi.symm.trans h1)
          omega
        subst hij
        obtain ⟨c1, -, -, -, -, -, c7, -⟩ := hv.2.2.2.2.1 i hj
        obtain ⟨d1, d2, -⟩ := c7 h2
        have h2i : (2 : Int32).toInt = 2 := rfl
        have hm : ((2 : Int32) * M 66 i).toInt = 2 * (M 66 i).toInt := by rw [ip_mulI (by rw [h2i]; omega) (by rw [h2i]; omega), h2i]
        have hs : (M 72 i + 2 * M 66 i).toInt = (M 72 i).toInt + 2 * (M 66 i).toInt := by rw [ip_addI (by rw [hm]; omega) (by rw [hm]; omega), hm]
        have hne : ¬ (M 72 i).toInt + 2 * (M 66 i).toInt = (M 50 0).toInt := fun z => ht (ip_eqI.mpr (by rw [hs]; exact z))
        omega
      · exact h q (by omega) hq3 i hi hqi
def g_bgM (M : ip_M) (p b : Nat) : ip_M := ip_u (ip_u (ip_u (ip_u (ip_u (ip_u (ip_u M 64 p (nI b + 1)) 71 b 1) 72 b (M 50 0)) 73 b (g_hold M (M 70 b).toNatClampNeg (M 50 0).toNatClampNeg)) 59 (M 70 b).toNatClampNeg (M 59 (M 70 b).toNatClampNeg - 10 * M 66 b)) 50 13 (M 50 13 + 8 * M 66 b)) 50 26 (M 50 26 + 1)
theorem ip_bg_case {M : ip_M} {nf nj np p : Nat} (hv : ip_vv M nf nj np) : g_bg1 M p = M ∨ ∃ b, b < nj ∧ g_may M b ∧ M 64 p = 0 ∧ g_pick M nj = some b ∧ g_bg1 M p = g_bgM M p b := by
  have hc : (M 50 15).toNatClampNeg = nj := by rw [hv.1.2.2.1]; exact nI_clamp (by have := hv.1.2.2.2.1; omega)
  unfold g_bg1
  split
  · rename_i h0
    rw [hc]
    cases ho : g_pick M nj with
    | none => exact Or.inl rfl
    | some b => exact Or.inr ⟨b, (g_pick_lt ho).1, (g_pick_lt ho).2, h0, rfl, rfl⟩
  · exact Or.inl rfl
theorem g_bgM_f {M : ip_M} {p b : Nat} : (∀ q, q ≠ 64 → q ≠ 71 → q ≠ 72 → q ≠ 73 → q ≠ 59 → q ≠ 50 → g_bgM M p b q = M q) ∧ (∀ k, k ≠ 13 → k ≠ 26 → g_bgM M p b 50 k = M 50 k) ∧ g_bgM M p b 50 13 = M 50 13 + 8 * M 66 b ∧ (∀ q, g_bgM M p b 64 q = if q = p then nI (b + 1) else M 64 q) ∧ (∀ i, g_bgM M p b 71 i = if i = b then 1 else M 71 i) ∧ (∀ i, g_bgM M p b 72 i = if i = b then M 50 0 else M 72 i) ∧ (∀ i, g_bgM M p b 73 i = if i = b then g_hold M (M 70 b).toNatClampNeg (M 50 0).toNatClampNeg else M 73 i) := by
  unfold g_bgM
  refine ⟨fun q a1 a2 a3 a4 a5 a6 => ?_, fun k b1 b2 => ?_, ?_, fun q => ?_, fun i => ?_, fun i => ?_, fun i => ?_⟩
  · rw [ip_u_P a6, ip_u_P a6, ip_u_P a5, ip_u_P a4, ip_u_P a3, ip_u_P a2, ip_u_P a1]
  · rw [ip_u_k b2, ip_u_k b1, ip_u_p (by decide), ip_u_p (by decide), ip_u_p (by decide), ip_u_p (by decide), ip_u_p (by decide)]
  · rw [ip_u_k (by decide), ip_u_same]
  · rw [ip_u_p (by decide), ip_u_p (by decide), ip_u_p (by decide), ip_u_p (by decide), ip_u_p (by decide), ip_u_p (by decide)]
    by_cases h : q = p
    · subst h; rw [ip_u_same, if_pos rfl, nI_1]
    · rw [ip_u_k h, if_neg h]
  · rw [ip_u_p (by decide), ip_u_p (by decide), ip_u_p (by decide), ip_u_p (by decide), ip_u_p (by decide)]
    by_cases h : i = b
    · subst h; rw [ip_u_same, if_pos rfl]
    · rw [ip_u_k h, if_neg h, ip_u_p (by decide)]
  · rw [ip_u_p (by decide), ip_u_p (by decide), ip_u_p (by decide), ip_u_p (by decide)]
    by_cases h : i = b
    · subst h; rw [ip_u_same, if_pos rfl]
    · rw [ip_u_k h, if_neg h, ip_u_p (by decide), ip_u_p (by decide)]
  · rw [ip_u_p (by decide), ip_u_p (by decide), ip_u_p (by decide)]
    by_cases h : i = b
    · subst h; rw [ip_u_same, if_pos rfl]
    · rw [ip_u_k h, if_neg h, ip_u_p (by decide), ip_u_p (by decide), ip_u_p (by decide)]
