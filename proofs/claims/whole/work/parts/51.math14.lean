/-! who waits: the first five -/
def g_wl (M : ip_M) : Nat → List Nat
  | 0 => []
  | j + 1 => if (g_wl M j).length < 5 ∧ M 71 j = 0 then g_wl M j ++ [j] else g_wl M j
theorem g_wl_lt (M : ip_M) : ∀ (n y : Nat), y ∈ g_wl M n → y < n
  | 0, y, h => absurd h List.not_mem_nil
  | n + 1, y, h => by
    unfold g_wl at h
    split at h
    · rcases List.mem_append.mp h with h | h
      · have := g_wl_lt M n y h
        omega
      · rw [List.mem_singleton.mp h]; omega
    · have := g_wl_lt M n y h
      omega
theorem g_wl_len (M : ip_M) : ∀ n, (g_wl M n).length ≤ 5
  | 0 => Nat.zero_le _
  | n + 1 => by
    unfold g_wl
    split
    · rename_i h
      rw [List.length_append]
      have : [n].length = 1 := rfl
      omega
    · exact g_wl_len M n
theorem g_wl_full (M : ip_M) {i : Nat} (h : 5 ≤ (g_wl M i).length) : ∀ d, g_wl M (i + d) = g_wl M i
  | 0 => rfl
  | d + 1 => by
    have ih := g_wl_full M h d
    show (if (g_wl M (i + d)).length < 5 ∧ M 71 (i + d) = 0 then g_wl M (i + d) ++ [i + d] else g_wl M (i + d)) = _
    rw [ih, if_neg (fun z => by omega)]
def g_nj (M : ip_M) : Nat := (M 50 15).toNatClampNeg
def g_wt (M : ip_M) : List Nat := g_wl M (g_nj M)
def g_mn (M : ip_M) : Nat := (g_wt M).length
def g_V (M : ip_M) (x : Nat) : Nat := (g_wt M).getD x 0
theorem g_mn5 (M : ip_M) : g_mn M ≤ 5 := g_wl_len M _
theorem ip_getD {α : Type} {L : List α} {i : Nat} {d : α} (h : i < L.length) : L.getD i d = L[i] := by
  rw [List.getD_eq_getElem?_getD, List.getElem?_eq_getElem h]
  rfl
theorem ip_getD_mem {L : List Nat} {x : Nat} (h : x < L.length) : L.getD x 0 ∈ L := by
  rw [ip_getD h]
  exact List.getElem_mem h
theorem g_V_lt {M : ip_M} {x : Nat} (h : x < g_mn M) : g_V M x < g_nj M := g_wl_lt M _ _ (ip_getD_mem h)
theorem g_nj_vv {M : ip_M} {nf nj np : Nat} (hv : ip_vv M nf nj np) : g_nj M = nj := ip_vv_nj hv
theorem g_V_jb {M : ip_M} {nf nj np : Nat} (hv : ip_vv M nf nj np) (x : Nat) (h : x < g_mn M) : ip_jb M (g_V M x) := by
  have h1 := g_V_lt h
  rw [g_nj_vv hv] at h1
  obtain ⟨c1, c2, c3, c4, c5, c6, c7, c8⟩ := hv.2.2.2.2.1 _ h1
  exact ⟨c1, c3, c4⟩
def g_bst (M : ip_M) : Int32 × List Nat := (g_all (g_mn M) (g_mn M) []).foldl (g_upd M (g_V M)) (2147483647, [])
/-! the orders by number -/
def g_pm (m n : Nat) : List Nat := (g_all m m []).getD n []
theorem g_all_len (m : Nat) (h : m < 6) : (g_all m m []).length = g_fa m := by
  have := congrArg List.length (tk_tab m h)
  rw [List.length_map, List.length_map, List.length_range] at this
  exact this.symm
theorem g_fa_pos : ∀ n, 0 < g_fa n
  | 0 => Nat.one_pos
  | n + 1 => Nat.mul_pos (Nat.succ_pos n) (g_fa_pos n)
theorem g_fa_5 : ∀ m, m < 6 → g_fa m ≤ 120 := by decide
theorem g_pm_mem {m n : Nat} (h : m < 6) (hn : n < g_fa m) : g_pm m n ∈ g_all m m [] := by
  rw [← g_all_len m h] at hn
  unfold g_pm
  rw [ip_getD hn]
  exact List.getElem_mem hn
theorem g_all_mem (m : Nat) : ∀ (n : Nat) (P Q : List Nat), (∀ y ∈ P, y < m) → Q ∈ g_all m n P → Q.length = P.length + n ∧ ∀ y ∈ Q, y < m
  | 0, P, Q, hP, hQ => by
    have : Q = P := by simpa [g_all] using hQ
    subst this
    exact ⟨rfl, hP⟩
  | n + 1, P, Q, hP, hQ => by
    obtain ⟨x, hx, hQ⟩ := List.mem_flatMap.mp hQ
    by_cases hm : x ∈ P
    · rw [if_pos hm] at hQ
      exact absurd hQ List.not_mem_nil
    · rw [if_neg hm] at hQ
      have hx := List.mem_range.mp hx
      obtain ⟨b, c⟩ := g_all_mem m n (P ++ [x]) Q (by
        intro y hy
        rcases List.mem_append.mp hy with h | h
        · exact hP y h
        · rw [List.mem_singleton.mp h]; exact hx) hQ
      have hl' : (P ++ [x]).length = P.length + 1 := List.length_append
      exact ⟨by omega, c⟩
theorem g_pm_ok {m n : Nat} (h : m < 6) (hn : n < g_fa m) : (g_pm m n).length = m ∧ ∀ y ∈ g_pm m n, y < m := by
  have := g_all_mem m m [] _ (fun y hy => absurd hy List.not_mem_nil) (g_pm_mem h hn)
  rw [List.length_nil, Nat.zero_add] at this
  exact this
theorem tk_row {m n : Nat} (h : m < 6) (hn : n < g_fa m) : tk_run m m 0 (nI n) (1 <<< (nI m &&& 31) - 1) (nI (g_fa (m - 1))) = (g_pm m n).map (fun x => some (nI x)) := by
  have e := congrArg (fun L => L[n]?) (tk_tab m h)
  have hn' := hn
  rw [← g_all_len m h] at hn'
  simp only [List.getElem?_map] at e
  rw [List.getElem?_range hn, List.getElem?_eq_getElem hn'] at e
  simp only [Option.map_some, Option.some.injEq] at e
  unfold g_pm
  rw [ip_getD hn']
  exact e
theorem tk_step {m f : Nat} {i rest left b : Int32} {L : List Nat} {j : Nat} (hj : j < L.length) (h : tk_run m (f + 1) i rest left b = (L.drop j).map (fun x => some (nI x))) : ¬ b = 0 ∧ tk_in left 8 (rest / b) 0 = some (nI (L.getD j 0)) ∧ tk_run m f (i + 1) (rest - rest / b * b) (left &&& (1 <<< (nI (L.getD j 0) &&& 31) ^^^ (-1))) (tk_by m i b) = (L.drop (j + 1)).map (fun x => some (nI x)) := by
  have ed : L.drop j = L.getD j 0 :: L.drop (j + 1) := by
    rw [ip_getD hj]
    exact List.drop_eq_getElem_cons hj
  rw [ed, List.map_cons] at h
  have h : (if b = 0 then none else tk_in left 8 (rest / b) 0) :: tk_run m f (i + 1) (rest - rest / b * b) (left &&& (1 <<< ((if b = 0 then none else tk_in left 8 (rest / b) 0).getD 0 &&& 31) ^^^ (-1))) (tk_by m i b) = some (nI (L.getD j 0)) :: (L.drop (j + 1)).map (fun x => some (nI x)) := h
  rw [List.cons.injEq] at h
  obtain ⟨h1, h2⟩ := h
  rw [h1] at h2
  by_cases hb : b = 0
  · rw [if_pos hb] at h1
    cases h1
  · rw [if_neg hb] at h1
    exact ⟨hb, h1, h2⟩
/-- the row as it is filled -/
def g_row (M : ip_M) (L : List Nat) : ip_M := fun q j => if q = 80 ∧ j < L.length then M 79 (L.getD j 0) else M q j
theorem g_row_p {M : ip_M} {L : List Nat} {q j : Nat} (h : q ≠ 80) : g_row M L q j = M q j := if_neg (fun z => h z.1)
theorem g_row_P {M : ip_M} {L : List Nat} {q : Nat} (h : q ≠ 80) : g_row M L q = M q := funext (fun _ => g_row_p h)
theorem g_row_s {M : ip_M} {L : List Nat} {i : Nat} (h : i < L.length) : ip_u (g_row M (L.take i)) 80 i (M 79 (L.getD i 0)) = g_row M (L.take (i + 1)) := by
  funext q j
  unfold ip_u g_row
  have l1 : (L.take i).length = i := by rw [List.length_take]; omega
  have l2 : (L.take (i + 1)).length = i + 1 := by rw [List.length_take]; omega
  rw [l1, l2]
  by_cases hq : q = 80
  · subst hq
    by_cases hj : j = i
    · subst hj
      rw [if_pos ⟨rfl, rfl⟩, if_pos ⟨rfl, by omega⟩]
      simp only [List.getD_eq_getElem?_getD, List.getElem?_take]
      rw [if_pos (by omega)]
    · rw [if_neg (fun z => hj z.2)]
      by_cases hlt : j < i
      · rw [if_pos ⟨rfl, hlt⟩, if_pos ⟨rfl, by omega⟩]
        simp only [List.getD_eq_getElem?_getD, List.getElem?_take]
        rw [if_pos hlt, if_pos (by omega)]
      · rw [if_neg (fun z => hlt z.2), if_neg (fun z => by omega)]
  · rw [if_neg (fun z => hq z.1), if_neg (fun z => hq z.1), if_neg (fun z => hq z.1)]
theorem ip_take_fold {α : Type} (f : α → Nat → α) (a : α) {L : List Nat} {i : Nat} (h : i < L.length) : (L.take (i + 1)).foldl f a = f ((L.take i).foldl f a) (L.getD i 0) := by
  rw [List.take_succ_eq_append_getElem h, List.foldl_append, ip_getD h]
  rfl
/-- the plan's own rows, which nothing else reads -/
def ip_pq (M M' : ip_M) : Prop := ∀ q j, q < 79 → ¬ (q = 50 ∧ j = 28) → M' q j = M q j
theorem ip_pq.rf {M : ip_M} : ip_pq M M := fun _ _ _ _ => rfl
theorem ip_pq.tr {M M1 M2 : ip_M} (h : ip_pq M M1) (h2 : ip_pq M1 M2) : ip_pq M M2 := fun q j a b => (h2 q j a b).trans (h q j a b)
theorem ip_pq.u {M M1 : ip_M} (h : ip_pq M M1) {q k : Nat} (hq : 79 ≤ q ∨ (q = 50 ∧ k = 28)) (v : Int32) : ip_pq M (ip_u M1 q k v) := fun p j a b => by
  rw [ip_u_ne (fun z => by omega)]
  exact h p j a b
theorem ip_pq.row {M M1 : ip_M} (h : ip_pq M M1) (L : List Nat) : ip_pq M (g_row M1 L) := fun p j a b => by
  rw [g_row_p (by omega)]
  exact h p j a b
theorem ip_pq.P {M M1 : ip_M} (h : ip_pq M M1) {q : Nat} (h1 : q < 79) (h2 : q ≠ 50) : M1 q = M q := funext (fun j => h q j h1 (fun z => h2 z.1))
theorem ip_pq.vv {M M1 : ip_M} {nf nj np : Nat} (h : ip_pq M M1) (hv : ip_vv M nf nj np) : ip_vv M1 nf nj np := by
  obtain ⟨v1, v2, v3, v4, v5, v6⟩ := hv
  refine ⟨?_, ip_vw_c (h.P (by decide) (by decide)) (h.P (by decide) (by decide)) (h.P (by decide) (by decide)) v2, ?_, ip_vf_c (h.P (by decide) (by decide)) (h.P (by decide) (by decide)) (h.P (by decide) (by decide)) (h.P (by decide) (by decide)) v4, ip_vj_c (h 50 0 (by decide) (by decide)) (fun q a b => h.P (by omega) (by omega)) v5, ip_vp_c (h.P (by decide) (by decide)) (h.P (by decide) (by decide)) v6⟩
  · unfold ip_vn
    rw [h 50 4 (by decide) (by decide), h 50 15 (by decide) (by decide), h 50 10 (by decide) (by decide)]
    exact v1
  · unfold ip_vs
    rw [h 50 0 (by decide) (by decide), h 50 11 (by decide) (by decide), h 50 12 (by decide) (by decide), h 50 13 (by decide) (by decide)]
    exact v3
theorem ip_pq.cR {M M1 : ip_M} {S : ip_S} (h : ip_pq M M1) (hR : ip_cR M S) : ip_cR M1 S := by
  obtain ⟨nf, nj, np, hv, hS, hF, hJ, hP⟩ := hR
  refine ⟨nf, nj, np, h.vv hv, ?_, ip_cF_c hv.1.2.1 (fun _ _ _ => rfl) (fun _ _ => rfl) (fun _ _ _ => rfl) (fun q a b => h.P (by omega) (by omega)) hF, ip_cJ_c hv.1.2.2.2.1 (fun _ _ _ => rfl) (fun _ _ => rfl) (fun _ _ _ => rfl) (h.P (by decide) (by decide)) (fun q a b => h.P (by omega) (by omega)) hJ, ip_cP_c rfl (h.P (by decide) (by decide)) hP⟩
  unfold ip_cS
  rw [h 50 0 (by decide) (by decide), h 50 4 (by decide) (by decide), h 50 15 (by decide) (by decide), h 50 10 (by decide) (by decide), h 50 11 (by decide) (by decide), h 50 12 (by decide) (by decide), h 50 13 (by decide) (by decide), h 50 26 (by decide) (by decide), h.P (q := 51) (by decide) (by decide), h.P (q := 52) (by decide) (by decide), h.P (q := 53) (by decide) (by decide)]
  exact hS
theorem ip_pq.stp {M M1 : ip_M} (h : ip_pq M M1) : g_stp M1 = g_stp M := by
  funext j a
  unfold g_stp
  rw [h.P (q := 66) (by decide) (by decide), h.P (q := 67) (by decide) (by decide), h.P (q := 68) (by decide) (by decide)]
theorem ip_pq.cst {M M1 : ip_M} (h : ip_pq M M1) (V : Nat → Nat) (P : List Nat) : (P.map V).foldl (fun a j => g_stp M1 j a) (M1 50 0, 0) = g_cst M V P := by
  rw [List.foldl_map, h.stp, h 50 0 (by decide) (by decide)]
  rfl
/-- what the plan answers -/
def g_plan (M : ip_M) (w i : Int32) : Int32 := if (0 ≤ w ∧ w ≤ 2) ∧ (w = 1 → 0 ≤ i ∧ i ≤ 4) then (if w = 0 then nI (g_mn M) else if w = 2 then (g_bst M).1 else if i < nI (g_mn M) then nI (g_V M ((g_bst M).2.getD i.toNatClampNeg 0)) else -900) else -100
theorem g_fold_ok {M : ip_M} {V : Nat → Nat} {m : Nat} (h0 : 0 ≤ (M 50 0).toInt ∧ (M 50 0).toInt ≤ 299) (hV : ∀ x, x < m → ip_jb M (V x)) (hm : m ≤ 5) : ∀ (L : List (List Nat)) (a : Int32 × List Nat), (∀ Q ∈ L, Q.length = m ∧ ∀ y ∈ Q, y < m) → g_ok m a ∨ (a.1 = 2147483647 ∧ L ≠ []) → g_ok m (L.foldl (g_upd M V) a)
  | [], a, _, ha => by
    rcases ha with ha | ha
    · exact ha
    · exact absurd rfl ha.2
  | Q :: L, a, hL, ha => by
    rw [List.foldl_cons]
    refine g_fold_ok h0 hV hm L _ (fun Q' hQ' => hL Q' (List.mem_cons_of_mem _ hQ')) (Or.inl (g_upd_ok h0 hV hm (hL Q List.mem_cons_self) ?_))
    rcases ha with ha | ha
    · exact Or.inl ha
    · exact Or.inr ha.1
theorem g_bst_ok {M : ip_M} {nf nj np : Nat} (hv : ip_vv M nf nj np) : g_ok (g_mn M) (g_bst M) := by
  have h5 := g_mn5 M
  refine g_fold_ok hv.2.2.1.1 (g_V_jb hv) h5 _ _ (fun Q hQ => ?_) (Or.inr ⟨rfl, fun z => ?_⟩)
  · have := g_all_mem (g_mn M) (g_mn M) [] Q (fun y hy => absurd hy List.not_mem_nil) hQ
    rw [List.length_nil, Nat.zero_add] at this
    exact this
  · have h1 := g_all_len (g_mn M) (by omega)
    have h2 := g_fa_pos (g_mn M)
    rw [z] at h1
    rw [← h1] at h2
    exact absurd h2 (by decide)
