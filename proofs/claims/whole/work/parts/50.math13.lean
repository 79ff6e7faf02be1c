/-! THE PLAN: all orders of m places, in the order of their numbers -/
def g_all (m : Nat) : Nat → List Nat → List (List Nat)
  | 0, P => [P]
  | n + 1, P => (List.range m).flatMap (fun x => if x ∈ P then [] else g_all m n (P ++ [x]))
def g_fa : Nat → Nat
  | 0 => 1
  | n + 1 => (n + 1) * g_fa n
/-- one treatment behind what went before -/
def g_stp (M : ip_M) (j : Nat) (a : Int32 × Int32) : Int32 × Int32 := ((if a.1 < M 68 j then M 68 j else a.1) + 2 * M 66 j, a.2 + ((if a.1 < M 68 j then M 68 j else a.1) - M 67 j))
def g_cst (M : ip_M) (V : Nat → Nat) (P : List Nat) : Int32 × Int32 := P.foldl (fun a x => g_stp M (V x) a) (M 50 0, 0)
def g_upd (M : ip_M) (V : Nat → Nat) (a : Int32 × List Nat) (P : List Nat) : Int32 × List Nat := if (g_cst M V P).2 < a.1 then ((g_cst M V P).2, P) else a
def g_dfs (M : ip_M) (V : Nat → Nat) (m : Nat) : Nat → List Nat → Int32 × List Nat → Int32 × List Nat
  | 0, P, a => if a.1 ≤ (g_cst M V P).2 then a else ((g_cst M V P).2, P)
  | n + 1, P, a => if a.1 ≤ (g_cst M V P).2 then a else (List.range m).foldl (fun a x => if x ∈ P then a else g_dfs M V m n (P ++ [x]) a) a
def ip_jb (M : ip_M) (j : Nat) : Prop := (1 ≤ (M 66 j).toInt ∧ (M 66 j).toInt ≤ 5) ∧ (0 ≤ (M 67 j).toInt ∧ (M 67 j).toInt ≤ 299) ∧ ((M 67 j).toInt ≤ (M 68 j).toInt ∧ (M 68 j).toInt ≤ 319)
theorem g_stp_b {M : ip_M} {j : Nat} {a : Int32 × Int32} {d : Int} (hj : ip_jb M j) (hd0 : 0 ≤ d) (hd : d ≤ 4) (h1 : 0 ≤ a.1.toInt ∧ a.1.toInt ≤ 319 + 10 * d) (h2 : 0 ≤ a.2.toInt ∧ a.2.toInt ≤ 400 * d) : (0 ≤ (g_stp M j a).1.toInt ∧ (g_stp M j a).1.toInt ≤ 319 + 10 * (d + 1)) ∧ (a.2.toInt ≤ (g_stp M j a).2.toInt ∧ (g_stp M j a).2.toInt ≤ 400 * (d + 1)) := by
  obtain ⟨b1, b2, b3⟩ := hj
  have hb : ∃ b : Int32, (if a.1 < M 68 j then M 68 j else a.1) = b ∧ (M 67 j).toInt ≤ b.toInt ∧ 0 ≤ b.toInt ∧ b.toInt ≤ 319 + 10 * d := by
    by_cases h : a.1 < M 68 j
    · exact ⟨_, if_pos h, b3.1, by omega, by omega⟩
    · refine ⟨_, if_neg h, ?_, h1.1, h1.2⟩
      rw [ip_ltI] at h
      omega
  obtain ⟨b, hb0, hb1, hb2, hb3⟩ := hb
  have e2 : (2 : Int32).toInt = 2 := rfl
  have em : (2 * M 66 j).toInt = 2 * (M 66 j).toInt := by
    rw [ip_mulI (by rw [e2]; omega) (by rw [e2]; omega), e2]
  have e3 : (b - M 67 j).toInt = b.toInt - (M 67 j).toInt := ip_subI (by omega) (by omega)
  unfold g_stp
  rw [hb0]
  have e4 : (b + 2 * M 66 j).toInt = b.toInt + 2 * (M 66 j).toInt := by rw [ip_addI (by omega) (by omega), em]
  have e5 : (a.2 + (b - M 67 j)).toInt = a.2.toInt + (b.toInt - (M 67 j).toInt) := by rw [ip_addI (by omega) (by omega), e3]
  show (0 ≤ (b + 2 * M 66 j).toInt ∧ (b + 2 * M 66 j).toInt ≤ 319 + 10 * (d + 1)) ∧ (a.2.toInt ≤ (a.2 + (b - M 67 j)).toInt ∧ (a.2 + (b - M 67 j)).toInt ≤ 400 * (d + 1))
  rw [e4, e5]
  omega
theorem g_cst_s {M : ip_M} {V : Nat → Nat} {P : List Nat} {x : Nat} : g_cst M V (P ++ [x]) = g_stp M (V x) (g_cst M V P) := by
  unfold g_cst
  rw [List.foldl_append]
  rfl
theorem ip_rev {p : List Nat → Prop} (h0 : p []) (hs : ∀ P x, p P → p (P ++ [x])) : ∀ P, p P := by
  intro P
  have : ∀ Q : List Nat, p Q.reverse := by
    intro Q
    induction Q with
    | nil => exact h0
    | cons x Q ih => rw [List.reverse_cons]; exact hs _ _ ih
  have h := this P.reverse
  rw [List.reverse_reverse] at h
  exact h
theorem g_cst_b {M : ip_M} {V : Nat → Nat} (h0 : 0 ≤ (M 50 0).toInt ∧ (M 50 0).toInt ≤ 299) : ∀ P : List Nat, P.length ≤ 5 → (∀ x ∈ P, ip_jb M (V x)) → (0 ≤ (g_cst M V P).1.toInt ∧ (g_cst M V P).1.toInt ≤ 319 + 10 * (P.length : Int)) ∧ (0 ≤ (g_cst M V P).2.toInt ∧ (g_cst M V P).2.toInt ≤ 400 * (P.length : Int)) := by
  refine ip_rev ?_ ?_
  · intro _ _
    show (0 ≤ (M 50 0).toInt ∧ (M 50 0).toInt ≤ 319 + 10 * 0) ∧ (0 ≤ (0 : Int32).toInt ∧ (0 : Int32).toInt ≤ 400 * 0)
    have e : (0 : Int32).toInt = 0 := rfl
    rw [e]
    omega
  · intro P x ih hl hP
    rw [List.length_append] at hl
    have hl : P.length + 1 ≤ 5 := hl
    obtain ⟨i1, i2⟩ := ih (by omega) (fun y hy => hP y (List.mem_append_left _ hy))
    have := g_stp_b (hP x (List.mem_append_right _ List.mem_cons_self)) (d := P.length) (by omega) (by omega) i1 i2
    rw [g_cst_s, List.length_append]
    obtain ⟨j1, j2⟩ := this
    have ec : ((P.length + [x].length : Nat) : Int) = (P.length : Int) + 1 := rfl
    rw [ec]
    exact ⟨j1, by omega, j2.2⟩
theorem g_cst_m {M : ip_M} {V : Nat → Nat} (h0 : 0 ≤ (M 50 0).toInt ∧ (M 50 0).toInt ≤ 299) {P : List Nat} {x : Nat} (hl : P.length + 1 ≤ 5) (hP : ∀ y ∈ P, ip_jb M (V y)) (hx : ip_jb M (V x)) : (g_cst M V P).2.toInt ≤ (g_cst M V (P ++ [x])).2.toInt := by
  obtain ⟨i1, i2⟩ := g_cst_b h0 P (by omega) hP
  rw [g_cst_s]
  exact (g_stp_b hx (d := P.length) (by omega) (by omega) i1 i2).2.1
theorem g_all_ge {M : ip_M} {V : Nat → Nat} {m : Nat} (h0 : 0 ≤ (M 50 0).toInt ∧ (M 50 0).toInt ≤ 299) (hV : ∀ x, x < m → ip_jb M (V x)) : ∀ (n : Nat) (P : List Nat), P.length + n ≤ 5 → (∀ y ∈ P, y < m) → ∀ Q ∈ g_all m n P, (g_cst M V P).2.toInt ≤ (g_cst M V Q).2.toInt ∧ Q.length = P.length + n ∧ ∀ y ∈ Q, y < m
  | 0, P, hl, hP, Q, hQ => by
    have : Q = P := by simpa [g_all] using hQ
    subst this
    exact ⟨Int.le_refl _, rfl, hP⟩
  | n + 1, P, hl, hP, Q, hQ => by
    obtain ⟨x, hx, hQ⟩ := List.mem_flatMap.mp hQ
    by_cases hm : x ∈ P
    · rw [if_pos hm] at hQ
      exact absurd hQ List.not_mem_nil
    · rw [if_neg hm] at hQ
      have hx := List.mem_range.mp hx
      have hP' : ∀ y ∈ P ++ [x], y < m := by
        intro y hy
        rcases List.mem_append.mp hy with h | h
        · exact hP y h
        · rw [List.mem_singleton.mp h]; exact hx
      have hl' : (P ++ [x]).length = P.length + 1 := List.length_append
      obtain ⟨a, b, c⟩ := g_all_ge h0 hV n (P ++ [x]) (by omega) hP' Q hQ
      refine ⟨Int.le_trans (g_cst_m h0 (by omega) (fun y hy => hV y (hP y hy)) (hV x hx)) a, by omega, c⟩
theorem g_upd_no {M : ip_M} {V : Nat → Nat} {a : Int32 × List Nat} : ∀ L : List (List Nat), (∀ Q ∈ L, a.1 ≤ (g_cst M V Q).2) → L.foldl (g_upd M V) a = a
  | [], _ => rfl
  | Q :: L, h => by
    have h1 : g_upd M V a Q = a := if_neg (Int32.not_lt.mpr (h Q List.mem_cons_self))
    rw [List.foldl_cons, h1]
    exact g_upd_no L (fun Q hQ => h Q (List.mem_cons_of_mem _ hQ))
theorem ip_fold_fm {α : Type} (g : α → List Nat → α) (f : Nat → List (List Nat)) : ∀ (L : List Nat) (a : α), (L.flatMap f).foldl g a = L.foldl (fun a x => (f x).foldl g a) a
  | [], _ => rfl
  | x :: L, a => by
    rw [List.flatMap_cons, List.foldl_append, List.foldl_cons]
    exact ip_fold_fm g f L _
theorem ip_fold_x {α : Type} (f g : α → Nat → α) : ∀ (L : List Nat) (a : α), (∀ a x, x ∈ L → f a x = g a x) → L.foldl f a = L.foldl g a
  | [], _, _ => rfl
  | x :: L, a, h => by
    rw [List.foldl_cons, List.foldl_cons, h a x List.mem_cons_self]
    exact ip_fold_x f g L _ (fun a y hy => h a y (List.mem_cons_of_mem _ hy))
theorem g_dfs_all {M : ip_M} {V : Nat → Nat} {m : Nat} (h0 : 0 ≤ (M 50 0).toInt ∧ (M 50 0).toInt ≤ 299) (hV : ∀ x, x < m → ip_jb M (V x)) : ∀ (n : Nat) (P : List Nat) (a : Int32 × List Nat), P.length + n ≤ 5 → (∀ y ∈ P, y < m) → g_dfs M V m n P a = (g_all m n P).foldl (g_upd M V) a
  | 0, P, a, hl, hP => by
    show (if a.1 ≤ (g_cst M V P).2 then a else ((g_cst M V P).2, P)) = (if (g_cst M V P).2 < a.1 then ((g_cst M V P).2, P) else a)
    by_cases h : a.1 ≤ (g_cst M V P).2
    · rw [if_pos h, if_neg (Int32.not_lt.mpr h)]
    · rw [if_neg h, if_pos (Int32.not_le.mp h)]
  | n + 1, P, a, hl, hP => by
    show (if a.1 ≤ (g_cst M V P).2 then a else (List.range m).foldl (fun a x => if x ∈ P then a else g_dfs M V m n (P ++ [x]) a) a) = _
    by_cases h : a.1 ≤ (g_cst M V P).2
    · rw [if_pos h, g_upd_no]
      intro Q hQ
      rw [ip_leI] at h ⊢
      exact Int.le_trans h (g_all_ge h0 hV (n + 1) P hl hP Q hQ).1
    · rw [if_neg h]
      show _ = ((List.range m).flatMap (fun x => if x ∈ P then [] else g_all m n (P ++ [x]))).foldl (g_upd M V) a
      rw [ip_fold_fm]
      refine ip_fold_x _ _ _ _ (fun a x hx => ?_)
      by_cases hm : x ∈ P
      · rw [if_pos hm, if_pos hm]; rfl
      · rw [if_neg hm, if_neg hm]
        have hx := List.mem_range.mp hx
        refine g_dfs_all h0 hV n (P ++ [x]) a (by rw [List.length_append]; simp only [List.length_cons, List.length_nil]; omega) ?_
        intro y hy
        rcases List.mem_append.mp hy with h | h
        · exact hP y h
        · rw [List.mem_singleton.mp h]; exact hx
/-- once one order was taken, what is kept is one of them -/
def g_ok (m : Nat) (a : Int32 × List Nat) : Prop := (0 ≤ a.1.toInt ∧ a.1.toInt ≤ 2000) ∧ a.2.length = m ∧ ∀ y ∈ a.2, y < m
theorem g_upd_ok {M : ip_M} {V : Nat → Nat} {m : Nat} {a : Int32 × List Nat} {Q : List Nat} (h0 : 0 ≤ (M 50 0).toInt ∧ (M 50 0).toInt ≤ 299) (hV : ∀ x, x < m → ip_jb M (V x)) (hm : m ≤ 5) (hQ : Q.length = m ∧ ∀ y ∈ Q, y < m) (ha : g_ok m a ∨ a.1 = 2147483647) : g_ok m (g_upd M V a Q) := by
  obtain ⟨-, b⟩ := g_cst_b h0 Q (by omega) (fun y hy => hV y (hQ.2 y hy))
  unfold g_upd
  by_cases h : (g_cst M V Q).2 < a.1
  · rw [if_pos h]
    exact ⟨⟨b.1, by show (g_cst M V Q).2.toInt ≤ 2000; omega⟩, hQ.1, hQ.2⟩
  · rw [if_neg h]
    rcases ha with ha | ha
    · exact ha
    · rw [ha, ip_ltI] at h
      have e : (2147483647 : Int32).toInt = 2147483647 := rfl
      omega
/-! the number's order, as the reference makes it -/
def tk_in (left : Int32) : Nat → Int32 → Int32 → Option Int32
  | 0, _, _ => none
  | n + 1, skip, k => if left >>> (k &&& 31) &&& 1 = 0 then tk_in left n (skip - (left >>> (k &&& 31) &&& 1)) (k + 1) else if skip ≤ 0 then some k else tk_in left n (skip - (left >>> (k &&& 31) &&& 1)) (k + 1)
def tk_by (m : Nat) (i : Int32) (b : Int32) : Int32 := if nI m - 1 - i ≤ 0 then 1 else b / (nI m - 1 - i)
def tk_st (m n : Nat) : Nat → Int32 × Int32 × Int32
  | 0 => (nI n, 1 <<< (nI m &&& 31) - 1, nI (g_fa (m - 1)))
  | i + 1 => ((tk_st m n i).1 - (tk_st m n i).1 / (tk_st m n i).2.2 * (tk_st m n i).2.2, (tk_st m n i).2.1 &&& (1 <<< (((tk_in (tk_st m n i).2.1 8 ((tk_st m n i).1 / (tk_st m n i).2.2) 0).getD 0) &&& 31) ^^^ (-1)), tk_by m (nI i) (tk_st m n i).2.2)
def tk_run (m : Nat) : Nat → Int32 → Int32 → Int32 → Int32 → List (Option Int32)
  | 0, _, _, _, _ => []
  | f + 1, i, rest, left, b => let k := if b = 0 then none else tk_in left 8 (rest / b) 0
    k :: tk_run m f (i + 1) (rest - rest / b * b) (left &&& (1 <<< (k.getD 0 &&& 31) ^^^ (-1))) (tk_by m i b)
theorem tk_tab : ∀ m, m < 6 → (List.range (g_fa m)).map (fun n => tk_run m m 0 (nI n) (1 <<< (nI m &&& 31) - 1) (nI (g_fa (m - 1)))) = (g_all m m []).map (fun P => P.map (fun x => some (nI x))) := by decide +kernel
