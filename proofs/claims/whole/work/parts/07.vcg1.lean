/-! THE PICTURE: places instead of addresses; ints, references, longs and kinds by place and slot -/
abbrev ip_V : Type := Int32 ⊕ (Option Nat ⊕ Int64)
abbrev ip_S : Type := (Nat → Nat → Int32) × (Nat → Nat → Option Nat) × (Nat → Nat → Int64) × (Nat → Nat × Nat)
def ip_cv (ad : Nat → Nat) : ip_V → Value
  | .inl x => .int x
  | .inr (.inl r) => va_rf (r.map ad)
  | .inr (.inr x) => .long x
def ip_al (S : ip_S) (p : Nat) : Prop := (S.2.2.2 p).1 < 10
def ip_ax (S : ip_S) (p : Nat) : Prop := ip_al S p ∨ p = 99
def ip_ok (S : ip_S) (v : ip_V) : Prop := ∀ p, v = .inr (.inl (some p)) → ip_ax S p
def ip_cl (S : ip_S) : Prop := ∀ p k q, S.2.1 p k = some q → ip_ax S q
/-- the fields' types, class by class: 0 int, 1 reference, 2 long -/
def ip_ty : Nat → List Nat
  | 0 => [0, 1, 0, 0, 0]
  | 1 => [0, 0, 1, 0, 0, 0, 0, 0, 0, 0, 0]
  | 2 => [1, 1, 1, 1, 0, 0]
  | 3 => [1, 1, 1]
  | 4 => [1, 1, 0, 1, 0, 1, 0, 1, 0, 0, 0, 0, 0, 2]
  | 5 => [0, 1, 1, 1, 0, 1, 1, 1, 1, 1, 0, 0, 0, 0, 1, 0, 1, 1, 1, 1, 1, 1, 1, 1, 1, 1, 0, 2, 0, 1, 1, 1]
  | _ => []
def ip_fv (ad : Nat → Nat) (S : ip_S) (p k t : Nat) : Value := match t with
  | 0 => .int (S.1 p k)
  | 1 => va_rf ((S.2.1 p k).map ad)
  | _ => .long (S.2.2.1 p k)
def ip_fs (ad : Nat → Nat) (S : ip_S) (p : Nat) : List Nat → Nat → List Value
  | [], _ => []
  | t :: ts, k => ip_fv ad S p k t :: ip_fs ad S p ts (k + 1)
theorem ip_fs_at (ad : Nat → Nat) (S : ip_S) (p : Nat) : ∀ (ts : List Nat) (k j : Nat), (ip_fs ad S p ts k)[j]? = (ts[j]?).map (fun t => ip_fv ad S p (k + j) t)
  | [], k, j => by simp [ip_fs]
  | t :: ts, k, 0 => by simp [ip_fs]
  | t :: ts, k, j + 1 => by
    simp only [ip_fs, List.getElem?_cons_succ]
    rw [ip_fs_at ad S p ts (k + 1) j, show k + 1 + j = k + (j + 1) by omega]
theorem ip_fs_len (ad : Nat → Nat) (S : ip_S) (p : Nat) : ∀ (ts : List Nat) (k : Nat), (ip_fs ad S p ts k).length = ts.length
  | [], k => rfl
  | t :: ts, k => by simp [ip_fs, ip_fs_len ad S p ts (k + 1)]
def ip_E (cA : Nat → ClassId) (ad : Nat → Nat) (S : ip_S) (p : Nat) : va_E :=
  if (S.2.2.2 p).1 < 6 then .inr ((S.2.2.2 p).1, ip_fs ad S p (ip_ty (S.2.2.2 p).1) 0)
  else if (S.2.2.2 p).1 < 8 then .inl (cA (S.2.2.2 p).1, (S.2.2.2 p).2, .inl (S.1 p))
  else .inl (cA (S.2.2.2 p).1, (S.2.2.2 p).2, .inr (.inr (.inr (.inr (fun i => (S.2.1 p i).map ad)))))
def ip_wl (cA : Nat → ClassId) (ad : Nat → Nat) (L : List Nat) (S : ip_S) : va_W := L.map (fun p => (ad p, ip_E cA ad S p))
def ip_tys (cA : Nat → ClassId) : List (ClassId × FieldType) := [(cA 6, .int), (cA 7, .boolean), (cA 8, .object RX0), (cA 9, .object RX1)]
/-- writes -/
def ip_sI (S : ip_S) (p k : Nat) (v : Int32) : ip_S := (fun q j => if q = p ∧ j = k then v else S.1 q j, S.2)
def ip_sR (S : ip_S) (p k : Nat) (v : Option Nat) : ip_S := (S.1, fun q j => if q = p ∧ j = k then v else S.2.1 q j, S.2.2)
def ip_sJ (S : ip_S) (p k : Nat) (v : Int64) : ip_S := (S.1, S.2.1, fun q j => if q = p ∧ j = k then v else S.2.2.1 q j, S.2.2.2)
def ip_nw (S : ip_S) (p : Nat) (kd : Nat × Nat) : ip_S := (fun q j => if q = p then 0 else S.1 q j, fun q j => if q = p then none else S.2.1 q j, fun q j => if q = p then 0 else S.2.2.1 q j, fun q => if q = p then kd else S.2.2.2 q)
theorem ip_wl_at {cA : Nat → ClassId} {ad : Nat → Nat} {L : List Nat} {S : ip_S} {p : Nat} (h : p ∈ L) : ∃ k : Nat, L[k]? = some p ∧ (ip_wl cA ad L S)[k]? = some (ad p, ip_E cA ad S p) := by
  obtain ⟨k, hk⟩ := List.getElem?_of_mem h
  exact ⟨k, hk, by simp [ip_wl, hk]⟩
theorem ip_wl_set {cA : Nat → ClassId} {ad : Nat → Nat} {L : List Nat} {S S' : ip_S} {A : Nat → Prop} {p k : Nat} (hD : va_D A (ip_wl cA ad L S)) (hk : L[k]? = some p) (hne : ∀ q, q ≠ p → ip_E cA ad S' q = ip_E cA ad S q) : (ip_wl cA ad L S).set k (ad p, ip_E cA ad S' p) = ip_wl cA ad L S' := by
  have hkl : k < L.length := (List.getElem?_eq_some_iff.mp hk).1
  apply List.ext_getElem?
  intro i
  by_cases hi : i = k
  · subst hi
    rw [List.getElem?_set_self (by simpa [ip_wl] using hkl)]
    simp [ip_wl, hk]
  · rw [List.getElem?_set_ne (Ne.symm hi)]
    simp only [ip_wl, List.getElem?_map]
    cases hq : L[i]? with
    | none => rfl
    | some q =>
      have hqp : q ≠ p := by
        intro e
        subst e
        exact hi (hD.1 i k (ad q, ip_E cA ad S q) (ad q, ip_E cA ad S q) (by simp [ip_wl, hq]) (by simp [ip_wl, hk]) rfl)
      simp [hne q hqp]
theorem ip_E_obj {cA : Nat → ClassId} {ad : Nat → Nat} {S : ip_S} {p ci : Nat} (h : (S.2.2.2 p).1 = ci) (hc : ci < 6) : ip_E cA ad S p = .inr (ci, ip_fs ad S p (ip_ty ci) 0) := by
  unfold ip_E
  rw [h, if_pos hc]
theorem ip_E_ints {cA : Nat → ClassId} {ad : Nat → Nat} {S : ip_S} {p k n : Nat} (h : S.2.2.2 p = (k, n)) (h1 : 6 ≤ k) (h2 : k < 8) : ip_E cA ad S p = .inl (cA k, n, .inl (S.1 p)) := by
  unfold ip_E
  rw [h, if_neg (by show ¬ k < 6; omega), if_pos h2]
theorem ip_E_refs {cA : Nat → ClassId} {ad : Nat → Nat} {S : ip_S} {p k n : Nat} (h : S.2.2.2 p = (k, n)) (h1 : 8 ≤ k) : ip_E cA ad S p = .inl (cA k, n, .inr (.inr (.inr (.inr (fun i => (S.2.1 p i).map ad))))) := by
  unfold ip_E
  rw [h, if_neg (by show ¬ k < 6; omega), if_neg (by show ¬ k < 8; omega)]
theorem ip_E_ne {cA : Nat → ClassId} {ad : Nat → Nat} {S S' : ip_S} {q : Nat} (h1 : S'.1 q = S.1 q) (h2 : S'.2.1 q = S.2.1 q) (h3 : S'.2.2.1 q = S.2.2.1 q) (h4 : S'.2.2.2 q = S.2.2.2 q) : ip_E cA ad S' q = ip_E cA ad S q := by
  have hf : ∀ (ts : List Nat) (k : Nat), ip_fs ad S' q ts k = ip_fs ad S q ts k := by
    intro ts
    induction ts with
    | nil => intro k; rfl
    | cons t ts ih => intro k; simp only [ip_fs, ih, ip_fv, h1, h2, h3]
  unfold ip_E
  rw [h4, hf, h1, h2]
theorem ip_E_sI {cA : Nat → ClassId} {ad : Nat → Nat} {S : ip_S} {p k q : Nat} {v : Int32} (h : q ≠ p) : ip_E cA ad (ip_sI S p k v) q = ip_E cA ad S q := ip_E_ne (by funext j; simp [ip_sI, h]) rfl rfl rfl
theorem ip_E_sR {cA : Nat → ClassId} {ad : Nat → Nat} {S : ip_S} {p k q : Nat} {v : Option Nat} (h : q ≠ p) : ip_E cA ad (ip_sR S p k v) q = ip_E cA ad S q := ip_E_ne rfl (by funext j; simp [ip_sR, h]) rfl rfl
theorem ip_E_sJ {cA : Nat → ClassId} {ad : Nat → Nat} {S : ip_S} {p k q : Nat} {v : Int64} (h : q ≠ p) : ip_E cA ad (ip_sJ S p k v) q = ip_E cA ad S q := ip_E_ne rfl rfl (by funext j; simp [ip_sJ, h]) rfl
theorem ip_E_nw {cA : Nat → ClassId} {ad : Nat → Nat} {S : ip_S} {p q : Nat} {kd : Nat × Nat} (h : q ≠ p) : ip_E cA ad (ip_nw S p kd) q = ip_E cA ad S q := ip_E_ne (by funext j; simp [ip_nw, h]) (by funext j; simp [ip_nw, h]) (by funext j; simp [ip_nw, h]) (by simp [ip_nw, h])
theorem ip_fs_sI {ad : Nat → Nat} {S : ip_S} {p k : Nat} {v : Int32} {ts : List Nat} (h : ts[k]? = some 0) : (ip_fs ad S p ts 0).set k (.int v) = ip_fs ad (ip_sI S p k v) p ts 0 := by
  apply List.ext_getElem?
  intro i
  have hl : k < (ip_fs ad S p ts 0).length := by rw [ip_fs_len]; exact (List.getElem?_eq_some_iff.mp h).1
  by_cases hi : i = k
  · subst hi
    rw [List.getElem?_set_self hl, ip_fs_at, h]
    simp [ip_fv, ip_sI]
  · rw [List.getElem?_set_ne (Ne.symm hi), ip_fs_at, ip_fs_at]
    cases ts[i]? with
    | none => rfl
    | some t =>
      simp only [Option.map_some, ip_fv, ip_sI]
      rw [if_neg (fun z => hi (by omega))]
theorem ip_fs_sR {ad : Nat → Nat} {S : ip_S} {p k : Nat} {v : Option Nat} {ts : List Nat} (h : ts[k]? = some 1) : (ip_fs ad S p ts 0).set k (va_rf (v.map ad)) = ip_fs ad (ip_sR S p k v) p ts 0 := by
  apply List.ext_getElem?
  intro i
  have hl : k < (ip_fs ad S p ts 0).length := by rw [ip_fs_len]; exact (List.getElem?_eq_some_iff.mp h).1
  by_cases hi : i = k
  · subst hi
    rw [List.getElem?_set_self hl, ip_fs_at, h]
    simp [ip_fv, ip_sR]
  · rw [List.getElem?_set_ne (Ne.symm hi), ip_fs_at, ip_fs_at]
    cases ts[i]? with
    | none => rfl
    | some t =>
      simp only [Option.map_some, ip_fv, ip_sR]
      rw [if_neg (fun z => hi (by omega))]
theorem ip_fs_sJ {ad : Nat → Nat} {S : ip_S} {p k : Nat} {v : Int64} {ts : List Nat} (h : ts[k]? = some 2) : (ip_fs ad S p ts 0).set k (.long v) = ip_fs ad (ip_sJ S p k v) p ts 0 := by
  apply List.ext_getElem?
  intro i
  have hl : k < (ip_fs ad S p ts 0).length := by rw [ip_fs_len]; exact (List.getElem?_eq_some_iff.mp h).1
  by_cases hi : i = k
  · subst hi
    rw [List.getElem?_set_self hl, ip_fs_at, h]
    simp [ip_fv, ip_sJ]
  · rw [List.getElem?_set_ne (Ne.symm hi), ip_fs_at, ip_fs_at]
    cases ts[i]? with
    | none => rfl
    | some t =>
      simp only [Option.map_some, ip_fv, ip_sJ]
      rw [if_neg (fun z => hi (by omega))]
theorem ip_upd_I (S : ip_S) (p i : Nat) (v : Int32) : upd (S.1 p) i v = (ip_sI S p i v).1 p := by
  funext j
  by_cases h : j = i <;> simp [upd, ip_sI, h]
theorem ip_upd_R (ad : Nat → Nat) (S : ip_S) (p i : Nat) (v : Option Nat) : va_up (fun j => (S.2.1 p j).map ad) i (v.map ad) = fun j => ((ip_sR S p i v).2.1 p j).map ad := by
  funext j
  by_cases h : j = i <;> simp [va_up, ip_sR, h]
/-- what stands of the heap -/
def ip_W (D : va_G) (cA : Nat → ClassId) (A : Nat → Prop) (ad : Nat → Nat) (L : List Nat) (S : ip_S) (s : State) (H : Heap) (locs : List Loc) : Prop :=
  (∀ p, p ∈ L ↔ ip_al S p) ∧ ip_cl S ∧ va_K D vwCl (ip_tys cA) s ∧ va_P D vwCl (ip_wl cA ad L S) H ∧ va_D A (ip_wl cA ad L S) ∧ va_S A s.heap H locs
/-- the locals -/
def ip_LH (ad : Nat → Nat) (ls : Array Slot) (nL : Nat) (loc : List (Option ip_V)) : Prop := loc.length = nL ∧ ∃ lv, lv_has ls nL lv ∧ ∀ (i : Nat) (v : ip_V), loc[i]? = some (some v) → (i, ip_cv ad v) ∈ lv ∧ (ip_cv ad v).category = 1
theorem ip_rf_cat (r : Option Nat) : (va_rf r).category = 1 := by cases r <;> rfl
theorem ip_LH.get {ad : Nat → Nat} {ls : Array Slot} {nL : Nat} {loc : List (Option ip_V)} (h : ip_LH ad ls nL loc) {i : Nat} {v : ip_V} (hv : loc[i]? = some (some v)) : ls[i]? = some (.val (ip_cv ad v)) := by
  obtain ⟨-, lv, h1, h2⟩ := h
  exact h1.2.2 _ (h2 i v hv).1
theorem ip_LH.set {ad : Nat → Nat} {nL : Nat} {loc : List (Option ip_V)} {ls' : Array Slot} {i : Nat} {v : ip_V} {lv : List (Nat × Value)} (hlen : loc.length = nL) (h2 : ∀ (i : Nat) (v : ip_V), loc[i]? = some (some v) → (i, ip_cv ad v) ∈ lv ∧ (ip_cv ad v).category = 1)
    (hc : (ip_cv ad v).category = 1) (h : lv_has ls' nL ((i, ip_cv ad v) :: lv.filter (fun q => !(q.1 == i) && !(q.1 + 1 == i && q.2.category == 2)))) : ip_LH ad ls' nL (loc.set i (some v)) := by
  refine ⟨by simpa using hlen, _, h, fun j w hw => ?_⟩
  by_cases hj : j = i
  · subst hj
    by_cases hl : j < loc.length
    · rw [List.getElem?_set_self hl] at hw
      cases hw
      exact ⟨List.mem_cons_self, hc⟩
    · rw [List.getElem?_eq_none (by simp; omega)] at hw
      cases hw
  · rw [List.getElem?_set_ne (Ne.symm hj)] at hw
    obtain ⟨h3, h4⟩ := h2 j w hw
    refine ⟨List.mem_cons_of_mem _ (List.mem_filter.mpr ⟨h3, ?_⟩), h4⟩
    simp [hj, h4]
/-- another naming of the addresses that agrees where it counts -/
theorem ip_cv_ext {ad ad' : Nat → Nat} {S : ip_S} (he : ∀ q, ip_ax S q → ad' q = ad q) {v : ip_V} (hv : ip_ok S v) : ip_cv ad' v = ip_cv ad v := by
  match v, hv with
  | .inl x, _ => rfl
  | .inr (.inl none), _ => rfl
  | .inr (.inl (some q)), hv => simp only [ip_cv, Option.map_some]; rw [he q (hv q rfl)]
  | .inr (.inr x), _ => rfl
theorem ip_st_ext {ad ad' : Nat → Nat} {S : ip_S} (he : ∀ q, ip_ax S q → ad' q = ad q) {st : List ip_V} (hv : ∀ v ∈ st, ip_ok S v) : st.map (ip_cv ad') = st.map (ip_cv ad) := List.map_congr_left (fun v h => ip_cv_ext he (hv v h))
theorem ip_LH.ext {ad ad' : Nat → Nat} {S : ip_S} {ls : Array Slot} {nL : Nat} {loc : List (Option ip_V)} (h : ip_LH ad ls nL loc) (he : ∀ q, ip_ax S q → ad' q = ad q) (hv : ∀ v, some v ∈ loc → ip_ok S v) : ip_LH ad' ls nL loc := by
  obtain ⟨h0, lv, h1, h2⟩ := h
  refine ⟨h0, lv, h1, fun i v hi => ?_⟩
  rw [ip_cv_ext he (hv v (List.mem_of_getElem? hi))]
  exact h2 i v hi
theorem ip_ok_i {S : ip_S} {x : Int32} : ip_ok S (.inl x) := fun p h => nomatch h
theorem ip_ok_l {S : ip_S} {x : Int64} : ip_ok S (.inr (.inr x)) := fun p h => nomatch h
theorem ip_ok_n {S : ip_S} : ip_ok S (.inr (.inl none)) := fun p h => nomatch h
theorem ip_ok_r {S : ip_S} {q : Nat} (h : ip_ax S q) : ip_ok S (.inr (.inl (some q))) := fun p e => by cases e; exact h
theorem ip_ok_c {S : ip_S} (h : ip_cl S) {p k : Nat} {o : Option Nat} (ho : S.2.1 p k = o) : ip_ok S (.inr (.inl o)) := fun q e => by
  cases e
  exact h p k q ho
theorem ip_tl {S : ip_S} {v : ip_V} {r : List ip_V} (h : ∀ w ∈ v :: r, ip_ok S w) : ∀ w ∈ r, ip_ok S w := fun w hw => h w (List.mem_cons_of_mem _ hw)
theorem ip_hd {S : ip_S} {v : ip_V} {r : List ip_V} (h : ∀ w ∈ v :: r, ip_ok S w) : ip_ok S v := h v List.mem_cons_self
theorem ip_cs {S : ip_S} {v : ip_V} {r : List ip_V} (h1 : ip_ok S v) (h : ∀ w ∈ r, ip_ok S w) : ∀ w ∈ v :: r, ip_ok S w := List.forall_mem_cons.mpr ⟨h1, h⟩
theorem ip_lset {S : ip_S} {loc : List (Option ip_V)} {i : Nat} {v : ip_V} (h1 : ip_ok S v) (h : ∀ w, some w ∈ loc → ip_ok S w) : ∀ w, some w ∈ loc.set i (some v) → ip_ok S w := by
  intro w hw
  rcases List.mem_or_eq_of_mem_set hw with h2 | h2
  · exact h w h2
  · cases h2; exact h1
