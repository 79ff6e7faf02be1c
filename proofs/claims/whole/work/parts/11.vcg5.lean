/-! CONTRACTS -/
def ip_Q (I : ip_S → Prop) (D : va_G) (cA : Nat → ClassId) (ad : Nat → Nat) (S : ip_S) (A : Nat → Prop) (po : List ip_V → ip_S → Prop) : Array Value → State → Outcome → State → Prop := fun _ st oc t =>
  (∃ (r : List ip_V) (S' : ip_S) (ad' : Nat → Nat) (L' : List Nat), oc = .returned ((r.map (ip_cv ad')).head?) ∧ r.length ≤ 1 ∧ po r S' ∧ I S' ∧ (∀ q, ip_ax S q → ip_ax S' q ∧ ad' q = ad q) ∧ (∀ v ∈ r, ip_ok S' v) ∧ (∀ p, p ∈ L' ↔ ip_al S' p) ∧ ip_cl S' ∧ va_K D vwCl (ip_tys cA) t ∧ va_P D vwCl (ip_wl cA ad' L' S') t.heap ∧ va_D A (ip_wl cA ad' L' S')) ∧ va_F A st t
/-- what the tables say that no list of words carries: the nest mates' links, the arrays of references -/
def ip_Nx (U : State) : Prop := va_Nw (.methodLinkNest RX4 33 yX2_init "IcePads") U ∧ va_Nw (.methodLinkNest RX4 9 yX3_init "IcePads") U ∧ va_Nw (.methodLinkNest RX2 46 yX4_within "IcePads") U ∧ va_Nw (.methodLinkNest RX3 22 yX4_isMinute "IcePads") U ∧ va_AO RX0 U ∧ va_AO RX1 U
theorem ip_Nx.warm {s U : State} (hW : s.WarmedH U.vm) (h : ip_Nx s) : ip_Nx U := ⟨h.1.warmM hW, h.2.1.warmM hW, h.2.2.1.warmM hW, h.2.2.2.1.warmM hW, h.2.2.2.2.1.moved hW.alike, h.2.2.2.2.2.moved hW.alike⟩
theorem ip_Nx.same {s U : State} (hv : s.vm = U.vm) (h : ip_Nx s) : ip_Nx U := ⟨va_Nw.same rfl hv h.1, va_Nw.same rfl hv h.2.1, va_Nw.same rfl hv h.2.2.1, va_Nw.same rfl hv h.2.2.2.1, h.2.2.2.2.1.moved (by rw [hv]; exact Vm.Alike.refl _), h.2.2.2.2.2.moved (by rw [hv]; exact Vm.Alike.refl _)⟩
def ip_pr (I : ip_S → Prop) (D : va_G) (cA : Nat → ClassId) (ad : Nat → Nat) (L : List Nat) (S : ip_S) (as : List ip_V) (U : State) : Prop :=
  I S ∧ (∀ p, p ∈ L ↔ ip_al S p) ∧ ip_cl S ∧ (∀ v ∈ as, ip_ok S v) ∧ va_K D vwCl (ip_tys cA) U ∧ va_P D vwCl (ip_wl cA ad L S) U.heap ∧ va_D (fun _ => True) (ip_wl cA ad L S) ∧ ip_Nx U
def ip_CT (l : Launch) (y : MethodName) (ws : List Cond) (rm : Room) (I : ip_S → Prop) (pre : List ip_V → ip_S → Prop) (post : List ip_V → ip_S → List ip_V → ip_S → Prop) : Prop :=
  ∀ (D : va_G) (cA : Nat → ClassId) (ad : Nat → Nat) (L : List Nat) (sz : Nat) (as : List ip_V) (S : ip_S), pre as S → Met l y ws rm (va_Pc (as.map (ip_cv ad)) (fun U => U.heap.size = sz ∧ ip_pr I D cA ad L S as U)) (ip_Q I D cA ad S (va_A (ip_wl cA ad L S) sz) (post as S)) rm.cells rm.slots (va_A (ip_wl cA ad L S) sz)
theorem ip_lv_args : ∀ (vs : List Value) (k i : Nat) (w : Value), (∀ v ∈ vs, v.category = 1) → vs[i]? = some w → (k + i, w) ∈ lv_args k vs
  | [], k, i, w, _, h => by simp at h
  | v :: vs, k, 0, w, hc, h => by
    simp only [List.getElem?_cons_zero, Option.some.injEq] at h
    subst h
    simp [lv_args]
  | v :: vs, k, i + 1, w, hc, h => by
    simp only [List.getElem?_cons_succ] at h
    have h1 : ¬ v.category = 2 := by rw [hc v List.mem_cons_self]; decide
    have := ip_lv_args vs (k + 1) i w (fun v hv => hc v (List.mem_cons_of_mem _ hv)) h
    simp only [lv_args, if_neg h1]
    rw [show k + (i + 1) = k + 1 + i by omega]
    exact List.mem_cons_of_mem _ this
theorem ip_lg_len : ∀ (vs : List Value), (∀ v ∈ vs, v.category = 1) → (lg_sl vs).length = vs.length
  | [], _ => rfl
  | v :: vs, hc => by
    have h1 : ¬ v.category = 2 := by rw [hc v List.mem_cons_self]; decide
    have := ip_lg_len vs (fun v hv => hc v (List.mem_cons_of_mem _ hv))
    unfold lg_sl at this ⊢
    rw [List.flatMap_cons, if_neg h1, List.length_append, this]
    simp; omega
theorem ip_cat1 {ad : Nat → Nat} {v : ip_V} (h : ∀ x, v ≠ .inr (.inr x)) : (ip_cv ad v).category = 1 := by
  match v, h with
  | .inl x, _ => rfl
  | .inr (.inl r), _ => exact ip_rf_cat _
  | .inr (.inr x), h => exact absurd rfl (h x)
theorem ip_cat2 (ad : Nat → Nat) (v : ip_V) : (ip_cv ad v).category ≤ 2 := by
  match v with
  | .inl x => exact Nat.le_of_ble_eq_true rfl
  | .inr (.inl r) => exact Nat.le_trans (Nat.le_of_eq (ip_rf_cat _)) (by decide)
  | .inr (.inr x) => exact Nat.le_of_ble_eq_true rfl
theorem ip_catS (ad : Nat → Nat) : ∀ (st : List ip_V), (((st.map (ip_cv ad)).map fun v => v.category).sum) ≤ 2 * st.length
  | [] => Nat.le_refl _
  | v :: st => by
    have h1 := ip_catS ad st
    have h2 := ip_cat2 ad v
    simp only [List.map_cons, List.sum_cons, List.length_cons]
    omega
theorem ip_of {l : Launch} {y : MethodName} {ws ws' : List Cond} {rm : Room} {I : ip_S → Prop} {pre : List ip_V → ip_S → Prop} {post : List ip_V → ip_S → List ip_V → ip_S → Prop} {cc : ByteArray} {maxL : Nat} {ret : Option FieldType} (hy : plainName y.cls = true) (hw : ws = Cond.code y cc maxL ret :: ws') (cnt : Nat → Nat × Nat) (h0 : cnt 0 = (0, 0)) (hpre : ∀ as S, pre as S → as.length ≤ maxL ∧ ∀ v ∈ as, ∀ x, v ≠ .inr (.inr x))
    (body : ∀ (p : Program) (e : Env) (s : State) (m : MethodId) (args : Array Value) (below : List Frame) (meth : Method) (c : Code) (D : va_G) (cA : Nat → ClassId) (A : Nat → Prop) (ad0 : Nat → Nat) (as : List ip_V) (S : ip_S), pre as S → I S → p.tables.exec = Jvm.exec → c.code = cc → c.maxLocals = maxL → s.vm.findClass y.cls = some m.cls → (∀ w ∈ ws, w.before args s = true) → meth.sig.returnType = ret → meth.locks = false → meth.name = y.name → (∀ q, s.heap.size ≤ q → A q) → ip_Nx s →
      ip_K p l e rm s m args below meth c D cA A (MQ below (ip_Q I D cA ad0 S A (post as S)) args s rm.cells rm.slots A) maxL cnt I ad0 S 0 (as.map some ++ List.replicate (maxL - as.length) none) [] S) : ip_CT l y ws rm I pre post := by
  intro D cA ad L sz as S hp
  refine Met.ofW (cc := cc) (maxL := maxL) (ret := ret) hy hw ?_
  intro p e s m args below meth c s₁ B hml hv
  obtain ⟨rfl, hsz, hI, h1, h2, h3, hK, hP, hD0, hNx⟩ := hv
  subst hsz
  obtain ⟨hle, hcat⟩ := hpre as S hp
  have hc1 : ∀ v ∈ as.map (ip_cv ad), v.category = 1 := by
    intro v hv
    obtain ⟨w, hw1, rfl⟩ := List.mem_map.mp hv
    exact ip_cat1 (hcat w hw1)
  have hD := hD0.self (sz := s.heap.size)
  have hA : ∀ q : Nat, s.heap.size ≤ q → va_A (ip_wl cA ad L S) s.heap.size q := fun q h => Or.inr h
  have K := body p e s m _ below meth c D cA (va_A (ip_wl cA ad L S) s.heap.size) ad as S hp hI B.exec B.bytes hml (findClass_of_methodNamed B.named) (atoms_spec (ws := ws) B.pre) B.returns B.notSynchronized (name_of_methodNamed B.named B.method).1 hA hNx
  have hl := lv_entry (as.map (ip_cv ad)) (n := maxL) (by rw [ip_lg_len _ hc1, List.length_map]; exact hle)
  rw [lg_entry_eq]
  have K2 := K ad L s.heap [] _ hI ⟨by simp; omega, _, hl, fun i v hi => ?_⟩ (fun v hv => by cases hv) (fun v hv => ?_) (fun q hq => ⟨hq, rfl⟩) ⟨h1, h2, hK, hP, hD, va_S.rf⟩
  · rw [h0] at K2
    exact K2
  · have hi2 : as[i]? = some v := by
      by_cases hlt : i < as.length
      · rw [List.getElem?_append_left (by simpa using hlt), List.getElem?_map] at hi
        cases hq : as[i]? with
        | none => rw [hq] at hi; cases hi
        | some w => rw [hq] at hi; cases hi; rfl
      · rw [List.getElem?_append_right (by simpa using hlt), List.getElem?_replicate] at hi
        split at hi
        · cases hi
        · cases hi
    have h4 := ip_lv_args (as.map (ip_cv ad)) 0 i (ip_cv ad v) hc1 (by rw [List.getElem?_map, hi2]; rfl)
    rw [Nat.zero_add] at h4
    exact ⟨h4, ip_cat1 (hcat v (List.mem_of_getElem? hi2))⟩
  · rcases List.mem_append.mp hv with h | h
    · obtain ⟨w, hw1, hw2⟩ := List.mem_map.mp h
      cases hw2
      exact h3 v hw1
    · cases List.eq_of_mem_replicate h
section IPC
variable {p : Program} {l : Launch} {e : Env} {R : Room} {s : State} {m : MethodId} {args : Array Value} {below : List Frame} {meth : Method} {c : Code} {D : va_G} {cA : Nat → ClassId} {A : Nat → Prop} {Q : State → Prop} {nL : Nat} {cnt : Nat → Nat × Nat} {I : ip_S → Prop} {ad0 : Nat → Nat} {S0 : ip_S}
variable {cc : ByteArray} {pc : Nat}
/-! returns -/
def ip_t_iret (po : List ip_V → ip_S → Prop) : ip_T := fun _ _ st S => match st with
  | [.inl v] => po [.inl v] S
  | _ => False
def ip_t_zret (po : List ip_V → ip_S → Prop) : ip_T := fun _ _ st S => match st with
  | [.inl v] => (v = 0 ∨ v = 1) ∧ po [.inl v] S
  | _ => False
def ip_t_lret (po : List ip_V → ip_S → Prop) : ip_T := fun _ _ st S => match st with
  | [.inr (.inr v)] => po [.inr (.inr v)] S
  | _ => False
def ip_t_aret (po : List ip_V → ip_S → Prop) : ip_T := fun _ _ st S => match st with
  | [.inr (.inl v)] => po [.inr (.inl v)] S
  | _ => False
def ip_t_vret (po : List ip_V → ip_S → Prop) : ip_T := fun _ _ st S => match st with
  | [] => po [] S
  | _ => False
theorem ip_fin {ad : Nat → Nat} {L : List Nat} {S : ip_S} {H : Heap} {locs : List Loc} {po : List ip_V → ip_S → Prop} {r : List ip_V} {aa : Array Value} (hI : I S) (hex : ∀ q, ip_ax S0 q → ip_ax S q ∧ ad q = ad0 q) (hW : ip_W D cA A ad L S s H locs) (hr : r.length ≤ 1) (hok : ∀ v ∈ r, ip_ok S v) (h : po r S) : ∀ t : State, t.heap = H → s.WarmedH t.vm → ip_Q I D cA ad0 S0 A po aa s (.returned ((r.map (ip_cv ad)).head?)) t :=
  fun t ht hw => ⟨⟨r, S, ad, L, rfl, hr, h, hI, hex, hok, hW.1, hW.2.1, va_K.moved hw.alike hW.2.2.1, by rw [ht]; exact hW.2.2.2.1, hW.2.2.2.2.1⟩, hW.2.2.2.2.2.F ht⟩
theorem ip_s_iret (hx : p.tables.exec = Jvm.exec) (hb : c.code = cc) (hr : meth.sig.returnType = some .int) (hlocks : meth.locks = false) {mc ms : Nat} {po : List ip_V → ip_S → Prop} (h1 : (cnt pc).1 ≤ mc) (h2 : (cnt pc).2 ≤ ms) (hd : decode cc pc = .ok (.ireturn, 1)) : ip_snd p l e R s m args below meth c D cA A (MQ below (ip_Q I D cA ad0 S0 A po) args s mc ms A) nL cnt I ad0 S0 pc (ip_t_iret po) := by
  intro N hN loc st S h ad L H locs ls hI hl hst hlo hex hW
  unfold ip_t_iret at h
  split at h
  · refine W.widen h1 h2 ?_
    exact W.iret hx hb hr (ip_fin (r := [.inl _]) hI hex hW (by simp) hst h) hW.2.2.2.2.2.2.2 hd hlocks
  · exact h.elim
theorem ip_s_zret (hx : p.tables.exec = Jvm.exec) (hb : c.code = cc) (hr : meth.sig.returnType = some .boolean) (hlocks : meth.locks = false) {mc ms : Nat} {po : List ip_V → ip_S → Prop} (h1 : (cnt pc).1 ≤ mc) (h2 : (cnt pc).2 ≤ ms) (hd : decode cc pc = .ok (.ireturn, 1)) : ip_snd p l e R s m args below meth c D cA A (MQ below (ip_Q I D cA ad0 S0 A po) args s mc ms A) nL cnt I ad0 S0 pc (ip_t_zret po) := by
  intro N hN loc st S h ad L H locs ls hI hl hst hlo hex hW
  unfold ip_t_zret at h
  split at h
  · rename_i v
    refine W.widen h1 h2 ?_
    have hn : narrow .boolean (.int v) = .int v := by rcases h.1 with rfl | rfl <;> rfl
    exact W.zret hx hb hr hn (ip_fin (r := [.inl v]) hI hex hW (by simp) hst h.2) hW.2.2.2.2.2.2.2 hd hlocks
  · exact h.elim
theorem ip_s_lret (hx : p.tables.exec = Jvm.exec) (hb : c.code = cc) (hr : meth.sig.returnType = some .long) (hlocks : meth.locks = false) {mc ms : Nat} {po : List ip_V → ip_S → Prop} (h1 : (cnt pc).1 ≤ mc) (h2 : (cnt pc).2 ≤ ms) (hd : decode cc pc = .ok (.lreturn, 1)) : ip_snd p l e R s m args below meth c D cA A (MQ below (ip_Q I D cA ad0 S0 A po) args s mc ms A) nL cnt I ad0 S0 pc (ip_t_lret po) := by
  intro N hN loc st S h ad L H locs ls hI hl hst hlo hex hW
  unfold ip_t_lret at h
  split at h
  · refine W.widen h1 h2 ?_
    exact W.lret hx hb hr (ip_fin (r := [.inr (.inr _)]) hI hex hW (by simp) hst h) hW.2.2.2.2.2.2.2 hd hlocks
  · exact h.elim
theorem ip_s_aret (hx : p.tables.exec = Jvm.exec) (hb : c.code = cc) {rt : FieldType} (hr : meth.sig.returnType = some rt) (hrt : (∃ n, rt = .object n) ∨ ∃ t, rt = .array t) (hlocks : meth.locks = false) {mc ms : Nat} {po : List ip_V → ip_S → Prop} (h1 : (cnt pc).1 ≤ mc) (h2 : (cnt pc).2 ≤ ms) (hd : decode cc pc = .ok (.areturn, 1)) : ip_snd p l e R s m args below meth c D cA A (MQ below (ip_Q I D cA ad0 S0 A po) args s mc ms A) nL cnt I ad0 S0 pc (ip_t_aret po) := by
  intro N hN loc st S h ad L H locs ls hI hl hst hlo hex hW
  unfold ip_t_aret at h
  split at h
  · rename_i v
    refine W.widen h1 h2 ?_
    exact W.aret hx hb hr hrt (v := va_rf (v.map ad)) (by cases v with | none => exact Or.inl rfl | some a => exact Or.inr ⟨_, rfl⟩) (ip_fin (r := [.inr (.inl v)]) hI hex hW (by simp) hst h) hW.2.2.2.2.2.2.2 hd hlocks
  · exact h.elim
theorem ip_s_vret (hx : p.tables.exec = Jvm.exec) (hb : c.code = cc) (hr : meth.sig.returnType = none) (hlocks : meth.locks = false) {mc ms : Nat} {po : List ip_V → ip_S → Prop} (h1 : (cnt pc).1 ≤ mc) (h2 : (cnt pc).2 ≤ ms) (hd : decode cc pc = .ok (.return_, 1)) : ip_snd p l e R s m args below meth c D cA A (MQ below (ip_Q I D cA ad0 S0 A po) args s mc ms A) nL cnt I ad0 S0 pc (ip_t_vret po) := by
  intro N hN loc st S h ad L H locs ls hI hl hst hlo hex hW
  unfold ip_t_vret at h
  split at h
  · refine W.widen h1 h2 ?_
    exact W.vret hx hb hr (ip_fin (r := []) hI hex hW (by simp) hst h) hW.2.2.2.2.2.2.2 hd hlocks
  · exact h.elim
/-! calls -/
def ip_t_call (na : Nat) (pre : List ip_V → ip_S → Prop) (post : List ip_V → ip_S → List ip_V → ip_S → Prop) (n : Nat) : ip_T := fun N loc st S =>
  bif Nat.ble (st.drop na).length 4 then (pre (st.take na).reverse S ∧ ∀ r S', post (st.take na).reverse S r S' → N n loc (r ++ st.drop na) S') else False
theorem ip_blind {ad : Nat → Nat} {L : List Nat} {sz : Nat} {as : List ip_V} {S : ip_S} : FrameBlind (va_Pc (as.map (ip_cv ad)) (fun U => U.heap.size = sz ∧ ip_pr I D cA ad L S as U)) := by
  intro a U g mk q
  obtain ⟨q0, q1, qI, h1, h2, h3, qK, qP, qD, qN⟩ := q
  exact ⟨q0, q1, qI, h1, h2, h3, va_K.moved (u := U) (U := U.calling g mk a) (Vm.Alike.refl U.vm) qK, qP, qD, qN.same rfl⟩
theorem ip_ready {ad : Nat → Nat} {L : List Nat} {as : List ip_V} {S : ip_S} {H : Heap} {locs : List Loc} (hNx : ip_Nx s) (hI : I S) (hok : ∀ v ∈ as, ip_ok S v) (hW : ip_W D cA A ad L S s H locs) : ∀ U : State, U.heap = H → s.WarmedH U.vm → va_Pc (as.map (ip_cv ad)) (fun U => U.heap.size = H.size ∧ ip_pr I D cA ad L S as U) (as.map (ip_cv ad)).toArray U :=
  fun U hU hw => ⟨rfl, by rw [hU], hI, hW.1, hW.2.1, hok, va_K.moved hw.alike hW.2.2.1, by rw [hU]; exact hW.2.2.2.1, hW.2.2.2.2.1.weaken (fun _ _ _ _ => trivial), hNx.warm hw⟩
theorem ip_after {ad : Nat → Nat} {L : List Nat} {S : ip_S} {H : Heap} {locs : List Loc} {ls : Array Slot} {loc : List (Option ip_V)} {rest : List ip_V} {st0 : List Value} {mc ms : Nat} {aa : Array Value} {po : List ip_V → ip_S → Prop}
    (hr : va_Run p l e R s m args below meth c H locs (cnt pc).1 (cnt pc).2 mc ms (F0 m pc ls st0) (rest.map (ip_cv ad)) (ip_Q I D cA ad S (va_A (ip_wl cA ad L S) H.size) po aa) (va_A (ip_wl cA ad L S) H.size)) (hA : ∀ q, s.heap.size ≤ q → A q) (hl : ip_LH ad ls nL loc) (hst : ∀ v ∈ rest, ip_ok S v) (hlo : ∀ v, some v ∈ loc → ip_ok S v) (hex : ∀ q, ip_ax S0 q → ip_ax S q ∧ ad q = ad0 q) (hW : ip_W D cA A ad L S s H locs) (hc : cnt (pc + 3) = ((cnt pc).1 + mc, (cnt pc).2 + ms)) {N : ip_N} (hN : ∀ pc loc st S, N pc loc st S → ip_K p l e R s m args below meth c D cA A Q nL cnt I ad0 S0 pc loc st S) (k : ∀ r S', po r S' → N (pc + 3) loc (r ++ rest) S') : W p l e R s m args below meth c H locs (cnt pc).1 (cnt pc).2 Q (F0 m pc ls st0) := by
  intro T hT X
  obtain ⟨v, st₀, t, T', Ll, g0, X', hL, e1, e2, ⟨⟨r, S', ad', L', hv, hr1, hpo, hI', hex', hok', hL', hcl', hK', hP', hD'⟩, hz, hk⟩, st⟩ := hr T hT X
  have hF : ∀ q, va_A (ip_wl cA ad L S) H.size q → A q := by
    intro q hq
    rcases hq with ⟨k, en, hq⟩ | hq
    · exact hW.2.2.2.2.1.2 k (q, en) hq
    · exact hA q (Nat.le_trans hW.2.2.2.2.2.1 hq)
  rw [g0] at hz hk
  have hv2 : v.toList = r.map (ip_cv ad') := by
    cases hv
    match r, hr1 with
    | [], _ => rfl
    | [w], _ => rfl
    | _ :: _ :: _, h => simp at h
  have he : ∀ q, ip_ax S q → ad' q = ad q := fun q hq => (hex' q hq).2
  have hok : ∀ v, ip_ok S v → ip_ok S' v := fun v hv q hq => (hex' q (hv q hq)).1
  have hS' : va_S A s.heap T'.heap (locs ++ Ll) := by
    have hS := hW.2.2.2.2.2
    refine ⟨Nat.le_trans hS.1 (by rw [e1]; exact hz), fun q h1 h2 => ?_, fun q hq => ?_⟩
    · rw [e1, hk q (Nat.lt_of_lt_of_le h1 hS.1) (fun z => h2 (hF q z))]
      exact hS.2.1 q h1 h2
    · rcases List.mem_append.mp hq with h | h
      · exact hS.2.2 q h
      · exact hF _ (hL q h)
  have kk := hN _ _ _ _ (k r S' hpo) ad' L' T'.heap (locs ++ Ll) ls hI' (hl.ext he hlo) (fun v hv => (List.mem_append.mp hv).elim (hok' v) (fun h => hok v (hst v h))) (fun v hv => hok v (hlo v hv)) (fun q hq => ⟨(hex' q (hex q hq).1).1, (he q (hex q hq).1).trans (hex q hq).2⟩) ⟨hL', hcl', hW.2.2.1, by rw [e1]; exact hP', hD'.weaken (fun _ q _ h => hF q.1 h), hS'⟩
  rw [hc] at kk
  rw [List.map_append, ip_st_ext he hst, ← hv2] at kk
  obtain ⟨t2, a1, b1⟩ := kk T' rfl X'
  exact ⟨t2, st t2 a1, b1⟩
theorem ip_split (st : List ip_V) (na : Nat) (ad : Nat → Nat) : st.map (ip_cv ad) = (((st.take na).reverse).map (ip_cv ad)).reverse ++ (st.drop na).map (ip_cv ad) := by
  rw [List.map_reverse, List.reverse_reverse, ← List.map_append, List.take_append_drop]
theorem ip_mem_take {S : ip_S} {st : List ip_V} {na : Nat} (h : ∀ v ∈ st, ip_ok S v) : (∀ v ∈ (st.take na).reverse, ip_ok S v) ∧ ∀ v ∈ st.drop na, ip_ok S v :=
  ⟨fun v hv => h v (List.mem_of_mem_take (List.mem_reverse.mp hv)), fun v hv => h v (List.mem_of_mem_drop hv)⟩
variable {y : MethodName} {bytes : ByteArray} {maxL n index : Nat} {ret : Option FieldType} {ws : List Cond} {rm : Room} {Ts : List Cond} {own Cn host : String} {pre : List ip_V → ip_S → Prop} {post : List ip_V → ip_S → List ip_V → ip_S → Prop}
theorem ip_s_callV (hNx : ip_Nx s) (S9 : CallFix p m c cc nL s args Ts own) (hM : ip_CT l y ws rm I pre post) (cw : CallW R s args own Cn index y bytes maxL ret ws rm rm.cells rm.slots n) {ci : Nat} {rr : vw_C} (hcl : vwCl[ci]? = some rr) (hcn : rr.1 = Cn) (hci : ci < 6) (hpre : ∀ as S, I S → pre as S → ∃ (b : Nat) (as' : List ip_V), as = .inr (.inl (some b)) :: as' ∧ as'.length = n ∧ (S.2.2.2 b).1 = ci) (hA : ∀ q, s.heap.size ≤ q → A q) (hd : decode cc pc = .ok (.invokevirtual index, 3)) (hf : (cnt pc).1 + rm.cells ≤ R.cells ∧ (cnt pc).2 + rm.slots ≤ R.slots) (hc : cnt (pc + 3) = ((cnt pc).1 + rm.cells, (cnt pc).2 + rm.slots)) : ip_snd p l e R s m args below meth c D cA A Q nL cnt I ad0 S0 pc (ip_t_call (n + 1) pre post (pc + 3)) := by
  intro N hN loc st S h ad L H locs ls hI hl hst hlo hex hW
  unfold ip_t_call at h
  cases hb8 : Nat.ble (st.drop (n + 1)).length 4 with
  | false => rw [hb8] at h; exact h.elim
  | true =>
    rw [hb8] at h
    have hlen := Nat.le_of_ble_eq_true hb8
    obtain ⟨hp, k⟩ := h
    obtain ⟨b, as', eas, hn, hkb⟩ := hpre _ S hI hp
    obtain ⟨hok1, hok2⟩ := ip_mem_take (na := n + 1) hst
    have hst9 := ip_split st (n + 1) ad
    have hM9 := hM D cA ad L H.size _ S hp
    have hrd := ip_ready hNx hI hok1 hW
    obtain ⟨k0, g1, g2⟩ := ip_Wat hW hkb hci
    rw [eas] at hst9 hM9 hrd
    have hrecv := va_recv (q := rr) hW.2.2.1 hW.2.2.2.1 hcl g2
    rw [hcn] at hrecv
    have hrun := va_runV (cells := (cnt pc).1) (slots := (cnt pc).2) (locs := locs) (below := below) (meth := meth) (e := e) (g := F0 m pc ls (st.map (ip_cv ad))) (As := as'.map (ip_cv ad)) (b := ad b) (rest := (st.drop (n + 1)).map (ip_cv ad)) S9 hM9 cw ⟨ip_blind, hrecv, hrd⟩ rfl (by rw [List.length_map]; exact hn) (by show ls.size = nL; obtain ⟨-, lv, q1, -⟩ := hl; exact q1.1) (by
      show st.map (ip_cv ad) = _
      rw [hst9, List.map_cons, List.reverse_cons, List.append_assoc]
      rfl) (lv_room (by have := ip_catS ad (st.drop (n + 1)); omega)) hd hf
    refine ip_after hrun hA hl hok2 hlo hex hW hc hN ?_
    rw [← eas]
    exact k
theorem ip_s_callVN (hNx : ip_Nx s) (S9 : CallFix p m c cc nL s args Ts own) (hM : ip_CT l y ws rm I pre post) (cw : va_CN R s args own index y host bytes maxL ret ws rm rm.cells rm.slots n ∧ (Cond.instanceMethod y).before args s = true ∧ (Cond.selects Cn y y).before args s = true) {ci : Nat} {rr : vw_C} (hcl : vwCl[ci]? = some rr) (hcn : rr.1 = Cn) (hci : ci < 6) (hpre : ∀ as S, I S → pre as S → ∃ (b : Nat) (as' : List ip_V), as = .inr (.inl (some b)) :: as' ∧ as'.length = n ∧ (S.2.2.2 b).1 = ci) (hA : ∀ q, s.heap.size ≤ q → A q) (hd : decode cc pc = .ok (.invokevirtual index, 3)) (hf : (cnt pc).1 + rm.cells ≤ R.cells ∧ (cnt pc).2 + rm.slots ≤ R.slots) (hc : cnt (pc + 3) = ((cnt pc).1 + rm.cells, (cnt pc).2 + rm.slots)) : ip_snd p l e R s m args below meth c D cA A Q nL cnt I ad0 S0 pc (ip_t_call (n + 1) pre post (pc + 3)) := by
  intro N hN loc st S h ad L H locs ls hI hl hst hlo hex hW
  unfold ip_t_call at h
  cases hb8 : Nat.ble (st.drop (n + 1)).length 4 with
  | false => rw [hb8] at h; exact h.elim
  | true =>
    rw [hb8] at h
    have hlen := Nat.le_of_ble_eq_true hb8
    obtain ⟨hp, k⟩ := h
    obtain ⟨b, as', eas, hn, hkb⟩ := hpre _ S hI hp
    obtain ⟨hok1, hok2⟩ := ip_mem_take (na := n + 1) hst
    have hst9 := ip_split st (n + 1) ad
    have hM9 := hM D cA ad L H.size _ S hp
    have hrd := ip_ready hNx hI hok1 hW
    obtain ⟨k0, g1, g2⟩ := ip_Wat hW hkb hci
    rw [eas] at hst9 hM9 hrd
    have hrecv := va_recv (q := rr) hW.2.2.1 hW.2.2.2.1 hcl g2
    rw [hcn] at hrecv
    have hrun := va_runVN (cells := (cnt pc).1) (slots := (cnt pc).2) (locs := locs) (below := below) (meth := meth) (e := e) (g := F0 m pc ls (st.map (ip_cv ad))) (As := as'.map (ip_cv ad)) (b := ad b) (rest := (st.drop (n + 1)).map (ip_cv ad)) S9 hM9 cw ⟨ip_blind, hrecv, hrd⟩ rfl (by rw [List.length_map]; exact hn) (by show ls.size = nL; obtain ⟨-, lv, q1, -⟩ := hl; exact q1.1) (by
      show st.map (ip_cv ad) = _
      rw [hst9, List.map_cons, List.reverse_cons, List.append_assoc]
      rfl) (lv_room (by have := ip_catS ad (st.drop (n + 1)); omega)) hd hf
    refine ip_after hrun hA hl hok2 hlo hex hW hc hN ?_
    rw [← eas]
    exact k
theorem ip_s_callS (hNx : ip_Nx s) (S9 : CallFix p m c cc nL s args Ts own) (hM : ip_CT l y ws rm I pre post) (cw : CallB R s args own index y bytes maxL ret ws rm rm.cells rm.slots n ∧ (Cond.static y).before args s = true) (hpre : ∀ as S, I S → pre as S → as.length = n) (hA : ∀ q, s.heap.size ≤ q → A q) (hd : decode cc pc = .ok (.invokestatic index, 3)) (hf : (cnt pc).1 + rm.cells ≤ R.cells ∧ (cnt pc).2 + rm.slots ≤ R.slots) (hc : cnt (pc + 3) = ((cnt pc).1 + rm.cells, (cnt pc).2 + rm.slots)) : ip_snd p l e R s m args below meth c D cA A Q nL cnt I ad0 S0 pc (ip_t_call n pre post (pc + 3)) := by
  intro N hN loc st S h ad L H locs ls hI hl hst hlo hex hW
  unfold ip_t_call at h
  cases hb8 : Nat.ble (st.drop n).length 4 with
  | false => rw [hb8] at h; exact h.elim
  | true =>
    rw [hb8] at h
    have hlen := Nat.le_of_ble_eq_true hb8
    obtain ⟨hp, k⟩ := h
    have hn := hpre _ S hI hp
    obtain ⟨hok1, hok2⟩ := ip_mem_take (na := n) hst
    have hst9 := ip_split st n ad
    have hM9 := hM D cA ad L H.size _ S hp
    have hrd := ip_ready hNx hI hok1 hW
    have hrun := va_runS (cells := (cnt pc).1) (slots := (cnt pc).2) (locs := locs) (below := below) (meth := meth) (e := e) (g := F0 m pc ls (st.map (ip_cv ad))) (As := ((st.take n).reverse).map (ip_cv ad)) (rest := (st.drop n).map (ip_cv ad)) S9 hM9 cw ⟨ip_blind, hrd⟩ rfl (by rw [List.length_map]; exact hn) (by show ls.size = nL; obtain ⟨-, lv, q1, -⟩ := hl; exact q1.1) hst9 (lv_room (by have := ip_catS ad (st.drop n); omega)) hd hf
    exact ip_after hrun hA hl hok2 hlo hex hW hc hN k
theorem ip_s_callSN (hNx : ip_Nx s) (S9 : CallFix p m c cc nL s args Ts own) (hM : ip_CT l y ws rm I pre post) (cw : va_CN R s args own index y host bytes maxL ret ws rm rm.cells rm.slots n ∧ (Cond.static y).before args s = true ∧ True) (hpre : ∀ as S, I S → pre as S → as.length = n) (hA : ∀ q, s.heap.size ≤ q → A q) (hd : decode cc pc = .ok (.invokestatic index, 3)) (hf : (cnt pc).1 + rm.cells ≤ R.cells ∧ (cnt pc).2 + rm.slots ≤ R.slots) (hc : cnt (pc + 3) = ((cnt pc).1 + rm.cells, (cnt pc).2 + rm.slots)) : ip_snd p l e R s m args below meth c D cA A Q nL cnt I ad0 S0 pc (ip_t_call n pre post (pc + 3)) := by
  intro N hN loc st S h ad L H locs ls hI hl hst hlo hex hW
  unfold ip_t_call at h
  cases hb8 : Nat.ble (st.drop n).length 4 with
  | false => rw [hb8] at h; exact h.elim
  | true =>
    rw [hb8] at h
    have hlen := Nat.le_of_ble_eq_true hb8
    obtain ⟨hp, k⟩ := h
    have hn := hpre _ S hI hp
    obtain ⟨hok1, hok2⟩ := ip_mem_take (na := n) hst
    have hst9 := ip_split st n ad
    have hM9 := hM D cA ad L H.size _ S hp
    have hrd := ip_ready hNx hI hok1 hW
    have hrun := va_runSN (cells := (cnt pc).1) (slots := (cnt pc).2) (locs := locs) (below := below) (meth := meth) (e := e) (g := F0 m pc ls (st.map (ip_cv ad))) (As := ((st.take n).reverse).map (ip_cv ad)) (rest := (st.drop n).map (ip_cv ad)) S9 hM9 cw ⟨ip_blind, hrd⟩ rfl (by rw [List.length_map]; exact hn) (by show ls.size = nL; obtain ⟨-, lv, q1, -⟩ := hl; exact q1.1) hst9 (lv_room (by have := ip_catS ad (st.drop n); omega)) hd hf
    exact ip_after hrun hA hl hok2 hlo hex hW hc hN k
theorem ip_s_callI (hNx : ip_Nx s) (S9 : CallFix p m c cc nL s args Ts own) (hM : ip_CT l y ws rm I pre post) (cw : CallB R s args own index y bytes maxL none ws rm rm.cells rm.slots n ∧ y.name = "<init>" ∧ (Cond.instanceMethod y).before args s = true) (hpre : ∀ as S, I S → pre as S → ∃ (b : Nat) (as' : List ip_V), as = .inr (.inl (some b)) :: as' ∧ as'.length = n) (hA : ∀ q, s.heap.size ≤ q → A q) (hd : decode cc pc = .ok (.invokespecial index, 3)) (hf : (cnt pc).1 + rm.cells ≤ R.cells ∧ (cnt pc).2 + rm.slots ≤ R.slots) (hc : cnt (pc + 3) = ((cnt pc).1 + rm.cells, (cnt pc).2 + rm.slots)) : ip_snd p l e R s m args below meth c D cA A Q nL cnt I ad0 S0 pc (ip_t_call (n + 1) pre post (pc + 3)) := by
  intro N hN loc st S h ad L H locs ls hI hl hst hlo hex hW
  unfold ip_t_call at h
  cases hb8 : Nat.ble (st.drop (n + 1)).length 4 with
  | false => rw [hb8] at h; exact h.elim
  | true =>
    rw [hb8] at h
    have hlen := Nat.le_of_ble_eq_true hb8
    obtain ⟨hp, k⟩ := h
    obtain ⟨b, as', eas, hn⟩ := hpre _ S hI hp
    obtain ⟨hok1, hok2⟩ := ip_mem_take (na := n + 1) hst
    have hst9 := ip_split st (n + 1) ad
    have hM9 := hM D cA ad L H.size _ S hp
    have hrd := ip_ready hNx hI hok1 hW
    rw [eas] at hst9 hM9 hrd
    have hrun := va_runI (cells := (cnt pc).1) (slots := (cnt pc).2) (locs := locs) (below := below) (meth := meth) (e := e) (g := F0 m pc ls (st.map (ip_cv ad))) (As := as'.map (ip_cv ad)) (b := ad b) (rest := (st.drop (n + 1)).map (ip_cv ad)) S9 hM9 cw ⟨ip_blind, hrd⟩ rfl (by rw [List.length_map]; exact hn) (by show ls.size = nL; obtain ⟨-, lv, q1, -⟩ := hl; exact q1.1) (by
      show st.map (ip_cv ad) = _
      rw [hst9, List.map_cons, List.reverse_cons, List.append_assoc]
      rfl) (lv_room (by have := ip_catS ad (st.drop (n + 1)); omega)) hd hf
    refine ip_after hrun hA hl hok2 hlo hex hW hc hN ?_
    rw [← eas]
    exact k
theorem ip_s_callIN (hNx : ip_Nx s) (S9 : CallFix p m c cc nL s args Ts own) (hM : ip_CT l y ws rm I pre post) (cw : va_CN R s args own index y host bytes maxL none ws rm rm.cells rm.slots n ∧ y.name = "<init>" ∧ (Cond.instanceMethod y).before args s = true) (hpre : ∀ as S, I S → pre as S → ∃ (b : Nat) (as' : List ip_V), as = .inr (.inl (some b)) :: as' ∧ as'.length = n) (hA : ∀ q, s.heap.size ≤ q → A q) (hd : decode cc pc = .ok (.invokespecial index, 3)) (hf : (cnt pc).1 + rm.cells ≤ R.cells ∧ (cnt pc).2 + rm.slots ≤ R.slots) (hc : cnt (pc + 3) = ((cnt pc).1 + rm.cells, (cnt pc).2 + rm.slots)) : ip_snd p l e R s m args below meth c D cA A Q nL cnt I ad0 S0 pc (ip_t_call (n + 1) pre post (pc + 3)) := by
  intro N hN loc st S h ad L H locs ls hI hl hst hlo hex hW
  unfold ip_t_call at h
  cases hb8 : Nat.ble (st.drop (n + 1)).length 4 with
  | false => rw [hb8] at h; exact h.elim
  | true =>
    rw [hb8] at h
    have hlen := Nat.le_of_ble_eq_true hb8
    obtain ⟨hp, k⟩ := h
    obtain ⟨b, as', eas, hn⟩ := hpre _ S hI hp
    obtain ⟨hok1, hok2⟩ := ip_mem_take (na := n + 1) hst
    have hst9 := ip_split st (n + 1) ad
    have hM9 := hM D cA ad L H.size _ S hp
    have hrd := ip_ready hNx hI hok1 hW
    rw [eas] at hst9 hM9 hrd
    have hrun := va_runIN (cells := (cnt pc).1) (slots := (cnt pc).2) (locs := locs) (below := below) (meth := meth) (e := e) (g := F0 m pc ls (st.map (ip_cv ad))) (As := as'.map (ip_cv ad)) (b := ad b) (rest := (st.drop (n + 1)).map (ip_cv ad)) S9 hM9 cw ⟨ip_blind, hrd⟩ rfl (by rw [List.length_map]; exact hn) (by show ls.size = nL; obtain ⟨-, lv, q1, -⟩ := hl; exact q1.1) (by
      show st.map (ip_cv ad) = _
      rw [hst9, List.map_cons, List.reverse_cons, List.append_assoc]
      rfl) (lv_room (by have := ip_catS ad (st.drop (n + 1)); omega)) hd hf
    refine ip_after hrun hA hl hok2 hlo hex hW hc hN ?_
    rw [← eas]
    exact k
def ip_t_oi (n : Nat) : ip_T := fun N loc st S => match st with
  | .inr (.inl (some _)) :: r => bif Nat.ble r.length 4 then N n loc r S else False
  | _ => False
theorem ip_s_oi (hx : p.tables.exec = Jvm.exec) (hb : c.code = cc) (hml : c.maxLocals = nL) (hown : s.vm.findClass own = some m.cls) (hlink : (Cond.methodLink own index objectInit).before args s = true) (hinst : (Cond.instanceMethod objectInit).before args s = true) (hcode : (Cond.code objectInit ⟨#[0xb1]⟩ 1 none).before args s = true) (hR : 1 ≤ R.frames ∧ 20 ≤ R.locals) (hd : decode cc pc = .ok (.invokespecial index, 3)) (hc : cnt (pc + 3) = cnt pc) : ip_snd p l e R s m args below meth c D cA A Q nL cnt I ad0 S0 pc (ip_t_oi (pc + 3)) := by
  intro N hN loc st S h ad L H locs ls hI hl hst hlo hex hW
  unfold ip_t_oi at h
  split at h
  · rename_i q r
    cases hb8 : Nat.ble r.length 4 with
    | false => rw [hb8] at h; exact h.elim
    | true =>
      rw [hb8] at h
      have hlen := Nat.le_of_ble_eq_true hb8
      have kk := hN _ _ _ _ h ad L H locs ls hI hl (ip_tl hst) hlo hex hW
      rw [hc] at kk
      have hcs := ip_catS ad r
      have hrm : 2 * (F0 m pc ls ([] : List Value)).monitorRoom + ((r.map (ip_cv ad)).map fun v => v.category).sum ≤ 8 := lv_room (by omega)
      refine W.objInit hx hb hown hlink hinst hcode rfl (by obtain ⟨-, lv, q1, -⟩ := hl; exact q1.1.trans hml.symm) (a := ad q) (rest := r.map (ip_cv ad)) rfl hd hR.1 ?_ ?_
      · have : (F0 m pc ls (List.map (ip_cv ad) (Sum.inr (Sum.inl (some q)) :: r))).monitorRoom = (F0 m pc ls ([] : List Value)).monitorRoom := rfl
        omega
      · exact W.eq (g2 := F0 m (pc + 3) ls (r.map (ip_cv ad))) rfl kk
  · exact h.elim
def ip_t_max (n : Nat) : ip_T := fun N loc st S => match st with
  | .inl y :: .inl x :: r => bif Nat.ble r.length 4 then N n loc (.inl (if x < y then y else x) :: r) S else False
  | _ => False
theorem ip_s_max (hx : p.tables.exec = Jvm.exec) (hb : c.code = cc) (hml : c.maxLocals = nL) (hown : s.vm.findClass own = some m.cls) (hlink : (Cond.methodLink own index Lib.Math.max.name).before args s = true) (hstat : (Cond.static Lib.Math.max.name).before args s = true) (hini : (Cond.initialized "java/lang/Math").before args s = true) (hcode : (Cond.code Lib.Math.max.name Lib.Math.max.code 2 (some .int)).before args s = true) (hR : 1 ≤ R.frames ∧ 21 ≤ R.locals) (hf : (cnt pc).1 ≤ R.cells ∧ (cnt pc).2 ≤ R.slots) (hd : decode cc pc = .ok (.invokestatic index, 3)) (hc : cnt (pc + 3) = cnt pc) : ip_snd p l e R s m args below meth c D cA A Q nL cnt I ad0 S0 pc (ip_t_max (pc + 3)) := by
  intro N hN loc st S h ad L H locs ls hI hl hst hlo hex hW
  unfold ip_t_max at h
  split at h
  · rename_i y x r
    cases hb8 : Nat.ble r.length 4 with
    | false => rw [hb8] at h; exact h.elim
    | true =>
      rw [hb8] at h
      have hlen := Nat.le_of_ble_eq_true hb8
      have kk := hN _ _ _ _ h ad L H locs ls hI hl (ip_cs ip_ok_i (ip_tl (ip_tl hst))) hlo hex hW
      rw [hc] at kk
      have hcs := ip_catS ad r
      exact va_mmax hx hb (by obtain ⟨-, lv, q1, -⟩ := hl; exact hml.trans q1.1.symm) hown hlink hstat hini hcode hR.1 (by omega) hf.1 hf.2 hd kk
  · exact h.elim
def ip_t_min (n : Nat) : ip_T := fun N loc st S => match st with
  | .inl y :: .inl x :: r => bif Nat.ble r.length 4 then N n loc (.inl (if y < x then y else x) :: r) S else False
  | _ => False
theorem ip_s_min (hx : p.tables.exec = Jvm.exec) (hb : c.code = cc) (hml : c.maxLocals = nL) (hown : s.vm.findClass own = some m.cls) (hlink : (Cond.methodLink own index Lib.Math.min.name).before args s = true) (hstat : (Cond.static Lib.Math.min.name).before args s = true) (hini : (Cond.initialized "java/lang/Math").before args s = true) (hcode : (Cond.code Lib.Math.min.name Lib.Math.min.code 2 (some .int)).before args s = true) (hR : 1 ≤ R.frames ∧ 21 ≤ R.locals) (hf : (cnt pc).1 ≤ R.cells ∧ (cnt pc).2 ≤ R.slots) (hd : decode cc pc = .ok (.invokestatic index, 3)) (hc : cnt (pc + 3) = cnt pc) : ip_snd p l e R s m args below meth c D cA A Q nL cnt I ad0 S0 pc (ip_t_min (pc + 3)) := by
  intro N hN loc st S h ad L H locs ls hI hl hst hlo hex hW
  unfold ip_t_min at h
  split at h
  · rename_i y x r
    cases hb8 : Nat.ble r.length 4 with
    | false => rw [hb8] at h; exact h.elim
    | true =>
      rw [hb8] at h
      have hlen := Nat.le_of_ble_eq_true hb8
      have kk := hN _ _ _ _ h ad L H locs ls hI hl (ip_cs ip_ok_i (ip_tl (ip_tl hst))) hlo hex hW
      rw [hc] at kk
      have hcs := ip_catS ad r
      exact va_mmin hx hb (by obtain ⟨-, lv, q1, -⟩ := hl; exact hml.trans q1.1.symm) hown hlink hstat hini hcode hR.1 (by omega) hf.1 hf.2 hd kk
  · exact h.elim
end IPC
