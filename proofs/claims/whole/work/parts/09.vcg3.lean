section IPF
variable {p : Program} {l : Launch} {e : Env} {R : Room} {s : State} {m : MethodId} {args : Array Value} {below : List Frame} {meth : Method} {c : Code} {D : va_G} {cA : Nat → ClassId} {A : Nat → Prop} {Q : State → Prop} {nL : Nat} {cnt : Nat → Nat × Nat} {I : ip_S → Prop} {ad0 : Nat → Nat} {S0 : ip_S}
variable {cc : ByteArray} {pc : Nat}
theorem ip_fat {ad : Nat → Nat} {S : ip_S} {q ci k t : Nat} (h : (ip_ty ci)[k]? = some t) : (ip_fs ad S q (ip_ty ci) 0)[k]? = some (ip_fv ad S q k t) := by
  rw [ip_fs_at, h, Option.map_some, Nat.zero_add]
theorem ip_Wat {ad : Nat → Nat} {L : List Nat} {S : ip_S} {H : Heap} {locs : List Loc} (hW : ip_W D cA A ad L S s H locs) {q ci : Nat} (h : (S.2.2.2 q).1 = ci) (hci : ci < 6) : ∃ k0 : Nat, L[k0]? = some q ∧ (ip_wl cA ad L S)[k0]? = some (ad q, .inr (ci, ip_fs ad S q (ip_ty ci) 0)) := by
  obtain ⟨k0, h1, h2⟩ := ip_wl_at (cA := cA) (ad := ad) (S := S) ((hW.1 q).mpr (by show (S.2.2.2 q).1 < 10; omega))
  exact ⟨k0, h1, by rw [h2, ip_E_obj h hci]⟩
/-- behind a write -/
theorem ip_W.put {ad : Nat → Nat} {L : List Nat} {S S' : ip_S} {H H1 : Heap} {locs locs1 : List Loc} (hW : ip_W D cA A ad L S s H locs) (hk : S'.2.2.2 = S.2.2.2) (hc : ip_cl S') {q k0 : Nat} (hq : L[k0]? = some q) (hne : ∀ q', q' ≠ q → ip_E cA ad S' q' = ip_E cA ad S q') {en : va_E} (hen : en = ip_E cA ad S' q)
    (hP : va_P D vwCl ((ip_wl cA ad L S).set k0 (ad q, en)) H1) (hD : va_D A ((ip_wl cA ad L S).set k0 (ad q, en))) (hS : va_S A s.heap H1 locs1) : ip_W D cA A ad L S' s H1 locs1 := by
  obtain ⟨h1, h2, h3, h4, h5, h6⟩ := hW
  subst hen
  rw [ip_wl_set h5 hq hne] at hP hD
  refine ⟨fun r => ?_, hc, h3, hP, hD, hS⟩
  rw [h1 r]
  show (S.2.2.2 r).1 < 10 ↔ (S'.2.2.2 r).1 < 10
  rw [hk]
theorem ip_ax_k {S S' : ip_S} (hk : S'.2.2.2 = S.2.2.2) {q : Nat} : ip_ax S' q ↔ ip_ax S q := by
  show (S'.2.2.2 q).1 < 10 ∨ q = 99 ↔ (S.2.2.2 q).1 < 10 ∨ q = 99
  rw [hk]
theorem ip_ok_k {S S' : ip_S} (hk : S'.2.2.2 = S.2.2.2) {v : ip_V} (h : ip_ok S v) : ip_ok S' v := fun q e => (ip_ax_k hk).mpr (h q e)
theorem ip_cl_R {S : ip_S} (h : ip_cl S) {p k : Nat} {v : Option Nat} (hv : ip_ok S (.inr (.inl v))) : ip_cl (ip_sR S p k v) := by
  intro q j r hr
  have hr' : (if q = p ∧ j = k then v else S.2.1 q j) = some r := hr
  split at hr'
  · exact hv r (by rw [hr'])
  · exact h q j r hr'
def ip_t_gI (ci k n : Nat) : ip_T := fun N loc st S => match st with
  | .inr (.inl (some q)) :: r => (S.2.2.2 q).1 = ci ∧ N n loc (.inl (S.1 q k) :: r) S
  | _ => False
def ip_t_gI0 (p0 k n : Nat) : ip_T := fun N loc st S => match st with
  | .inr (.inl (some q)) :: r => bif Nat.beq q p0 then N n loc (.inl (S.1 p0 k) :: r) S else False
  | _ => False
def ip_t_gR (ci k n : Nat) : ip_T := fun N loc st S => match st with
  | .inr (.inl (some q)) :: r => (S.2.2.2 q).1 = ci ∧ ∀ o, S.2.1 q k = o → N n loc (.inr (.inl o) :: r) S
  | _ => False
def ip_t_gR0 (p0 v n : Nat) : ip_T := fun N loc st S => match st with
  | .inr (.inl (some q)) :: r => bif Nat.beq q p0 then N n loc (.inr (.inl (some v)) :: r) S else False
  | _ => False
def ip_t_gJ0 (p0 k n : Nat) : ip_T := fun N loc st S => match st with
  | .inr (.inl (some q)) :: r => bif Nat.beq q p0 then N n loc (.inr (.inr (S.2.2.1 p0 k)) :: r) S else False
  | _ => False
def ip_t_pI (ci k n : Nat) : ip_T := fun N loc st S => match st with
  | .inl x :: .inr (.inl (some q)) :: r => (S.2.2.2 q).1 = ci ∧ N n loc r (ip_sI S q k x)
  | _ => False
def ip_t_pI0 (p0 k n : Nat) : ip_T := fun N loc st S => match st with
  | .inl x :: .inr (.inl (some q)) :: r => bif Nat.beq q p0 then N n loc r (ip_sI S p0 k x) else False
  | _ => False
def ip_t_pR (ci k n : Nat) : ip_T := fun N loc st S => match st with
  | .inr (.inl o) :: .inr (.inl (some q)) :: r => (S.2.2.2 q).1 = ci ∧ N n loc r (ip_sR S q k o)
  | _ => False
def ip_t_pJ0 (p0 k n : Nat) : ip_T := fun N loc st S => match st with
  | .inr (.inr x) :: .inr (.inl (some q)) :: r => bif Nat.beq q p0 then N n loc r (ip_sJ S p0 k x) else False
  | _ => False
theorem ip_s_gI (hx : p.tables.exec = Jvm.exec) (hb : c.code = cc) {own ref C : String} {T : u_T} {N ci index : Nat} {Ts : List Cond} (hts : ∀ w ∈ Ts, w.before args s = true) (hin : ∀ w ∈ u_ws C T N, w ∈ Ts) (hown : s.vm.findClass own = some m.cls) (hcl : vwCl[ci]? = some (C, T, N)) (hci : ci < 6) (k : Nat) (hk : k < N) (hlink : (Cond.fieldLink own index ref (T k).2.1 (T k).2.2.1).before args s = true) (hsame : ∀ x, s.fieldFound? (T k).1 (T k).2.1 (T k).2.2.1 = some x → s.fieldFound? ref (T k).2.1 (T k).2.2.1 = some x) (ht : (ip_ty ci)[k]? = some 0) (hd : decode cc pc = .ok (.getfield index, 3)) (hc : cnt (pc + 3) = cnt pc) : ip_snd p l e R s m args below meth c D cA A Q nL cnt I ad0 S0 pc (ip_t_gI ci k (pc + 3)) := by
  intro N hN loc st S h ad L H locs ls hI hl hst hlo hex hW
  unfold ip_t_gI at h
  split at h
  · rename_i q r
    obtain ⟨k0, h1, h2⟩ := ip_Wat hW h.1 hci
    have kk := hN _ _ _ _ h.2 ad L H locs ls hI hl (ip_cs ip_ok_i (ip_tl hst)) hlo hex hW
    rw [hc] at kk
    exact va_get hx hb hts hin hown hW.2.2.1 hW.2.2.2.1 k0 h2 hcl k hk hlink hsame (ip_fat ht) hd kk
  · exact h.elim
theorem ip_s_gI0 (hx : p.tables.exec = Jvm.exec) (hb : c.code = cc) {own ref C : String} {T : u_T} {N ci index : Nat} {Ts : List Cond} (hts : ∀ w ∈ Ts, w.before args s = true) (hin : ∀ w ∈ u_ws C T N, w ∈ Ts) (hown : s.vm.findClass own = some m.cls) (hcl : vwCl[ci]? = some (C, T, N)) (hci : ci < 6) (k : Nat) (hk : k < N) (hlink : (Cond.fieldLink own index ref (T k).2.1 (T k).2.2.1).before args s = true) (hsame : ∀ x, s.fieldFound? (T k).1 (T k).2.1 (T k).2.2.1 = some x → s.fieldFound? ref (T k).2.1 (T k).2.2.1 = some x) (hIs : ∀ S, I S → ip_Sta S) (p0 : Nat) (hp0 : (ip_kt p0).1 = ci) (ht : (ip_ty ci)[k]? = some 0) (hd : decode cc pc = .ok (.getfield index, 3)) (hc : cnt (pc + 3) = cnt pc) : ip_snd p l e R s m args below meth c D cA A Q nL cnt I ad0 S0 pc (ip_t_gI0 p0 k (pc + 3)) := by
  intro N hN loc st S h ad L H locs ls hI hl hst hlo hex hW
  unfold ip_t_gI0 at h
  split at h
  · rename_i q r
    cases hq : Nat.beq q p0 with
    | false => rw [hq] at h; exact h.elim
    | true =>
      rw [hq] at h
      have := Nat.eq_of_beq_eq_true hq
      subst this
      obtain ⟨k0, h1, h2⟩ := ip_Wat hW (q := q) (ci := ci) (by rw [(hIs S hI).1 q (by omega)]; exact hp0) hci
      have kk := hN _ _ _ _ h ad L H locs ls hI hl (ip_cs ip_ok_i (ip_tl hst)) hlo hex hW
      rw [hc] at kk
      exact va_get hx hb hts hin hown hW.2.2.1 hW.2.2.2.1 k0 h2 hcl k hk hlink hsame (ip_fat ht) hd kk
  · exact h.elim
theorem ip_s_gJ0 (hx : p.tables.exec = Jvm.exec) (hb : c.code = cc) {own ref C : String} {T : u_T} {N ci index : Nat} {Ts : List Cond} (hts : ∀ w ∈ Ts, w.before args s = true) (hin : ∀ w ∈ u_ws C T N, w ∈ Ts) (hown : s.vm.findClass own = some m.cls) (hcl : vwCl[ci]? = some (C, T, N)) (hci : ci < 6) (k : Nat) (hk : k < N) (hlink : (Cond.fieldLink own index ref (T k).2.1 (T k).2.2.1).before args s = true) (hsame : ∀ x, s.fieldFound? (T k).1 (T k).2.1 (T k).2.2.1 = some x → s.fieldFound? ref (T k).2.1 (T k).2.2.1 = some x) (hIs : ∀ S, I S → ip_Sta S) (p0 : Nat) (hp0 : (ip_kt p0).1 = ci) (ht : (ip_ty ci)[k]? = some 2) (hd : decode cc pc = .ok (.getfield index, 3)) (hc : cnt (pc + 3) = cnt pc) : ip_snd p l e R s m args below meth c D cA A Q nL cnt I ad0 S0 pc (ip_t_gJ0 p0 k (pc + 3)) := by
  intro N hN loc st S h ad L H locs ls hI hl hst hlo hex hW
  unfold ip_t_gJ0 at h
  split at h
  · rename_i q r
    cases hq : Nat.beq q p0 with
    | false => rw [hq] at h; exact h.elim
    | true =>
      rw [hq] at h
      have := Nat.eq_of_beq_eq_true hq
      subst this
      obtain ⟨k0, h1, h2⟩ := ip_Wat hW (q := q) (ci := ci) (by rw [(hIs S hI).1 q (by omega)]; exact hp0) hci
      have kk := hN _ _ _ _ h ad L H locs ls hI hl (ip_cs ip_ok_l (ip_tl hst)) hlo hex hW
      rw [hc] at kk
      exact va_get hx hb hts hin hown hW.2.2.1 hW.2.2.2.1 k0 h2 hcl k hk hlink hsame (ip_fat ht) hd kk
  · exact h.elim
theorem ip_s_gR0 (hx : p.tables.exec = Jvm.exec) (hb : c.code = cc) {own ref C : String} {T : u_T} {N ci index : Nat} {Ts : List Cond} (hts : ∀ w ∈ Ts, w.before args s = true) (hin : ∀ w ∈ u_ws C T N, w ∈ Ts) (hown : s.vm.findClass own = some m.cls) (hcl : vwCl[ci]? = some (C, T, N)) (hci : ci < 6) (k : Nat) (hk : k < N) (hlink : (Cond.fieldLink own index ref (T k).2.1 (T k).2.2.1).before args s = true) (hsame : ∀ x, s.fieldFound? (T k).1 (T k).2.1 (T k).2.2.1 = some x → s.fieldFound? ref (T k).2.1 (T k).2.2.1 = some x) (hIs : ∀ S, I S → ip_Sta S) (p0 v : Nat) (hp0 : (ip_kt p0).1 = ci) (hv : (p0, k, v) ∈ ip_rt) (ht : (ip_ty ci)[k]? = some 1) (hd : decode cc pc = .ok (.getfield index, 3)) (hc : cnt (pc + 3) = cnt pc) : ip_snd p l e R s m args below meth c D cA A Q nL cnt I ad0 S0 pc (ip_t_gR0 p0 v (pc + 3)) := by
  intro N hN loc st S h ad L H locs ls hI hl hst hlo hex hW
  unfold ip_t_gR0 at h
  split at h
  · rename_i q r
    cases hq : Nat.beq q p0 with
    | false => rw [hq] at h; exact h.elim
    | true =>
      rw [hq] at h
      have := Nat.eq_of_beq_eq_true hq
      subst this
      obtain ⟨k0, h1, h2⟩ := ip_Wat hW (q := q) (ci := ci) (by rw [(hIs S hI).1 q (by omega)]; exact hp0) hci
      have hv' := (hIs S hI).2 _ hv
      have kk := hN _ _ _ _ h ad L H locs ls hI hl (ip_cs (ip_ok_c hW.2.1 hv') (ip_tl hst)) hlo hex hW
      rw [hc] at kk
      have hf := ip_fat (ad := ad) (S := S) (q := q) ht
      simp only [ip_fv] at hf
      rw [show S.2.1 q k = some v from hv'] at hf
      exact va_get hx hb hts hin hown hW.2.2.1 hW.2.2.2.1 k0 h2 hcl k hk hlink hsame hf hd kk
  · exact h.elim
theorem ip_s_gR (hx : p.tables.exec = Jvm.exec) (hb : c.code = cc) {own ref C : String} {T : u_T} {N ci index : Nat} {Ts : List Cond} (hts : ∀ w ∈ Ts, w.before args s = true) (hin : ∀ w ∈ u_ws C T N, w ∈ Ts) (hown : s.vm.findClass own = some m.cls) (hcl : vwCl[ci]? = some (C, T, N)) (hci : ci < 6) (k : Nat) (hk : k < N) (hlink : (Cond.fieldLink own index ref (T k).2.1 (T k).2.2.1).before args s = true) (hsame : ∀ x, s.fieldFound? (T k).1 (T k).2.1 (T k).2.2.1 = some x → s.fieldFound? ref (T k).2.1 (T k).2.2.1 = some x) (ht : (ip_ty ci)[k]? = some 1) (hd : decode cc pc = .ok (.getfield index, 3)) (hc : cnt (pc + 3) = cnt pc) : ip_snd p l e R s m args below meth c D cA A Q nL cnt I ad0 S0 pc (ip_t_gR ci k (pc + 3)) := by
  intro N hN loc st S h ad L H locs ls hI hl hst hlo hex hW
  unfold ip_t_gR at h
  split at h
  · rename_i q r
    obtain ⟨k0, h1, h2⟩ := ip_Wat hW h.1 hci
    have kk := hN _ _ _ _ (h.2 _ rfl) ad L H locs ls hI hl (ip_cs (ip_ok_c hW.2.1 rfl) (ip_tl hst)) hlo hex hW
    rw [hc] at kk
    exact va_get hx hb hts hin hown hW.2.2.1 hW.2.2.2.1 k0 h2 hcl k hk hlink hsame (ip_fat ht) hd kk
  · exact h.elim
theorem ip_s_gIN (hx : p.tables.exec = Jvm.exec) (hb : c.code = cc) {own ref C host : String} {T : u_T} {N ci index : Nat} {Ts : List Cond} (hts : ∀ w ∈ Ts, w.before args s = true) (hin : ∀ w ∈ u_ws C T N, w ∈ Ts) (hown : s.vm.findClass own = some m.cls) (hcl : vwCl[ci]? = some (C, T, N)) (hci : ci < 6) (k : Nat) (hk : k < N) (hlink : (Cond.fieldLinkNest own index ref (T k).2.1 (T k).2.2.1 host).before args s = true) (hsame : ∀ x, s.fieldFound? (T k).1 (T k).2.1 (T k).2.2.1 = some x → s.fieldFound? ref (T k).2.1 (T k).2.2.1 = some x) (ht : (ip_ty ci)[k]? = some 0) (hd : decode cc pc = .ok (.getfield index, 3)) (hc : cnt (pc + 3) = cnt pc) : ip_snd p l e R s m args below meth c D cA A Q nL cnt I ad0 S0 pc (ip_t_gI ci k (pc + 3)) := by
  intro N hN loc st S h ad L H locs ls hI hl hst hlo hex hW
  unfold ip_t_gI at h
  split at h
  · rename_i q r
    obtain ⟨k0, h1, h2⟩ := ip_Wat hW h.1 hci
    have kk := hN _ _ _ _ h.2 ad L H locs ls hI hl (ip_cs ip_ok_i (ip_tl hst)) hlo hex hW
    rw [hc] at kk
    exact va_getN hx hb hts hin hown hW.2.2.1 hW.2.2.2.1 k0 h2 hcl k hk hlink hsame (ip_fat ht) hd kk
  · exact h.elim
theorem ip_s_gI0N (hx : p.tables.exec = Jvm.exec) (hb : c.code = cc) {own ref C host : String} {T : u_T} {N ci index : Nat} {Ts : List Cond} (hts : ∀ w ∈ Ts, w.before args s = true) (hin : ∀ w ∈ u_ws C T N, w ∈ Ts) (hown : s.vm.findClass own = some m.cls) (hcl : vwCl[ci]? = some (C, T, N)) (hci : ci < 6) (k : Nat) (hk : k < N) (hlink : (Cond.fieldLinkNest own index ref (T k).2.1 (T k).2.2.1 host).before args s = true) (hsame : ∀ x, s.fieldFound? (T k).1 (T k).2.1 (T k).2.2.1 = some x → s.fieldFound? ref (T k).2.1 (T k).2.2.1 = some x) (hIs : ∀ S, I S → ip_Sta S) (p0 : Nat) (hp0 : (ip_kt p0).1 = ci) (ht : (ip_ty ci)[k]? = some 0) (hd : decode cc pc = .ok (.getfield index, 3)) (hc : cnt (pc + 3) = cnt pc) : ip_snd p l e R s m args below meth c D cA A Q nL cnt I ad0 S0 pc (ip_t_gI0 p0 k (pc + 3)) := by
  intro N hN loc st S h ad L H locs ls hI hl hst hlo hex hW
  unfold ip_t_gI0 at h
  split at h
  · rename_i q r
    cases hq : Nat.beq q p0 with
    | false => rw [hq] at h; exact h.elim
    | true =>
      rw [hq] at h
      have := Nat.eq_of_beq_eq_true hq
      subst this
      obtain ⟨k0, h1, h2⟩ := ip_Wat hW (q := q) (ci := ci) (by rw [(hIs S hI).1 q (by omega)]; exact hp0) hci
      have kk := hN _ _ _ _ h ad L H locs ls hI hl (ip_cs ip_ok_i (ip_tl hst)) hlo hex hW
      rw [hc] at kk
      exact va_getN hx hb hts hin hown hW.2.2.1 hW.2.2.2.1 k0 h2 hcl k hk hlink hsame (ip_fat ht) hd kk
  · exact h.elim
theorem ip_s_gJ0N (hx : p.tables.exec = Jvm.exec) (hb : c.code = cc) {own ref C host : String} {T : u_T} {N ci index : Nat} {Ts : List Cond} (hts : ∀ w ∈ Ts, w.before args s = true) (hin : ∀ w ∈ u_ws C T N, w ∈ Ts) (hown : s.vm.findClass own = some m.cls) (hcl : vwCl[ci]? = some (C, T, N)) (hci : ci < 6) (k : Nat) (hk : k < N) (hlink : (Cond.fieldLinkNest own index ref (T k).2.1 (T k).2.2.1 host).before args s = true) (hsame : ∀ x, s.fieldFound? (T k).1 (T k).2.1 (T k).2.2.1 = some x → s.fieldFound? ref (T k).2.1 (T k).2.2.1 = some x) (hIs : ∀ S, I S → ip_Sta S) (p0 : Nat) (hp0 : (ip_kt p0).1 = ci) (ht : (ip_ty ci)[k]? = some 2) (hd : decode cc pc = .ok (.getfield index, 3)) (hc : cnt (pc + 3) = cnt pc) : ip_snd p l e R s m args below meth c D cA A Q nL cnt I ad0 S0 pc (ip_t_gJ0 p0 k (pc + 3)) := by
  intro N hN loc st S h ad L H locs ls hI hl hst hlo hex hW
  unfold ip_t_gJ0 at h
  split at h
  · rename_i q r
    cases hq : Nat.beq q p0 with
    | false => rw [hq] at h; exact h.elim
    | true =>
      rw [hq] at h
      have := Nat.eq_of_beq_eq_true hq
      subst this
      obtain ⟨k0, h1, h2⟩ := ip_Wat hW (q := q) (ci := ci) (by rw [(hIs S hI).1 q (by omega)]; exact hp0) hci
      have kk := hN _ _ _ _ h ad L H locs ls hI hl (ip_cs ip_ok_l (ip_tl hst)) hlo hex hW
      rw [hc] at kk
      exact va_getN hx hb hts hin hown hW.2.2.1 hW.2.2.2.1 k0 h2 hcl k hk hlink hsame (ip_fat ht) hd kk
  · exact h.elim
theorem ip_s_gR0N (hx : p.tables.exec = Jvm.exec) (hb : c.code = cc) {own ref C host : String} {T : u_T} {N ci index : Nat} {Ts : List Cond} (hts : ∀ w ∈ Ts, w.before args s = true) (hin : ∀ w ∈ u_ws C T N, w ∈ Ts) (hown : s.vm.findClass own = some m.cls) (hcl : vwCl[ci]? = some (C, T, N)) (hci : ci < 6) (k : Nat) (hk : k < N) (hlink : (Cond.fieldLinkNest own index ref (T k).2.1 (T k).2.2.1 host).before args s = true) (hsame : ∀ x, s.fieldFound? (T k).1 (T k).2.1 (T k).2.2.1 = some x → s.fieldFound? ref (T k).2.1 (T k).2.2.1 = some x) (hIs : ∀ S, I S → ip_Sta S) (p0 v : Nat) (hp0 : (ip_kt p0).1 = ci) (hv : (p0, k, v) ∈ ip_rt) (ht : (ip_ty ci)[k]? = some 1) (hd : decode cc pc = .ok (.getfield index, 3)) (hc : cnt (pc + 3) = cnt pc) : ip_snd p l e R s m args below meth c D cA A Q nL cnt I ad0 S0 pc (ip_t_gR0 p0 v (pc + 3)) := by
  intro N hN loc st S h ad L H locs ls hI hl hst hlo hex hW
  unfold ip_t_gR0 at h
  split at h
  · rename_i q r
    cases hq : Nat.beq q p0 with
    | false => rw [hq] at h; exact h.elim
    | true =>
      rw [hq] at h
      have := Nat.eq_of_beq_eq_true hq
      subst this
      obtain ⟨k0, h1, h2⟩ := ip_Wat hW (q := q) (ci := ci) (by rw [(hIs S hI).1 q (by omega)]; exact hp0) hci
      have hv' := (hIs S hI).2 _ hv
      have kk := hN _ _ _ _ h ad L H locs ls hI hl (ip_cs (ip_ok_c hW.2.1 hv') (ip_tl hst)) hlo hex hW
      rw [hc] at kk
      have hf := ip_fat (ad := ad) (S := S) (q := q) ht
      simp only [ip_fv] at hf
      rw [show S.2.1 q k = some v from hv'] at hf
      exact va_getN hx hb hts hin hown hW.2.2.1 hW.2.2.2.1 k0 h2 hcl k hk hlink hsame hf hd kk
  · exact h.elim
theorem ip_s_gRN (hx : p.tables.exec = Jvm.exec) (hb : c.code = cc) {own ref C host : String} {T : u_T} {N ci index : Nat} {Ts : List Cond} (hts : ∀ w ∈ Ts, w.before args s = true) (hin : ∀ w ∈ u_ws C T N, w ∈ Ts) (hown : s.vm.findClass own = some m.cls) (hcl : vwCl[ci]? = some (C, T, N)) (hci : ci < 6) (k : Nat) (hk : k < N) (hlink : (Cond.fieldLinkNest own index ref (T k).2.1 (T k).2.2.1 host).before args s = true) (hsame : ∀ x, s.fieldFound? (T k).1 (T k).2.1 (T k).2.2.1 = some x → s.fieldFound? ref (T k).2.1 (T k).2.2.1 = some x) (ht : (ip_ty ci)[k]? = some 1) (hd : decode cc pc = .ok (.getfield index, 3)) (hc : cnt (pc + 3) = cnt pc) : ip_snd p l e R s m args below meth c D cA A Q nL cnt I ad0 S0 pc (ip_t_gR ci k (pc + 3)) := by
  intro N hN loc st S h ad L H locs ls hI hl hst hlo hex hW
  unfold ip_t_gR at h
  split at h
  · rename_i q r
    obtain ⟨k0, h1, h2⟩ := ip_Wat hW h.1 hci
    have kk := hN _ _ _ _ (h.2 _ rfl) ad L H locs ls hI hl (ip_cs (ip_ok_c hW.2.1 rfl) (ip_tl hst)) hlo hex hW
    rw [hc] at kk
    exact va_getN hx hb hts hin hown hW.2.2.1 hW.2.2.2.1 k0 h2 hcl k hk hlink hsame (ip_fat ht) hd kk
  · exact h.elim
theorem ip_s_pI (hx : p.tables.exec = Jvm.exec) (hb : c.code = cc) {own ref C : String} {T : u_T} {N ci index : Nat} {Ts : List Cond} (hts : ∀ w ∈ Ts, w.before args s = true) (hin : ∀ w ∈ u_ws C T N, w ∈ Ts) (hown : s.vm.findClass own = some m.cls) (hcl : vwCl[ci]? = some (C, T, N)) (hci : ci < 6) (k : Nat) (hk : k < N) (hlink : (Cond.fieldLink own index ref (T k).2.1 (T k).2.2.1).before args s = true) (hsame : ∀ x, s.fieldFound? (T k).1 (T k).2.1 (T k).2.2.1 = some x → s.fieldFound? ref (T k).2.1 (T k).2.2.1 = some x) (ty0 : Nat → FieldType) (hty : ∀ k, k < N → parseFieldDescriptor (T k).2.2.1 = some (ty0 k)) (hnm : ∀ a, a < N → ∀ b, b < N → a ≠ b → (T a).2.1 ≠ (T b).2.1) (hIn : ip_In I) (hfin : (T k).2.2.2 = false) (ht : (ip_ty ci)[k]? = some 0) (hti : parseFieldDescriptor (T k).2.2.1 = some .int) (hd : decode cc pc = .ok (.putfield index, 3)) (hc : cnt (pc + 3) = cnt pc) : ip_snd p l e R s m args below meth c D cA A Q nL cnt I ad0 S0 pc (ip_t_pI ci k (pc + 3)) := by
  intro N hN loc st S h ad L H locs ls hI hl hst hlo hex hW
  unfold ip_t_pI at h
  split at h
  · rename_i x q r
    obtain ⟨k0, h1, h2⟩ := ip_Wat hW h.1 hci
    refine va_put hx hb hts hin ty0 hty hnm hown hW.2.2.1 hW.2.2.2.1 hW.2.2.2.2.1 hW.2.2.2.2.2 k0 h2 hcl k hk hlink hsame hfin hti rfl rfl (by rw [ip_fs_len]; exact (List.getElem?_eq_some_iff.mp ht).1) hd (fun H1 locs1 hP hD hS => ?_)
    have kk := hN _ _ _ _ h.2 ad L H1 locs1 ls (hIn.1 _ _ _ _ hI) hl (ip_tl (ip_tl hst)) hlo hex (hW.put rfl hW.2.1 h1 (fun q' hq' => ip_E_sI hq') ((congrArg (fun z => (Sum.inr (ci, z) : va_E)) (ip_fs_sI (v := x) ht)).trans (ip_E_obj (S := ip_sI S q k x) h.1 hci).symm) hP hD hS)
    rw [hc] at kk
    exact kk
  · exact h.elim
theorem ip_s_pI0 (hx : p.tables.exec = Jvm.exec) (hb : c.code = cc) {own ref C : String} {T : u_T} {N ci index : Nat} {Ts : List Cond} (hts : ∀ w ∈ Ts, w.before args s = true) (hin : ∀ w ∈ u_ws C T N, w ∈ Ts) (hown : s.vm.findClass own = some m.cls) (hcl : vwCl[ci]? = some (C, T, N)) (hci : ci < 6) (k : Nat) (hk : k < N) (hlink : (Cond.fieldLink own index ref (T k).2.1 (T k).2.2.1).before args s = true) (hsame : ∀ x, s.fieldFound? (T k).1 (T k).2.1 (T k).2.2.1 = some x → s.fieldFound? ref (T k).2.1 (T k).2.2.1 = some x) (ty0 : Nat → FieldType) (hty : ∀ k, k < N → parseFieldDescriptor (T k).2.2.1 = some (ty0 k)) (hnm : ∀ a, a < N → ∀ b, b < N → a ≠ b → (T a).2.1 ≠ (T b).2.1) (hIn : ip_In I) (hIs : ∀ S, I S → ip_Sta S) (p0 : Nat) (hp0 : (ip_kt p0).1 = ci) (hfin : (T k).2.2.2 = false) (ht : (ip_ty ci)[k]? = some 0) (hti : parseFieldDescriptor (T k).2.2.1 = some .int) (hd : decode cc pc = .ok (.putfield index, 3)) (hc : cnt (pc + 3) = cnt pc) : ip_snd p l e R s m args below meth c D cA A Q nL cnt I ad0 S0 pc (ip_t_pI0 p0 k (pc + 3)) := by
  intro N hN loc st S h ad L H locs ls hI hl hst hlo hex hW
  unfold ip_t_pI0 at h
  split at h
  · rename_i x q r
    cases hq : Nat.beq q p0 with
    | false => rw [hq] at h; exact h.elim
    | true =>
      rw [hq] at h
      have := Nat.eq_of_beq_eq_true hq
      subst this
      have hkq : (S.2.2.2 q).1 = ci := by rw [(hIs S hI).1 q (by omega)]; exact hp0
      obtain ⟨k0, h1, h2⟩ := ip_Wat hW hkq hci
      refine va_put hx hb hts hin ty0 hty hnm hown hW.2.2.1 hW.2.2.2.1 hW.2.2.2.2.1 hW.2.2.2.2.2 k0 h2 hcl k hk hlink hsame hfin hti rfl rfl (by rw [ip_fs_len]; exact (List.getElem?_eq_some_iff.mp ht).1) hd (fun H1 locs1 hP hD hS => ?_)
      have kk := hN _ _ _ _ h ad L H1 locs1 ls (hIn.1 _ _ _ _ hI) hl (ip_tl (ip_tl hst)) hlo hex (hW.put rfl hW.2.1 h1 (fun q' hq' => ip_E_sI hq') ((congrArg (fun z => (Sum.inr (ci, z) : va_E)) (ip_fs_sI (v := x) ht)).trans (ip_E_obj (S := ip_sI S q k x) hkq hci).symm) hP hD hS)
      rw [hc] at kk
      exact kk
  · exact h.elim
theorem ip_s_pJ0 (hx : p.tables.exec = Jvm.exec) (hb : c.code = cc) {own ref C : String} {T : u_T} {N ci index : Nat} {Ts : List Cond} (hts : ∀ w ∈ Ts, w.before args s = true) (hin : ∀ w ∈ u_ws C T N, w ∈ Ts) (hown : s.vm.findClass own = some m.cls) (hcl : vwCl[ci]? = some (C, T, N)) (hci : ci < 6) (k : Nat) (hk : k < N) (hlink : (Cond.fieldLink own index ref (T k).2.1 (T k).2.2.1).before args s = true) (hsame : ∀ x, s.fieldFound? (T k).1 (T k).2.1 (T k).2.2.1 = some x → s.fieldFound? ref (T k).2.1 (T k).2.2.1 = some x) (ty0 : Nat → FieldType) (hty : ∀ k, k < N → parseFieldDescriptor (T k).2.2.1 = some (ty0 k)) (hnm : ∀ a, a < N → ∀ b, b < N → a ≠ b → (T a).2.1 ≠ (T b).2.1) (hIn : ip_In I) (hIs : ∀ S, I S → ip_Sta S) (p0 : Nat) (hp0 : (ip_kt p0).1 = ci) (hfin : (T k).2.2.2 = false) (ht : (ip_ty ci)[k]? = some 2) (hti : parseFieldDescriptor (T k).2.2.1 = some .long) (hd : decode cc pc = .ok (.putfield index, 3)) (hc : cnt (pc + 3) = cnt pc) : ip_snd p l e R s m args below meth c D cA A Q nL cnt I ad0 S0 pc (ip_t_pJ0 p0 k (pc + 3)) := by
  intro N hN loc st S h ad L H locs ls hI hl hst hlo hex hW
  unfold ip_t_pJ0 at h
  split at h
  · rename_i x q r
    cases hq : Nat.beq q p0 with
    | false => rw [hq] at h; exact h.elim
    | true =>
      rw [hq] at h
      have := Nat.eq_of_beq_eq_true hq
      subst this
      have hkq : (S.2.2.2 q).1 = ci := by rw [(hIs S hI).1 q (by omega)]; exact hp0
      obtain ⟨k0, h1, h2⟩ := ip_Wat hW hkq hci
      refine va_put hx hb hts hin ty0 hty hnm hown hW.2.2.1 hW.2.2.2.1 hW.2.2.2.2.1 hW.2.2.2.2.2 k0 h2 hcl k hk hlink hsame hfin hti rfl rfl (by rw [ip_fs_len]; exact (List.getElem?_eq_some_iff.mp ht).1) hd (fun H1 locs1 hP hD hS => ?_)
      have kk := hN _ _ _ _ h ad L H1 locs1 ls (hIn.2.1 _ _ _ _ hI) hl (ip_tl (ip_tl hst)) hlo hex (hW.put rfl hW.2.1 h1 (fun q' hq' => ip_E_sJ hq') ((congrArg (fun z => (Sum.inr (ci, z) : va_E)) (ip_fs_sJ (v := x) ht)).trans (ip_E_obj (S := ip_sJ S q k x) hkq hci).symm) hP hD hS)
      rw [hc] at kk
      exact kk
  · exact h.elim
theorem ip_s_pIF (hx : p.tables.exec = Jvm.exec) (hb : c.code = cc) {own ref C : String} {T : u_T} {N ci index : Nat} {Ts : List Cond} (hts : ∀ w ∈ Ts, w.before args s = true) (hin : ∀ w ∈ u_ws C T N, w ∈ Ts) (hown : s.vm.findClass own = some m.cls) (hcl : vwCl[ci]? = some (C, T, N)) (hci : ci < 6) (k : Nat) (hk : k < N) (hlink : (Cond.fieldLink own index ref (T k).2.1 (T k).2.2.1).before args s = true) (hsame : ∀ x, s.fieldFound? (T k).1 (T k).2.1 (T k).2.2.1 = some x → s.fieldFound? ref (T k).2.1 (T k).2.2.1 = some x) (ty0 : Nat → FieldType) (hty : ∀ k, k < N → parseFieldDescriptor (T k).2.2.1 = some (ty0 k)) (hnm : ∀ a, a < N → ∀ b, b < N → a ≠ b → (T a).2.1 ≠ (T b).2.1) (hIn : ip_In I) (hfin : (T k).2.2.2 = true) (hin2 : meth.name = "<init>") (hdecl : (T k).1 = own) (ht : (ip_ty ci)[k]? = some 0) (hti : parseFieldDescriptor (T k).2.2.1 = some .int) (hd : decode cc pc = .ok (.putfield index, 3)) (hc : cnt (pc + 3) = cnt pc) : ip_snd p l e R s m args below meth c D cA A Q nL cnt I ad0 S0 pc (ip_t_pI ci k (pc + 3)) := by
  intro N hN loc st S h ad L H locs ls hI hl hst hlo hex hW
  unfold ip_t_pI at h
  split at h
  · rename_i x q r
    obtain ⟨k0, h1, h2⟩ := ip_Wat hW h.1 hci
    refine va_putF hx hb hts hin ty0 hty hnm hown hW.2.2.1 hW.2.2.2.1 hW.2.2.2.2.1 hW.2.2.2.2.2 k0 h2 hcl k hk hlink hsame hfin hin2 hdecl hti rfl rfl (by rw [ip_fs_len]; exact (List.getElem?_eq_some_iff.mp ht).1) hd (fun H1 locs1 hP hD hS => ?_)
    have kk := hN _ _ _ _ h.2 ad L H1 locs1 ls (hIn.1 _ _ _ _ hI) hl (ip_tl (ip_tl hst)) hlo hex (hW.put rfl hW.2.1 h1 (fun q' hq' => ip_E_sI hq') ((congrArg (fun z => (Sum.inr (ci, z) : va_E)) (ip_fs_sI (v := x) ht)).trans (ip_E_obj (S := ip_sI S q k x) h.1 hci).symm) hP hD hS)
    rw [hc] at kk
    exact kk
  · exact h.elim
theorem ip_s_pI0F (hx : p.tables.exec = Jvm.exec) (hb : c.code = cc) {own ref C : String} {T : u_T} {N ci index : Nat} {Ts : List Cond} (hts : ∀ w ∈ Ts, w.before args s = true) (hin : ∀ w ∈ u_ws C T N, w ∈ Ts) (hown : s.vm.findClass own = some m.cls) (hcl : vwCl[ci]? = some (C, T, N)) (hci : ci < 6) (k : Nat) (hk : k < N) (hlink : (Cond.fieldLink own index ref (T k).2.1 (T k).2.2.1).before args s = true) (hsame : ∀ x, s.fieldFound? (T k).1 (T k).2.1 (T k).2.2.1 = some x → s.fieldFound? ref (T k).2.1 (T k).2.2.1 = some x) (ty0 : Nat → FieldType) (hty : ∀ k, k < N → parseFieldDescriptor (T k).2.2.1 = some (ty0 k)) (hnm : ∀ a, a < N → ∀ b, b < N → a ≠ b → (T a).2.1 ≠ (T b).2.1) (hIn : ip_In I) (hIs : ∀ S, I S → ip_Sta S) (p0 : Nat) (hp0 : (ip_kt p0).1 = ci) (hfin : (T k).2.2.2 = true) (hin2 : meth.name = "<init>") (hdecl : (T k).1 = own) (ht : (ip_ty ci)[k]? = some 0) (hti : parseFieldDescriptor (T k).2.2.1 = some .int) (hd : decode cc pc = .ok (.putfield index, 3)) (hc : cnt (pc + 3) = cnt pc) : ip_snd p l e R s m args below meth c D cA A Q nL cnt I ad0 S0 pc (ip_t_pI0 p0 k (pc + 3)) := by
  intro N hN loc st S h ad L H locs ls hI hl hst hlo hex hW
  unfold ip_t_pI0 at h
  split at h
  · rename_i x q r
    cases hq : Nat.beq q p0 with
    | false => rw [hq] at h; exact h.elim
    | true =>
      rw [hq] at h
      have := Nat.eq_of_beq_eq_true hq
      subst this
      have hkq : (S.2.2.2 q).1 = ci := by rw [(hIs S hI).1 q (by omega)]; exact hp0
      obtain ⟨k0, h1, h2⟩ := ip_Wat hW hkq hci
      refine va_putF hx hb hts hin ty0 hty hnm hown hW.2.2.1 hW.2.2.2.1 hW.2.2.2.2.1 hW.2.2.2.2.2 k0 h2 hcl k hk hlink hsame hfin hin2 hdecl hti rfl rfl (by rw [ip_fs_len]; exact (List.getElem?_eq_some_iff.mp ht).1) hd (fun H1 locs1 hP hD hS => ?_)
      have kk := hN _ _ _ _ h ad L H1 locs1 ls (hIn.1 _ _ _ _ hI) hl (ip_tl (ip_tl hst)) hlo hex (hW.put rfl hW.2.1 h1 (fun q' hq' => ip_E_sI hq') ((congrArg (fun z => (Sum.inr (ci, z) : va_E)) (ip_fs_sI (v := x) ht)).trans (ip_E_obj (S := ip_sI S q k x) hkq hci).symm) hP hD hS)
      rw [hc] at kk
      exact kk
  · exact h.elim
theorem ip_s_pRF (hx : p.tables.exec = Jvm.exec) (hb : c.code = cc) {own ref C : String} {T : u_T} {N ci index : Nat} {Ts : List Cond} (hts : ∀ w ∈ Ts, w.before args s = true) (hin : ∀ w ∈ u_ws C T N, w ∈ Ts) (hown : s.vm.findClass own = some m.cls) (hcl : vwCl[ci]? = some (C, T, N)) (hci : ci < 6) (k : Nat) (hk : k < N) (hlink : (Cond.fieldLink own index ref (T k).2.1 (T k).2.2.1).before args s = true) (hsame : ∀ x, s.fieldFound? (T k).1 (T k).2.1 (T k).2.2.1 = some x → s.fieldFound? ref (T k).2.1 (T k).2.2.1 = some x) (ty0 : Nat → FieldType) (hty : ∀ k, k < N → parseFieldDescriptor (T k).2.2.1 = some (ty0 k)) (hnm : ∀ a, a < N → ∀ b, b < N → a ≠ b → (T a).2.1 ≠ (T b).2.1) (hIr : ∀ S q o, I S → (S.2.2.2 q).1 = ci → I (ip_sR S q k o)) (hfin : (T k).2.2.2 = true) (hin2 : meth.name = "<init>") (hdecl : (T k).1 = own) (ht : (ip_ty ci)[k]? = some 1) {fty : FieldType} (hti : parseFieldDescriptor (T k).2.2.1 = some fty) (hft : ∀ o : Option Nat, narrow fty (va_rf o) = va_rf o ∧ fits fty (va_rf o) = true) (hd : decode cc pc = .ok (.putfield index, 3)) (hc : cnt (pc + 3) = cnt pc) : ip_snd p l e R s m args below meth c D cA A Q nL cnt I ad0 S0 pc (ip_t_pR ci k (pc + 3)) := by
  intro N hN loc st S h ad L H locs ls hI hl hst hlo hex hW
  unfold ip_t_pR at h
  split at h
  · rename_i o q r
    obtain ⟨k0, h1, h2⟩ := ip_Wat hW h.1 hci
    refine va_putF hx hb hts hin ty0 hty hnm hown hW.2.2.1 hW.2.2.2.1 hW.2.2.2.2.1 hW.2.2.2.2.2 k0 h2 hcl k hk hlink hsame hfin hin2 hdecl hti (hft _).1 (hft _).2 (by rw [ip_fs_len]; exact (List.getElem?_eq_some_iff.mp ht).1) hd (fun H1 locs1 hP hD hS => ?_)
    have kk := hN _ _ _ _ h.2 ad L H1 locs1 ls (hIr _ _ _ hI h.1) hl (ip_tl (ip_tl hst)) hlo hex (hW.put rfl (ip_cl_R hW.2.1 (ip_hd hst)) h1 (fun q' hq' => ip_E_sR hq') ((congrArg (fun z => (Sum.inr (ci, z) : va_E)) (ip_fs_sR (v := o) ht)).trans (ip_E_obj (S := ip_sR S q k o) h.1 hci).symm) hP hD hS)
    rw [hc] at kk
    exact kk
  · exact h.elim
theorem ip_s_pIN (hx : p.tables.exec = Jvm.exec) (hb : c.code = cc) {own ref C host : String} {T : u_T} {N ci index : Nat} {Ts : List Cond} (hts : ∀ w ∈ Ts, w.before args s = true) (hin : ∀ w ∈ u_ws C T N, w ∈ Ts) (hown : s.vm.findClass own = some m.cls) (hcl : vwCl[ci]? = some (C, T, N)) (hci : ci < 6) (k : Nat) (hk : k < N) (hlink : (Cond.fieldLinkNest own index ref (T k).2.1 (T k).2.2.1 host).before args s = true) (hsame : ∀ x, s.fieldFound? (T k).1 (T k).2.1 (T k).2.2.1 = some x → s.fieldFound? ref (T k).2.1 (T k).2.2.1 = some x) (ty0 : Nat → FieldType) (hty : ∀ k, k < N → parseFieldDescriptor (T k).2.2.1 = some (ty0 k)) (hnm : ∀ a, a < N → ∀ b, b < N → a ≠ b → (T a).2.1 ≠ (T b).2.1) (hIn : ip_In I) (hfin : (T k).2.2.2 = false) (ht : (ip_ty ci)[k]? = some 0) (hti : parseFieldDescriptor (T k).2.2.1 = some .int) (hd : decode cc pc = .ok (.putfield index, 3)) (hc : cnt (pc + 3) = cnt pc) : ip_snd p l e R s m args below meth c D cA A Q nL cnt I ad0 S0 pc (ip_t_pI ci k (pc + 3)) := by
  intro N hN loc st S h ad L H locs ls hI hl hst hlo hex hW
  unfold ip_t_pI at h
  split at h
  · rename_i x q r
    obtain ⟨k0, h1, h2⟩ := ip_Wat hW h.1 hci
    refine va_putN hx hb hts hin ty0 hty hnm hown hW.2.2.1 hW.2.2.2.1 hW.2.2.2.2.1 hW.2.2.2.2.2 k0 h2 hcl k hk hlink hsame hfin hti rfl rfl (by rw [ip_fs_len]; exact (List.getElem?_eq_some_iff.mp ht).1) hd (fun H1 locs1 hP hD hS => ?_)
    have kk := hN _ _ _ _ h.2 ad L H1 locs1 ls (hIn.1 _ _ _ _ hI) hl (ip_tl (ip_tl hst)) hlo hex (hW.put rfl hW.2.1 h1 (fun q' hq' => ip_E_sI hq') ((congrArg (fun z => (Sum.inr (ci, z) : va_E)) (ip_fs_sI (v := x) ht)).trans (ip_E_obj (S := ip_sI S q k x) h.1 hci).symm) hP hD hS)
    rw [hc] at kk
    exact kk
  · exact h.elim
theorem ip_s_pI0N (hx : p.tables.exec = Jvm.exec) (hb : c.code = cc) {own ref C host : String} {T : u_T} {N ci index : Nat} {Ts : List Cond} (hts : ∀ w ∈ Ts, w.before args s = true) (hin : ∀ w ∈ u_ws C T N, w ∈ Ts) (hown : s.vm.findClass own = some m.cls) (hcl : vwCl[ci]? = some (C, T, N)) (hci : ci < 6) (k : Nat) (hk : k < N) (hlink : (Cond.fieldLinkNest own index ref (T k).2.1 (T k).2.2.1 host).before args s = true) (hsame : ∀ x, s.fieldFound? (T k).1 (T k).2.1 (T k).2.2.1 = some x → s.fieldFound? ref (T k).2.1 (T k).2.2.1 = some x) (ty0 : Nat → FieldType) (hty : ∀ k, k < N → parseFieldDescriptor (T k).2.2.1 = some (ty0 k)) (hnm : ∀ a, a < N → ∀ b, b < N → a ≠ b → (T a).2.1 ≠ (T b).2.1) (hIn : ip_In I) (hIs : ∀ S, I S → ip_Sta S) (p0 : Nat) (hp0 : (ip_kt p0).1 = ci) (hfin : (T k).2.2.2 = false) (ht : (ip_ty ci)[k]? = some 0) (hti : parseFieldDescriptor (T k).2.2.1 = some .int) (hd : decode cc pc = .ok (.putfield index, 3)) (hc : cnt (pc + 3) = cnt pc) : ip_snd p l e R s m args below meth c D cA A Q nL cnt I ad0 S0 pc (ip_t_pI0 p0 k (pc + 3)) := by
  intro N hN loc st S h ad L H locs ls hI hl hst hlo hex hW
  unfold ip_t_pI0 at h
  split at h
  · rename_i x q r
    cases hq : Nat.beq q p0 with
    | false => rw [hq] at h; exact h.elim
    | true =>
      rw [hq] at h
      have := Nat.eq_of_beq_eq_true hq
      subst this
      have hkq : (S.2.2.2 q).1 = ci := by rw [(hIs S hI).1 q (by omega)]; exact hp0
      obtain ⟨k0, h1, h2⟩ := ip_Wat hW hkq hci
      refine va_putN hx hb hts hin ty0 hty hnm hown hW.2.2.1 hW.2.2.2.1 hW.2.2.2.2.1 hW.2.2.2.2.2 k0 h2 hcl k hk hlink hsame hfin hti rfl rfl (by rw [ip_fs_len]; exact (List.getElem?_eq_some_iff.mp ht).1) hd (fun H1 locs1 hP hD hS => ?_)
      have kk := hN _ _ _ _ h ad L H1 locs1 ls (hIn.1 _ _ _ _ hI) hl (ip_tl (ip_tl hst)) hlo hex (hW.put rfl hW.2.1 h1 (fun q' hq' => ip_E_sI hq') ((congrArg (fun z => (Sum.inr (ci, z) : va_E)) (ip_fs_sI (v := x) ht)).trans (ip_E_obj (S := ip_sI S q k x) hkq hci).symm) hP hD hS)
      rw [hc] at kk
      exact kk
  · exact h.elim
end IPF
