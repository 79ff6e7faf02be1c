/-! THE JUDGEMENT: from this place of the code, in this picture, the machine comes to Q -/
def ip_K (p : Program) (l : Launch) (e : Env) (R : Room) (s : State) (m : MethodId) (args : Array Value) (below : List Frame) (meth : Method) (c : Code) (D : va_G) (cA : Nat → ClassId) (A : Nat → Prop) (Q : State → Prop) (nL : Nat) (cnt : Nat → Nat × Nat) (I : ip_S → Prop) (ad0 : Nat → Nat) (S0 : ip_S) (pc : Nat) (loc : List (Option ip_V)) (st : List ip_V) (S : ip_S) : Prop :=
  ∀ (ad : Nat → Nat) (L : List Nat) (H : Heap) (locs : List Loc) (ls : Array Slot), I S → ip_LH ad ls nL loc → (∀ v ∈ st, ip_ok S v) → (∀ v, some v ∈ loc → ip_ok S v) → (∀ q, ip_ax S0 q → ip_ax S q ∧ ad q = ad0 q) → ip_W D cA A ad L S s H locs →
    W p l e R s m args below meth c H locs (cnt pc).1 (cnt pc).2 Q (F0 m pc ls (st.map (ip_cv ad)))
abbrev ip_N : Type := Nat → List (Option ip_V) → List ip_V → ip_S → Prop
abbrev ip_T : Type := ip_N → List (Option ip_V) → List ip_V → ip_S → Prop
def ip_snd (p : Program) (l : Launch) (e : Env) (R : Room) (s : State) (m : MethodId) (args : Array Value) (below : List Frame) (meth : Method) (c : Code) (D : va_G) (cA : Nat → ClassId) (A : Nat → Prop) (Q : State → Prop) (nL : Nat) (cnt : Nat → Nat × Nat) (I : ip_S → Prop) (ad0 : Nat → Nat) (S0 : ip_S) (pc : Nat) (τ : ip_T) : Prop :=
  ∀ N : ip_N, (∀ pc loc st S, N pc loc st S → ip_K p l e R s m args below meth c D cA A Q nL cnt I ad0 S0 pc loc st S) → ∀ loc st S, τ N loc st S → ip_K p l e R s m args below meth c D cA A Q nL cnt I ad0 S0 pc loc st S
def ip_at : List (Nat × ip_T) → Nat → ip_T
  | [], _ => fun _ _ _ _ => False
  | (k, t) :: r, pc => bif Nat.beq pc k then t else ip_at r pc
def ip_run (P : List (Nat × ip_T)) (stop : Nat → Bool) (Z : ip_N) : Nat → ip_N
  | 0 => fun _ _ _ _ => False
  | n + 1 => fun pc loc st S => ip_at P pc (fun pc' loc' st' S' => bif stop pc' then Z pc' loc' st' S' else ip_run P stop Z n pc' loc' st' S') loc st S
/-- the static part: kinds of the fixed places, their final references -/
def ip_kt : Nat → Nat × Nat
  | 0 => (4, 0)
  | 1 => (3, 0)
  | 2 => (6, 300)
  | 3 => (6, 300)
  | 4 => (7, 300)
  | 5 => (8, 4)
  | 6 => (9, 12)
  | 7 => (9, 3)
  | 8 => (2, 0)
  | 9 => (9, 5)
  | 10 => (7, 5)
  | 11 => (6, 5)
  | 12 => (6, 5)
  | 50 => (5, 0)
  | 51 => (7, 300)
  | 52 => (6, 300)
  | 53 => (6, 300)
  | 55 => (6, 4)
  | 56 => (6, 16)
  | 57 => (6, 4)
  | 58 => (6, 4)
  | 59 => (6, 4)
  | 64 => (6, 3)
  | 66 => (6, 12)
  | 67 => (6, 12)
  | 68 => (6, 12)
  | 69 => (6, 12)
  | 70 => (6, 12)
  | 71 => (6, 12)
  | 72 => (6, 12)
  | 73 => (6, 12)
  | 74 => (6, 12)
  | 75 => (6, 12)
  | 79 => (6, 5)
  | 80 => (6, 5)
  | 81 => (6, 5)
  | _ => (99, 0)
def ip_rt : List (Nat × Nat × Nat) := [(0, 0, 1), (0, 1, 5), (0, 3, 6), (0, 5, 7), (0, 7, 8), (1, 0, 2), (1, 1, 3), (1, 2, 4), (8, 0, 9), (8, 1, 10), (8, 2, 11), (8, 3, 12), (50, 1, 51), (50, 2, 52), (50, 3, 53), (50, 5, 55), (50, 6, 56), (50, 7, 57), (50, 8, 58), (50, 9, 59), (50, 14, 64), (50, 16, 66), (50, 17, 67), (50, 18, 68), (50, 19, 69), (50, 20, 70), (50, 21, 71), (50, 22, 72), (50, 23, 73), (50, 24, 74), (50, 25, 75), (50, 29, 79), (50, 30, 80), (50, 31, 81)]
def ip_Sta (S : ip_S) : Prop := (∀ p, (ip_kt p).1 < 10 → S.2.2.2 p = ip_kt p) ∧ ∀ q ∈ ip_rt, S.2.1 q.1 q.2.1 = some q.2.2
theorem ip_rt_kt : ∀ q ∈ ip_rt, 2 ≤ (ip_kt q.1).1 ∧ (ip_kt q.1).1 < 6 := by decide +kernel
theorem ip_Sta.sI {S : ip_S} (h : ip_Sta S) (p k : Nat) (v : Int32) : ip_Sta (ip_sI S p k v) := h
theorem ip_Sta.sJ {S : ip_S} (h : ip_Sta S) (p k : Nat) (v : Int64) : ip_Sta (ip_sJ S p k v) := h
theorem ip_Sta.sR {S : ip_S} (h : ip_Sta S) (p k : Nat) (v : Option Nat) (hk : (S.2.2.2 p).1 < 2 ∨ 6 ≤ (S.2.2.2 p).1) : ip_Sta (ip_sR S p k v) := by
  refine ⟨h.1, fun q hq => ?_⟩
  have h1 := ip_rt_kt q hq
  have h2 := h.1 q.1 (by omega)
  show (if q.1 = p ∧ q.2.1 = k then v else S.2.1 q.1 q.2.1) = some q.2.2
  rw [if_neg]
  · exact h.2 q hq
  · rintro ⟨e, -⟩
    rw [← e, h2] at hk
    omega
theorem ip_Sta.nw {S : ip_S} (h : ip_Sta S) (p : Nat) (kd : Nat × Nat) (hp : 10 ≤ (S.2.2.2 p).1) : ip_Sta (ip_nw S p kd) := by
  have hn : ∀ q, (ip_kt q).1 < 10 → q ≠ p := by
    intro q hq e
    subst e
    rw [h.1 q hq] at hp
    omega
  refine ⟨fun q hq => ?_, fun q hq => ?_⟩
  · show (if q = p then kd else S.2.2.2 q) = ip_kt q
    rw [if_neg (hn q hq)]
    exact h.1 q hq
  · have h1 := ip_rt_kt q hq
    show (if q.1 = p then none else S.2.1 q.1 q.2.1) = some q.2.2
    rw [if_neg (hn q.1 (by omega))]
    exact h.2 q hq
/-- what a method's own invariant must stand -/
def ip_In (I : ip_S → Prop) : Prop := (∀ S p k v, I S → I (ip_sI S p k v)) ∧ (∀ S p k v, I S → I (ip_sJ S p k v)) ∧ (∀ S p k v, I S → ((S.2.2.2 p).1 < 2 ∨ 6 ≤ (S.2.2.2 p).1) → I (ip_sR S p k v)) ∧ ∀ S p kd, I S → 10 ≤ (S.2.2.2 p).1 → I (ip_nw S p kd)
theorem ip_In_Sta : ip_In ip_Sta := ⟨fun _ p k v h => h.sI p k v, fun _ p k v h => h.sJ p k v, fun _ p k v h hk => h.sR p k v hk, fun _ p kd h hp => h.nw p kd hp⟩
def ip_Tr (_ : ip_S) : Prop := True
theorem ip_In_Tr : ip_In ip_Tr := ⟨fun _ _ _ _ _ => trivial, fun _ _ _ _ _ => trivial, fun _ _ _ _ _ _ => trivial, fun _ _ _ _ _ => trivial⟩
def ip_i32 : Nat → Int32
  | 3 => 3
  | 4 => 4
  | 5 => 5
  | 12 => 12
  | 16 => 16
  | 300 => 300
  | n => Int32.ofNat n
theorem ip_i32_eq (n : Nat) : Int32.ofNat n = ip_i32 n := by
  unfold ip_i32
  split <;> rfl
section IPV
variable {p : Program} {l : Launch} {e : Env} {R : Room} {s : State} {m : MethodId} {args : Array Value} {below : List Frame} {meth : Method} {c : Code} {D : va_G} {cA : Nat → ClassId} {A : Nat → Prop} {Q : State → Prop} {nL : Nat} {cnt : Nat → Nat × Nat} {I : ip_S → Prop} {ad0 : Nat → Nat} {S0 : ip_S}
theorem ip_at_ok {P : List (Nat × ip_T)} (hP : ∀ q ∈ P, ip_snd p l e R s m args below meth c D cA A Q nL cnt I ad0 S0 q.1 q.2) (pc : Nat) : ip_snd p l e R s m args below meth c D cA A Q nL cnt I ad0 S0 pc (ip_at P pc) := by
  induction P with
  | nil => exact fun N hN loc st S h => h.elim
  | cons q r ih =>
    obtain ⟨k, t⟩ := q
    show ip_snd p l e R s m args below meth c D cA A Q nL cnt I ad0 S0 pc (bif Nat.beq pc k then t else ip_at r pc)
    cases hk : Nat.beq pc k with
    | false => exact ih (fun q hq => hP q (List.mem_cons_of_mem _ hq))
    | true =>
      have := Nat.eq_of_beq_eq_true hk
      subst this
      exact hP (pc, t) List.mem_cons_self
theorem ip_run_ok {P : List (Nat × ip_T)} (hP : ∀ q ∈ P, ip_snd p l e R s m args below meth c D cA A Q nL cnt I ad0 S0 q.1 q.2) {stop : Nat → Bool} {Z : ip_N} (hZ : ∀ pc loc st S, Z pc loc st S → ip_K p l e R s m args below meth c D cA A Q nL cnt I ad0 S0 pc loc st S) : ∀ (n pc : Nat) (loc : List (Option ip_V)) (st : List ip_V) (S : ip_S), ip_run P stop Z n pc loc st S → ip_K p l e R s m args below meth c D cA A Q nL cnt I ad0 S0 pc loc st S := by
  intro n
  induction n with
  | zero => intro pc loc st S h; exact h.elim
  | succ n ih =>
    intro pc loc st S h
    refine ip_at_ok hP pc _ ?_ loc st S h
    intro pc' loc' st' S' h'
    cases hs : stop pc' with
    | true => rw [hs] at h'; exact hZ _ _ _ _ h'
    | false => rw [hs] at h'; exact ih _ _ _ _ h'
theorem ip_loop {P : List (Nat × ip_T)} (hP : ∀ q ∈ P, ip_snd p l e R s m args below meth c D cA A Q nL cnt I ad0 S0 q.1 q.2) {stop : Nat → Bool} {n : Nat} (Inv : Nat → ip_N) (h : ∀ k pc loc st S, Inv k pc loc st S → ip_run P stop (fun pc loc st S => ∃ k', k' < k ∧ Inv k' pc loc st S) n pc loc st S) : ∀ k pc loc st S, Inv k pc loc st S → ip_K p l e R s m args below meth c D cA A Q nL cnt I ad0 S0 pc loc st S := by
  intro k
  induction k using Nat.strongRecOn with
  | _ k ih =>
    intro pc loc st S hI
    exact ip_run_ok hP (fun pc loc st S ⟨k', hk, hI'⟩ => ih k' hk pc loc st S hI') n pc loc st S (h k pc loc st S hI)
variable {cc : ByteArray} {pc : Nat}
def ip_t_ci (v : Int32) (n : Nat) : ip_T := fun N loc st S => N n loc (.inl v :: st) S
def ip_t_cl (v : Int64) (n : Nat) : ip_T := fun N loc st S => N n loc (.inr (.inr v) :: st) S
def ip_t_nul (n : Nat) : ip_T := fun N loc st S => N n loc (.inr (.inl none) :: st) S
theorem ip_s_iconst (hx : p.tables.exec = Jvm.exec) (hb : c.code = cc) {k : Int} {v : Int32} (hd : decode cc pc = .ok (.iconst k, 1)) (hv : Int32.ofInt k = v) (hc : cnt (pc + 1) = cnt pc) : ip_snd p l e R s m args below meth c D cA A Q nL cnt I ad0 S0 pc (ip_t_ci v (pc + 1)) := by
  intro N hN loc st S h ad L H locs ls hI hl hst hlo hex hW
  have k := hN _ _ _ _ h ad L H locs ls hI hl (ip_cs ip_ok_i hst) hlo hex hW
  rw [hc] at k
  exact lv_iconst hx hb hd hv k
theorem ip_s_bipush (hx : p.tables.exec = Jvm.exec) (hb : c.code = cc) {k : Int} {v : Int32} (hd : decode cc pc = .ok (.bipush k, 2)) (hv : (Int8.ofInt k).toInt32 = v) (hc : cnt (pc + 2) = cnt pc) : ip_snd p l e R s m args below meth c D cA A Q nL cnt I ad0 S0 pc (ip_t_ci v (pc + 2)) := by
  intro N hN loc st S h ad L H locs ls hI hl hst hlo hex hW
  have k := hN _ _ _ _ h ad L H locs ls hI hl (ip_cs ip_ok_i hst) hlo hex hW
  rw [hc] at k
  exact lv_bipush hx hb hd hv k
theorem ip_s_sipush (hx : p.tables.exec = Jvm.exec) (hb : c.code = cc) {k : Int} {v : Int32} (hd : decode cc pc = .ok (.sipush k, 3)) (hv : (Int16.ofInt k).toInt32 = v) (hc : cnt (pc + 3) = cnt pc) : ip_snd p l e R s m args below meth c D cA A Q nL cnt I ad0 S0 pc (ip_t_ci v (pc + 3)) := by
  intro N hN loc st S h ad L H locs ls hI hl hst hlo hex hW
  have k := hN _ _ _ _ h ad L H locs ls hI hl (ip_cs ip_ok_i hst) hlo hex hW
  rw [hc] at k
  exact lv_sipush hx hb hd hv k
theorem ip_s_lconst (hx : p.tables.exec = Jvm.exec) (hb : c.code = cc) {k : Fin 2} {v : Int64} (hd : decode cc pc = .ok (.lconst k, 1)) (hv : Int64.ofNat (k : Nat) = v) (hc : cnt (pc + 1) = cnt pc) : ip_snd p l e R s m args below meth c D cA A Q nL cnt I ad0 S0 pc (ip_t_cl v (pc + 1)) := by
  intro N hN loc st S h ad L H locs ls hI hl hst hlo hex hW
  have k := hN _ _ _ _ h ad L H locs ls hI hl (ip_cs ip_ok_l hst) hlo hex hW
  rw [hc] at k
  exact lv_lconst hx hb hd hv k
theorem ip_s_ldc (hx : p.tables.exec = Jvm.exec) (hb : c.code = cc) {own : String} {index : Nat} {v : Int32} (hown : s.vm.findClass own = some m.cls) (hk : (Jvm.Cond.constant own index v).before args s = true) (hd : decode cc pc = .ok (.ldc index, 2)) (hc : cnt (pc + 2) = cnt pc) : ip_snd p l e R s m args below meth c D cA A Q nL cnt I ad0 S0 pc (ip_t_ci v (pc + 2)) := by
  intro N hN loc st S h ad L H locs ls hI hl hst hlo hex hW
  have k := hN _ _ _ _ h ad L H locs ls hI hl (ip_cs ip_ok_i hst) hlo hex hW
  rw [hc] at k
  exact lv_ldc hx hb hown hk hd k
theorem ip_s_ldc2 (hx : p.tables.exec = Jvm.exec) (hb : c.code = cc) {own : String} {index : Nat} {v : Int64} (hown : s.vm.findClass own = some m.cls) (hk : (Jvm.Cond.constantLong own index v).before args s = true) (hd : decode cc pc = .ok (.ldc2_w index, 3)) (hc : cnt (pc + 3) = cnt pc) : ip_snd p l e R s m args below meth c D cA A Q nL cnt I ad0 S0 pc (ip_t_cl v (pc + 3)) := by
  intro N hN loc st S h ad L H locs ls hI hl hst hlo hex hW
  have k := hN _ _ _ _ h ad L H locs ls hI hl (ip_cs ip_ok_l hst) hlo hex hW
  rw [hc] at k
  exact lv_ldc2 hx hb hown hk hd k
theorem ip_s_nul (hx : p.tables.exec = Jvm.exec) (hb : c.code = cc) (hd : decode cc pc = .ok (.aconst_null, 1)) (hc : cnt (pc + 1) = cnt pc) : ip_snd p l e R s m args below meth c D cA A Q nL cnt I ad0 S0 pc (ip_t_nul (pc + 1)) := by
  intro N hN loc st S h ad L H locs ls hI hl hst hlo hex hW
  have k := hN _ _ _ _ h ad L H locs ls hI hl (ip_cs ip_ok_n hst) hlo hex hW
  rw [hc] at k
  exact lv_null hx hb hd k
def ip_t_il (i n : Nat) : ip_T := fun N loc st S => match loc[i]? with
  | some (some (.inl x)) => N n loc (.inl x :: st) S
  | _ => False
def ip_t_ar (i n : Nat) : ip_T := fun N loc st S => match loc[i]? with
  | some (some (.inr (.inl r))) => N n loc (.inr (.inl r) :: st) S
  | _ => False
theorem ip_s_iload_n (hx : p.tables.exec = Jvm.exec) (hb : c.code = cc) {k : Fin 4} {i : Nat} (hd : decode cc pc = .ok (.iload_n k, 1)) (hi : (k : Nat) = i) (hc : cnt (pc + 1) = cnt pc) : ip_snd p l e R s m args below meth c D cA A Q nL cnt I ad0 S0 pc (ip_t_il i (pc + 1)) := by
  intro N hN loc st S h ad L H locs ls hI hl hst hlo hex hW
  unfold ip_t_il at h
  split at h
  · rename_i x hq
    have k := hN _ _ _ _ h ad L H locs ls hI hl (ip_cs ip_ok_i hst) hlo hex hW
    rw [hc] at k
    exact lv_iload_n hx hb hd hi (hl.get hq) k
  · exact h.elim
theorem ip_s_iload (hx : p.tables.exec = Jvm.exec) (hb : c.code = cc) {i : Nat} (hd : decode cc pc = .ok (.iload i, 2)) (hc : cnt (pc + 2) = cnt pc) : ip_snd p l e R s m args below meth c D cA A Q nL cnt I ad0 S0 pc (ip_t_il i (pc + 2)) := by
  intro N hN loc st S h ad L H locs ls hI hl hst hlo hex hW
  unfold ip_t_il at h
  split at h
  · rename_i x hq
    have k := hN _ _ _ _ h ad L H locs ls hI hl (ip_cs ip_ok_i hst) hlo hex hW
    rw [hc] at k
    exact lv_iload hx hb hd (hl.get hq) k
  · exact h.elim
theorem ip_s_aload_n (hx : p.tables.exec = Jvm.exec) (hb : c.code = cc) {k : Fin 4} {i : Nat} (hd : decode cc pc = .ok (.aload_n k, 1)) (hi : (k : Nat) = i) (hc : cnt (pc + 1) = cnt pc) : ip_snd p l e R s m args below meth c D cA A Q nL cnt I ad0 S0 pc (ip_t_ar i (pc + 1)) := by
  intro N hN loc st S h ad L H locs ls hI hl hst hlo hex hW
  unfold ip_t_ar at h
  split at h
  · rename_i r hq
    have k := hN _ _ _ _ h ad L H locs ls hI hl (ip_cs (hlo _ (List.mem_of_getElem? hq)) hst) hlo hex hW
    rw [hc] at k
    cases r with
    | none => exact lv_aload_nN hx hb hd hi (hl.get hq) k
    | some a => exact lv_aload_n hx hb hd hi (hl.get hq) k
  · exact h.elim
theorem ip_s_aload (hx : p.tables.exec = Jvm.exec) (hb : c.code = cc) {i : Nat} (hd : decode cc pc = .ok (.aload i, 2)) (hc : cnt (pc + 2) = cnt pc) : ip_snd p l e R s m args below meth c D cA A Q nL cnt I ad0 S0 pc (ip_t_ar i (pc + 2)) := by
  intro N hN loc st S h ad L H locs ls hI hl hst hlo hex hW
  unfold ip_t_ar at h
  split at h
  · rename_i r hq
    have k := hN _ _ _ _ h ad L H locs ls hI hl (ip_cs (hlo _ (List.mem_of_getElem? hq)) hst) hlo hex hW
    rw [hc] at k
    cases r with
    | none => exact lv_aloadN hx hb hd (hl.get hq) k
    | some a => exact lv_aload hx hb hd (hl.get hq) k
  · exact h.elim
def ip_t_is (i n : Nat) : ip_T := fun N loc st S => match st with
  | .inl x :: r => N n (loc.set i (some (.inl x))) r S
  | _ => False
def ip_t_as (i n : Nat) : ip_T := fun N loc st S => match st with
  | .inr (.inl o) :: r => N n (loc.set i (some (.inr (.inl o)))) r S
  | _ => False
def ip_t_inc (i : Nat) (v : Int32) (n : Nat) : ip_T := fun N loc st S => match loc[i]? with
  | some (some (.inl x)) => N n (loc.set i (some (.inl (x + v)))) st S
  | _ => False
theorem ip_s_istore_n (hx : p.tables.exec = Jvm.exec) (hb : c.code = cc) {k : Fin 4} {i : Nat} (hd : decode cc pc = .ok (.istore_n k, 1)) (hi : (k : Nat) = i) (hn : i < nL) (hc : cnt (pc + 1) = cnt pc) : ip_snd p l e R s m args below meth c D cA A Q nL cnt I ad0 S0 pc (ip_t_is i (pc + 1)) := by
  intro N hN loc st S h ad L H locs ls hI hl hst hlo hex hW
  unfold ip_t_is at h
  split at h
  · rename_i x r
    obtain ⟨h0, lv, h1, h2⟩ := hl
    refine lv_istore_n hx hb hd hi h1 hn rfl (fun ls' h' => ?_)
    have k := hN _ _ _ _ h ad L H locs ls' hI (ip_LH.set (v := .inl x) h0 h2 rfl h') (ip_tl hst) (ip_lset ip_ok_i hlo) hex hW
    rw [hc] at k
    exact k
  · exact h.elim
theorem ip_s_istore (hx : p.tables.exec = Jvm.exec) (hb : c.code = cc) {i : Nat} (hd : decode cc pc = .ok (.istore i, 2)) (hn : i < nL) (hc : cnt (pc + 2) = cnt pc) : ip_snd p l e R s m args below meth c D cA A Q nL cnt I ad0 S0 pc (ip_t_is i (pc + 2)) := by
  intro N hN loc st S h ad L H locs ls hI hl hst hlo hex hW
  unfold ip_t_is at h
  split at h
  · rename_i x r
    obtain ⟨h0, lv, h1, h2⟩ := hl
    refine lv_istore hx hb hd h1 hn rfl (fun ls' h' => ?_)
    have k := hN _ _ _ _ h ad L H locs ls' hI (ip_LH.set (v := .inl x) h0 h2 rfl h') (ip_tl hst) (ip_lset ip_ok_i hlo) hex hW
    rw [hc] at k
    exact k
  · exact h.elim
theorem ip_s_astore_n (hx : p.tables.exec = Jvm.exec) (hb : c.code = cc) {k : Fin 4} {i : Nat} (hd : decode cc pc = .ok (.astore_n k, 1)) (hi : (k : Nat) = i) (hn : i < nL) (hc : cnt (pc + 1) = cnt pc) : ip_snd p l e R s m args below meth c D cA A Q nL cnt I ad0 S0 pc (ip_t_as i (pc + 1)) := by
  intro N hN loc st S h ad L H locs ls hI hl hst hlo hex hW
  unfold ip_t_as at h
  split at h
  · rename_i r rest
    obtain ⟨h0, lv, h1, h2⟩ := hl
    have k := fun ls' h' => hN _ _ _ _ h ad L H locs ls' hI (ip_LH.set (v := .inr (.inl r)) h0 h2 (ip_rf_cat _) h') (ip_tl hst) (ip_lset (ip_hd hst) hlo) hex hW
    rw [hc] at k
    cases r with
    | none => exact lv_astore_nN hx hb hd hi h1 hn rfl (fun ls' h' => k ls' h')
    | some a => exact lv_astore_n hx hb hd hi h1 hn rfl (fun ls' h' => k ls' h')
  · exact h.elim
theorem ip_s_astore (hx : p.tables.exec = Jvm.exec) (hb : c.code = cc) {i : Nat} (hd : decode cc pc = .ok (.astore i, 2)) (hn : i < nL) (hc : cnt (pc + 2) = cnt pc) : ip_snd p l e R s m args below meth c D cA A Q nL cnt I ad0 S0 pc (ip_t_as i (pc + 2)) := by
  intro N hN loc st S h ad L H locs ls hI hl hst hlo hex hW
  unfold ip_t_as at h
  split at h
  · rename_i r rest
    obtain ⟨h0, lv, h1, h2⟩ := hl
    have k := fun ls' h' => hN _ _ _ _ h ad L H locs ls' hI (ip_LH.set (v := .inr (.inl r)) h0 h2 (ip_rf_cat _) h') (ip_tl hst) (ip_lset (ip_hd hst) hlo) hex hW
    rw [hc] at k
    cases r with
    | none => exact lv_astoreN hx hb hd h1 hn rfl (fun ls' h' => k ls' h')
    | some a => exact lv_astore hx hb hd h1 hn rfl (fun ls' h' => k ls' h')
  · exact h.elim
theorem ip_s_iinc (hx : p.tables.exec = Jvm.exec) (hb : c.code = cc) {i : Nat} {z : Int} {v : Int32} (hd : decode cc pc = .ok (.iinc i z, 3)) (hv : Int32.ofInt z = v) (hn : i < nL) (hc : cnt (pc + 3) = cnt pc) : ip_snd p l e R s m args below meth c D cA A Q nL cnt I ad0 S0 pc (ip_t_inc i v (pc + 3)) := by
  intro N hN loc st S h ad L H locs ls hI hl hst hlo hex hW
  unfold ip_t_inc at h
  split at h
  · rename_i x hq
    obtain ⟨h0, lv, h1, h2⟩ := hl
    obtain ⟨k0, hk0⟩ := List.getElem?_of_mem (h2 i _ hq).1
    refine lv_iinc hx hb hd h1 hk0 (by rw [hv]) hn rfl (fun ls' h' => ?_)
    have k := hN _ _ _ _ h ad L H locs ls' hI (ip_LH.set (v := .inl (x + v)) h0 h2 rfl h') hst (ip_lset ip_ok_i hlo) hex hW
    rw [hc] at k
    exact k
  · exact h.elim
def ip_t_iadd (n : Nat) : ip_T := fun N loc st S => match st with
  | .inl y :: .inl x :: r => N n loc (.inl (x + y) :: r) S
  | _ => False
theorem ip_s_iadd (hx : p.tables.exec = Jvm.exec) (hb : c.code = cc) (hd : decode cc pc = .ok (.iadd, 1)) (hc : cnt (pc + 1) = cnt pc) : ip_snd p l e R s m args below meth c D cA A Q nL cnt I ad0 S0 pc (ip_t_iadd (pc + 1)) := by
  intro N hN loc st S h ad L H locs ls hI hl hst hlo hex hW
  unfold ip_t_iadd at h
  split at h
  · have k := hN _ _ _ _ h ad L H locs ls hI hl (ip_cs ip_ok_i (ip_tl (ip_tl hst))) hlo hex hW
    rw [hc] at k
    exact lv_iadd hx hb hd k
  · exact h.elim
def ip_t_isub (n : Nat) : ip_T := fun N loc st S => match st with
  | .inl y :: .inl x :: r => N n loc (.inl (x - y) :: r) S
  | _ => False
theorem ip_s_isub (hx : p.tables.exec = Jvm.exec) (hb : c.code = cc) (hd : decode cc pc = .ok (.isub, 1)) (hc : cnt (pc + 1) = cnt pc) : ip_snd p l e R s m args below meth c D cA A Q nL cnt I ad0 S0 pc (ip_t_isub (pc + 1)) := by
  intro N hN loc st S h ad L H locs ls hI hl hst hlo hex hW
  unfold ip_t_isub at h
  split at h
  · have k := hN _ _ _ _ h ad L H locs ls hI hl (ip_cs ip_ok_i (ip_tl (ip_tl hst))) hlo hex hW
    rw [hc] at k
    exact lv_isub hx hb hd k
  · exact h.elim
def ip_t_imul (n : Nat) : ip_T := fun N loc st S => match st with
  | .inl y :: .inl x :: r => N n loc (.inl (x * y) :: r) S
  | _ => False
theorem ip_s_imul (hx : p.tables.exec = Jvm.exec) (hb : c.code = cc) (hd : decode cc pc = .ok (.imul, 1)) (hc : cnt (pc + 1) = cnt pc) : ip_snd p l e R s m args below meth c D cA A Q nL cnt I ad0 S0 pc (ip_t_imul (pc + 1)) := by
  intro N hN loc st S h ad L H locs ls hI hl hst hlo hex hW
  unfold ip_t_imul at h
  split at h
  · have k := hN _ _ _ _ h ad L H locs ls hI hl (ip_cs ip_ok_i (ip_tl (ip_tl hst))) hlo hex hW
    rw [hc] at k
    exact lv_imul hx hb hd k
  · exact h.elim
def ip_t_iand (n : Nat) : ip_T := fun N loc st S => match st with
  | .inl y :: .inl x :: r => N n loc (.inl (x &&& y) :: r) S
  | _ => False
theorem ip_s_iand (hx : p.tables.exec = Jvm.exec) (hb : c.code = cc) (hd : decode cc pc = .ok (.iand, 1)) (hc : cnt (pc + 1) = cnt pc) : ip_snd p l e R s m args below meth c D cA A Q nL cnt I ad0 S0 pc (ip_t_iand (pc + 1)) := by
  intro N hN loc st S h ad L H locs ls hI hl hst hlo hex hW
  unfold ip_t_iand at h
  split at h
  · have k := hN _ _ _ _ h ad L H locs ls hI hl (ip_cs ip_ok_i (ip_tl (ip_tl hst))) hlo hex hW
    rw [hc] at k
    exact lv_iand hx hb hd k
  · exact h.elim
def ip_t_ixor (n : Nat) : ip_T := fun N loc st S => match st with
  | .inl y :: .inl x :: r => N n loc (.inl (x ^^^ y) :: r) S
  | _ => False
theorem ip_s_ixor (hx : p.tables.exec = Jvm.exec) (hb : c.code = cc) (hd : decode cc pc = .ok (.ixor, 1)) (hc : cnt (pc + 1) = cnt pc) : ip_snd p l e R s m args below meth c D cA A Q nL cnt I ad0 S0 pc (ip_t_ixor (pc + 1)) := by
  intro N hN loc st S h ad L H locs ls hI hl hst hlo hex hW
  unfold ip_t_ixor at h
  split at h
  · have k := hN _ _ _ _ h ad L H locs ls hI hl (ip_cs ip_ok_i (ip_tl (ip_tl hst))) hlo hex hW
    rw [hc] at k
    exact lv_ixor hx hb hd k
  · exact h.elim
def ip_t_ishl (n : Nat) : ip_T := fun N loc st S => match st with
  | .inl y :: .inl x :: r => N n loc (.inl (x <<< (y &&& 31)) :: r) S
  | _ => False
theorem ip_s_ishl (hx : p.tables.exec = Jvm.exec) (hb : c.code = cc) (hd : decode cc pc = .ok (.ishl, 1)) (hc : cnt (pc + 1) = cnt pc) : ip_snd p l e R s m args below meth c D cA A Q nL cnt I ad0 S0 pc (ip_t_ishl (pc + 1)) := by
  intro N hN loc st S h ad L H locs ls hI hl hst hlo hex hW
  unfold ip_t_ishl at h
  split at h
  · have k := hN _ _ _ _ h ad L H locs ls hI hl (ip_cs ip_ok_i (ip_tl (ip_tl hst))) hlo hex hW
    rw [hc] at k
    exact lv_ishl hx hb hd k
  · exact h.elim
def ip_t_ishr (n : Nat) : ip_T := fun N loc st S => match st with
  | .inl y :: .inl x :: r => N n loc (.inl (x >>> (y &&& 31)) :: r) S
  | _ => False
theorem ip_s_ishr (hx : p.tables.exec = Jvm.exec) (hb : c.code = cc) (hd : decode cc pc = .ok (.ishr, 1)) (hc : cnt (pc + 1) = cnt pc) : ip_snd p l e R s m args below meth c D cA A Q nL cnt I ad0 S0 pc (ip_t_ishr (pc + 1)) := by
  intro N hN loc st S h ad L H locs ls hI hl hst hlo hex hW
  unfold ip_t_ishr at h
  split at h
  · have k := hN _ _ _ _ h ad L H locs ls hI hl (ip_cs ip_ok_i (ip_tl (ip_tl hst))) hlo hex hW
    rw [hc] at k
    exact lv_ishr hx hb hd k
  · exact h.elim
def ip_t_idiv (n : Nat) : ip_T := fun N loc st S => match st with
  | .inl y :: .inl x :: r => ¬ y = 0 ∧ N n loc (.inl (x / y) :: r) S
  | _ => False
theorem ip_s_idiv (hx : p.tables.exec = Jvm.exec) (hb : c.code = cc) (hd : decode cc pc = .ok (.idiv, 1)) (hc : cnt (pc + 1) = cnt pc) : ip_snd p l e R s m args below meth c D cA A Q nL cnt I ad0 S0 pc (ip_t_idiv (pc + 1)) := by
  intro N hN loc st S h ad L H locs ls hI hl hst hlo hex hW
  unfold ip_t_idiv at h
  split at h
  · have k := hN _ _ _ _ h.2 ad L H locs ls hI hl (ip_cs ip_ok_i (ip_tl (ip_tl hst))) hlo hex hW
    rw [hc] at k
    exact lv_idiv hx hb hd h.1 k
  · exact h.elim
def ip_t_irem (n : Nat) : ip_T := fun N loc st S => match st with
  | .inl y :: .inl x :: r => ¬ y = 0 ∧ N n loc (.inl (x - x / y * y) :: r) S
  | _ => False
theorem ip_s_irem (hx : p.tables.exec = Jvm.exec) (hb : c.code = cc) (hd : decode cc pc = .ok (.irem, 1)) (hc : cnt (pc + 1) = cnt pc) : ip_snd p l e R s m args below meth c D cA A Q nL cnt I ad0 S0 pc (ip_t_irem (pc + 1)) := by
  intro N hN loc st S h ad L H locs ls hI hl hst hlo hex hW
  unfold ip_t_irem at h
  split at h
  · have k := hN _ _ _ _ h.2 ad L H locs ls hI hl (ip_cs ip_ok_i (ip_tl (ip_tl hst))) hlo hex hW
    rw [hc] at k
    exact lv_irem hx hb hd h.1 k
  · exact h.elim
def ip_t_ladd (n : Nat) : ip_T := fun N loc st S => match st with
  | .inr (.inr y) :: .inr (.inr x) :: r => N n loc (.inr (.inr (x + y)) :: r) S
  | _ => False
theorem ip_s_ladd (hx : p.tables.exec = Jvm.exec) (hb : c.code = cc) (hd : decode cc pc = .ok (.ladd, 1)) (hc : cnt (pc + 1) = cnt pc) : ip_snd p l e R s m args below meth c D cA A Q nL cnt I ad0 S0 pc (ip_t_ladd (pc + 1)) := by
  intro N hN loc st S h ad L H locs ls hI hl hst hlo hex hW
  unfold ip_t_ladd at h
  split at h
  · have k := hN _ _ _ _ h ad L H locs ls hI hl (ip_cs ip_ok_l (ip_tl (ip_tl hst))) hlo hex hW
    rw [hc] at k
    exact lv_ladd hx hb hd k
  · exact h.elim
def ip_t_lcmp (n : Nat) : ip_T := fun N loc st S => match st with
  | .inr (.inr y) :: .inr (.inr x) :: r => N n loc (.inl (lg_cmp x y) :: r) S
  | _ => False
theorem ip_s_lcmp (hx : p.tables.exec = Jvm.exec) (hb : c.code = cc) (hd : decode cc pc = .ok (.lcmp, 1)) (hc : cnt (pc + 1) = cnt pc) : ip_snd p l e R s m args below meth c D cA A Q nL cnt I ad0 S0 pc (ip_t_lcmp (pc + 1)) := by
  intro N hN loc st S h ad L H locs ls hI hl hst hlo hex hW
  unfold ip_t_lcmp at h
  split at h
  · have k := hN _ _ _ _ h ad L H locs ls hI hl (ip_cs ip_ok_i (ip_tl (ip_tl hst))) hlo hex hW
    rw [hc] at k
    exact W.lcmp hx hb hd k
  · exact h.elim
def ip_t_i2l (n : Nat) : ip_T := fun N loc st S => match st with
  | .inl x :: r => N n loc (.inr (.inr x.toInt64) :: r) S
  | _ => False
theorem ip_s_i2l (hx : p.tables.exec = Jvm.exec) (hb : c.code = cc) (hd : decode cc pc = .ok (.i2l, 1)) (hc : cnt (pc + 1) = cnt pc) : ip_snd p l e R s m args below meth c D cA A Q nL cnt I ad0 S0 pc (ip_t_i2l (pc + 1)) := by
  intro N hN loc st S h ad L H locs ls hI hl hst hlo hex hW
  unfold ip_t_i2l at h
  split at h
  · have k := hN _ _ _ _ h ad L H locs ls hI hl (ip_cs ip_ok_l (ip_tl hst)) hlo hex hW
    rw [hc] at k
    exact lv_i2l hx hb hd rfl k
  · exact h.elim
def ip_t_dup (n : Nat) : ip_T := fun N loc st S => match st with
  | .inl x :: r => N n loc (.inl x :: .inl x :: r) S
  | .inr (.inl o) :: r => N n loc (.inr (.inl o) :: .inr (.inl o) :: r) S
  | _ => False
theorem ip_s_dup (hx : p.tables.exec = Jvm.exec) (hb : c.code = cc) (hd : decode cc pc = .ok (.dup, 1)) (hc : cnt (pc + 1) = cnt pc) : ip_snd p l e R s m args below meth c D cA A Q nL cnt I ad0 S0 pc (ip_t_dup (pc + 1)) := by
  intro N hN loc st S h ad L H locs ls hI hl hst hlo hex hW
  unfold ip_t_dup at h
  split at h
  · have k := hN _ _ _ _ h ad L H locs ls hI hl (ip_cs ip_ok_i hst) hlo hex hW
    rw [hc] at k
    exact lv_dup hx hb hd rfl k
  · have k := hN _ _ _ _ h ad L H locs ls hI hl (ip_cs (ip_hd hst) hst) hlo hex hW
    rw [hc] at k
    exact lv_dup hx hb hd (ip_rf_cat _) k
  · exact h.elim
/-- dup2 of an int above a reference (array and index) -/
def ip_t_dup2 (n : Nat) : ip_T := fun N loc st S => match st with
  | .inl x :: .inr (.inl o) :: r => N n loc (.inl x :: .inr (.inl o) :: .inl x :: .inr (.inl o) :: r) S
  | _ => False
theorem ip_s_dup2 (hx : p.tables.exec = Jvm.exec) (hb : c.code = cc) (hd : decode cc pc = .ok (.dup2, 1)) (hc : cnt (pc + 1) = cnt pc) : ip_snd p l e R s m args below meth c D cA A Q nL cnt I ad0 S0 pc (ip_t_dup2 (pc + 1)) := by
  intro N hN loc st S h ad L H locs ls hI hl hst hlo hex hW
  unfold ip_t_dup2 at h
  split at h
  · have k := hN _ _ _ _ h ad L H locs ls hI hl (ip_cs ip_ok_i (ip_cs (ip_hd (ip_tl hst)) hst)) hlo hex hW
    rw [hc] at k
    exact lv_dup2_11 hx hb hd rfl (ip_rf_cat _) k
  · exact h.elim
def ip_t_ifeq (t n : Nat) : ip_T := fun N loc st S => match st with
  | .inl x :: r => (x = 0 → N t loc r S) ∧ (¬ x = 0 → N n loc r S)
  | _ => False
theorem ip_s_ifeq (hx : p.tables.exec = Jvm.exec) (hb : c.code = cc) {off : Int} {t : Nat} (hd : decode cc pc = .ok (.ifCond .eq off, 3)) (ht : (pc : Int) + off = (t : Int)) (hc : cnt (pc + 3) = cnt pc) (hc2 : cnt t = cnt pc) : ip_snd p l e R s m args below meth c D cA A Q nL cnt I ad0 S0 pc (ip_t_ifeq t (pc + 3)) := by
  intro N hN loc st S h ad L H locs ls hI hl hst hlo hex hW
  unfold ip_t_ifeq at h
  split at h
  · refine lv_if_eq hx hb hd ht (fun q => ?_) (fun q => ?_)
    · have k := hN _ _ _ _ (h.1 q) ad L H locs ls hI hl (ip_tl hst) hlo hex hW
      rw [hc2] at k
      exact k
    · have k := hN _ _ _ _ (h.2 q) ad L H locs ls hI hl (ip_tl hst) hlo hex hW
      rw [hc] at k
      exact k
  · exact h.elim
def ip_t_ifne (t n : Nat) : ip_T := fun N loc st S => match st with
  | .inl x :: r => (¬ x = 0 → N t loc r S) ∧ (x = 0 → N n loc r S)
  | _ => False
theorem ip_s_ifne (hx : p.tables.exec = Jvm.exec) (hb : c.code = cc) {off : Int} {t : Nat} (hd : decode cc pc = .ok (.ifCond .ne off, 3)) (ht : (pc : Int) + off = (t : Int)) (hc : cnt (pc + 3) = cnt pc) (hc2 : cnt t = cnt pc) : ip_snd p l e R s m args below meth c D cA A Q nL cnt I ad0 S0 pc (ip_t_ifne t (pc + 3)) := by
  intro N hN loc st S h ad L H locs ls hI hl hst hlo hex hW
  unfold ip_t_ifne at h
  split at h
  · refine lv_if_ne hx hb hd ht (fun q => ?_) (fun q => ?_)
    · have k := hN _ _ _ _ (h.1 q) ad L H locs ls hI hl (ip_tl hst) hlo hex hW
      rw [hc2] at k
      exact k
    · have k := hN _ _ _ _ (h.2 q) ad L H locs ls hI hl (ip_tl hst) hlo hex hW
      rw [hc] at k
      exact k
  · exact h.elim
def ip_t_iflt (t n : Nat) : ip_T := fun N loc st S => match st with
  | .inl x :: r => (x < 0 → N t loc r S) ∧ (¬ x < 0 → N n loc r S)
  | _ => False
theorem ip_s_iflt (hx : p.tables.exec = Jvm.exec) (hb : c.code = cc) {off : Int} {t : Nat} (hd : decode cc pc = .ok (.ifCond .lt off, 3)) (ht : (pc : Int) + off = (t : Int)) (hc : cnt (pc + 3) = cnt pc) (hc2 : cnt t = cnt pc) : ip_snd p l e R s m args below meth c D cA A Q nL cnt I ad0 S0 pc (ip_t_iflt t (pc + 3)) := by
  intro N hN loc st S h ad L H locs ls hI hl hst hlo hex hW
  unfold ip_t_iflt at h
  split at h
  · refine lv_if_lt hx hb hd ht (fun q => ?_) (fun q => ?_)
    · have k := hN _ _ _ _ (h.1 q) ad L H locs ls hI hl (ip_tl hst) hlo hex hW
      rw [hc2] at k
      exact k
    · have k := hN _ _ _ _ (h.2 q) ad L H locs ls hI hl (ip_tl hst) hlo hex hW
      rw [hc] at k
      exact k
  · exact h.elim
def ip_t_ifge (t n : Nat) : ip_T := fun N loc st S => match st with
  | .inl x :: r => (0 ≤ x → N t loc r S) ∧ (¬ 0 ≤ x → N n loc r S)
  | _ => False
theorem ip_s_ifge (hx : p.tables.exec = Jvm.exec) (hb : c.code = cc) {off : Int} {t : Nat} (hd : decode cc pc = .ok (.ifCond .ge off, 3)) (ht : (pc : Int) + off = (t : Int)) (hc : cnt (pc + 3) = cnt pc) (hc2 : cnt t = cnt pc) : ip_snd p l e R s m args below meth c D cA A Q nL cnt I ad0 S0 pc (ip_t_ifge t (pc + 3)) := by
  intro N hN loc st S h ad L H locs ls hI hl hst hlo hex hW
  unfold ip_t_ifge at h
  split at h
  · refine lv_if_ge hx hb hd ht (fun q => ?_) (fun q => ?_)
    · have k := hN _ _ _ _ (h.1 q) ad L H locs ls hI hl (ip_tl hst) hlo hex hW
      rw [hc2] at k
      exact k
    · have k := hN _ _ _ _ (h.2 q) ad L H locs ls hI hl (ip_tl hst) hlo hex hW
      rw [hc] at k
      exact k
  · exact h.elim
def ip_t_ifgt (t n : Nat) : ip_T := fun N loc st S => match st with
  | .inl x :: r => (0 < x → N t loc r S) ∧ (¬ 0 < x → N n loc r S)
  | _ => False
theorem ip_s_ifgt (hx : p.tables.exec = Jvm.exec) (hb : c.code = cc) {off : Int} {t : Nat} (hd : decode cc pc = .ok (.ifCond .gt off, 3)) (ht : (pc : Int) + off = (t : Int)) (hc : cnt (pc + 3) = cnt pc) (hc2 : cnt t = cnt pc) : ip_snd p l e R s m args below meth c D cA A Q nL cnt I ad0 S0 pc (ip_t_ifgt t (pc + 3)) := by
  intro N hN loc st S h ad L H locs ls hI hl hst hlo hex hW
  unfold ip_t_ifgt at h
  split at h
  · refine lv_if_gt hx hb hd ht (fun q => ?_) (fun q => ?_)
    · have k := hN _ _ _ _ (h.1 q) ad L H locs ls hI hl (ip_tl hst) hlo hex hW
      rw [hc2] at k
      exact k
    · have k := hN _ _ _ _ (h.2 q) ad L H locs ls hI hl (ip_tl hst) hlo hex hW
      rw [hc] at k
      exact k
  · exact h.elim
def ip_t_ifle (t n : Nat) : ip_T := fun N loc st S => match st with
  | .inl x :: r => (x ≤ 0 → N t loc r S) ∧ (¬ x ≤ 0 → N n loc r S)
  | _ => False
theorem ip_s_ifle (hx : p.tables.exec = Jvm.exec) (hb : c.code = cc) {off : Int} {t : Nat} (hd : decode cc pc = .ok (.ifCond .le off, 3)) (ht : (pc : Int) + off = (t : Int)) (hc : cnt (pc + 3) = cnt pc) (hc2 : cnt t = cnt pc) : ip_snd p l e R s m args below meth c D cA A Q nL cnt I ad0 S0 pc (ip_t_ifle t (pc + 3)) := by
  intro N hN loc st S h ad L H locs ls hI hl hst hlo hex hW
  unfold ip_t_ifle at h
  split at h
  · refine lv_if_le hx hb hd ht (fun q => ?_) (fun q => ?_)
    · have k := hN _ _ _ _ (h.1 q) ad L H locs ls hI hl (ip_tl hst) hlo hex hW
      rw [hc2] at k
      exact k
    · have k := hN _ _ _ _ (h.2 q) ad L H locs ls hI hl (ip_tl hst) hlo hex hW
      rw [hc] at k
      exact k
  · exact h.elim
def ip_t_iceq (t n : Nat) : ip_T := fun N loc st S => match st with
  | .inl y :: .inl x :: r => (x = y → N t loc r S) ∧ (¬ x = y → N n loc r S)
  | _ => False
theorem ip_s_iceq (hx : p.tables.exec = Jvm.exec) (hb : c.code = cc) {off : Int} {t : Nat} (hd : decode cc pc = .ok (.if_icmp .eq off, 3)) (ht : (pc : Int) + off = (t : Int)) (hc : cnt (pc + 3) = cnt pc) (hc2 : cnt t = cnt pc) : ip_snd p l e R s m args below meth c D cA A Q nL cnt I ad0 S0 pc (ip_t_iceq t (pc + 3)) := by
  intro N hN loc st S h ad L H locs ls hI hl hst hlo hex hW
  unfold ip_t_iceq at h
  split at h
  · refine lv_icmp_eq hx hb hd ht (fun q => ?_) (fun q => ?_)
    · have k := hN _ _ _ _ (h.1 q) ad L H locs ls hI hl (ip_tl (ip_tl hst)) hlo hex hW
      rw [hc2] at k
      exact k
    · have k := hN _ _ _ _ (h.2 q) ad L H locs ls hI hl (ip_tl (ip_tl hst)) hlo hex hW
      rw [hc] at k
      exact k
  · exact h.elim
def ip_t_icne (t n : Nat) : ip_T := fun N loc st S => match st with
  | .inl y :: .inl x :: r => (¬ x = y → N t loc r S) ∧ (x = y → N n loc r S)
  | _ => False
theorem ip_s_icne (hx : p.tables.exec = Jvm.exec) (hb : c.code = cc) {off : Int} {t : Nat} (hd : decode cc pc = .ok (.if_icmp .ne off, 3)) (ht : (pc : Int) + off = (t : Int)) (hc : cnt (pc + 3) = cnt pc) (hc2 : cnt t = cnt pc) : ip_snd p l e R s m args below meth c D cA A Q nL cnt I ad0 S0 pc (ip_t_icne t (pc + 3)) := by
  intro N hN loc st S h ad L H locs ls hI hl hst hlo hex hW
  unfold ip_t_icne at h
  split at h
  · refine lv_icmp_ne hx hb hd ht (fun q => ?_) (fun q => ?_)
    · have k := hN _ _ _ _ (h.1 q) ad L H locs ls hI hl (ip_tl (ip_tl hst)) hlo hex hW
      rw [hc2] at k
      exact k
    · have k := hN _ _ _ _ (h.2 q) ad L H locs ls hI hl (ip_tl (ip_tl hst)) hlo hex hW
      rw [hc] at k
      exact k
  · exact h.elim
def ip_t_iclt (t n : Nat) : ip_T := fun N loc st S => match st with
  | .inl y :: .inl x :: r => (x < y → N t loc r S) ∧ (¬ x < y → N n loc r S)
  | _ => False
theorem ip_s_iclt (hx : p.tables.exec = Jvm.exec) (hb : c.code = cc) {off : Int} {t : Nat} (hd : decode cc pc = .ok (.if_icmp .lt off, 3)) (ht : (pc : Int) + off = (t : Int)) (hc : cnt (pc + 3) = cnt pc) (hc2 : cnt t = cnt pc) : ip_snd p l e R s m args below meth c D cA A Q nL cnt I ad0 S0 pc (ip_t_iclt t (pc + 3)) := by
  intro N hN loc st S h ad L H locs ls hI hl hst hlo hex hW
  unfold ip_t_iclt at h
  split at h
  · refine lv_icmp_lt hx hb hd ht (fun q => ?_) (fun q => ?_)
    · have k := hN _ _ _ _ (h.1 q) ad L H locs ls hI hl (ip_tl (ip_tl hst)) hlo hex hW
      rw [hc2] at k
      exact k
    · have k := hN _ _ _ _ (h.2 q) ad L H locs ls hI hl (ip_tl (ip_tl hst)) hlo hex hW
      rw [hc] at k
      exact k
  · exact h.elim
def ip_t_icge (t n : Nat) : ip_T := fun N loc st S => match st with
  | .inl y :: .inl x :: r => (y ≤ x → N t loc r S) ∧ (¬ y ≤ x → N n loc r S)
  | _ => False
theorem ip_s_icge (hx : p.tables.exec = Jvm.exec) (hb : c.code = cc) {off : Int} {t : Nat} (hd : decode cc pc = .ok (.if_icmp .ge off, 3)) (ht : (pc : Int) + off = (t : Int)) (hc : cnt (pc + 3) = cnt pc) (hc2 : cnt t = cnt pc) : ip_snd p l e R s m args below meth c D cA A Q nL cnt I ad0 S0 pc (ip_t_icge t (pc + 3)) := by
  intro N hN loc st S h ad L H locs ls hI hl hst hlo hex hW
  unfold ip_t_icge at h
  split at h
  · refine lv_icmp_ge hx hb hd ht (fun q => ?_) (fun q => ?_)
    · have k := hN _ _ _ _ (h.1 q) ad L H locs ls hI hl (ip_tl (ip_tl hst)) hlo hex hW
      rw [hc2] at k
      exact k
    · have k := hN _ _ _ _ (h.2 q) ad L H locs ls hI hl (ip_tl (ip_tl hst)) hlo hex hW
      rw [hc] at k
      exact k
  · exact h.elim
def ip_t_icgt (t n : Nat) : ip_T := fun N loc st S => match st with
  | .inl y :: .inl x :: r => (y < x → N t loc r S) ∧ (¬ y < x → N n loc r S)
  | _ => False
theorem ip_s_icgt (hx : p.tables.exec = Jvm.exec) (hb : c.code = cc) {off : Int} {t : Nat} (hd : decode cc pc = .ok (.if_icmp .gt off, 3)) (ht : (pc : Int) + off = (t : Int)) (hc : cnt (pc + 3) = cnt pc) (hc2 : cnt t = cnt pc) : ip_snd p l e R s m args below meth c D cA A Q nL cnt I ad0 S0 pc (ip_t_icgt t (pc + 3)) := by
  intro N hN loc st S h ad L H locs ls hI hl hst hlo hex hW
  unfold ip_t_icgt at h
  split at h
  · refine lv_icmp_gt hx hb hd ht (fun q => ?_) (fun q => ?_)
    · have k := hN _ _ _ _ (h.1 q) ad L H locs ls hI hl (ip_tl (ip_tl hst)) hlo hex hW
      rw [hc2] at k
      exact k
    · have k := hN _ _ _ _ (h.2 q) ad L H locs ls hI hl (ip_tl (ip_tl hst)) hlo hex hW
      rw [hc] at k
      exact k
  · exact h.elim
def ip_t_icle (t n : Nat) : ip_T := fun N loc st S => match st with
  | .inl y :: .inl x :: r => (x ≤ y → N t loc r S) ∧ (¬ x ≤ y → N n loc r S)
  | _ => False
theorem ip_s_icle (hx : p.tables.exec = Jvm.exec) (hb : c.code = cc) {off : Int} {t : Nat} (hd : decode cc pc = .ok (.if_icmp .le off, 3)) (ht : (pc : Int) + off = (t : Int)) (hc : cnt (pc + 3) = cnt pc) (hc2 : cnt t = cnt pc) : ip_snd p l e R s m args below meth c D cA A Q nL cnt I ad0 S0 pc (ip_t_icle t (pc + 3)) := by
  intro N hN loc st S h ad L H locs ls hI hl hst hlo hex hW
  unfold ip_t_icle at h
  split at h
  · refine lv_icmp_le hx hb hd ht (fun q => ?_) (fun q => ?_)
    · have k := hN _ _ _ _ (h.1 q) ad L H locs ls hI hl (ip_tl (ip_tl hst)) hlo hex hW
      rw [hc2] at k
      exact k
    · have k := hN _ _ _ _ (h.2 q) ad L H locs ls hI hl (ip_tl (ip_tl hst)) hlo hex hW
      rw [hc] at k
      exact k
  · exact h.elim
def ip_t_go (t : Nat) : ip_T := fun N loc st S => N t loc st S
theorem ip_s_go (hx : p.tables.exec = Jvm.exec) (hb : c.code = cc) {off : Int} {t : Nat} (hd : decode cc pc = .ok (.goto off, 3)) (ht : (pc : Int) + off = (t : Int)) (h1 : (cnt pc).1 ≤ (cnt t).1) (h2 : (cnt pc).2 ≤ (cnt t).2) : ip_snd p l e R s m args below meth c D cA A Q nL cnt I ad0 S0 pc (ip_t_go t) := by
  intro N hN loc st S h ad L H locs ls hI hl hst hlo hex hW
  have k := hN _ _ _ _ h ad L H locs ls hI hl hst hlo hex hW
  exact lv_goto hx hb hd ht (W.widen h1 h2 k)
def ip_t_null (t n : Nat) : ip_T := fun N loc st S => match st with
  | .inr (.inl none) :: r => N t loc r S
  | .inr (.inl (some _)) :: r => N n loc r S
  | _ => False
theorem ip_s_ifnull (hx : p.tables.exec = Jvm.exec) (hb : c.code = cc) {off : Int} {t : Nat} (hd : decode cc pc = .ok (.ifnull off, 3)) (ht : (pc : Int) + off = (t : Int)) (hc : cnt (pc + 3) = cnt pc) (hc2 : cnt t = cnt pc) : ip_snd p l e R s m args below meth c D cA A Q nL cnt I ad0 S0 pc (ip_t_null t (pc + 3)) := by
  intro N hN loc st S h ad L H locs ls hI hl hst hlo hex hW
  unfold ip_t_null at h
  split at h
  · have k := hN _ _ _ _ h ad L H locs ls hI hl (ip_tl hst) hlo hex hW
    rw [hc2] at k
    exact lv_ifnullN hx hb hd ht k
  · have k := hN _ _ _ _ h ad L H locs ls hI hl (ip_tl hst) hlo hex hW
    rw [hc] at k
    exact lv_ifnull hx hb hd k
  · exact h.elim
theorem ip_s_ifnonnull (hx : p.tables.exec = Jvm.exec) (hb : c.code = cc) {off : Int} {t : Nat} (hd : decode cc pc = .ok (.ifnonnull off, 3)) (ht : (pc : Int) + off = (t : Int)) (hc : cnt (pc + 3) = cnt pc) (hc2 : cnt t = cnt pc) : ip_snd p l e R s m args below meth c D cA A Q nL cnt I ad0 S0 pc (ip_t_null (pc + 3) t) := by
  intro N hN loc st S h ad L H locs ls hI hl hst hlo hex hW
  unfold ip_t_null at h
  split at h
  · have k := hN _ _ _ _ h ad L H locs ls hI hl (ip_tl hst) hlo hex hW
    rw [hc] at k
    exact lv_ifnonnullN hx hb hd k
  · have k := hN _ _ _ _ h ad L H locs ls hI hl (ip_tl hst) hlo hex hW
    rw [hc2] at k
    exact lv_ifnonnull hx hb hd ht k
  · exact h.elim
/-- a switch: a chain of tests -/
def ip_sw (N : Nat → Prop) (x : Int32) (d : Nat) : List (Int32 × Nat) → Prop
  | [] => N d
  | q :: r => (x = q.1 → N q.2) ∧ (¬ x = q.1 → ip_sw N x d r)
theorem ip_sw_or {N : Nat → Prop} {x : Int32} {d : Nat} : ∀ {ts : List (Int32 × Nat)}, ip_sw N x d ts → (∃ q ∈ ts, x = q.1 ∧ N q.2) ∨ ((∀ q ∈ ts, ¬ x = q.1) ∧ N d)
  | [], h => Or.inr ⟨fun q hq => (by cases hq), h⟩
  | q :: r, h => by
    by_cases hx : x = q.1
    · exact Or.inl ⟨q, List.mem_cons_self, hx, h.1 hx⟩
    · rcases ip_sw_or (h.2 hx) with ⟨q', h1, h2⟩ | ⟨h1, h2⟩
      · exact Or.inl ⟨q', List.mem_cons_of_mem _ h1, h2⟩
      · exact Or.inr ⟨List.forall_mem_cons.mpr ⟨hx, h1⟩, h2⟩
def ip_t_sw (ts : List (Int32 × Nat)) (d : Nat) : ip_T := fun N loc st S => match st with
  | .inl x :: r => ip_sw (fun n => N n loc r S) x d ts
  | _ => False
theorem ip_s_sw (hx : p.tables.exec = Jvm.exec) (hb : c.code = cc) {dflt lo hi : Int} {offs : Array Int} {len d : Nat} {ts : List (Int32 × Nat)} (n : Nat) (hd : decode cc pc = .ok (.tableswitch dflt lo hi offs, len)) (hdt : (pc : Int) + dflt = (d : Int)) (h1 : ∀ q ∈ ts, lo ≤ q.1.toInt ∧ q.1.toInt ≤ hi ∧ offs[(q.1.toInt - lo).toNat]? = some ((q.2 : Int) - pc)) (h2 : ∀ j, j < n → ∃ q ∈ ts, q.1.toInt = lo + (j : Int)) (hn : hi < lo + n) (hcd : cnt d = cnt pc) (hct : ∀ q ∈ ts, cnt q.2 = cnt pc) : ip_snd p l e R s m args below meth c D cA A Q nL cnt I ad0 S0 pc (ip_t_sw ts d) := by
  intro N hN loc st S h ad L H locs ls hI hl hst hlo hex hW
  unfold ip_t_sw at h
  split at h
  · rename_i x r
    rcases ip_sw_or h with ⟨q, hq, hxq, hk⟩ | ⟨hno, hk⟩
    · obtain ⟨a1, a2, a3⟩ := h1 q hq
      have k := hN _ _ _ _ hk ad L H locs ls hI hl (ip_tl hst) hlo hex hW
      rw [hct q hq] at k
      subst hxq
      exact lv_tableIn hx hb hd (by omega) (by omega) a3 (by omega) k
    · have k := hN _ _ _ _ hk ad L H locs ls hI hl (ip_tl hst) hlo hex hW
      rw [hcd] at k
      refine lv_tableOut hx hb hd ?_ hdt k
      by_cases hlo : x.toInt < lo
      · exact Or.inl hlo
      · right
        refine Int.lt_of_not_ge (fun hge => ?_)
        obtain ⟨q, hq, hqe⟩ := h2 (x.toInt - lo).toNat (by omega)
        exact hno q hq (Int32.toInt_inj.mp (by rw [hqe]; omega))
  · exact h.elim
end IPV
