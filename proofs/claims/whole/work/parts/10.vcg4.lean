section IPA
variable {p : Program} {l : Launch} {e : Env} {R : Room} {s : State} {m : MethodId} {args : Array Value} {below : List Frame} {meth : Method} {c : Code} {D : va_G} {cA : Nat → ClassId} {A : Nat → Prop} {Q : State → Prop} {nL : Nat} {cnt : Nat → Nat × Nat} {I : ip_S → Prop} {ad0 : Nat → Nat} {S0 : ip_S}
variable {cc : ByteArray} {pc : Nat}
theorem ip_WatI {ad : Nat → Nat} {L : List Nat} {S : ip_S} {H : Heap} {locs : List Loc} (hW : ip_W D cA A ad L S s H locs) {q kd n : Nat} (h : S.2.2.2 q = (kd, n)) (h1 : 6 ≤ kd) (h2 : kd < 8) : ∃ k0 : Nat, L[k0]? = some q ∧ (ip_wl cA ad L S)[k0]? = some (ad q, .inl (cA kd, n, .inl (S.1 q))) := by
  obtain ⟨k0, g1, g2⟩ := ip_wl_at (cA := cA) (ad := ad) (S := S) ((hW.1 q).mpr (by show (S.2.2.2 q).1 < 10; rw [h]; show kd < 10; omega))
  exact ⟨k0, g1, by rw [g2, ip_E_ints h h1 h2]⟩
theorem ip_WatR {ad : Nat → Nat} {L : List Nat} {S : ip_S} {H : Heap} {locs : List Loc} (hW : ip_W D cA A ad L S s H locs) {q kd n : Nat} (h : S.2.2.2 q = (kd, n)) (h1 : 8 ≤ kd) (h2 : kd < 10) : ∃ k0 : Nat, L[k0]? = some q ∧ (ip_wl cA ad L S)[k0]? = some (ad q, .inl (cA kd, n, .inr (.inr (.inr (.inr (fun i => (S.2.1 q i).map ad)))))) := by
  obtain ⟨k0, g1, g2⟩ := ip_wl_at (cA := cA) (ad := ad) (S := S) ((hW.1 q).mpr (by show (S.2.2.2 q).1 < 10; rw [h]; exact h2))
  exact ⟨k0, g1, by rw [g2, ip_E_refs h h1]⟩
theorem ip_kts {S : ip_S} (h : ip_Sta S) {q k n : Nat} (hq : ip_kt q = (k, n)) (hk : k < 10) : S.2.2.2 q = (k, n) := by
  rw [h.1 q (by rw [hq]; exact hk), hq]
/-- reading an array of ints (kd 6) or of booleans (kd 7), of a fixed place -/
def ip_t_ld (kd n : Nat) : ip_T := fun N loc st S => match st with
  | .inl i :: .inr (.inl (some q)) :: r => match ip_kt q with
    | (k, len) => bif Nat.beq k kd then (vp_in i len ∧ N n loc (.inl (S.1 q i.toNatClampNeg) :: r) S) else False
  | _ => False
/-- of any place, ints -/
def ip_t_ldD (n : Nat) : ip_T := fun N loc st S => match st with
  | .inl i :: .inr (.inl (some q)) :: r => ∃ len, S.2.2.2 q = (6, len) ∧ vp_in i len ∧ N n loc (.inl (S.1 q i.toNatClampNeg) :: r) S
  | _ => False
def ip_t_lda (kd n : Nat) : ip_T := fun N loc st S => match st with
  | .inl i :: .inr (.inl (some q)) :: r => match ip_kt q with
    | (k, len) => bif Nat.beq k kd then (vp_in i len ∧ ∀ o, S.2.1 q i.toNatClampNeg = o → N n loc (.inr (.inl o) :: r) S) else False
  | _ => False
def ip_t_st (n : Nat) : ip_T := fun N loc st S => match st with
  | .inl x :: .inl i :: .inr (.inl (some q)) :: r => match ip_kt q with
    | (k, len) => bif Nat.beq k 6 then (vp_in i len ∧ N n loc r (ip_sI S q i.toNatClampNeg x)) else False
  | _ => False
def ip_t_stD (n : Nat) : ip_T := fun N loc st S => match st with
  | .inl x :: .inl i :: .inr (.inl (some q)) :: r => ∃ len, S.2.2.2 q = (6, len) ∧ vp_in i len ∧ N n loc r (ip_sI S q i.toNatClampNeg x)
  | _ => False
def ip_t_stz (n : Nat) : ip_T := fun N loc st S => match st with
  | .inl x :: .inl i :: .inr (.inl (some q)) :: r => match ip_kt q with
    | (k, len) => bif Nat.beq k 7 then (vp_in i len ∧ N n loc r (ip_sI S q i.toNatClampNeg (vp_nar .boolean x))) else False
  | _ => False
def ip_t_sta (kd ci n : Nat) : ip_T := fun N loc st S => match st with
  | .inr (.inl none) :: .inl i :: .inr (.inl (some q)) :: r => match ip_kt q with
    | (k, len) => bif Nat.beq k kd then (vp_in i len ∧ N n loc r (ip_sR S q i.toNatClampNeg none)) else False
  | .inr (.inl (some v)) :: .inl i :: .inr (.inl (some q)) :: r => match ip_kt q with
    | (k, len) => bif Nat.beq k kd then (vp_in i len ∧ (S.2.2.2 v).1 = ci ∧ N n loc r (ip_sR S q i.toNatClampNeg (some v))) else False
  | _ => False
def ip_t_len (n : Nat) : ip_T := fun N loc st S => match st with
  | .inr (.inl (some q)) :: r => match ip_kt q with
    | (k, len) => bif (Nat.ble 6 k && Nat.ble k 9) then N n loc (.inl (ip_i32 len) :: r) S else False
  | _ => False
def ip_t_lenD (n : Nat) : ip_T := fun N loc st S => match st with
  | .inr (.inl (some q)) :: r => ∃ len, S.2.2.2 q = (6, len) ∧ N n loc (.inl (ip_i32 len) :: r) S
  | _ => False
theorem ip_s_ldi (hx : p.tables.exec = Jvm.exec) (hb : c.code = cc) (hIs : ∀ S, I S → ip_Sta S) (hd : decode cc pc = .ok (.iaload, 1)) (hc : cnt (pc + 1) = cnt pc) : ip_snd p l e R s m args below meth c D cA A Q nL cnt I ad0 S0 pc (ip_t_ld 6 (pc + 1)) := by
  intro N hN loc st S h ad L H locs ls hI hl hst hlo hex hW
  unfold ip_t_ld at h
  split at h
  · rename_i i q r
    cases hq : ip_kt q with
    | mk k len =>
      rw [hq] at h
      dsimp only at h
      cases hb : Nat.beq k 6 with
      | false => rw [hb] at h; exact h.elim
      | true =>
        rw [hb] at h
        have := Nat.eq_of_beq_eq_true hb
        subst this
        obtain ⟨k0, h1, h2⟩ := ip_WatI hW (ip_kts (hIs S hI) hq (by decide)) (by decide) (by decide)
        have kk := hN _ _ _ _ h.2 ad L H locs ls hI hl (ip_cs ip_ok_i (ip_tl (ip_tl hst))) hlo hex hW
        rw [hc] at kk
        exact va_iald hx ‹_› hW.2.2.1 hW.2.2.2.1 k0 0 h2 rfl h.1 hd kk
  · exact h.elim
theorem ip_s_ldz (hx : p.tables.exec = Jvm.exec) (hb : c.code = cc) (hIs : ∀ S, I S → ip_Sta S) (hd : decode cc pc = .ok (.baload, 1)) (hc : cnt (pc + 1) = cnt pc) : ip_snd p l e R s m args below meth c D cA A Q nL cnt I ad0 S0 pc (ip_t_ld 7 (pc + 1)) := by
  intro N hN loc st S h ad L H locs ls hI hl hst hlo hex hW
  unfold ip_t_ld at h
  split at h
  · rename_i i q r
    cases hq : ip_kt q with
    | mk k len =>
      rw [hq] at h
      dsimp only at h
      cases hb : Nat.beq k 7 with
      | false => rw [hb] at h; exact h.elim
      | true =>
        rw [hb] at h
        have := Nat.eq_of_beq_eq_true hb
        subst this
        obtain ⟨k0, h1, h2⟩ := ip_WatI hW (ip_kts (hIs S hI) hq (by decide)) (by decide) (by decide)
        have kk := hN _ _ _ _ h.2 ad L H locs ls hI hl (ip_cs ip_ok_i (ip_tl (ip_tl hst))) hlo hex hW
        rw [hc] at kk
        exact va_zald hx ‹_› hW.2.2.1 hW.2.2.2.1 k0 1 h2 rfl h.1 hd kk
  · exact h.elim
theorem ip_s_ldD (hx : p.tables.exec = Jvm.exec) (hb : c.code = cc) (hd : decode cc pc = .ok (.iaload, 1)) (hc : cnt (pc + 1) = cnt pc) : ip_snd p l e R s m args below meth c D cA A Q nL cnt I ad0 S0 pc (ip_t_ldD (pc + 1)) := by
  intro N hN loc st S h ad L H locs ls hI hl hst hlo hex hW
  unfold ip_t_ldD at h
  split at h
  · obtain ⟨len, hq, hin, h⟩ := h
    obtain ⟨k0, h1, h2⟩ := ip_WatI hW hq (by decide) (by decide)
    have kk := hN _ _ _ _ h ad L H locs ls hI hl (ip_cs ip_ok_i (ip_tl (ip_tl hst))) hlo hex hW
    rw [hc] at kk
    exact va_iald hx hb hW.2.2.1 hW.2.2.2.1 k0 0 h2 rfl hin hd kk
  · exact h.elim
theorem ip_s_lda8 (hx : p.tables.exec = Jvm.exec) (hb : c.code = cc) (hIs : ∀ S, I S → ip_Sta S) (hd : decode cc pc = .ok (.aaload, 1)) (hc : cnt (pc + 1) = cnt pc) : ip_snd p l e R s m args below meth c D cA A Q nL cnt I ad0 S0 pc (ip_t_lda 8 (pc + 1)) := by
  intro N hN loc st S h ad L H locs ls hI hl hst hlo hex hW
  unfold ip_t_lda at h
  split at h
  · rename_i i q r
    cases hq : ip_kt q with
    | mk k len =>
      rw [hq] at h
      dsimp only at h
      cases hb : Nat.beq k 8 with
      | false => rw [hb] at h; exact h.elim
      | true =>
        rw [hb] at h
        have := Nat.eq_of_beq_eq_true hb
        subst this
        obtain ⟨k0, h1, h2⟩ := ip_WatR hW (ip_kts (hIs S hI) hq (by decide)) (by decide) (by decide)
        have kk := hN _ _ _ _ (h.2 _ rfl) ad L H locs ls hI hl (ip_cs (ip_ok_c hW.2.1 rfl) (ip_tl (ip_tl hst))) hlo hex hW
        rw [hc] at kk
        exact va_aldq hx ‹_› hW.2.2.1 hW.2.2.2.1 k0 2 h2 rfl h.1 hd kk
  · exact h.elim
theorem ip_s_lda9 (hx : p.tables.exec = Jvm.exec) (hb : c.code = cc) (hIs : ∀ S, I S → ip_Sta S) (hd : decode cc pc = .ok (.aaload, 1)) (hc : cnt (pc + 1) = cnt pc) : ip_snd p l e R s m args below meth c D cA A Q nL cnt I ad0 S0 pc (ip_t_lda 9 (pc + 1)) := by
  intro N hN loc st S h ad L H locs ls hI hl hst hlo hex hW
  unfold ip_t_lda at h
  split at h
  · rename_i i q r
    cases hq : ip_kt q with
    | mk k len =>
      rw [hq] at h
      dsimp only at h
      cases hb : Nat.beq k 9 with
      | false => rw [hb] at h; exact h.elim
      | true =>
        rw [hb] at h
        have := Nat.eq_of_beq_eq_true hb
        subst this
        obtain ⟨k0, h1, h2⟩ := ip_WatR hW (ip_kts (hIs S hI) hq (by decide)) (by decide) (by decide)
        have kk := hN _ _ _ _ (h.2 _ rfl) ad L H locs ls hI hl (ip_cs (ip_ok_c hW.2.1 rfl) (ip_tl (ip_tl hst))) hlo hex hW
        rw [hc] at kk
        exact va_aldq hx ‹_› hW.2.2.1 hW.2.2.2.1 k0 3 h2 rfl h.1 hd kk
  · exact h.elim
theorem ip_s_sti (hx : p.tables.exec = Jvm.exec) (hb : c.code = cc) (hIn : ip_In I) (hIs : ∀ S, I S → ip_Sta S) (hd : decode cc pc = .ok (.iastore, 1)) (hc : cnt (pc + 1) = cnt pc) : ip_snd p l e R s m args below meth c D cA A Q nL cnt I ad0 S0 pc (ip_t_st (pc + 1)) := by
  intro N hN loc st S h ad L H locs ls hI hl hst hlo hex hW
  unfold ip_t_st at h
  split at h
  · rename_i x i q r
    cases hq : ip_kt q with
    | mk k len =>
      rw [hq] at h
      dsimp only at h
      cases hb : Nat.beq k 6 with
      | false => rw [hb] at h; exact h.elim
      | true =>
        rw [hb] at h
        have := Nat.eq_of_beq_eq_true hb
        subst this
        have hkq := ip_kts (hIs S hI) hq (by decide)
        obtain ⟨k0, h1, h2⟩ := ip_WatI hW hkq (by decide) (by decide)
        refine va_iast hx ‹_› hW.2.2.1 hW.2.2.2.1 hW.2.2.2.2.1 hW.2.2.2.2.2 k0 0 h2 rfl h.1 hd (fun H1 locs1 hP hD hS => ?_)
        have kk := hN _ _ _ _ h.2 ad L H1 locs1 ls (hIn.1 _ _ _ _ hI) hl (ip_tl (ip_tl (ip_tl hst))) hlo hex (hW.put rfl hW.2.1 h1 (fun q' hq' => ip_E_sI hq') (by rw [ip_upd_I]; exact (ip_E_ints (S := ip_sI S q i.toNatClampNeg x) hkq (by decide) (by decide)).symm) hP hD hS)
        rw [hc] at kk
        exact kk
  · exact h.elim
theorem ip_s_stz (hx : p.tables.exec = Jvm.exec) (hb : c.code = cc) (hIn : ip_In I) (hIs : ∀ S, I S → ip_Sta S) (hd : decode cc pc = .ok (.bastore, 1)) (hc : cnt (pc + 1) = cnt pc) : ip_snd p l e R s m args below meth c D cA A Q nL cnt I ad0 S0 pc (ip_t_stz (pc + 1)) := by
  intro N hN loc st S h ad L H locs ls hI hl hst hlo hex hW
  unfold ip_t_stz at h
  split at h
  · rename_i x i q r
    cases hq : ip_kt q with
    | mk k len =>
      rw [hq] at h
      dsimp only at h
      cases hb : Nat.beq k 7 with
      | false => rw [hb] at h; exact h.elim
      | true =>
        rw [hb] at h
        have := Nat.eq_of_beq_eq_true hb
        subst this
        have hkq := ip_kts (hIs S hI) hq (by decide)
        obtain ⟨k0, h1, h2⟩ := ip_WatI hW hkq (by decide) (by decide)
        refine va_zast hx ‹_› hW.2.2.1 hW.2.2.2.1 hW.2.2.2.2.1 hW.2.2.2.2.2 k0 1 h2 rfl h.1 hd (fun H1 locs1 hP hD hS => ?_)
        have kk := hN _ _ _ _ h.2 ad L H1 locs1 ls (hIn.1 _ _ _ _ hI) hl (ip_tl (ip_tl (ip_tl hst))) hlo hex (hW.put rfl hW.2.1 h1 (fun q' hq' => ip_E_sI hq') (by rw [ip_upd_I]; exact (ip_E_ints (S := ip_sI S q i.toNatClampNeg (vp_nar .boolean x)) hkq (by decide) (by decide)).symm) hP hD hS)
        rw [hc] at kk
        exact kk
  · exact h.elim
theorem ip_s_stD (hx : p.tables.exec = Jvm.exec) (hb : c.code = cc) (hIn : ip_In I) (hd : decode cc pc = .ok (.iastore, 1)) (hc : cnt (pc + 1) = cnt pc) : ip_snd p l e R s m args below meth c D cA A Q nL cnt I ad0 S0 pc (ip_t_stD (pc + 1)) := by
  intro N hN loc st S h ad L H locs ls hI hl hst hlo hex hW
  unfold ip_t_stD at h
  split at h
  · rename_i x i q r
    obtain ⟨len, hkq, hin, h⟩ := h
    obtain ⟨k0, h1, h2⟩ := ip_WatI hW hkq (by decide) (by decide)
    refine va_iast hx hb hW.2.2.1 hW.2.2.2.1 hW.2.2.2.2.1 hW.2.2.2.2.2 k0 0 h2 rfl hin hd (fun H1 locs1 hP hD hS => ?_)
    have kk := hN _ _ _ _ h ad L H1 locs1 ls (hIn.1 _ _ _ _ hI) hl (ip_tl (ip_tl (ip_tl hst))) hlo hex (hW.put rfl hW.2.1 h1 (fun q' hq' => ip_E_sI hq') (by rw [ip_upd_I]; exact (ip_E_ints (S := ip_sI S q i.toNatClampNeg x) hkq (by decide) (by decide)).symm) hP hD hS)
    rw [hc] at kk
    exact kk
  · exact h.elim
theorem ip_s_sta8 (hx : p.tables.exec = Jvm.exec) (hb : c.code = cc) (hIn : ip_In I) (hIs : ∀ S, I S → ip_Sta S) (hd : decode cc pc = .ok (.aastore, 1)) (hc : cnt (pc + 1) = cnt pc) : ip_snd p l e R s m args below meth c D cA A Q nL cnt I ad0 S0 pc (ip_t_sta 8 0 (pc + 1)) := by
  intro N hN loc st S h ad L H locs ls hI hl hst hlo hex hW
  unfold ip_t_sta at h
  split at h
  · rename_i i q r
    cases hq : ip_kt q with
    | mk k len =>
      rw [hq] at h
      dsimp only at h
      cases hb : Nat.beq k 8 with
      | false => rw [hb] at h; exact h.elim
      | true =>
        rw [hb] at h
        have := Nat.eq_of_beq_eq_true hb
        subst this
        have hkq := ip_kts (hIs S hI) hq (by decide)
        obtain ⟨k0, h1, h2⟩ := ip_WatR hW hkq (by decide) (by decide)
        refine va_astqN hx ‹_› hW.2.2.1 hW.2.2.2.1 hW.2.2.2.2.1 hW.2.2.2.2.2 k0 2 h2 rfl h.1 hd (fun H1 locs1 hP hD hS => ?_)
        have kk := hN _ _ _ _ h.2 ad L H1 locs1 ls (hIn.2.2.1 _ _ _ _ hI (Or.inr (by rw [hkq]; exact Nat.le_of_ble_eq_true rfl))) hl (ip_tl (ip_tl (ip_tl hst))) hlo hex (hW.put rfl (ip_cl_R hW.2.1 ip_ok_n) h1 (fun q' hq' => ip_E_sR hq') (by rw [show (none : Option Nat) = (none : Option Nat).map ad from rfl, ip_upd_R]; exact (ip_E_refs (S := ip_sR S q i.toNatClampNeg none) hkq (by decide)).symm) hP hD hS)
        rw [hc] at kk
        exact kk
  · rename_i v i q r
    cases hq : ip_kt q with
    | mk k len =>
      rw [hq] at h
      dsimp only at h
      cases hb : Nat.beq k 8 with
      | false => rw [hb] at h; exact h.elim
      | true =>
        rw [hb] at h
        have := Nat.eq_of_beq_eq_true hb
        subst this
        have hkq := ip_kts (hIs S hI) hq (by decide)
        obtain ⟨k0, h1, h2⟩ := ip_WatR hW hkq (by decide) (by decide)
        obtain ⟨k1, h3, h4⟩ := ip_Wat hW h.2.1 (by decide)
        refine va_astq hx ‹_› hW.2.2.1 hW.2.2.2.1 hW.2.2.2.2.1 hW.2.2.2.2.2 k0 2 k1 0 h2 rfl h4 rfl h.1 hd (fun H1 locs1 hP hD hS => ?_)
        have kk := hN _ _ _ _ h.2.2 ad L H1 locs1 ls (hIn.2.2.1 _ _ _ _ hI (Or.inr (by rw [hkq]; exact Nat.le_of_ble_eq_true rfl))) hl (ip_tl (ip_tl (ip_tl hst))) hlo hex (hW.put rfl (ip_cl_R hW.2.1 (ip_hd hst)) h1 (fun q' hq' => ip_E_sR hq') (by rw [show some (ad v) = (some v).map ad from rfl, ip_upd_R]; exact (ip_E_refs (S := ip_sR S q i.toNatClampNeg (some v)) hkq (by decide)).symm) hP hD hS)
        rw [hc] at kk
        exact kk
  · exact h.elim
theorem ip_s_sta9 (hx : p.tables.exec = Jvm.exec) (hb : c.code = cc) (hIn : ip_In I) (hIs : ∀ S, I S → ip_Sta S) (hd : decode cc pc = .ok (.aastore, 1)) (hc : cnt (pc + 1) = cnt pc) : ip_snd p l e R s m args below meth c D cA A Q nL cnt I ad0 S0 pc (ip_t_sta 9 1 (pc + 1)) := by
  intro N hN loc st S h ad L H locs ls hI hl hst hlo hex hW
  unfold ip_t_sta at h
  split at h
  · rename_i i q r
    cases hq : ip_kt q with
    | mk k len =>
      rw [hq] at h
      dsimp only at h
      cases hb : Nat.beq k 9 with
      | false => rw [hb] at h; exact h.elim
      | true =>
        rw [hb] at h
        have := Nat.eq_of_beq_eq_true hb
        subst this
        have hkq := ip_kts (hIs S hI) hq (by decide)
        obtain ⟨k0, h1, h2⟩ := ip_WatR hW hkq (by decide) (by decide)
        refine va_astqN hx ‹_› hW.2.2.1 hW.2.2.2.1 hW.2.2.2.2.1 hW.2.2.2.2.2 k0 3 h2 rfl h.1 hd (fun H1 locs1 hP hD hS => ?_)
        have kk := hN _ _ _ _ h.2 ad L H1 locs1 ls (hIn.2.2.1 _ _ _ _ hI (Or.inr (by rw [hkq]; exact Nat.le_of_ble_eq_true rfl))) hl (ip_tl (ip_tl (ip_tl hst))) hlo hex (hW.put rfl (ip_cl_R hW.2.1 ip_ok_n) h1 (fun q' hq' => ip_E_sR hq') (by rw [show (none : Option Nat) = (none : Option Nat).map ad from rfl, ip_upd_R]; exact (ip_E_refs (S := ip_sR S q i.toNatClampNeg none) hkq (by decide)).symm) hP hD hS)
        rw [hc] at kk
        exact kk
  · rename_i v i q r
    cases hq : ip_kt q with
    | mk k len =>
      rw [hq] at h
      dsimp only at h
      cases hb : Nat.beq k 9 with
      | false => rw [hb] at h; exact h.elim
      | true =>
        rw [hb] at h
        have := Nat.eq_of_beq_eq_true hb
        subst this
        have hkq := ip_kts (hIs S hI) hq (by decide)
        obtain ⟨k0, h1, h2⟩ := ip_WatR hW hkq (by decide) (by decide)
        obtain ⟨k1, h3, h4⟩ := ip_Wat hW h.2.1 (by decide)
        refine va_astq hx ‹_› hW.2.2.1 hW.2.2.2.1 hW.2.2.2.2.1 hW.2.2.2.2.2 k0 3 k1 1 h2 rfl h4 rfl h.1 hd (fun H1 locs1 hP hD hS => ?_)
        have kk := hN _ _ _ _ h.2.2 ad L H1 locs1 ls (hIn.2.2.1 _ _ _ _ hI (Or.inr (by rw [hkq]; exact Nat.le_of_ble_eq_true rfl))) hl (ip_tl (ip_tl (ip_tl hst))) hlo hex (hW.put rfl (ip_cl_R hW.2.1 (ip_hd hst)) h1 (fun q' hq' => ip_E_sR hq') (by rw [show some (ad v) = (some v).map ad from rfl, ip_upd_R]; exact (ip_E_refs (S := ip_sR S q i.toNatClampNeg (some v)) hkq (by decide)).symm) hP hD hS)
        rw [hc] at kk
        exact kk
  · exact h.elim
theorem ip_s_len (hx : p.tables.exec = Jvm.exec) (hb : c.code = cc) (hIs : ∀ S, I S → ip_Sta S) (hd : decode cc pc = .ok (.arraylength, 1)) (hc : cnt (pc + 1) = cnt pc) : ip_snd p l e R s m args below meth c D cA A Q nL cnt I ad0 S0 pc (ip_t_len (pc + 1)) := by
  intro N hN loc st S h ad L H locs ls hI hl hst hlo hex hW
  unfold ip_t_len at h
  split at h
  · rename_i q r
    cases hq : ip_kt q with
    | mk k len =>
      rw [hq] at h
      dsimp only at h
      cases hb : (Nat.ble 6 k && Nat.ble k 9) with
      | false => rw [hb] at h; exact h.elim
      | true =>
        rw [hb] at h
        rw [Bool.and_eq_true] at hb
        have b1 := Nat.le_of_ble_eq_true hb.1
        have b2 := Nat.le_of_ble_eq_true hb.2
        have hkq := ip_kts (hIs S hI) hq (by omega)
        have kk := hN _ _ _ _ h ad L H locs ls hI hl (ip_cs ip_ok_i (ip_tl hst)) hlo hex hW
        rw [hc] at kk
        rcases (show k = 6 ∨ k = 7 ∨ k = 8 ∨ k = 9 by omega) with rfl | rfl | rfl | rfl
        · obtain ⟨k0, h1, h2⟩ := ip_WatI hW hkq (by decide) (by decide)
          exact va_alen hx ‹_› hW.2.2.1 hW.2.2.2.1 k0 0 h2 (ty := .int) rfl (ip_i32_eq len) hd kk
        · obtain ⟨k0, h1, h2⟩ := ip_WatI hW hkq (by decide) (by decide)
          exact va_alen hx ‹_› hW.2.2.1 hW.2.2.2.1 k0 1 h2 (ty := .boolean) rfl (ip_i32_eq len) hd kk
        · obtain ⟨k0, h1, h2⟩ := ip_WatR hW hkq (by decide) (by decide)
          exact va_alen hx ‹_› hW.2.2.1 hW.2.2.2.1 k0 2 h2 (ty := .object RX0) rfl (ip_i32_eq len) hd kk
        · obtain ⟨k0, h1, h2⟩ := ip_WatR hW hkq (by decide) (by decide)
          exact va_alen hx ‹_› hW.2.2.1 hW.2.2.2.1 k0 3 h2 (ty := .object RX1) rfl (ip_i32_eq len) hd kk
  · exact h.elim
theorem ip_s_lenD (hx : p.tables.exec = Jvm.exec) (hb : c.code = cc) (hd : decode cc pc = .ok (.arraylength, 1)) (hc : cnt (pc + 1) = cnt pc) : ip_snd p l e R s m args below meth c D cA A Q nL cnt I ad0 S0 pc (ip_t_lenD (pc + 1)) := by
  intro N hN loc st S h ad L H locs ls hI hl hst hlo hex hW
  unfold ip_t_lenD at h
  split at h
  · obtain ⟨len, hkq, h⟩ := h
    have kk := hN _ _ _ _ h ad L H locs ls hI hl (ip_cs ip_ok_i (ip_tl hst)) hlo hex hW
    rw [hc] at kk
    obtain ⟨k0, h1, h2⟩ := ip_WatI hW hkq (by decide) (by decide)
    exact va_alen hx hb hW.2.2.1 hW.2.2.2.1 k0 0 h2 (ty := .int) rfl (ip_i32_eq len) hd kk
  · exact h.elim
theorem ip_E_ad {ad ad' : Nat → Nat} {S : ip_S} {q : Nat} (h : ∀ k r, S.2.1 q k = some r → ad' r = ad r) : ip_E cA ad' S q = ip_E cA ad S q := by
  have h2 : ∀ k, (S.2.1 q k).map ad' = (S.2.1 q k).map ad := by
    intro k
    cases hr : S.2.1 q k with
    | none => rfl
    | some r => simp [h k r hr]
  have hf : ∀ (ts : List Nat) (k : Nat), ip_fs ad' S q ts k = ip_fs ad S q ts k := by
    intro ts
    induction ts with
    | nil => intro k; rfl
    | cons t ts ih => intro k; simp only [ip_fs, ih, ip_fv, h2]
  unfold ip_E
  rw [hf]
  simp only [h2]
theorem ip_ax_nw {S : ip_S} {q : Nat} {kd : Nat × Nat} (hkd : kd.1 < 10) {x : Nat} (h : ip_ax S x) : ip_ax (ip_nw S q kd) x := by
  rcases h with h | h
  · left
    show (if x = q then kd else S.2.2.2 x).1 < 10
    split
    · exact hkd
    · exact h
  · exact Or.inr h
theorem ip_W.new {ad : Nat → Nat} {L : List Nat} {S : ip_S} {H H1 : Heap} {locs locs1 : List Loc} (hW : ip_W D cA A ad L S s H locs) {q a0 : Nat} {kd : Nat × Nat} (hkd : kd.1 < 10) (hq : 10 ≤ (S.2.2.2 q).1) (hq9 : q ≠ 99) {en : va_E} (hen : en = ip_E cA (fun x => if x = q then a0 else ad x) (ip_nw S q kd) q)
    (hP : va_P D vwCl (ip_wl cA ad L S ++ [(a0, en)]) H1) (hD : va_D A (ip_wl cA ad L S ++ [(a0, en)])) (hS : va_S A s.heap H1 locs1) : ip_W D cA A (fun x => if x = q then a0 else ad x) (L ++ [q]) (ip_nw S q kd) s H1 locs1 := by
  obtain ⟨h1, h2, h3, h4, h5, h6⟩ := hW
  have hnq : ∀ x, ip_ax S x → x ≠ q := by
    intro x hx e
    subst e
    rcases hx with hx | hx
    · have : (S.2.2.2 x).1 < 10 := hx
      omega
    · exact hq9 hx
  have e1 : ip_wl cA ad L S ++ [(a0, en)] = ip_wl cA (fun x => if x = q then a0 else ad x) (L ++ [q]) (ip_nw S q kd) := by
    unfold ip_wl
    rw [List.map_append, List.map_singleton, ← hen]
    show _ = _ ++ [((if q = q then a0 else ad q), en)]
    rw [if_pos rfl]
    congr 1
    refine List.map_congr_left (fun x hx => ?_)
    have hxq : x ≠ q := hnq x (Or.inl ((h1 x).mp hx))
    show (ad x, ip_E cA ad S x) = (if x = q then a0 else ad x, ip_E cA _ (ip_nw S q kd) x)
    rw [if_neg hxq, ip_E_nw hxq]
    rw [ip_E_ad (ad := ad) (fun k r hr => if_neg (hnq r (h2 x k r hr)))]
  rw [e1] at hP hD
  refine ⟨fun x => ?_, fun x k r hr => ?_, h3, hP, hD, hS⟩
  · show x ∈ L ++ [q] ↔ (if x = q then kd else S.2.2.2 x).1 < 10
    by_cases hx : x = q
    · subst hx; simp [hkd]
    · rw [if_neg hx]
      simp only [List.mem_append, List.mem_singleton, hx, or_false]
      exact h1 x
  · have hr' : (if x = q then none else S.2.1 x k) = some r := hr
    split at hr'
    · cases hr'
    · exact ip_ax_nw hkd (h2 x k r hr')
theorem ip_fs_nw {ad : Nat → Nat} {S : ip_S} {q : Nat} {kd : Nat × Nat} : ∀ (ts : List Nat) (k : Nat), ip_fs ad (ip_nw S q kd) q ts k = ts.map (fun t => match t with | 0 => .int 0 | 1 => .null | _ => .long 0)
  | [], k => rfl
  | t :: ts, k => by
    simp only [ip_fs, List.map_cons, ip_fs_nw ts (k + 1)]
    congr 1
    unfold ip_fv
    split <;> simp [ip_nw, va_rf]
def ip_t_new (ci n : Nat) : ip_T := fun N loc st S => ∃ q, 10 ≤ (S.2.2.2 q).1 ∧ q ≠ 99 ∧ N n loc (.inr (.inl (some q)) :: st) (ip_nw S q (ci, 0))
theorem ip_s_new (hx : p.tables.exec = Jvm.exec) (hb : c.code = cc) {own C : String} {T : u_T} {N ci index : Nat} {Ts : List Cond} (hts : ∀ w ∈ Ts, w.before args s = true) (hin : ∀ w ∈ u_ws C T N, w ∈ Ts) (ty : Nat → FieldType) (hty : ∀ k, k < N → parseFieldDescriptor (T k).2.2.1 = some (ty k)) (hown : s.vm.findClass own = some m.cls) (hcl : (Cond.classLink own index C).before args s = true) (hinst : (Cond.instantiable C N).before args s = true) (hini : (Cond.initialized C).before args s = true) (hA : ∀ q, s.heap.size ≤ q → A q) (hIn : ip_In I) (hc0 : vwCl[ci]? = some (C, T, N)) (hci : ci < 6)
    (hdf : ∀ j, j < N → defaultValue (ty j) = vp_V ((ip_ty ci).map (fun t => match t with | 0 => .int 0 | 1 => .null | _ => .long 0)) j) (h1 : (cnt pc).1 + 1 ≤ R.cells) (h2 : (cnt pc).2 + N ≤ R.slots) (hd : decode cc pc = .ok (.new index, 3)) (hc : cnt (pc + 3) = ((cnt pc).1 + 1, (cnt pc).2 + N)) : ip_snd p l e R s m args below meth c D cA A Q nL cnt I ad0 S0 pc (ip_t_new ci (pc + 3)) := by
  intro N' hN loc st S h ad L H locs ls hI hl hst hlo hex hW
  obtain ⟨q, hq, hq9, h⟩ := h
  refine va_new hx hb hts hin ty hty hown hcl hinst hini hW.2.2.1 hW.2.2.2.1 hW.2.2.2.2.1 hW.2.2.2.2.2 hA hc0 hdf h1 h2 hd (fun a0 H1 hP hD hS => ?_)
  have hci' : (ci, 0).1 < 10 := by show ci < 10; omega
  have hW' := hW.new (a0 := a0) (kd := (ci, 0)) hci' hq hq9 (by
    rw [ip_E_obj (ci := ci) (by show (if q = q then (ci, 0) else S.2.2.2 q).1 = ci; rw [if_pos rfl]) hci, ip_fs_nw]) hP hD hS
  have hnq : ∀ x, ip_ax S x → x ≠ q := by
    intro x hx e
    subst e
    rcases hx with hx | hx
    · have : (S.2.2.2 x).1 < 10 := hx
      omega
    · exact hq9 hx
  have he : ∀ x, ip_ax S x → (fun x => if x = q then a0 else ad x) x = ad x := fun x hx => if_neg (hnq x hx)
  have hok : ∀ v, ip_ok S v → ip_ok (ip_nw S q (ci, 0)) v := fun v hv r hr => ip_ax_nw hci' (hv r hr)
  have kk := hN _ _ _ _ h _ _ H1 locs ls (hIn.2.2.2 _ _ _ hI hq) (hl.ext he hlo) (ip_cs (ip_ok_r (Or.inl (by show (if q = q then (ci, 0) else S.2.2.2 q).1 < 10; rw [if_pos rfl]; exact hci'))) (fun v hv => hok v (hst v hv))) (fun v hv => hok v (hlo v hv)) (fun x hx => ⟨ip_ax_nw hci' (hex x hx).1, (he x (hex x hx).1).trans (hex x hx).2⟩) hW'
  rw [hc] at kk
  rw [List.map_cons, ip_st_ext he hst] at kk
  simp only [ip_cv, Option.map_some, if_pos rfl] at kk
  exact kk
/-- a new array of ints (6) or booleans (7) -/
def ip_t_newa (kd len n : Nat) : ip_T := fun N loc st S => match st with
  | .inl x :: r => x = Int32.ofNat len ∧ ∃ q, 10 ≤ (S.2.2.2 q).1 ∧ q ≠ 99 ∧ N n loc (.inr (.inl (some q)) :: r) (ip_nw S q (kd, len))
  | _ => False
theorem ip_s_newi (hx : p.tables.exec = Jvm.exec) (hb : c.code = cc) (harr : (Cond.arrayClass (newarray.typeOf .int)).before args s = true) (hA : ∀ q, s.heap.size ≤ q → A q) (hIn : ip_In I) {len : Nat} (hlen : len ≤ 1000) (h1 : (cnt pc).1 + 1 ≤ R.cells) (h2 : (cnt pc).2 + len ≤ R.slots) (hd : decode cc pc = .ok (.newarray .int, 2)) (hc : cnt (pc + 2) = ((cnt pc).1 + 1, (cnt pc).2 + len)) : ip_snd p l e R s m args below meth c D cA A Q nL cnt I ad0 S0 pc (ip_t_newa 6 len (pc + 2)) := by
  intro N' hN loc st S h ad L H locs ls hI hl hst hlo hex hW
  unfold ip_t_newa at h
  split at h
  · rename_i x r
    obtain ⟨hxl, q, hq, hq9, h⟩ := h
    refine va_newa hx hb (ty := .int) harr rfl hW.2.2.1 hW.2.2.2.1 hW.2.2.2.2.1 hW.2.2.2.2.2 hA (N' := len) (a0 := (len, .inl (fun _ => 0))) (fun _ => rfl) (by rw [hxl]; exact nI_pos (by omega)) (by rw [hxl]; exact nI_clamp (by omega)) (by show len * 4 ≤ 536870912; omega) h1 h2 hd (fun a0 cA' H1 hK' hP hD hS => ?_)
    have hcA : cA' = cA 6 := by
      have e1 := (hK'.2 4 (cA', .int) rfl).2
      have e2 := (hW.2.2.1.2 0 (cA 6, .int) rfl).2
      exact Option.some.inj ((show _ = some cA' from e1).symm.trans e2)
    subst hcA
    have hci' : (6, len).1 < 10 := Nat.lt_of_lt_of_le (Nat.lt_succ_self _) (Nat.le_of_ble_eq_true rfl)
    have hkq : (ip_nw S q (6, len)).2.2.2 q = (6, len) := by show (if q = q then (6, len) else S.2.2.2 q) = _; rw [if_pos rfl]
    have hW' := hW.new (a0 := a0) (kd := (6, len)) hci' hq hq9 (by
      rw [ip_E_ints hkq (by decide) (by decide)]
      congr 4
      funext j
      show (0 : Int32) = if q = q then 0 else S.1 q j
      rw [if_pos rfl]) hP hD hS
    have hnq : ∀ x, ip_ax S x → x ≠ q := by
      intro x hx e
      subst e
      rcases hx with hx | hx
      · have : (S.2.2.2 x).1 < 10 := hx
        omega
      · exact hq9 hx
    have he : ∀ x, ip_ax S x → (fun x => if x = q then a0 else ad x) x = ad x := fun x hx => if_neg (hnq x hx)
    have hok : ∀ v, ip_ok S v → ip_ok (ip_nw S q (6, len)) v := fun v hv r hr => ip_ax_nw hci' (hv r hr)
    have kk := hN _ _ _ _ h _ _ H1 locs ls (hIn.2.2.2 _ _ _ hI hq) (hl.ext he hlo) (ip_cs (ip_ok_r (Or.inl (by show ((ip_nw S q (6, len)).2.2.2 q).1 < 10; rw [hkq]; exact hci'))) (fun v hv => hok v (ip_tl hst v hv))) (fun v hv => hok v (hlo v hv)) (fun x hx => ⟨ip_ax_nw hci' (hex x hx).1, (he x (hex x hx).1).trans (hex x hx).2⟩) hW'
    rw [hc] at kk
    rw [List.map_cons, ip_st_ext he (ip_tl hst)] at kk
    simp only [ip_cv, Option.map_some, if_pos rfl] at kk
    exact kk
  · exact h.elim
theorem ip_s_newz (hx : p.tables.exec = Jvm.exec) (hb : c.code = cc) (harr : (Cond.arrayClass (newarray.typeOf .boolean)).before args s = true) (hA : ∀ q, s.heap.size ≤ q → A q) (hIn : ip_In I) {len : Nat} (hlen : len ≤ 1000) (h1 : (cnt pc).1 + 1 ≤ R.cells) (h2 : (cnt pc).2 + len ≤ R.slots) (hd : decode cc pc = .ok (.newarray .boolean, 2)) (hc : cnt (pc + 2) = ((cnt pc).1 + 1, (cnt pc).2 + len)) : ip_snd p l e R s m args below meth c D cA A Q nL cnt I ad0 S0 pc (ip_t_newa 7 len (pc + 2)) := by
  intro N' hN loc st S h ad L H locs ls hI hl hst hlo hex hW
  unfold ip_t_newa at h
  split at h
  · rename_i x r
    obtain ⟨hxl, q, hq, hq9, h⟩ := h
    refine va_newa hx hb (ty := .boolean) harr rfl hW.2.2.1 hW.2.2.2.1 hW.2.2.2.2.1 hW.2.2.2.2.2 hA (N' := len) (a0 := (len, .inl (fun _ => 0))) (fun _ => rfl) (by rw [hxl]; exact nI_pos (by omega)) (by rw [hxl]; exact nI_clamp (by omega)) (by show len * 1 ≤ 536870912; omega) h1 h2 hd (fun a0 cA' H1 hK' hP hD hS => ?_)
    have hcA : cA' = cA 7 := by
      have e1 := (hK'.2 4 (cA', .boolean) rfl).2
      have e2 := (hW.2.2.1.2 1 (cA 7, .boolean) rfl).2
      exact Option.some.inj ((show _ = some cA' from e1).symm.trans e2)
    subst hcA
    have hci' : (7, len).1 < 10 := Nat.lt_of_lt_of_le (Nat.lt_succ_self _) (Nat.le_of_ble_eq_true rfl)
    have hkq : (ip_nw S q (7, len)).2.2.2 q = (7, len) := by show (if q = q then (7, len) else S.2.2.2 q) = _; rw [if_pos rfl]
    have hW' := hW.new (a0 := a0) (kd := (7, len)) hci' hq hq9 (by
      rw [ip_E_ints hkq (by decide) (by decide)]
      congr 4
      funext j
      show (0 : Int32) = if q = q then 0 else S.1 q j
      rw [if_pos rfl]) hP hD hS
    have hnq : ∀ x, ip_ax S x → x ≠ q := by
      intro x hx e
      subst e
      rcases hx with hx | hx
      · have : (S.2.2.2 x).1 < 10 := hx
        omega
      · exact hq9 hx
    have he : ∀ x, ip_ax S x → (fun x => if x = q then a0 else ad x) x = ad x := fun x hx => if_neg (hnq x hx)
    have hok : ∀ v, ip_ok S v → ip_ok (ip_nw S q (7, len)) v := fun v hv r hr => ip_ax_nw hci' (hv r hr)
    have kk := hN _ _ _ _ h _ _ H1 locs ls (hIn.2.2.2 _ _ _ hI hq) (hl.ext he hlo) (ip_cs (ip_ok_r (Or.inl (by show ((ip_nw S q (7, len)).2.2.2 q).1 < 10; rw [hkq]; exact hci'))) (fun v hv => hok v (ip_tl hst v hv))) (fun v hv => hok v (hlo v hv)) (fun x hx => ⟨ip_ax_nw hci' (hex x hx).1, (he x (hex x hx).1).trans (hex x hx).2⟩) hW'
    rw [hc] at kk
    rw [List.map_cons, ip_st_ext he (ip_tl hst)] at kk
    simp only [ip_cv, Option.map_some, if_pos rfl] at kk
    exact kk
  · exact h.elim
theorem ip_s_newq8 (hx : p.tables.exec = Jvm.exec) (hb : c.code = cc) {own : String} {index : Nat} (hown : s.vm.findClass own = some m.cls) (hclink : (Cond.classLink own index RX0).before args s = true) (hover : va_AO RX0 s) (hA : ∀ q, s.heap.size ≤ q → A q) (hIn : ip_In I) {len : Nat} (hlen : len ≤ 1000) (h1 : (cnt pc).1 + 1 ≤ R.cells) (h2 : (cnt pc).2 + len ≤ R.slots) (hd : decode cc pc = .ok (.anewarray index, 3)) (hc : cnt (pc + 3) = ((cnt pc).1 + 1, (cnt pc).2 + len)) : ip_snd p l e R s m args below meth c D cA A Q nL cnt I ad0 S0 pc (ip_t_newa 8 len (pc + 3)) := by
  intro N' hN loc st S h ad L H locs ls hI hl hst hlo hex hW
  unfold ip_t_newa at h
  split at h
  · rename_i x r
    obtain ⟨hxl, q, hq, hq9, h⟩ := h
    refine va_newq hx hb hown hclink hover hW.2.2.1 hW.2.2.2.1 hW.2.2.2.2.1 hW.2.2.2.2.2 hA (N' := len) (by rw [hxl]; exact nI_pos (by omega)) (by rw [hxl]; exact nI_clamp (by omega)) (by omega) h1 h2 hd (fun a0 cA' H1 hK' hP hD hS => ?_)
    have hcA : cA' = cA 8 := by
      obtain ⟨_, _, _, _, _, e1⟩ := (hK'.2 4 (cA', .object RX0) rfl).2
      obtain ⟨_, _, _, _, _, e2⟩ := (hW.2.2.1.2 2 (cA 8, .object RX0) rfl).2
      exact Option.some.inj (e1.symm.trans e2)
    subst hcA
    have hci' : (8, len).1 < 10 := Nat.lt_of_lt_of_le (Nat.lt_succ_self _) (Nat.le_of_ble_eq_true rfl)
    have hkq : (ip_nw S q (8, len)).2.2.2 q = (8, len) := by show (if q = q then (8, len) else S.2.2.2 q) = _; rw [if_pos rfl]
    have hW' := hW.new (a0 := a0) (kd := (8, len)) hci' hq hq9 (by
      rw [ip_E_refs hkq (by decide)]
      congr 7
      funext j
      show (none : Option Nat) = (if q = q then none else S.2.1 q j).map _
      rw [if_pos rfl]
      rfl) hP hD hS
    have hnq : ∀ x, ip_ax S x → x ≠ q := by
      intro x hx e
      subst e
      rcases hx with hx | hx
      · have : (S.2.2.2 x).1 < 10 := hx
        omega
      · exact hq9 hx
    have he : ∀ x, ip_ax S x → (fun x => if x = q then a0 else ad x) x = ad x := fun x hx => if_neg (hnq x hx)
    have hok : ∀ v, ip_ok S v → ip_ok (ip_nw S q (8, len)) v := fun v hv r hr => ip_ax_nw hci' (hv r hr)
    have kk := hN _ _ _ _ h _ _ H1 locs ls (hIn.2.2.2 _ _ _ hI hq) (hl.ext he hlo) (ip_cs (ip_ok_r (Or.inl (by show ((ip_nw S q (8, len)).2.2.2 q).1 < 10; rw [hkq]; exact hci'))) (fun v hv => hok v (ip_tl hst v hv))) (fun v hv => hok v (hlo v hv)) (fun x hx => ⟨ip_ax_nw hci' (hex x hx).1, (he x (hex x hx).1).trans (hex x hx).2⟩) hW'
    rw [hc] at kk
    rw [List.map_cons, ip_st_ext he (ip_tl hst)] at kk
    simp only [ip_cv, Option.map_some, if_pos rfl] at kk
    exact kk
  · exact h.elim
theorem ip_s_newq9 (hx : p.tables.exec = Jvm.exec) (hb : c.code = cc) {own : String} {index : Nat} (hown : s.vm.findClass own = some m.cls) (hclink : (Cond.classLink own index RX1).before args s = true) (hover : va_AO RX1 s) (hA : ∀ q, s.heap.size ≤ q → A q) (hIn : ip_In I) {len : Nat} (hlen : len ≤ 1000) (h1 : (cnt pc).1 + 1 ≤ R.cells) (h2 : (cnt pc).2 + len ≤ R.slots) (hd : decode cc pc = .ok (.anewarray index, 3)) (hc : cnt (pc + 3) = ((cnt pc).1 + 1, (cnt pc).2 + len)) : ip_snd p l e R s m args below meth c D cA A Q nL cnt I ad0 S0 pc (ip_t_newa 9 len (pc + 3)) := by
  intro N' hN loc st S h ad L H locs ls hI hl hst hlo hex hW
  unfold ip_t_newa at h
  split at h
  · rename_i x r
    obtain ⟨hxl, q, hq, hq9, h⟩ := h
    refine va_newq hx hb hown hclink hover hW.2.2.1 hW.2.2.2.1 hW.2.2.2.2.1 hW.2.2.2.2.2 hA (N' := len) (by rw [hxl]; exact nI_pos (by omega)) (by rw [hxl]; exact nI_clamp (by omega)) (by omega) h1 h2 hd (fun a0 cA' H1 hK' hP hD hS => ?_)
    have hcA : cA' = cA 9 := by
      obtain ⟨_, _, _, _, _, e1⟩ := (hK'.2 4 (cA', .object RX1) rfl).2
      obtain ⟨_, _, _, _, _, e2⟩ := (hW.2.2.1.2 3 (cA 9, .object RX1) rfl).2
      exact Option.some.inj (e1.symm.trans e2)
    subst hcA
    have hci' : (9, len).1 < 10 := Nat.lt_of_lt_of_le (Nat.lt_succ_self _) (Nat.le_of_ble_eq_true rfl)
    have hkq : (ip_nw S q (9, len)).2.2.2 q = (9, len) := by show (if q = q then (9, len) else S.2.2.2 q) = _; rw [if_pos rfl]
    have hW' := hW.new (a0 := a0) (kd := (9, len)) hci' hq hq9 (by
      rw [ip_E_refs hkq (by decide)]
      congr 7
      funext j
      show (none : Option Nat) = (if q = q then none else S.2.1 q j).map _
      rw [if_pos rfl]
      rfl) hP hD hS
    have hnq : ∀ x, ip_ax S x → x ≠ q := by
      intro x hx e
      subst e
      rcases hx with hx | hx
      · have : (S.2.2.2 x).1 < 10 := hx
        omega
      · exact hq9 hx
    have he : ∀ x, ip_ax S x → (fun x => if x = q then a0 else ad x) x = ad x := fun x hx => if_neg (hnq x hx)
    have hok : ∀ v, ip_ok S v → ip_ok (ip_nw S q (9, len)) v := fun v hv r hr => ip_ax_nw hci' (hv r hr)
    have kk := hN _ _ _ _ h _ _ H1 locs ls (hIn.2.2.2 _ _ _ hI hq) (hl.ext he hlo) (ip_cs (ip_ok_r (Or.inl (by show ((ip_nw S q (9, len)).2.2.2 q).1 < 10; rw [hkq]; exact hci'))) (fun v hv => hok v (ip_tl hst v hv))) (fun v hv => hok v (hlo v hv)) (fun x hx => ⟨ip_ax_nw hci' (hex x hx).1, (he x (hex x hx).1).trans (hex x hx).2⟩) hW'
    rw [hc] at kk
    rw [List.map_cons, ip_st_ext he (ip_tl hst)] at kk
    simp only [ip_cv, Option.map_some, if_pos rfl] at kk
    exact kk
  · exact h.elim
end IPA
