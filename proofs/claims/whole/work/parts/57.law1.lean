/-! THE CLAIM OUT OF ONE WALK OF THE LAW'S BODY. Your part is whole_start (and what it stands on); all else here is the same for every law, but numbers. -/
def R_law : String := "IcePadsLaw"
def lw_P (b : Addr) (xs : List Int32) (args : Array Value) (s : State) : Prop := args = #[.ref b] ∧ s.IntsAt b xs ∧ xs.length ≤ 4608 ∧ (Jvm.Cond.and given_1 narrow_1).before args s = true
def lw_Q (_ : Array Value) (s : State) (o : Outcome) (t : State) : Prop := o = .returned (some (.int 1)) ∧ Framed s o t [] 600000 7302250
def lw_Z (below : List Frame) (a : Array Value) (s : State) : State → Prop := fun t => ∃ o, t.status = .running ∧ Ended t below o ∧ lw_Q a s o t
/-- the law's own end, with 1 on the stack, nothing written that was there before, its room as the claim has it -/
theorem lw_ret {p : Program} {l : Launch} {e : Env} {s : State} {m : MethodId} {below : List Frame} {meth : Method} {c : Code} {b : Nat} (hx : p.tables.exec = Jvm.exec) (hb : c.code = code) (hr : meth.sig.returnType = ret) (hlocks : meth.locks = false) {pc : Nat} {H : Heap} {ls : Array Slot} (hdg : decode code pc = .ok (.ireturn, 1)) : W p l e room_1 s m #[Value.ref b] below meth c H [] 600000 7302250 (lw_Z below #[Value.ref b] s) (F0 m pc ls [.int 1]) := by
  intro T hT X
  obtain ⟨fs, hret, hrun, hended, hW, hframe⟩ := X.leave (v := some (.int 1)) (hlocks := hlocks) (fun h => by rw [hr] at h; cases h)
  have hmeth' : T.vm.method? m = some meth := X.method'
  refine ⟨T.setFrames fs, ?_, .returned (some (.int 1)), hrun, hended, rfl, ⟨_, rfl⟩, hW, hframe⟩
  jvm_step X.here [X.here.top, hx, hb, hdg, hmeth', hr, ret, narrow_b1]
  (try refine ⟨rfl, ?_⟩); (try refine ⟨rfl, ?_⟩)
  first | (intro acts; rw [hret _ acts rfl rfl rfl]) | rw [hret _ _ rfl rfl rfl]
  exact Steps.refl _
/-- what holds at the law's entry: the machine, the code, the tables' words (any of lw_tbl by 'hts w (by decide +kernel)'), the script of L ints xs at the cell b, what the Statement gives of the start (any of its parts by flat_of_before) -/
def lw_At (p : Program) (s : State) (m : MethodId) (meth : Method) (c : Code) (b L : Nat) (xs : Nat → Int32) : Prop :=
  p.tables.exec = Jvm.exec ∧ c.code = code ∧ meth.sig.returnType = ret ∧ c.maxLocals = 4 ∧ s.vm.findClass R_law = some m.cls ∧ (∀ w ∈ lw_tbl, w.before #[Value.ref b] s = true) ∧ va_X b L xs s s.heap ∧ b < s.heap.size ∧ meth.locks = false ∧ (Jvm.Cond.and given_1 narrow_1).before #[Value.ref b] s = true
/-! THE LAW'S OWN RULES -/
section IPL
variable {p : Program} {l : Launch} {e : Env} {R : Room} {s : State} {m : MethodId} {args : Array Value} {below : List Frame} {meth : Method} {c : Code} {D : va_G} {cA : Nat → ClassId} {A : Nat → Prop} {Q : State → Prop} {nL : Nat} {cnt : Nat → Nat × Nat} {I : ip_S → Prop} {ad0 : Nat → Nat} {S0 : ip_S}
variable {cc : ByteArray} {pc : Nat}
def ip_t_sld (L : Nat) (xs : Nat → Int32) (n : Nat) : ip_T := fun N loc st S => match st with
  | .inl i :: .inr (.inl (some q)) :: r => bif Nat.beq q 99 then (vp_in i L ∧ N n loc (.inl (xs i.toNatClampNeg) :: r) S) else False
  | _ => False
theorem ip_s_sld (hx : p.tables.exec = Jvm.exec) (hb : c.code = cc) {b L : Nat} {xs : Nat → Int32} (hX : va_X b L xs s s.heap) (hbl : b < s.heap.size) (hbA : ¬ A b) (h0 : ad0 99 = b) (hd : decode cc pc = .ok (.iaload, 1)) (hc : cnt (pc + 1) = cnt pc) : ip_snd p l e R s m args below meth c D cA A Q nL cnt I ad0 S0 pc (ip_t_sld L xs (pc + 1)) := by
  intro N hN loc st S h ad L' H locs ls hI hl hst hlo hex hW
  unfold ip_t_sld at h
  split at h
  · rename_i i q r
    cases hq : Nat.beq q 99 with
    | false => rw [hq] at h; exact h.elim
    | true =>
      rw [hq] at h
      have e99 : q = 99 := Nat.eq_of_beq_eq_true hq
      subst e99
      have had : ad 99 = b := (hex 99 (Or.inr rfl)).2.trans h0
      have k := hN _ _ _ _ h.2 ad L' H locs ls hI hl (ip_cs ip_ok_i (ip_tl (ip_tl hst))) hlo hex hW
      rw [hc] at k
      have hg : (F0 m pc ls (List.map (ip_cv ad) (Sum.inl i :: Sum.inr (Sum.inl (some 99)) :: r))) = F0 m pc ls (.int i :: .ref b :: r.map (ip_cv ad)) := by
        show F0 m pc ls (.int i :: .ref (ad 99) :: r.map (ip_cv ad)) = _
        rw [had]
      rw [hg]
      exact va_sld hx hb hX hbl hbA hW.2.2.2.2.2 h.1 hd k
  · exact h.elim
def ip_t_sln (L n : Nat) : ip_T := fun N loc st S => match st with
  | .inr (.inl (some q)) :: r => bif Nat.beq q 99 then N n loc (.inl (nI L) :: r) S else False
  | _ => False
theorem ip_s_sln (hx : p.tables.exec = Jvm.exec) (hb : c.code = cc) {b L : Nat} {xs : Nat → Int32} (hX : va_X b L xs s s.heap) (hbl : b < s.heap.size) (hbA : ¬ A b) (h0 : ad0 99 = b) (hd : decode cc pc = .ok (.arraylength, 1)) (hc : cnt (pc + 1) = cnt pc) : ip_snd p l e R s m args below meth c D cA A Q nL cnt I ad0 S0 pc (ip_t_sln L (pc + 1)) := by
  intro N hN loc st S h ad L' H locs ls hI hl hst hlo hex hW
  unfold ip_t_sln at h
  split at h
  · rename_i q r
    cases hq : Nat.beq q 99 with
    | false => rw [hq] at h; exact h.elim
    | true =>
      rw [hq] at h
      have e99 : q = 99 := Nat.eq_of_beq_eq_true hq
      subst e99
      have had : ad 99 = b := (hex 99 (Or.inr rfl)).2.trans h0
      have k := hN _ _ _ _ h ad L' H locs ls hI hl (ip_cs ip_ok_i (ip_tl hst)) hlo hex hW
      rw [hc] at k
      have hg : (F0 m pc ls (List.map (ip_cv ad) (Sum.inr (Sum.inl (some 99)) :: r))) = F0 m pc ls (.ref b :: r.map (ip_cv ad)) := by
        show F0 m pc ls (.ref (ad 99) :: r.map (ip_cv ad)) = _
        rw [had]
      rw [hg]
      exact va_slen hx hb hX hbl hbA hW.2.2.2.2.2 hd k
  · exact h.elim
theorem ip_s_iceqW (hx : p.tables.exec = Jvm.exec) (hb : c.code = cc) {off : Int} {t : Nat} (hd : decode cc pc = .ok (.if_icmp .eq off, 3)) (ht : (pc : Int) + off = (t : Int)) (hc : cnt (pc + 3) = cnt pc) (h1 : (cnt pc).1 ≤ (cnt t).1) (h2 : (cnt pc).2 ≤ (cnt t).2) : ip_snd p l e R s m args below meth c D cA A Q nL cnt I ad0 S0 pc (ip_t_iceq t (pc + 3)) := by
  intro N hN loc st S h ad L H locs ls hI hl hst hlo hex hW
  unfold ip_t_iceq at h
  split at h
  · refine lv_icmp_eq hx hb hd ht (fun q => ?_) (fun q => ?_)
    · have k := hN _ _ _ _ (h.1 q) ad L H locs ls hI hl (ip_tl (ip_tl hst)) hlo hex hW
      exact W.widen h1 h2 k
    · have k := hN _ _ _ _ (h.2 q) ad L H locs ls hI hl (ip_tl (ip_tl hst)) hlo hex hW
      rw [hc] at k
      exact k
  · exact h.elim
theorem ip_s_ifeqW (hx : p.tables.exec = Jvm.exec) (hb : c.code = cc) {off : Int} {t : Nat} (hd : decode cc pc = .ok (.ifCond .eq off, 3)) (ht : (pc : Int) + off = (t : Int)) (hc : cnt (pc + 3) = cnt pc) (h1 : (cnt pc).1 ≤ (cnt t).1) (h2 : (cnt pc).2 ≤ (cnt t).2) : ip_snd p l e R s m args below meth c D cA A Q nL cnt I ad0 S0 pc (ip_t_ifeq t (pc + 3)) := by
  intro N hN loc st S h ad L H locs ls hI hl hst hlo hex hW
  unfold ip_t_ifeq at h
  split at h
  · refine lv_if_eq hx hb hd ht (fun q => ?_) (fun q => ?_)
    · have k := hN _ _ _ _ (h.1 q) ad L H locs ls hI hl (ip_tl hst) hlo hex hW
      exact W.widen h1 h2 k
    · have k := hN _ _ _ _ (h.2 q) ad L H locs ls hI hl (ip_tl hst) hlo hex hW
      rw [hc] at k
      exact k
  · exact h.elim
theorem ip_s_swW (hx : p.tables.exec = Jvm.exec) (hb : c.code = cc) {dflt lo hi : Int} {offs : Array Int} {len d : Nat} {ts : List (Int32 × Nat)} (n : Nat) (hd : decode cc pc = .ok (.tableswitch dflt lo hi offs, len)) (hdt : (pc : Int) + dflt = (d : Int)) (h1 : ∀ q ∈ ts, lo ≤ q.1.toInt ∧ q.1.toInt ≤ hi ∧ offs[(q.1.toInt - lo).toNat]? = some ((q.2 : Int) - pc)) (h2 : ∀ j, j < n → ∃ q ∈ ts, q.1.toInt = lo + (j : Int)) (hn : hi < lo + n) (hd1 : (cnt pc).1 ≤ (cnt d).1) (hd2 : (cnt pc).2 ≤ (cnt d).2) (hct : ∀ q ∈ ts, cnt q.2 = cnt pc) : ip_snd p l e R s m args below meth c D cA A Q nL cnt I ad0 S0 pc (ip_t_sw ts d) := by
  intro N hN loc st S h ad L H locs ls hI hl hst hlo hex hW
  unfold ip_t_sw at h
  split at h
  · rename_i x r
    rcases ip_sw_or h with ⟨q, hq, hxq, hk⟩ | ⟨hno, hk⟩
    · obtain ⟨a1, a2, a3⟩ := h1 q hq
      have k := hN _ _ _ _ hk ad L H locs ls hI hl (ip_tl hst) hlo hex hW
      rw [hct q hq] at k
      subst hxq
      exact lv_tableIn hx hb hd (by omega) (by omega) a3 (by omega) k
    · have k := hN _ _ _ _ hk ad L H locs ls hI hl (ip_tl hst) hlo hex hW
      refine lv_tableOut hx hb hd ?_ hdt (W.widen hd1 hd2 k)
      by_cases hlo : x.toInt < lo
      · exact Or.inl hlo
      · right
        refine Int.lt_of_not_ge (fun hge => ?_)
        obtain ⟨q, hq, hqe⟩ := h2 (x.toInt - lo).toNat (by omega)
        exact hno q hq (Int32.toInt_inj.mp (by rw [hqe]; omega))
  · exact h.elim
/-- the law's end -/
def ip_t_lend : ip_T := fun _ _ st _ => match st with
  | [.inl v] => v = 1
  | _ => False
theorem ip_s_lend {b : Nat} (hx : p.tables.exec = Jvm.exec) (hb : c.code = code) (hr : meth.sig.returnType = ret) (hlocks : meth.locks = false) (hA : ∀ q, A q → s.heap.size ≤ q) (h1 : (cnt pc).1 ≤ 600000) (h2 : (cnt pc).2 ≤ 7302250) (hd : decode code pc = .ok (.ireturn, 1)) : ip_snd p l e room_1 s m #[Value.ref b] below meth c D cA A (lw_Z below #[Value.ref b] s) nL cnt I ad0 S0 pc ip_t_lend := by
  intro N hN loc st S h ad L H locs ls hI hl hst hlo hex hW
  unfold ip_t_lend at h
  split at h
  · subst h
    refine va_forget (fun q hq => hA _ (hW.2.2.2.2.2.2.2 q hq)) (W.widen h1 h2 ?_)
    exact lw_ret hx hb hr hlocks hd
  · exact h.elim
theorem ip_K_cnt {cnt' : Nat → Nat × Nat} {loc : List (Option ip_V)} {st : List ip_V} {S : ip_S} (h : cnt pc = cnt' pc) (k : ip_K p l e R s m args below meth c D cA A Q nL cnt I ad0 S0 pc loc st S) : ip_K p l e R s m args below meth c D cA A Q nL cnt' I ad0 S0 pc loc st S := by
  intro ad L H locs ls hI hl hst hlo hex hW
  have := k ad L H locs ls hI hl hst hlo hex hW
  rw [h] at this
  exact this
theorem ip_K_I {I' : ip_S → Prop} {loc : List (Option ip_V)} {st : List ip_V} {S : ip_S} (h : I S) (k : ip_K p l e R s m args below meth c D cA A Q nL cnt I ad0 S0 pc loc st S) : ip_K p l e R s m args below meth c D cA A Q nL cnt I' ad0 S0 pc loc st S :=
  fun ad L H locs ls _ hl hst hlo hex hW => k ad L H locs ls h hl hst hlo hex hW
end IPL
/-- what holds between the calls -/
def ip_J (S : ip_S) : Prop := ∃ M, ip_cR M S ∧ ip_eM M S ∧ S.2.2.1 0 13 = S.2.2.1 50 27 ∧ ∀ x, x < 5 → S.1 10 x = 0
theorem ip_J_mv {M M' : ip_M} {S S1 S2 : ip_S} (h1 : S.2.2.1 0 13 = S.2.2.1 50 27) (h2 : ∀ x, x < 5 → S.1 10 x = 0) (hR : ip_cR M S1) (hf : ip_fC S S1) (hE : ip_EM M' S1 S2) (hq : ip_cR M S2 → ip_cR M' S2) : ip_J S2 := by
  refine ⟨M', hq (hR.fM hE.2), hE.1, ?_, fun x hx => ?_⟩
  · rw [show S2.2.2.1 = S1.2.2.1 by rw [hE.2.2], hf.2 0 (Or.inl rfl), hf.2 50 (Or.inr rfl)]
    exact h1
  · rw [hE.2.1 10 (by decide), hf.1 10 (Or.inr rfl)]
    exact h2 x hx
theorem lg_cmp_rf (x : Int64) : lg_cmp x x = 0 := by
  unfold lg_cmp
  rw [if_neg (fun z => Int64.lt_irrefl z), if_pos rfl]
