/-! contracts with a number picture beside them -/
def ip_t_callG {Θ : Type} (na : Nat) (pre : Θ → List ip_V → ip_S → Prop) (post : Θ → List ip_V → ip_S → List ip_V → ip_S → Prop) (n : Nat) : ip_T := fun N loc st S => ∃ θ, ip_t_call na (pre θ) (post θ) n N loc st S
theorem ip_s_G {p : Program} {l : Launch} {e : Env} {R : Room} {s : State} {m : MethodId} {args : Array Value} {below : List Frame} {meth : Method} {c : Code} {D : va_G} {cA : Nat → ClassId} {A : Nat → Prop} {Q : State → Prop} {nL : Nat} {cnt : Nat → Nat × Nat} {I : ip_S → Prop} {ad0 : Nat → Nat} {S0 : ip_S} {pc : Nat} {Θ : Type} {na n : Nat} {pre : Θ → List ip_V → ip_S → Prop} {post : Θ → List ip_V → ip_S → List ip_V → ip_S → Prop}
    (h : ∀ θ, ip_snd p l e R s m args below meth c D cA A Q nL cnt I ad0 S0 pc (ip_t_call na (pre θ) (post θ) n)) : ip_snd p l e R s m args below meth c D cA A Q nL cnt I ad0 S0 pc (ip_t_callG na pre post n) :=
  fun N hN loc st S ⟨θ, hθ⟩ => h θ N hN loc st S hθ
/-! THE NUMBER PICTURE: M p i, by the reference's places -/
abbrev ip_M : Type := Nat → Nat → Int32
def ip_u (M : ip_M) (p k : Nat) (v : Int32) : ip_M := fun q j => if q = p ∧ j = k then v else M q j
theorem ip_u_same {M : ip_M} {p k : Nat} {v : Int32} : ip_u M p k v p k = v := by simp [ip_u]
theorem ip_u_ne {M : ip_M} {p k q j : Nat} {v : Int32} (h : ¬ (q = p ∧ j = k)) : ip_u M p k v q j = M q j := by simp only [ip_u, if_neg h]
theorem ip_u_p {M : ip_M} {p k q j : Nat} {v : Int32} (h : q ≠ p) : ip_u M p k v q j = M q j := ip_u_ne (fun z => h z.1)
theorem ip_u_P {M : ip_M} {p k q : Nat} {v : Int32} (h : q ≠ p) : ip_u M p k v q = M q := funext (fun _ => ip_u_p h)
theorem ip_u_k {M : ip_M} {p k q j : Nat} {v : Int32} (h : j ≠ k) : ip_u M p k v q j = M q j := ip_u_ne (fun z => h z.2)
/-- the reference's cells hold M -/
def ip_eM (M : ip_M) (S : ip_S) : Prop := ∀ p, 50 ≤ p → S.1 p = M p
/-- only the reference's numbers changed -/
def ip_fM (S S' : ip_S) : Prop := (∀ p, p < 50 → S'.1 p = S.1 p) ∧ S'.2 = S.2
def ip_EM (M : ip_M) (S0 S : ip_S) : Prop := ip_eM M S ∧ ip_fM S0 S
theorem ip_fM.rf {S : ip_S} : ip_fM S S := ⟨fun _ _ => rfl, rfl⟩
theorem ip_fM.tr {S S1 S2 : ip_S} (h : ip_fM S S1) (h2 : ip_fM S1 S2) : ip_fM S S2 := ⟨fun p hp => (h2.1 p hp).trans (h.1 p hp), h2.2.trans h.2⟩
theorem ip_EM.rf {M : ip_M} {S : ip_S} (h : ip_eM M S) : ip_EM M S S := ⟨h, ip_fM.rf⟩
theorem ip_EM.u {M : ip_M} {S0 S : ip_S} (h : ip_EM M S0 S) {p : Nat} (hp : 50 ≤ p) (k : Nat) (v : Int32) : ip_EM (ip_u M p k v) S0 (ip_sI S p k v) := by
  refine ⟨fun q hq => funext (fun j => ?_), fun q hq => (funext (fun j => ?_)).trans (h.2.1 q hq), h.2.2⟩
  · show (if q = p ∧ j = k then v else S.1 q j) = (if q = p ∧ j = k then v else M q j)
    rw [h.1 q hq]
  · show (if q = p ∧ j = k then v else S.1 q j) = S.1 q j
    rw [if_neg (fun z => by omega)]
theorem ip_EM.tr {M M1 : ip_M} {S0 S S1 : ip_S} (h : ip_EM M S0 S) (h1 : ip_EM M1 S S1) : ip_EM M1 S0 S1 := ⟨h1.1, h.2.tr h1.2⟩
/-! what a picture always keeps -/
def ip_vn (M : ip_M) (nf nj np : Nat) : Prop := M 50 4 = nI nf ∧ nf ≤ 4 ∧ M 50 15 = nI nj ∧ nj ≤ 12 ∧ M 50 10 = nI np ∧ 1 ≤ np ∧ np ≤ 3
def ip_vw (M : ip_M) : Prop := ∀ i, ¬ M 51 i = 0 → -30 ≤ (M 52 i).toInt ∧ (M 52 i).toInt ≤ 5 ∧ 0 ≤ (M 53 i).toInt ∧ (M 53 i).toInt ≤ 3
def ip_vs (M : ip_M) : Prop := (0 ≤ (M 50 0).toInt ∧ (M 50 0).toInt ≤ 299) ∧ (10 ≤ (M 50 11).toInt ∧ (M 50 11).toInt ≤ 1000) ∧ (0 ≤ (M 50 12).toInt ∧ (M 50 12).toInt ≤ 50) ∧ (0 ≤ (M 50 13).toInt ∧ (M 50 13).toInt ≤ 1000)
def ip_vf (M : ip_M) (nf : Nat) : Prop := ∀ i, i < nf → (M 55 i = 0 ∨ M 55 i = 1 ∨ M 55 i = 2) ∧ (∀ j, j < 4 → 0 ≤ (M 56 (4 * i + j)).toInt ∧ (M 56 (4 * i + j)).toInt ≤ 100) ∧ (¬ M 55 i = 0 → 1 ≤ (M 57 i).toInt ∧ (M 57 i).toInt ≤ 4) ∧ (M 55 i = 2 → 1 ≤ (M 58 i).toInt ∧ (M 58 i).toInt ≤ 10)
def ip_vj (M : ip_M) (nf nj : Nat) : Prop := ∀ j, j < nj → (1 ≤ (M 66 j).toInt ∧ (M 66 j).toInt ≤ 5) ∧ (1 ≤ (M 69 j).toInt ∧ (M 69 j).toInt ≤ 20) ∧ (0 ≤ (M 67 j).toInt ∧ (M 67 j).toInt ≤ 299) ∧ ((M 67 j).toInt ≤ (M 68 j).toInt ∧ (M 68 j).toInt ≤ 319) ∧ (∃ f, f < nf ∧ M 70 j = nI f) ∧ (M 71 j = 0 ∨ M 71 j = 1 ∨ M 71 j = 2) ∧ (M 71 j = 1 → (0 ≤ (M 72 j).toInt ∧ (M 72 j).toInt ≤ 299) ∧ (M 50 0).toInt ≤ (M 72 j).toInt + 2 * (M 66 j).toInt ∧ (M 68 j).toInt ≤ (M 50 0).toInt ∧ (0 ≤ (M 73 j).toInt ∧ (M 73 j).toInt ≤ 400)) ∧ (M 71 j = 2 ↔ ¬ M 75 j = -900)
def ip_vp (M : ip_M) (nj np : Nat) : Prop := (∀ p, p < 3 → M 64 p = 0 ∨ (p < np ∧ ∃ j, j < nj ∧ M 64 p = nI (j + 1) ∧ M 71 j = 1)) ∧ (∀ j, j < nj → M 71 j = 1 → ∃ p, p < np ∧ M 64 p = nI (j + 1)) ∧ ∀ p q, p < 3 → q < 3 → M 64 p = M 64 q → ¬ M 64 p = 0 → p = q
def ip_vv (M : ip_M) (nf nj np : Nat) : Prop := ip_vn M nf nj np ∧ ip_vw M ∧ ip_vs M ∧ ip_vf M nf ∧ ip_vj M nf nj ∧ ip_vp M nj np
