/-! ===== reading the line: where the reference stands ===== -/
abbrev PO := Int32 × (Nat → Int32) × (Nat → Int32) × (Nat → Int32) × (Nat → Int32) × (Nat → Int32) × (Nat → Int32) × (Nat → Int32) × (Nat → Int32) × (Nat → Int32) × (Nat → Int32) × (Nat → Int32) × (Nat → Int32) × (Nat → Int32) × Int32 × Int32
abbrev PE := (Nat → Int32) → (Nat → Int32) → (Nat → Int32) → (Nat → Int32) → (Nat → Int32) → (Nat → Int32) → (Nat → Int32) → (Nat → Int32) → (Nat → Int32) → (Nat → Int32) → (Nat → Int32) → (Nat → Int32) → (Nat → Int32) → Int32 → Int32 → Option PO
def tb5 (a0 a1 a2 a3 a4 : Nat → Int32) : TT
  | 0 => a0
  | 1 => a1
  | 2 => a2
  | 3 => a3
  | _ => a4
def EF : PE := fun fo k o th sg pl lf rt ty su si sa pr op pos => some ((-1), fo, k, o, th, sg, pl, lf, rt, ty, su, si, sa, pr, op, pos)
def EE : PE := fun fo k o th sg pl lf rt ty su si sa pr op pos => bnd10 (fX7_adds fo k o th sg pl lf rt su si sa pr op) (fun fo k o th sg pl lf rt su pr => (if op = 0 then gi 0 9 (some (su (0 : Int32).toNatClampNeg, fo, k, o, th, sg, pl, lf, rt, ty, su, si, sa, pr, op, pos)) else some ((-1), fo, k, o, th, sg, pl, lf, rt, ty, su, si, sa, pr, op, pos)))
def Econt (ML : Nat → Int32) (len : Int32) (f : Nat) : Int32 → PE := fun v1 fo k o th sg pl lf rt ty su si sa pr op pos => (if v1 = (-1) then EF fo k o th sg pl lf rt ty su si sa pr op pos else (if pos = len then EE fo k o th sg pl lf rt ty su si sa pr op pos else bnd14 (fX7_follows ML fo k o th sg pl lf rt su si sa pr len op pos) (fun r31 fo k o th sg pl lf rt su si sa pr pos => (if r31 = 0 then EF fo k o th sg pl lf rt ty su si sa pr op pos else LX7_reads_47 ML len EF EE EF EF f fo k o th sg pl lf rt ty su si sa pr op pos))))
/-- behind a base: its power comes -/
def cPw (ML : Nat → Int32) (len : Int32) (f h : Nat) (its : Int32) (t s : TT) (d a : Nat) : Option PO := bnd6 (fX7_power its ML (t 0) (t 1) (t 2) (t 3) len (nI a)) (fun r fo k o th pos => (if r = (-1) then LX7_reads_74 ML len (Econt ML len f) h r 0 fo k o th (t 4) (t 5) (t 6) (t 7) (s 0) (s 1) (s 2) (s 3) (s 4) (nI d) pos else LX7_reads_74 ML len (Econt ML len f) h r 1 fo k o th (t 4) (t 5) (t 6) (t 7) (s 0) (s 1) (s 2) (s 3) (s 4) (nI d) pos))
/-- behind a part -/
def cG (ML : Nat → Int32) (len : Int32) (f h : Nat) (its : Int32) (t s : TT) (d a : Nat) : Option PO := LX7_reads_74 ML len (Econt ML len f) h its 1 (t 0) (t 1) (t 2) (t 3) (t 4) (t 5) (t 6) (t 7) (s 0) (s 1) (s 2) (s 3) (s 4) (nI d) (nI a)
/-- behind a product -/
def cC (ML : Nat → Int32) (len : Int32) (f h : Nat) (v1 : Int32) (t s : TT) (d a : Nat) : Option PO := bnd1 (fX7_sign ML len (nI a)) (fun r19 => (if r19 = 41 then (if nI d ≤ 0 then LX7_reads_74 ML len (Econt ML len f) h v1 0 (t 0) (t 1) (t 2) (t 3) (t 4) (t 5) (t 6) (t 7) (s 0) (s 1) (s 2) (s 3) (s 4) (nI d) (nI a) else bnd10 (fX7_adds (t 0) (t 1) (t 2) (t 3) (t 4) (t 5) (t 6) (t 7) (s 1) (s 2) (s 3) (s 4) (nI d)) (fun fo k o th sg pl lf rt su pr => gi (nI d) 9 (bnd6 (fX7_power (su (nI d).toNatClampNeg) ML fo k o th len (nI a + 1)) (fun r24 fo k o th pos => (if r24 = (-1) then LX7_reads_74 ML len (Econt ML len f) h r24 0 fo k o th sg pl lf rt (s 0) su (s 2) (s 3) pr (nI d - 1) pos else LX7_reads_74 ML len (Econt ML len f) h r24 1 fo k o th sg pl lf rt (s 0) su (s 2) (s 3) pr (nI d - 1) pos))))) else LX7_reads_74 ML len (Econt ML len f) h v1 0 (t 0) (t 1) (t 2) (t 3) (t 4) (t 5) (t 6) (t 7) (s 0) (s 1) (s 2) (s 3) (s 4) (nI d) (nI a)))
def bE27 : (Nat → Int32) → (Nat → Int32) → (Nat → Int32) → Int32 → Int32 → Option (Int32 × (Nat → Int32) × (Nat → Int32) × (Nat → Int32) × Int32 × Int32) := fun ty su pr op pos => some (0, ty, su, pr, op, pos)
def bE60 (ML : Nat → Int32) (len : Int32) : (Nat → Int32) → (Nat → Int32) → (Nat → Int32) → Int32 → Int32 → Option (Int32 × (Nat → Int32) × (Nat → Int32) × (Nat → Int32) × Int32 × Int32) := fun ty su pr op pos => bnd1 (fX7_sign ML len pos) (fun r9 => bnd1 (fX7_isDigit r9) (fun r10 => (if r10 = 0 then bnd1 (fX7_sign ML len pos) (fun r12 => bnd1 (fX7_isIn r12 97 102) (fun r13 => (if r13 = 0 then some (0, ty, su, pr, op, pos) else some (1, ty, su, pr, op, pos)))) else some (1, ty, su, pr, op, pos))))
/-- before a base -/
def cB (ML : Nat → Int32) (len : Int32) (f g : Nat) (t s : TT) (d a : Nat) : Option PO := bnd6 (LX7_begins_0 ML len bE27 (bE60 ML len) g (s 0) (s 1) (s 4) (nI d) (nI a)) (fun r6 ty su pr op pos => (if r6 = 0 then EF (t 0) (t 1) (t 2) (t 3) (t 4) (t 5) (t 6) (t 7) ty su (s 2) (s 3) pr op pos else bnd6 (fX7_atom ML (t 0) (t 1) (t 2) (t 3) len pos) (fun r8 fo k o th pos => bnd6 (fX7_power r8 ML fo k o th len pos) (fun r9 fo k o th pos => (if r9 = (-1) then LX7_reads_74 ML len (Econt ML len f) 1000 r9 0 fo k o th (t 4) (t 5) (t 6) (t 7) ty su (s 2) (s 3) pr op pos else LX7_reads_74 ML len (Econt ML len f) 1000 r9 1 fo k o th (t 4) (t 5) (t 6) (t 7) ty su (s 2) (s 3) pr op pos)))))
theorem reads47_B (ML : Nat → Int32) (len : Int32) (f : Nat) (t s : TT) (d a : Nat) : LX7_reads_47 ML len EF EE EF EF (f + 1) (t 0) (t 1) (t 2) (t 3) (t 4) (t 5) (t 6) (t 7) (s 0) (s 1) (s 2) (s 3) (s 4) (nI d) (nI a) = cB ML len f 1000 t s d a := by
  rw [LX7_reads_47]
  rfl
/-- the rows of the models that stand are left alone -/
def LowZ (Z t : TT) : Prop := (∀ j, j < 8 → t 0 j = Z 0 j ∧ t 4 j = Z 4 j) ∧ ∀ j, j < 512 → t 1 j = Z 1 j ∧ t 2 j = Z 2 j ∧ t 3 j = Z 3 j ∧ t 5 j = Z 5 j ∧ t 6 j = Z 6 j ∧ t 7 j = Z 7 j
def faultAt (Z : TT) (x : Option PO) (a : Nat) : Prop := ∃ (t s : TT) (op : Int32), x = EF (t 0) (t 1) (t 2) (t 3) (t 4) (t 5) (t 6) (t 7) (s 0) (s 1) (s 2) (s 3) (s 4) op (nI a) ∧ LowZ Z t
def Rl (Z q t : TT) (n ns a : Nat) : Prop := n ≤ a ∧ ns ≤ a ∧ a ≤ 60 ∧ t 0 8 = nI n ∧ t 4 8 = nI ns ∧ RowsRel n 512 (q 0) (q 1) (q 2) (t 1) (t 2) (t 3) ∧ (∀ j, j < n → ∃ p, p < a ∧ q 3 j = nI p) ∧ SignsRel n ns 512 (q 0) (q 1) (q 2) (q 3) (t 6) (t 7) (t 5) ∧ LowZ Z t
theorem Rl_mono {Z q t : TT} {n ns a a' : Nat} (h : Rl Z q t n ns a) (h1 : a ≤ a') (h2 : a' ≤ 60) : Rl Z q t n ns a' := by
  obtain ⟨r1, r2, r3, r4, r5, r6, r7, r8, r9⟩ := h
  exact ⟨by omega, by omega, h2, r4, r5, r6, fun j hj => (r7 j hj).elim fun p hp => ⟨p, by omega, hp.2⟩, r8, r9⟩
def FrJ (s s' : TT) (j : Nat) : Prop := s' 0 j = s 0 j ∧ s' 1 j = s 1 j ∧ s' 2 j = s 2 j ∧ s' 3 j = s 3 j ∧ s' 4 j = s 4 j
theorem FrJ_refl (s : TT) (j : Nat) : FrJ s s j := ⟨rfl, rfl, rfl, rfl, rfl⟩
theorem FrJ_trans {s s' s'' : TT} {j : Nat} (h : FrJ s s' j) (h' : FrJ s' s'' j) : FrJ s s'' j := ⟨h'.1.trans h.1, h'.2.1.trans h.2.1, h'.2.2.1.trans h.2.2.1, h'.2.2.2.1.trans h.2.2.2.1, h'.2.2.2.2.trans h.2.2.2.2⟩
/-- how far it came -/
def Num (n0 ns0 a0 n ns a j : Nat) (q0 q : TT) : Prop := a0 < a ∧ n0 ≤ n ∧ n + a0 ≤ n0 + a ∧ ns + a0 ≤ ns0 + a ∧ j < n ∧ (n = n0 ∨ j + 1 = n) ∧ Ext n0 q0 q
abbrev CY := Int32 × Int32 × (Nat → Int32) × (Nat → Int32) × (Nat → Int32) × (Nat → Int32) × Int32
def cFault (y : Option CY) (a : Nat) : Prop := ∃ (k l r p : Nat → Int32) (m : Int32), y = some ((-1), nI a, k, l, r, p, m)
/-- a row with an operand that is the last one is new -/
theorem row_left {n k2 : Nat} {k l r : Int32} (h : rowOK n k l r) (hk : ¬ k = 0 ∧ ¬ k = 1) {u : Nat} (hu : u < 2 ^ 31) (e : l = nI u) (_ : k2 = 0) (hn : n < 2 ^ 31) : u < n := by
  rcases h with ⟨hk1, hr⟩ | ⟨hk1, hr, j, hj, hl⟩ | ⟨hk1, hr, a, ha, hl⟩ | ⟨hk1, a, b, ha, hb, hl, hr⟩ | ⟨hk1, a, x, ha, he, hl, hr⟩
  · exact absurd hk1 hk.1
  · exact absurd hk1 hk.2
  · have := (nI_eq hu (by omega)).mp (e.symm.trans hl); omega
  · have := (nI_eq hu (by omega)).mp (e.symm.trans hl); omega
  · have := (nI_eq hu (by omega)).mp (e.symm.trans hl); omega
theorem row_right {n : Nat} {k l r : Int32} (h : rowOK n k l r) (hk : k = 3 ∨ k = 4 ∨ k = 5) {u : Nat} (hu : u < 2 ^ 31) (e : r = nI u) (hn : n < 2 ^ 31) : u < n := by
  rcases h with ⟨hk1, hr⟩ | ⟨hk1, hr, j, hj, hl⟩ | ⟨hk1, hr, a, ha, hl⟩ | ⟨hk1, a, b, ha, hb, hl, hr⟩ | ⟨hk1, a, x, ha, he, hl, hr⟩
  · rw [hk1] at hk; exact absurd hk (by decide)
  · rw [hk1] at hk; exact absurd hk (by decide)
  · rw [hk1] at hk; exact absurd hk (by decide)
  · have := (nI_eq hu (by omega)).mp (e.symm.trans hr); omega
  · rw [hk1] at hk; exact absurd hk (by decide)
/-- one more row that is no sign's -/
theorem add_plain {Z q t : TT} {n ns a : Nat} (h : Rl Z q t n ns a) {k l r : Int32} (hk : rowOK n k l r) (h3 : ¬ (k = 3 ∨ k = 4)) {p a' : Nat} (hp : p < a') (ha : n + 1 ≤ a') (h60 : a' ≤ 60) (haa : a ≤ a') :
    ∃ (j n' : Nat) (q' t' : TT), fX3_add k l r (nI p) (q 0) (q 1) (q 2) (q 3) (nI n) = some (nI j, q' 0, q' 1, q' 2, q' 3, nI n') ∧ fX7_formula (km k) l r (t 0) (t 1) (t 2) (t 3) = some (nI j, t' 0, t' 1, t' 2, t' 3) ∧ t' 4 = t 4 ∧ t' 5 = t 5 ∧ t' 6 = t 6 ∧ t' 7 = t 7 ∧
      Rl Z q' t' n' ns a' ∧ j < n' ∧ Ext n q q' ∧ q' 0 j = k ∧ q' 1 j = l ∧ q' 2 j = r ∧ (n' = n ∨ (n' = n + 1 ∧ j + 1 = n')) := by
  obtain ⟨r1, r2, r3, r4, r5, r6, r7, r8, r9⟩ := h
  obtain ⟨j, n', q', t0, t1, t2, t3, e1, e2, b1, b2, b3, b4, b5, b6, b7, b8, b9, b10⟩ := add_both (show n < 60 by omega) r6 r4 hk (nI p)
  refine ⟨j, n', q', tb8 t0 t1 t2 t3 (t 4) (t 5) (t 6) (t 7), e1, e2, rfl, rfl, rfl, rfl, ⟨by omega, by omega, h60, b4, r5, b3, fun i hi => ?_, ⟨fun i hi => ?_, fun i hi => ?_, fun i hi h4 => ?_⟩, ⟨fun i hi => ⟨(b5 i hi).trans (r9.1 i hi).1, (r9.1 i hi).2⟩, fun i hi => ?_⟩⟩, b1, b2, b7, b8, b9, b10.elim (fun y => Or.inl y.1) (fun y => Or.inr ⟨y.1, by omega⟩)⟩
  · by_cases y : i < n
    · obtain ⟨x, x1, x2⟩ := r7 i y
      exact ⟨x, by omega, by rw [(b2 i y).2.2.2, x2]⟩
    · rcases b10 with z | ⟨z1, z2, z3⟩
      · omega
      · have : i = n := by omega
        subst this
        exact ⟨p, hp, z3⟩
  · by_cases y : i < n
    · obtain ⟨x, x1, x2⟩ := r7 i y
      exact ⟨x, by omega, by rw [(b2 i y).2.2.2, x2]⟩
    · rcases b10 with z | ⟨z1, z2, z3⟩
      · omega
      · have : i = n := by omega
        subst this
        exact ⟨p, by omega, z3⟩
  · obtain ⟨m, x, y, c1, c2, c3, c4, c5, c6, c7, c8⟩ := r8.2.1 i hi
    obtain ⟨d1, d2, d3, d4⟩ := b2 m c1
    exact ⟨m, x, y, by omega, by rw [d1]; exact c2, by rw [d2]; exact c3, by rw [d3]; exact c4, by rw [d4]; exact c5, c6, c7, c8⟩
  · by_cases y : i < n
    · obtain ⟨d1, d2, d3, d4⟩ := b2 i y
      rw [d1] at h4
      rw [d2, d3, d4]
      exact r8.2.2 i y h4
    · rcases b10 with z | ⟨z1, z2, z3⟩
      · omega
      · have : i = j := by omega
        subst this
        rw [b7] at h4
        exact absurd h4 h3
  · obtain ⟨c1, c2, c3, c4, c5, c6⟩ := r9.2 i hi
    obtain ⟨d1, d2, d3⟩ := b6 i hi
    exact ⟨d1.trans c1, d2.trans c2, d3.trans c3, c4, c5, c6⟩
