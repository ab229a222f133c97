theorem bnd8_s {α0 α1 α2 α3 α4 α5 α6 α7 β : Type} (a0 : α0) (a1 : α1) (a2 : α2) (a3 : α3) (a4 : α4) (a5 : α5) (a6 : α6) (a7 : α7) (f : α0 → α1 → α2 → α3 → α4 → α5 → α6 → α7 → Option β) : bnd8 (some (a0, a1, a2, a3, a4, a5, a6, a7)) f = f a0 a1 a2 a3 a4 a5 a6 a7 := rfl
theorem bnd9_s {α0 α1 α2 α3 α4 α5 α6 α7 α8 β : Type} (a0 : α0) (a1 : α1) (a2 : α2) (a3 : α3) (a4 : α4) (a5 : α5) (a6 : α6) (a7 : α7) (a8 : α8) (f : α0 → α1 → α2 → α3 → α4 → α5 → α6 → α7 → α8 → Option β) : bnd9 (some (a0, a1, a2, a3, a4, a5, a6, a7, a8)) f = f a0 a1 a2 a3 a4 a5 a6 a7 a8 := rfl
theorem bnd10_s {α0 α1 α2 α3 α4 α5 α6 α7 α8 α9 β : Type} (a0 : α0) (a1 : α1) (a2 : α2) (a3 : α3) (a4 : α4) (a5 : α5) (a6 : α6) (a7 : α7) (a8 : α8) (a9 : α9) (f : α0 → α1 → α2 → α3 → α4 → α5 → α6 → α7 → α8 → α9 → Option β) : bnd10 (some (a0, a1, a2, a3, a4, a5, a6, a7, a8, a9)) f = f a0 a1 a2 a3 a4 a5 a6 a7 a8 a9 := rfl
theorem bnd11_s {α0 α1 α2 α3 α4 α5 α6 α7 α8 α9 α10 β : Type} (a0 : α0) (a1 : α1) (a2 : α2) (a3 : α3) (a4 : α4) (a5 : α5) (a6 : α6) (a7 : α7) (a8 : α8) (a9 : α9) (a10 : α10) (f : α0 → α1 → α2 → α3 → α4 → α5 → α6 → α7 → α8 → α9 → α10 → Option β) : bnd11 (some (a0, a1, a2, a3, a4, a5, a6, a7, a8, a9, a10)) f = f a0 a1 a2 a3 a4 a5 a6 a7 a8 a9 a10 := rfl
theorem bnd12_s {α0 α1 α2 α3 α4 α5 α6 α7 α8 α9 α10 α11 β : Type} (a0 : α0) (a1 : α1) (a2 : α2) (a3 : α3) (a4 : α4) (a5 : α5) (a6 : α6) (a7 : α7) (a8 : α8) (a9 : α9) (a10 : α10) (a11 : α11) (f : α0 → α1 → α2 → α3 → α4 → α5 → α6 → α7 → α8 → α9 → α10 → α11 → Option β) : bnd12 (some (a0, a1, a2, a3, a4, a5, a6, a7, a8, a9, a10, a11)) f = f a0 a1 a2 a3 a4 a5 a6 a7 a8 a9 a10 a11 := rfl
theorem bnd13_s {α0 α1 α2 α3 α4 α5 α6 α7 α8 α9 α10 α11 α12 β : Type} (a0 : α0) (a1 : α1) (a2 : α2) (a3 : α3) (a4 : α4) (a5 : α5) (a6 : α6) (a7 : α7) (a8 : α8) (a9 : α9) (a10 : α10) (a11 : α11) (a12 : α12) (f : α0 → α1 → α2 → α3 → α4 → α5 → α6 → α7 → α8 → α9 → α10 → α11 → α12 → Option β) : bnd13 (some (a0, a1, a2, a3, a4, a5, a6, a7, a8, a9, a10, a11, a12)) f = f a0 a1 a2 a3 a4 a5 a6 a7 a8 a9 a10 a11 a12 := rfl
theorem bnd14_s {α0 α1 α2 α3 α4 α5 α6 α7 α8 α9 α10 α11 α12 α13 β : Type} (a0 : α0) (a1 : α1) (a2 : α2) (a3 : α3) (a4 : α4) (a5 : α5) (a6 : α6) (a7 : α7) (a8 : α8) (a9 : α9) (a10 : α10) (a11 : α11) (a12 : α12) (a13 : α13) (f : α0 → α1 → α2 → α3 → α4 → α5 → α6 → α7 → α8 → α9 → α10 → α11 → α12 → α13 → Option β) : bnd14 (some (a0, a1, a2, a3, a4, a5, a6, a7, a8, a9, a10, a11, a12, a13)) f = f a0 a1 a2 a3 a4 a5 a6 a7 a8 a9 a10 a11 a12 a13 := rfl
theorem bnd15_s {α0 α1 α2 α3 α4 α5 α6 α7 α8 α9 α10 α11 α12 α13 α14 β : Type} (a0 : α0) (a1 : α1) (a2 : α2) (a3 : α3) (a4 : α4) (a5 : α5) (a6 : α6) (a7 : α7) (a8 : α8) (a9 : α9) (a10 : α10) (a11 : α11) (a12 : α12) (a13 : α13) (a14 : α14) (f : α0 → α1 → α2 → α3 → α4 → α5 → α6 → α7 → α8 → α9 → α10 → α11 → α12 → α13 → α14 → Option β) : bnd15 (some (a0, a1, a2, a3, a4, a5, a6, a7, a8, a9, a10, a11, a12, a13, a14)) f = f a0 a1 a2 a3 a4 a5 a6 a7 a8 a9 a10 a11 a12 a13 a14 := rfl
theorem bnd16_s {α0 α1 α2 α3 α4 α5 α6 α7 α8 α9 α10 α11 α12 α13 α14 α15 β : Type} (a0 : α0) (a1 : α1) (a2 : α2) (a3 : α3) (a4 : α4) (a5 : α5) (a6 : α6) (a7 : α7) (a8 : α8) (a9 : α9) (a10 : α10) (a11 : α11) (a12 : α12) (a13 : α13) (a14 : α14) (a15 : α15) (f : α0 → α1 → α2 → α3 → α4 → α5 → α6 → α7 → α8 → α9 → α10 → α11 → α12 → α13 → α14 → α15 → Option β) : bnd16 (some (a0, a1, a2, a3, a4, a5, a6, a7, a8, a9, a10, a11, a12, a13, a14, a15)) f = f a0 a1 a2 a3 a4 a5 a6 a7 a8 a9 a10 a11 a12 a13 a14 a15 := rfl
theorem bnd17_s {α0 α1 α2 α3 α4 α5 α6 α7 α8 α9 α10 α11 α12 α13 α14 α15 α16 β : Type} (a0 : α0) (a1 : α1) (a2 : α2) (a3 : α3) (a4 : α4) (a5 : α5) (a6 : α6) (a7 : α7) (a8 : α8) (a9 : α9) (a10 : α10) (a11 : α11) (a12 : α12) (a13 : α13) (a14 : α14) (a15 : α15) (a16 : α16) (f : α0 → α1 → α2 → α3 → α4 → α5 → α6 → α7 → α8 → α9 → α10 → α11 → α12 → α13 → α14 → α15 → α16 → Option β) : bnd17 (some (a0, a1, a2, a3, a4, a5, a6, a7, a8, a9, a10, a11, a12, a13, a14, a15, a16)) f = f a0 a1 a2 a3 a4 a5 a6 a7 a8 a9 a10 a11 a12 a13 a14 a15 a16 := rfl
/-! ===== reading the line: single steps ===== -/
theorem eqc {c m : Nat} (hc : c ≤ 126) (hm : m ≤ 126) : (nI c = nI m) ↔ c = m := nI_eq (by omega) (by omega)
/-- what readPart does behind its base -/
def cTail (L : Nat → Int32) (len : Int32) (r1 at1 : Int32) (K2 L2 R2 P2 : Nat → Int32) (sz : Int32) : Option CY := (if r1 = ((-1)) then some (r1, at1, K2, L2, R2, P2, sz) else bnd1 (fX5_next L len at1) (fun r3 => (if r3 = 94 then bnd1 (fX5_next L len (at1 + 1)) (fun r5 => (if r5 < 48 then some ((-1), at1 + 1, K2, L2, R2, P2, sz) else (if r5 ≤ 52 then bnd6 (fX3_add 6 r1 (r5 - 48) at1 K2 L2 R2 P2 sz) (fun r8 kinds_8 lefts_8 rights_8 places_8 size_8 => some (r8, (at1 + 1) + 1, kinds_8, lefts_8, rights_8, places_8, size_8)) else some ((-1), at1 + 1, K2, L2, R2, P2, sz)))) else some (r1, at1, K2, L2, R2, P2, sz))))
theorem readPart_eq (v2 : Int32) (L : Nat → Int32) (len pos : Int32) (K2 L2 R2 P2 : Nat → Int32) (sz : Int32) (fP fS : TPs) : fX5_readPart v2 L len pos K2 L2 R2 P2 sz fP fS = bnd7 (fX5_readBase v2 L len pos K2 L2 R2 P2 sz fP fS) (cTail L len) := rfl
theorem cd_lt {L ML : Nat → Int32} {len : Nat} {cd : Nat → Nat} (h : LnOK L ML len cd) {a : Nat} (hc : cd a ≠ 0) : a < len := by
  by_cases q : a < len
  · exact q
  · exact absurd (h.2.2 a (by omega)) hc
theorem r74_0 (ML : Nat → Int32) (len : Int32) (f h : Nat) (v1 : Int32) (t s : TT) (op pos : Int32) : LX7_reads_74 ML len (Econt ML len f) (h + 1) v1 0 (t 0) (t 1) (t 2) (t 3) (t 4) (t 5) (t 6) (t 7) (s 0) (s 1) (s 2) (s 3) (s 4) op pos = Econt ML len f v1 (t 0) (t 1) (t 2) (t 3) (t 4) (t 5) (t 6) (t 7) (s 0) (s 1) (s 2) (s 3) (s 4) op pos := by
  rw [LX7_reads_74, if_pos rfl]
theorem Econt_m1 (ML : Nat → Int32) (len : Int32) (f : Nat) (t s : TT) (op pos : Int32) : Econt ML len f (-1) (t 0) (t 1) (t 2) (t 3) (t 4) (t 5) (t 6) (t 7) (s 0) (s 1) (s 2) (s 3) (s 4) op pos = EF (t 0) (t 1) (t 2) (t 3) (t 4) (t 5) (t 6) (t 7) (s 0) (s 1) (s 2) (s 3) (s 4) op pos := by
  unfold Econt
  rw [if_pos rfl]
theorem power_step {L ML : Nat → Int32} {len : Nat} {cd : Nat → Nat} (hln : LnOK L ML len cd) {Z q t : TT} {n ns a : Nat} (h : Rl Z q t n ns a) (ha : a ≤ len) {u : Nat} (hu : u < n) :
    (∃ a', a' ≤ len ∧ cFault (cTail L (nI len) (nI u) (nI a) (q 0) (q 1) (q 2) (q 3) (nI n)) a' ∧ ∀ (f hh : Nat) (s : TT) (d : Nat), faultAt Z (cPw ML (nI len) f (hh + 1) (nI u) t s d a) a') ∨
    (∃ (a' n' j : Nat) (q' t' : TT), a ≤ a' ∧ a' ≤ len ∧ cTail L (nI len) (nI u) (nI a) (q 0) (q 1) (q 2) (q 3) (nI n) = some (nI j, nI a', q' 0, q' 1, q' 2, q' 3, nI n') ∧ (∀ (f hh : Nat) (s : TT) (d : Nat), cPw ML (nI len) f hh (nI u) t s d a = cG ML (nI len) f hh (nI j) t' s d a') ∧
      Rl Z q' t' n' ns a' ∧ j < n' ∧ n ≤ n' ∧ n' + a ≤ n + a' ∧ Ext n q q' ∧ ((n' = n ∧ (j = u ∨ u + 1 < n)) ∨ j + 1 = n')) := by
  have hl := hln.1
  have r1 := h.1
  have c1 := cd_le hln a
  have c2 := cd_le hln (a + 1)
  have um : ¬ nI u = -1 := nI_neM1 (by have := h.2.2.1; omega)
  unfold cTail
  by_cases e : cd a = 94
  · have al : a < len := cd_lt hln (by omega)
    have e94 : nI (cd a) = 94 := by rw [e]; rfl
    rw [if_neg um, c_next hln (by omega), bnd1_s, if_pos e94, nI_1, c_next hln (by omega), bnd1_s]
    have pw : ∀ (f hh : Nat) (s : TT) (d : Nat), cPw ML (nI len) f hh (nI u) t s d a = bnd6 (if cd (a + 1) < 48 ∨ 52 < cd (a + 1) then some ((-1), t 0, t 1, t 2, t 3, nI (a + 1)) else gi (nI (a + 1)) 64 (bnd5 (fX7_formula 5 (nI u) ((ML (a + 1)) - 48) (t 0) (t 1) (t 2) (t 3)) (fun r7 x0 x1 x2 x3 => some (r7, x0, x1, x2, x3, nI (a + 1 + 1))))) (fun r fo k o th pos => (if r = (-1) then LX7_reads_74 ML (nI len) (Econt ML (nI len) f) hh r 0 fo k o th (t 4) (t 5) (t 6) (t 7) (s 0) (s 1) (s 2) (s 3) (s 4) (nI d) pos else LX7_reads_74 ML (nI len) (Econt ML (nI len) f) hh r 1 fo k o th (t 4) (t 5) (t 6) (t 7) (s 0) (s 1) (s 2) (s 3) (s 4) (nI d) pos)) := fun f hh s d => by
      unfold cPw fX7_power
      have ei : fX7_isIn (nI (cd (a + 1))) 48 52 = _ := m_isInN (lo := 48) (hi := 52) c2 (by omega) (by omega)
      rw [m_sign hln (by omega), bnd1_s, if_pos e94, nI_1, m_sign hln (by omega), bnd1_s, ei, bnd1_s, nI_1, show nI (a + 1 + 1) - 1 = nI (a + 1) from nI_pred _, clamp_n (by omega)]
      congr 1
      by_cases y : cd (a + 1) < 48 ∨ 52 < cd (a + 1)
      · rw [if_pos y, if_pos y, if_pos rfl]
      · rw [if_neg y, if_neg y, if_neg (show ¬ (1 : Int32) = 0 by decide)]
    by_cases y : cd (a + 1) < 48 ∨ 52 < cd (a + 1)
    · left
      refine ⟨a + 1, by omega, ?_, fun f hh s d => ?_⟩
      · by_cases y1 : cd (a + 1) < 48
        · rw [if_pos (show nI (cd (a + 1)) < 48 from (nI_ltI (b := 48) (by omega) (by omega)).mpr y1)]
          exact ⟨_, _, _, _, _, rfl⟩
        · rw [if_neg (show ¬ nI (cd (a + 1)) < 48 from fun z => y1 ((nI_ltI (b := 48) (by omega) (by omega)).mp z)), if_neg (show ¬ nI (cd (a + 1)) ≤ 52 from fun z => by have := (nI_leI (b := 52) (by omega) (by omega)).mp z; omega)]
          exact ⟨_, _, _, _, _, rfl⟩
      · rw [pw, if_pos y, bnd6_s, if_pos rfl, r74_0, Econt_m1]
        exact ⟨t, s, _, rfl, h.2.2.2.2.2.2.2.2⟩
    · right
      have al2 : a + 1 < len := cd_lt hln (by omega)
      rw [if_neg (show ¬ nI (cd (a + 1)) < 48 from fun z => y (Or.inl ((nI_ltI (b := 48) (by omega) (by omega)).mp z))), if_pos (show nI (cd (a + 1)) ≤ 52 from (nI_leI (b := 52) (by omega) (by omega)).mpr (by omega))]
      have ed : nI (cd (a + 1)) - 48 = nI (cd (a + 1) - 48) := pk_sub (b := 48) (by omega)
      have hrow : rowOK n 6 (nI u) (nI (cd (a + 1) - 48)) := Or.inr (Or.inr (Or.inr (Or.inr ⟨rfl, u, _, hu, by omega, rfl, rfl⟩)))
      obtain ⟨j, n', q', t', b1, b2, b3, b4, b5, b6, b7, b8, b9, b10, b11, b12, b13⟩ := add_plain h hrow (by decide) (p := a) (a' := a + 1 + 1) (by omega) (by omega) (by omega) (by omega)
      have b2 : fX7_formula 5 (nI u) (nI (cd (a + 1) - 48)) (t 0) (t 1) (t 2) (t 3) = some (nI j, t' 0, t' 1, t' 2, t' 3) := b2
      have jn : j < 2 ^ 31 := by have := b7.1; have := b7.2.2.1; omega
      refine ⟨a + 1 + 1, n', j, q', t', by omega, by omega, ?_, fun f hh s d => ?_, b7, b8, by omega, by omega, b9, ?_⟩
      · rw [ed, b1, bnd6_s, nI_1]
      · rw [pw, if_neg y, (hln.2.1 (a + 1) al2).2.2.2, ed, b2, bnd5_s, gi_n (show a + 1 < 64 by omega) (by omega), bnd6_s, if_neg (nI_neM1 (by have := b7.1; have := b7.2.2.1; omega))]
        unfold cG
        rw [b3, b4, b5, b6]
      · rcases b13 with z | ⟨z1, z2⟩
        · left
          have ro := (b7.2.2.2.2.2.1 j b8).1
          have := row_left (k2 := 0) ro (by rw [b10]; decide) (show u < 2 ^ 31 by omega) b11 rfl (by omega)
          exact ⟨z, Or.inr (by omega)⟩
        · exact Or.inr z2
  · have e94 : ¬ nI (cd a) = 94 := fun y => e ((eqc (m := 94) c1 (by omega)).mp y)
    right
    rw [if_neg um, c_next hln (by omega), bnd1_s, if_neg e94]
    refine ⟨a, n, u, q, t, Nat.le_refl _, ha, rfl, fun f hh s d => ?_, h, hu, Nat.le_refl _, Nat.le_refl _, Ext_refl _ _, Or.inl ⟨rfl, Or.inl rfl⟩⟩
    unfold cPw fX7_power
    rw [m_sign hln (by omega), bnd1_s, if_neg e94, bnd6_s, if_neg um]
    rfl
/-! what begins -/
def pushS (s : TT) (d : Nat) (y : Int32) : TT := tb5 (upd (s 0) (d + 1) y) (upd (s 1) (d + 1) (-1)) (s 2) (s 3) (upd (s 4) (d + 1) (-1))
theorem push_fr (s : TT) (d : Nat) (y : Int32) : ∀ i, i ≤ d → FrJ s (pushS s d y) i := fun i hi => ⟨if_neg (by omega), if_neg (by omega), rfl, rfl, if_neg (by omega)⟩
theorem opens_eq {d : Nat} (hd : d < 7) (y : Int32) (s : TT) : fX7_opens y (s 0) (s 1) (s 4) (nI d) = some (upd (s 0) (d + 1) y, upd (s 1) (d + 1) (-1), upd (s 4) (d + 1) (-1), nI (d + 1)) := by
  unfold fX7_opens
  simp only [nI_1, gi_n (show d + 1 < 9 by omega) (show 9 < 2 ^ 31 by omega), clamp_n (show d + 1 < 2 ^ 31 by omega)]
theorem begins_18 {L ML : Nat → Int32} {len : Nat} {cd : Nat → Nat} (hln : LnOK L ML len cd) {a d : Nat} (ha : a ≤ 60) (hd : d ≤ 7) (hc : cd a = 45 ∨ cd a = 40) (f g : Nat) (t s : TT) (K2 : (Nat → Int32) → (Nat → Int32) → (Nat → Int32) → Int32 → Int32 → Option (Int32 × (Nat → Int32) × (Nat → Int32) × (Nat → Int32) × Int32 × Int32)) :
    BX7_begins_18 ML (nI len) K2 bE27 (bE60 ML (nI len)) (s 0) (s 1) (s 4) (nI d) (nI a) = if d = 7 then bE27 (s 0) (s 1) (s 4) (nI d) (nI a) else K2 (upd (s 0) (d + 1) (if cd a = 45 then 1 else 0)) (upd (s 1) (d + 1) (-1)) (upd (s 4) (d + 1) (-1)) (nI (d + 1)) (nI (a + 1)) := by
  have c1 := cd_le hln a
  unfold BX7_begins_18
  by_cases e : d = 7
  · rw [if_pos (show nI d = 7 by rw [e]; rfl), if_pos e]
  · rw [if_neg (show ¬ nI d = 7 from fun y => e ((nI_eq (b := 7) (by omega) (by omega)).mp y)), if_neg e, m_sign hln ha, bnd1_s]
    unfold BX7_begins_44
    rw [opens_eq (by omega), opens_eq (by omega), bnd4_s, bnd4_s, nI_1]
    by_cases y : cd a = 45
    · rw [if_pos (show nI (cd a) = 45 by rw [y]; rfl), if_pos y]
    · rw [if_neg (show ¬ nI (cd a) = 45 from fun z => y ((eqc (m := 45) c1 (by omega)).mp z)), if_neg y]
theorem begins_op {L ML : Nat → Int32} {len : Nat} {cd : Nat → Nat} (hln : LnOK L ML len cd) {a d : Nat} (ha : a ≤ 60) (hd : d ≤ 7) (hc : cd a = 45 ∨ cd a = 40) (g : Nat) (t s : TT) :
    LX7_begins_0 ML (nI len) bE27 (bE60 ML (nI len)) (g + 1) (s 0) (s 1) (s 4) (nI d) (nI a) = if d = 7 then bE27 (s 0) (s 1) (s 4) (nI d) (nI a) else LX7_begins_0 ML (nI len) bE27 (bE60 ML (nI len)) g (upd (s 0) (d + 1) (if cd a = 45 then 1 else 0)) (upd (s 1) (d + 1) (-1)) (upd (s 4) (d + 1) (-1)) (nI (d + 1)) (nI (a + 1)) := by
  have c1 := cd_le hln a
  rw [LX7_begins_0, m_sign hln ha, bnd1_s, bnd1_s, begins_18 hln ha hd hc 0 g t s]
  rcases hc with y | y
  · rw [if_pos (show nI (cd a) = 45 by rw [y]; rfl)]
  · rw [if_neg (show ¬ nI (cd a) = 45 by rw [y]; decide), if_pos (show nI (cd a) = 40 by rw [y]; rfl)]
theorem cB_push {L ML : Nat → Int32} {len : Nat} {cd : Nat → Nat} (hln : LnOK L ML len cd) {a d : Nat} (ha : a ≤ 60) (hd : d < 7) (hc : cd a = 45 ∨ cd a = 40) (f g : Nat) (t s : TT) :
    cB ML (nI len) f (g + 1) t s d a = cB ML (nI len) f g t (pushS s d (if cd a = 45 then 1 else 0)) (d + 1) (a + 1) := by
  unfold cB
  rw [begins_op hln ha (by omega) hc g t s, if_neg (by omega)]
  rfl
theorem cB_full {L ML : Nat → Int32} {len : Nat} {cd : Nat → Nat} (hln : LnOK L ML len cd) {a : Nat} (ha : a ≤ 60) (hc : cd a = 45 ∨ cd a = 40) (f g : Nat) (t s : TT) :
    cB ML (nI len) f (g + 1) t s 7 a = EF (t 0) (t 1) (t 2) (t 3) (t 4) (t 5) (t 6) (t 7) (s 0) (s 1) (s 2) (s 3) (s 4) (nI 7) (nI a) := by
  unfold cB
  rw [begins_op hln ha (by omega) hc g t s, if_pos rfl]
  unfold bE27
  rw [bnd6_s, if_pos rfl]
theorem begins_no {L ML : Nat → Int32} {len : Nat} {cd : Nat → Nat} (hln : LnOK L ML len cd) {a : Nat} (ha : a ≤ 60) (h45 : cd a ≠ 45) (h40 : cd a ≠ 40) (g d : Nat) (s : TT) :
    LX7_begins_0 ML (nI len) bE27 (bE60 ML (nI len)) (g + 1) (s 0) (s 1) (s 4) (nI d) (nI a) = some (if (48 ≤ cd a ∧ cd a ≤ 57) ∨ (97 ≤ cd a ∧ cd a ≤ 102) then 1 else 0, s 0, s 1, s 4, nI d, nI a) := by
  have c1 := cd_le hln a
  have ei : fX7_isIn (nI (cd a)) 97 102 = _ := m_isInN (lo := 97) (hi := 102) c1 (by omega) (by omega)
  rw [LX7_begins_0, m_sign hln ha, bnd1_s, bnd1_s, if_neg (show ¬ nI (cd a) = 45 from fun z => h45 ((eqc (m := 45) c1 (by omega)).mp z)), if_neg (show ¬ nI (cd a) = 40 from fun z => h40 ((eqc (m := 40) c1 (by omega)).mp z))]
  unfold bE60
  rw [m_sign hln ha, bnd1_s, m_isDigit c1, bnd1_s, bnd1_s, ei, bnd1_s]
  by_cases y : cd a < 48 ∨ 57 < cd a
  · rw [if_pos y, if_pos rfl]
    by_cases z : cd a < 97 ∨ 102 < cd a
    · rw [if_pos z, if_pos rfl, if_neg (by omega)]
    · rw [if_neg z, if_neg (show ¬ (1 : Int32) = 0 by decide), if_pos (by omega)]
  · rw [if_neg y, if_neg (show ¬ (1 : Int32) = 0 by decide), if_pos (by omega)]
theorem cB_bad {L ML : Nat → Int32} {len : Nat} {cd : Nat → Nat} (hln : LnOK L ML len cd) {a : Nat} (ha : a ≤ 60) (h45 : cd a ≠ 45) (h40 : cd a ≠ 40) (hn : ¬ ((48 ≤ cd a ∧ cd a ≤ 57) ∨ (97 ≤ cd a ∧ cd a ≤ 102))) (f g d : Nat) (t s : TT) :
    cB ML (nI len) f (g + 1) t s d a = EF (t 0) (t 1) (t 2) (t 3) (t 4) (t 5) (t 6) (t 7) (s 0) (s 1) (s 2) (s 3) (s 4) (nI d) (nI a) := by
  unfold cB
  rw [begins_no hln ha h45 h40, if_neg hn, bnd6_s, if_pos rfl]
theorem cB_atom {L ML : Nat → Int32} {len : Nat} {cd : Nat → Nat} (hln : LnOK L ML len cd) {a : Nat} (ha : a ≤ 60) (h45 : cd a ≠ 45) (h40 : cd a ≠ 40) (hn : (48 ≤ cd a ∧ cd a ≤ 57) ∨ (97 ≤ cd a ∧ cd a ≤ 102)) (f g d : Nat) (t s : TT) {t' : TT} {its : Int32} {a' : Nat} (e : fX7_atom ML (t 0) (t 1) (t 2) (t 3) (nI len) (nI a) = some (its, t' 0, t' 1, t' 2, t' 3, nI a')) (h4 : t' 4 = t 4) (h5 : t' 5 = t 5) (h6 : t' 6 = t 6) (h7 : t' 7 = t 7) :
    cB ML (nI len) f (g + 1) t s d a = cPw ML (nI len) f 1000 its t' s d a' := by
  unfold cB cPw
  rw [begins_no hln ha h45 h40, if_pos hn, bnd6_s, if_neg (show ¬ (1 : Int32) = 0 by decide), e, bnd6_s, h4, h5, h6, h7]
/-! what goes on -/
theorem cG_neg (ML : Nat → Int32) (len : Int32) (f h : Nat) (its : Int32) (t s : TT) {d : Nat} (hd : d < 7) (a : Nat) (hy : s 0 (d + 1) = 1) {t' : TT} {r : Int32} (e : fX7_formula 6 its 0 (t 0) (t 1) (t 2) (t 3) = some (r, t' 0, t' 1, t' 2, t' 3)) (h4 : t' 4 = t 4) (h5 : t' 5 = t 5) (h6 : t' 6 = t 6) (h7 : t' 7 = t 7) :
    cG ML len f (h + 1) its t s (d + 1) a = cPw ML len f h r t' s d a := by
  unfold cG cPw
  rw [LX7_reads_74, if_neg (show ¬ (1 : Int32) = 0 by decide), gi_n (show d + 1 < 9 by omega) (by omega), clamp_n (by omega), if_pos hy, e, bnd5_s, nI_pred, h4, h5, h6, h7]
theorem r168 (ML : Nat → Int32) (len : Int32) (f h : Nat) (v1 x : Int32) (t s : TT) {d : Nat} (hd : d < 9) (a : Nat) : BX7_reads_168 ML len (LX7_reads_74 ML len (Econt ML len f) h) (Econt ML len f) v1 (nI d) x (t 0) (t 1) (t 2) (t 3) (t 4) (t 5) (t 6) (t 7) (s 0) (s 1) (s 2) (s 3) (s 4) (nI d) (nI a) = cC ML len f h v1 t (tb5 (s 0) (s 1) (s 2) (s 3) (upd (s 4) d x)) d a := by
  unfold BX7_reads_168 cC
  rw [gi_n hd (by omega), clamp_n (by omega)]
  rfl
theorem cG_fst (ML : Nat → Int32) (len : Int32) (f h : Nat) (its : Int32) (t s : TT) {d : Nat} (hd : d < 9) (a : Nat) (hy : ¬ s 0 d = 1) (hp : s 4 d = -1) :
    cG ML len f (h + 1) its t s d a = cC ML len f h its t (tb5 (s 0) (s 1) (s 2) (s 3) (upd (s 4) d its)) d a := by
  unfold cG
  rw [LX7_reads_74, if_neg (show ¬ (1 : Int32) = 0 by decide), gi_n hd (by omega), clamp_n (by omega), if_neg hy, gi_n hd (by omega), if_pos hp, r168 ML len f h its its t s hd a]
theorem cG_mul (ML : Nat → Int32) (len : Int32) (f h : Nat) (its : Int32) (t s : TT) {d : Nat} (hd : d < 9) (a : Nat) (hy : ¬ s 0 d = 1) (hp : ¬ s 4 d = -1) {t' : TT} {r : Int32} (e : fX7_formula 4 (s 4 d) its (t 0) (t 1) (t 2) (t 3) = some (r, t' 0, t' 1, t' 2, t' 3)) (h4 : t' 4 = t 4) (h5 : t' 5 = t 5) (h6 : t' 6 = t 6) (h7 : t' 7 = t 7) :
    cG ML len f (h + 1) its t s d a = cC ML len f h its t' (tb5 (s 0) (s 1) (s 2) (s 3) (upd (s 4) d r)) d a := by
  unfold cG
  rw [LX7_reads_74, if_neg (show ¬ (1 : Int32) = 0 by decide), gi_n hd (by omega), clamp_n (by omega), if_neg hy, gi_n hd (by omega), if_neg hp, gi_n hd (by omega), e, bnd5_s, ← h4, ← h5, ← h6, ← h7, r168 ML len f h its r t' s hd a]
/-! what follows a product -/
theorem adds_fst {d : Nat} (hd : d < 9) (t s : TT) (h : s 1 d = -1) : fX7_adds (t 0) (t 1) (t 2) (t 3) (t 4) (t 5) (t 6) (t 7) (s 1) (s 2) (s 3) (s 4) (nI d) = some (t 0, t 1, t 2, t 3, t 4, t 5, t 6, t 7, upd (s 1) d (s 4 d), upd (s 4) d (-1)) := by
  unfold fX7_adds BX7_adds_152
  simp only [gi_n hd (show 9 < 2 ^ 31 by omega), clamp_n (show d < 2 ^ 31 by omega), h, if_true]
theorem cC_cont {L ML : Nat → Int32} {len : Nat} {cd : Nat → Nat} (hln : LnOK L ML len cd) {a : Nat} (ha : a ≤ 60) (h41 : cd a ≠ 41) (f h : Nat) (v1 : Int32) (t s : TT) (d : Nat) : cC ML (nI len) f (h + 1) v1 t s d a = Econt ML (nI len) f v1 (t 0) (t 1) (t 2) (t 3) (t 4) (t 5) (t 6) (t 7) (s 0) (s 1) (s 2) (s 3) (s 4) (nI d) (nI a) := by
  have c1 := cd_le hln a
  unfold cC
  rw [m_sign hln ha, bnd1_s, if_neg (show ¬ nI (cd a) = 41 from fun z => h41 ((eqc (m := 41) c1 (by omega)).mp z)), r74_0]
theorem cC_star {L ML : Nat → Int32} {len : Nat} {cd : Nat → Nat} (hln : LnOK L ML len cd) {a : Nat} (ha : a ≤ len) (hc : cd a = 42) (f h : Nat) {v1 : Int32} (hv : ¬ v1 = -1) (t s : TT) (d : Nat) : cC ML (nI len) (f + 1) (h + 1) v1 t s d a = cB ML (nI len) f 1000 t s d (a + 1) := by
  have hl := hln.1
  have al := cd_lt hln (show cd a ≠ 0 by omega)
  rw [cC_cont hln (by omega) (by omega)]
  unfold Econt
  rw [if_neg hv, if_neg (fun y => absurd ((nI_eq (by omega) (by omega)).mp y) (by omega))]
  unfold fX7_follows BX7_follows_25 BX7_follows_58
  rw [m_sign hln (by omega), bnd1_s, hc, if_pos (show nI 42 = 42 from rfl), if_pos (show nI 42 = 42 from rfl), bnd14_s, if_neg (show ¬ (1 : Int32) = 0 by decide), nI_1]
  exact reads47_B ML (nI len) f t s d (a + 1)
theorem cC_sign {L ML : Nat → Int32} {len : Nat} {cd : Nat → Nat} (hln : LnOK L ML len cd) {a : Nat} (ha : a ≤ len) (hc : cd a = 43 ∨ cd a = 45) (f h : Nat) {v1 : Int32} (hv : ¬ v1 = -1) (t s : TT) {d : Nat} (hd : d < 9) {t' : TT} {su pr : Nat → Int32} (e : fX7_adds (t 0) (t 1) (t 2) (t 3) (t 4) (t 5) (t 6) (t 7) (s 1) (s 2) (s 3) (s 4) (nI d) = some (t' 0, t' 1, t' 2, t' 3, t' 4, t' 5, t' 6, t' 7, su, pr)) :
    cC ML (nI len) (f + 1) (h + 1) v1 t s d a = cB ML (nI len) f 1000 t' (tb5 (s 0) su (upd (s 2) d (nI (cd a))) (upd (s 3) d (nI a)) pr) d (a + 1) := by
  have hl := hln.1
  have c1 := cd_le hln a
  have al := cd_lt hln (show cd a ≠ 0 by omega)
  rw [cC_cont hln (by omega) (by omega)]
  unfold Econt
  rw [if_neg hv, if_neg (fun y => absurd ((nI_eq (by omega) (by omega)).mp y) (by omega))]
  have n42 : ¬ nI (cd a) = 42 := fun z => by have := (eqc (m := 42) c1 (by omega)).mp z; omega
  have ef : fX7_follows ML (t 0) (t 1) (t 2) (t 3) (t 4) (t 5) (t 6) (t 7) (s 1) (s 2) (s 3) (s 4) (nI len) (nI d) (nI a) = some (1, t' 0, t' 1, t' 2, t' 3, t' 4, t' 5, t' 6, t' 7, su, upd (s 2) d (nI (cd a)), upd (s 3) d (nI a), pr, nI (a + 1)) := by
    unfold fX7_follows BX7_follows_25
    rw [m_sign hln (by omega), bnd1_s, if_neg n42, if_neg n42, e, bnd10_s, gi_n hd (by omega), gi_n hd (by omega), clamp_n (by omega)]
    unfold BX7_follows_58
    rw [nI_1]
    rcases hc with y | y
    · rw [if_pos (show nI (cd a) = 43 by rw [y]; rfl)]
    · rw [if_neg (show ¬ nI (cd a) = 43 by rw [y]; decide), if_pos (show nI (cd a) = 45 by rw [y]; rfl)]
  rw [ef, bnd14_s, if_neg (show ¬ (1 : Int32) = 0 by decide)]
  exact reads47_B ML (nI len) f t' (tb5 (s 0) su (upd (s 2) d (nI (cd a))) (upd (s 3) d (nI a)) pr) d (a + 1)
theorem cC_close {L ML : Nat → Int32} {len : Nat} {cd : Nat → Nat} (hln : LnOK L ML len cd) {a : Nat} (ha : a ≤ 60) (hc : cd a = 41) (f h : Nat) (v1 : Int32) (t s : TT) {d : Nat} (hd : d < 8) {t' : TT} {su pr : Nat → Int32} (e : fX7_adds (t 0) (t 1) (t 2) (t 3) (t 4) (t 5) (t 6) (t 7) (s 1) (s 2) (s 3) (s 4) (nI (d + 1)) = some (t' 0, t' 1, t' 2, t' 3, t' 4, t' 5, t' 6, t' 7, su, pr)) :
    cC ML (nI len) f h v1 t s (d + 1) a = cPw ML (nI len) f h (su (d + 1)) t' (tb5 (s 0) su (s 2) (s 3) pr) d (a + 1) := by
  unfold cC cPw
  rw [m_sign hln ha, bnd1_s, if_pos (show nI (cd a) = 41 by rw [hc]; rfl), if_neg (nI_nle (by omega) (by omega)), e, bnd10_s, gi_n (show d + 1 < 9 by omega) (by omega), clamp_n (by omega), nI_1, nI_pred]
  rfl
theorem cC_bad {L ML : Nat → Int32} {len : Nat} {cd : Nat → Nat} (hln : LnOK L ML len cd) {a : Nat} (ha : a < len) (h42 : cd a ≠ 42) (h43 : cd a ≠ 43) (h45 : cd a ≠ 45) {d : Nat} (h41 : cd a = 41 → d = 0) (f h : Nat) {v1 : Int32} (hv : ¬ v1 = -1) (t s : TT) :
    cC ML (nI len) f (h + 1) v1 t s d a = EF (t 0) (t 1) (t 2) (t 3) (t 4) (t 5) (t 6) (t 7) (s 0) (s 1) (s 2) (s 3) (s 4) (nI d) (nI a) := by
  have hl := hln.1
  have c1 := cd_le hln a
  have e : cC ML (nI len) f (h + 1) v1 t s d a = Econt ML (nI len) f v1 (t 0) (t 1) (t 2) (t 3) (t 4) (t 5) (t 6) (t 7) (s 0) (s 1) (s 2) (s 3) (s 4) (nI d) (nI a) := by
    by_cases y : cd a = 41
    · unfold cC
      rw [m_sign hln (by omega), bnd1_s, if_pos (show nI (cd a) = 41 by rw [y]; rfl), h41 y, if_pos (show nI 0 ≤ 0 by decide), r74_0]
    · exact cC_cont hln (by omega) y f h v1 t s d
  rw [e]
  unfold Econt
  rw [if_neg hv, if_neg (fun y => absurd ((nI_eq (by omega) (by omega)).mp y) (by omega))]
  unfold fX7_follows
  rw [m_sign hln (by omega), bnd1_s, if_neg (show ¬ nI (cd a) = 42 from fun z => h42 ((eqc (m := 42) c1 (by omega)).mp z)), if_neg (show ¬ nI (cd a) = 43 from fun z => h43 ((eqc (m := 43) c1 (by omega)).mp z)), if_neg (show ¬ nI (cd a) = 45 from fun z => h45 ((eqc (m := 45) c1 (by omega)).mp z)), bnd14_s, if_pos rfl]
theorem cC_end {L ML : Nat → Int32} {len : Nat} {cd : Nat → Nat} (hln : LnOK L ML len cd) (f h : Nat) {v1 : Int32} (hv : ¬ v1 = -1) (t s : TT) (d : Nat) : cC ML (nI len) f (h + 1) v1 t s d len = EE (t 0) (t 1) (t 2) (t 3) (t 4) (t 5) (t 6) (t 7) (s 0) (s 1) (s 2) (s 3) (s 4) (nI d) (nI len) := by
  have hl := hln.1
  have c0 := hln.2.2 len (Nat.le_refl _)
  rw [cC_cont hln (by omega) (by omega)]
  unfold Econt
  rw [if_neg hv, if_pos rfl]
/-! the row of a sign -/
theorem adds_more {Z q t : TT} {n ns a : Nat} (h : Rl Z q t n ns a) {s : TT} {d : Nat} (hd : d < 9) {u v c p : Nat} (hu : s 1 d = nI u) (hv : s 4 d = nI v) (hu' : u < n) (hv' : v < n) (hc : s 2 d = nI c) (hc2 : c = 43 ∨ c = 45) (hp : s 3 d = nI p) (pa : p < a) (hn : n + 1 ≤ a) (hns : ns + 1 ≤ a)
    (old : ∀ m, m < n → (q 0 m = 3 ∨ q 0 m = 4) → q 1 m = nI u → q 2 m = nI v → ∃ x, x ≤ p ∧ q 3 m = nI x) :
    ∃ (j n' : Nat) (q' t' : TT), fX3_add (if c = 43 then 3 else 4) (nI u) (nI v) (nI p) (q 0) (q 1) (q 2) (q 3) (nI n) = some (nI j, q' 0, q' 1, q' 2, q' 3, nI n') ∧ fX7_adds (t 0) (t 1) (t 2) (t 3) (t 4) (t 5) (t 6) (t 7) (s 1) (s 2) (s 3) (s 4) (nI d) = some (t' 0, t' 1, t' 2, t' 3, t' 4, t' 5, t' 6, t' 7, upd (s 1) d (nI j), upd (s 4) d (-1)) ∧
      Rl Z q' t' n' (ns + 1) a ∧ j < n' ∧ Ext n q q' ∧ (q' 0 j = 3 ∨ q' 0 j = 4) ∧ q' 1 j = nI u ∧ q' 2 j = nI v ∧ (n' = n ∨ (n' = n + 1 ∧ j + 1 = n')) := by
  obtain ⟨r1, r2, r3, r4, r5, r6, r7, r8, r9⟩ := h
  have kk : (if c = 43 then (3 : Int32) else 4) = 3 ∨ (if c = 43 then (3 : Int32) else 4) = 4 := by
    by_cases y : c = 43
    · exact Or.inl (if_pos y)
    · exact Or.inr (if_neg y)
  have hrow : rowOK n (if c = 43 then 3 else 4) (nI u) (nI v) := Or.inr (Or.inr (Or.inr (Or.inl ⟨kk.elim Or.inl (fun y => Or.inr (Or.inl y)), u, v, hu', hv', rfl, rfl⟩)))
  obtain ⟨j, n', q', t0, t1, t2, t3, e1, e2, b1, b2, b3, b4, b5, b6, b7, b8, b9, b10⟩ := add_both (show n < 60 by omega) r6 r4 hrow (nI p)
  have um : ¬ nI u = -1 := nI_neM1 (by omega)
  refine ⟨j, n', q', tb8 t0 t1 t2 t3 (upd (t 4) 8 (nI (ns + 1))) (upd (t 5) (512 + ns) (nI p)) (upd (t 6) (512 + ns) (nI u)) (upd (t 7) (512 + ns) (nI v)), e1, ?_, ⟨by omega, by omega, r3, b4, pk_us, b3, fun i hi => ?_, ⟨fun i hi => ?_, fun i hi => ?_, fun i hi h4 => ?_⟩, ⟨fun i hi => ⟨(b5 i hi).trans (r9.1 i hi).1, ?_⟩, fun i hi => ?_⟩⟩, b1, b2, by rw [b7]; exact kk, b8, b9, b10.elim (fun y => Or.inl y.1) (fun y => Or.inr ⟨y.1, by omega⟩)⟩
  · unfold fX7_adds BX7_adds_130 BX7_adds_152
    simp only [gi_n hd (show 9 < 2 ^ 31 by omega), clamp_n (show d < 2 ^ 31 by omega), hu, hv, hc, hp, clamp8, gi8, r5, ix512, gi_n (show 512 + ns < 576 by omega) (show 576 < 2 ^ 31 by omega), clamp_n (show 512 + ns < 2 ^ 31 by omega), nI_1]
    rw [if_neg um]
    rcases hc2 with y | y
    · subst y
      have e2 : fX7_formula 2 (nI u) (nI v) (t 0) (t 1) (t 2) (t 3) = some (nI j, t0, t1, t2, t3) := e2
      rw [if_pos (show nI 43 = 43 from rfl), e2, bnd5_s]
      rfl
    · subst y
      have e2 : fX7_formula 3 (nI u) (nI v) (t 0) (t 1) (t 2) (t 3) = some (nI j, t0, t1, t2, t3) := e2
      rw [if_neg (show ¬ nI 45 = 43 by decide), e2, bnd5_s]
      rfl
  · by_cases y : i < n
    · obtain ⟨x, x1, x2⟩ := r7 i y
      exact ⟨x, x1, by rw [(b2 i y).2.2.2, x2]⟩
    · rcases b10 with z | ⟨z1, z2, z3⟩
      · omega
      · have : i = n := by omega
        subst this
        exact ⟨p, pa, z3⟩
  · by_cases y : i < n
    · obtain ⟨x, x1, x2⟩ := r7 i y
      exact ⟨x, by omega, by rw [(b2 i y).2.2.2, x2]⟩
    · rcases b10 with z | ⟨z1, z2, z3⟩
      · omega
      · have : i = n := by omega
        subst this
        exact ⟨p, by omega, z3⟩
  · show ∃ m x y, m < n' ∧ (q' 0 m = 3 ∨ q' 0 m = 4) ∧ upd (t 6) (512 + ns) (nI u) (512 + i) = q' 1 m ∧ upd (t 7) (512 + ns) (nI v) (512 + i) = q' 2 m ∧ q' 3 m = nI x ∧ upd (t 5) (512 + ns) (nI p) (512 + i) = nI y ∧ x ≤ y ∧ y < 60
    simp only [upd_at]
    by_cases e : i = ns
    · subst e
      simp only [if_true]
      rcases b10 with ⟨z1, z2⟩ | ⟨z1, z2, z3⟩
      · subst z2
        obtain ⟨x, x1, x2⟩ := old j (by omega) (by rw [b7]; exact kk) b8 b9
        exact ⟨j, x, p, b1, by rw [b7]; exact kk, b8.symm, b9.symm, x2, rfl, x1, by omega⟩
      · exact ⟨j, p, p, b1, by rw [b7]; exact kk, b8.symm, b9.symm, by rw [z2]; exact z3, rfl, Nat.le_refl _, by omega⟩
    · simp only [show ¬ 512 + i = 512 + ns by omega, if_false]
      obtain ⟨m, x, y, c1, c2, c3, c4, c5, c6, c7, c8⟩ := r8.2.1 i (by omega)
      obtain ⟨d1, d2, d3, d4⟩ := b2 m c1
      exact ⟨m, x, y, by omega, by rw [d1]; exact c2, by rw [d2]; exact c3, by rw [d3]; exact c4, by rw [d4]; exact c5, c6, c7, c8⟩
  · show ∃ x, x < ns + 1 ∧ upd (t 6) (512 + ns) (nI u) (512 + x) = q' 1 i ∧ upd (t 7) (512 + ns) (nI v) (512 + x) = q' 2 i ∧ upd (t 5) (512 + ns) (nI p) (512 + x) = q' 3 i
    simp only [upd_at]
    by_cases y : i < n
    · obtain ⟨d1, d2, d3, d4⟩ := b2 i y
      rw [d1] at h4
      obtain ⟨x, x1, x2, x3, x4⟩ := r8.2.2 i y h4
      refine ⟨x, by omega, ?_⟩
      simp only [show ¬ 512 + x = 512 + ns by omega, if_false]
      rw [d2, d3, d4]
      exact ⟨x2, x3, x4⟩
    · rcases b10 with z | ⟨z1, z2, z3⟩
      · omega
      · have : i = n := by omega
        subst this
        refine ⟨ns, by omega, ?_⟩
        simp only [if_true]
        rw [z2] at b8 b9
        exact ⟨b8.symm, b9.symm, z3.symm⟩
  · show upd (t 4) 8 (nI (ns + 1)) i = Z 4 i
    rw [upd_at, if_neg (by omega)]
    exact (r9.1 i hi).2
  · obtain ⟨c1, c2, c3, c4, c5, c6⟩ := r9.2 i hi
    obtain ⟨d1, d2, d3⟩ := b6 i hi
    refine ⟨d1.trans c1, d2.trans c2, d3.trans c3, ?_, ?_, ?_⟩
    · show upd (t 5) (512 + ns) (nI p) i = Z 5 i
      rw [upd_at, if_neg (by omega), c4]
    · show upd (t 6) (512 + ns) (nI u) i = Z 6 i
      rw [upd_at, if_neg (by omega), c5]
    · show upd (t 7) (512 + ns) (nI v) i = Z 7 i
      rw [upd_at, if_neg (by omega), c6]
