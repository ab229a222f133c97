/-! ===== reading the line: both sides go alike ===== -/
def ResB (ML : Nat → Int32) (len : Nat) (Z q s : TT) (n ns a d : Nat) (x : Option PO) (y : Option CY) : Prop :=
  (∃ a', a' ≤ len ∧ cFault y a' ∧ faultAt Z x a') ∨
  ∃ (a' n' ns' j f' h : Nat) (q' t' s' : TT), a' ≤ len ∧ y = some (nI j, nI a', q' 0, q' 1, q' 2, q' 3, nI n') ∧ x = cPw ML (nI len) f' h (nI j) t' s' d a' ∧ Rl Z q' t' n' ns' a' ∧ Num n ns a n' ns' a' j q q' ∧ (∀ i, i ≤ d → FrJ s s' i) ∧ 999 ≤ f' + a' ∧ 993 + d ≤ h
def ResP (ML : Nat → Int32) (len : Nat) (Z q s : TT) (n ns a d : Nat) (x : Option PO) (y : Option CY) : Prop :=
  (∃ a', a' ≤ len ∧ cFault y a' ∧ faultAt Z x a') ∨
  ∃ (a' n' ns' j f' h : Nat) (q' t' s' : TT), a' ≤ len ∧ y = some (nI j, nI a', q' 0, q' 1, q' 2, q' 3, nI n') ∧ x = cG ML (nI len) f' h (nI j) t' s' d a' ∧ Rl Z q' t' n' ns' a' ∧ Num n ns a n' ns' a' j q q' ∧ (∀ i, i ≤ d → FrJ s s' i) ∧ 999 ≤ f' + a' ∧ 993 + d ≤ h
def ResT (ML : Nat → Int32) (len : Nat) (cd : Nat → Nat) (Z q s : TT) (n ns a d : Nat) (x : Option PO) (y : Option CY) : Prop :=
  (∃ a', a' ≤ len ∧ cFault y a' ∧ faultAt Z x a') ∨
  ∃ (a' n' ns' j f' h : Nat) (v1 : Int32) (q' t' s' : TT), a' ≤ len ∧ y = some (nI j, nI a', q' 0, q' 1, q' 2, q' 3, nI n') ∧ x = cC ML (nI len) f' h v1 t' s' d a' ∧ (¬ v1 = -1) ∧ s' 4 d = nI j ∧ s' 0 d = s 0 d ∧ s' 1 d = s 1 d ∧ s' 2 d = s 2 d ∧ s' 3 d = s 3 d ∧ (∀ i, i < d → FrJ s s' i) ∧ Rl Z q' t' n' ns' a' ∧ Num n ns a n' ns' a' j q q' ∧ cd a' ≠ 42 ∧ 999 ≤ f' + a' ∧ 992 + d ≤ h
def ResS (ML : Nat → Int32) (len : Nat) (cd : Nat → Nat) (Z q s : TT) (n ns a d : Nat) (x : Option PO) (y : Option CY) : Prop :=
  (∃ a', a' ≤ len ∧ cFault y a' ∧ faultAt Z x a') ∨
  ∃ (a' n' ns' j f' h : Nat) (v1 : Int32) (q' t' t'' s' : TT), a' ≤ len ∧ y = some (nI j, nI a', q' 0, q' 1, q' 2, q' 3, nI n') ∧ x = cC ML (nI len) f' h v1 t' s' d a' ∧ (¬ v1 = -1) ∧ LowZ Z t' ∧ fX7_adds (t' 0) (t' 1) (t' 2) (t' 3) (t' 4) (t' 5) (t' 6) (t' 7) (s' 1) (s' 2) (s' 3) (s' 4) (nI d) = some (t'' 0, t'' 1, t'' 2, t'' 3, t'' 4, t'' 5, t'' 6, t'' 7, upd (s' 1) d (nI j), upd (s' 4) d (-1)) ∧
    s' 0 d = s 0 d ∧ (∀ i, i < d → FrJ s s' i) ∧ Rl Z q' t'' n' ns' a' ∧ Num n ns a n' ns' a' j q q' ∧ cd a' ≠ 42 ∧ cd a' ≠ 43 ∧ cd a' ≠ 45 ∧ 999 ≤ f' + a' ∧ 992 + d ≤ h
def HP (L ML : Nat → Int32) (len m : Nat) : Prop := ∀ (Z q t s : TT) (n ns d a f g : Nat), d ≤ 7 → 8 ≤ m + d → Rl Z q t n ns a → a ≤ len → 999 ≤ f + a → 8 ≤ g + d → ResP ML len Z q s n ns a d (cB ML (nI len) f g t s d a) ((fRec m).1 (nI d) L (nI len) (nI a) (q 0) (q 1) (q 2) (q 3) (nI n))
def HS (L ML : Nat → Int32) (len m : Nat) (cd : Nat → Nat) : Prop := ∀ (Z q t s : TT) (n ns d a f g : Nat), d ≤ 7 → 8 ≤ m + d → Rl Z q t n ns a → a ≤ len → 999 ≤ f + a → 8 ≤ g + d → s 0 d = 0 → s 1 d = -1 → s 4 d = -1 → ResS ML len cd Z q s n ns a d (cB ML (nI len) f g t s d a) ((fRec m).2 (nI d) L (nI len) (nI a) (q 0) (q 1) (q 2) (q 3) (nI n))
theorem lt7i {d : Nat} (hd : d ≤ 7) : ((7 : Int32) ≤ nI d) ↔ d = 7 := by
  rw [show ((7 : Int32) ≤ nI d) ↔ 7 ≤ d from nI_leI (a := 7) (by omega) (by omega)]
  omega
theorem base_step {L ML : Nat → Int32} {len : Nat} {cd : Nat → Nat} (hln : LnOK L ML len cd) {m : Nat} (hP : HP L ML len m) (hS : HS L ML len m cd) (Z q t s : TT) (n ns d a f g : Nat) (hd : d ≤ 7) (hm : 8 ≤ m + 1 + d) (h : Rl Z q t n ns a) (ha : a ≤ len) (hf : 999 ≤ f + a) (hg : 8 ≤ g + d) :
    ResB ML len Z q s n ns a d (cB ML (nI len) f g t s d a) (fX5_readBase (nI d) L (nI len) (nI a) (q 0) (q 1) (q 2) (q 3) (nI n) (fRec m).1 (fRec m).2) := by
  have hl := hln.1
  have c1 := cd_le hln a
  have rn := h.1
  have low := h.2.2.2.2.2.2.2.2
  obtain ⟨g, rfl⟩ : ∃ g', g = g' + 1 := ⟨g - 1, by omega⟩
  unfold fX5_readBase
  rw [c_next hln (by omega), bnd1_s, c_isDigit c1, bnd1_s]
  by_cases hD : cd a < 48 ∨ 57 < cd a
  · rw [if_pos hD, if_pos rfl]
    by_cases hN : 97 ≤ cd a ∧ cd a ≤ 102
    · -- a name
      have al := cd_lt hln (show cd a ≠ 0 by omega)
      rw [if_neg (show ¬ nI (cd a) < 97 from fun y => by have := (nI_ltI (b := 97) (by omega) (by omega)).mp y; omega), if_neg (show ¬ (103 : Int32) ≤ nI (cd a) from fun y => by have := (nI_leI (a := 103) (by omega) (by omega)).mp y; omega), show nI (cd a) - 97 = nI (cd a - 97) from pk_sub (b := 97) (by omega)]
      have hrow : rowOK n 1 (nI (cd a - 97)) 0 := Or.inr (Or.inl ⟨rfl, rfl, _, by omega, rfl⟩)
      obtain ⟨j, n', q', t', b1, b2, b3, b4, b5, b6, b7, b8, b9, b10, b11, b12, b13⟩ := add_plain h hrow (by decide) (p := a) (a' := a + 1) (by omega) (by omega) (by omega) (by omega)
      have b2 : fX7_formula 1 (nI (cd a - 97)) 0 (t 0) (t 1) (t 2) (t 3) = some (nI j, t' 0, t' 1, t' 2, t' 3) := b2
      right
      refine ⟨a + 1, n', ns, j, f, 1000, q', t', s, by omega, ?_, ?_, b7, ⟨by omega, by omega, by omega, by omega, b8, b13.elim Or.inl (fun y => Or.inr y.2), b9⟩, fun i _ => FrJ_refl s i, by omega, by omega⟩
      · rw [b1, bnd6_s, nI_1]
      · refine cB_atom hln (by omega) (by omega) (by omega) (Or.inr hN) f g d t s ?_ b3 b4 b5 b6
        have ei : fX7_isIn (nI (cd a)) 97 102 = _ := m_isInN (lo := 97) (hi := 102) c1 (by omega) (by omega)
        unfold fX7_atom
        rw [m_sign hln (by omega), bnd1_s, ei, bnd1_s, if_neg (show ¬ (cd a < 97 ∨ 102 < cd a) by omega), if_neg (show ¬ (1 : Int32) = 0 by decide), nI_1, show nI (a + 1) - 1 = nI a from nI_pred _, gi_n (show a < 64 by omega) (by omega), clamp_n (by omega), (hln.2.1 a al).2.2.2, show nI (cd a) - 97 = nI (cd a - 97) from pk_sub (b := 97) (by omega), b2, bnd5_s]
    · -- no name: what stands here opens, or is a fault
      have hb : ∀ (X : Option CY), (if nI (cd a) < 97 then BX5_readBase_66 L (nI len) (nI d) (fRec m).1 (fRec m).2 (nI (cd a)) (nI a) (nI a) (q 0) (q 1) (q 2) (q 3) (nI n) else if 103 ≤ nI (cd a) then BX5_readBase_66 L (nI len) (nI d) (fRec m).1 (fRec m).2 (nI (cd a)) (nI a) (nI a) (q 0) (q 1) (q 2) (q 3) (nI n) else X) = BX5_readBase_66 L (nI len) (nI d) (fRec m).1 (fRec m).2 (nI (cd a)) (nI a) (nI a) (q 0) (q 1) (q 2) (q 3) (nI n) := fun X => by
        by_cases y : cd a < 97
        · rw [if_pos (show nI (cd a) < 97 from (nI_ltI (b := 97) (by omega) (by omega)).mpr y)]
        · rw [if_neg (show ¬ nI (cd a) < 97 from fun z => y ((nI_ltI (b := 97) (by omega) (by omega)).mp z)), if_pos (show (103 : Int32) ≤ nI (cd a) from (nI_leI (a := 103) (by omega) (by omega)).mpr (by omega))]
      rw [hb]
      unfold BX5_readBase_66
      by_cases hO : cd a = 45 ∨ cd a = 40
      · have al := cd_lt hln (show cd a ≠ 0 by omega)
        by_cases h7 : d = 7
        · left
          subst h7
          rw [if_pos (show (7 : Int32) ≤ nI 7 by decide)]
          refine ⟨a, ha, ⟨_, _, _, _, _, rfl⟩, ?_⟩
          rw [cB_full hln (by omega) hO]
          exact ⟨t, s, _, rfl, low⟩
        · rw [if_neg (fun y => h7 ((lt7i hd).mp y)), cB_push hln (by omega) (by omega) hO]
          have h1 : Rl Z q t n ns (a + 1) := Rl_mono h (by omega) (by omega)
          rcases hO with e | e
          · -- a negative
            rw [if_pos (show nI (cd a) = 45 by rw [e]; rfl)]
            unfold BX5_readBase_86
            rw [if_neg (show ¬ nI (cd a) = 40 by rw [e]; decide), nI_1, nI_1, if_pos e]
            rcases hP Z q t (pushS s d 1) n ns (d + 1) (a + 1) f g (by omega) (by omega) h1 (by omega) (by omega) (by omega) with ⟨a', a1, ⟨k, l, r, p, z, y⟩, a3⟩ | ⟨a', n', ns', j, f', hh, q', t', s', a1, y, x, r1, nm, fr, ff, h9⟩
            · left
              rw [y, bnd7_s, if_pos rfl]
              exact ⟨a', a1, ⟨_, _, _, _, _, rfl⟩, a3⟩
            · right
              obtain ⟨m1, m2, m3, m4, m5, m6, m7⟩ := nm
              have r60 := r1.2.2.1
              have hrow : rowOK n' 2 (nI j) 0 := Or.inr (Or.inr (Or.inl ⟨rfl, rfl, j, m5, rfl⟩))
              obtain ⟨j2, n2, q2, t2, b1, b2, b3, b4, b5, b6, b7, b8, b9, b10, b11, b12, b13⟩ := add_plain r1 hrow (by decide) (p := a) (a' := a') (by omega) (by omega) (by omega) (Nat.le_refl _)
              have b2 : fX7_formula 6 (nI j) 0 (t' 0) (t' 1) (t' 2) (t' 3) = some (nI j2, t2 0, t2 1, t2 2, t2 3) := b2
              obtain ⟨hh, rfl⟩ : ∃ x, hh = x + 1 := ⟨hh - 1, by omega⟩
              refine ⟨a', n2, ns', j2, f', hh, q2, t2, s', a1, ?_, ?_, b7, ⟨by omega, by omega, by omega, by omega, b8, ?_, Ext_trans m7 m2 b9⟩, fun i hi => FrJ_trans (push_fr s d 1 i hi) (fr i (by omega)), ff, by omega⟩
              · rw [y, bnd7_s, if_neg (nI_neM1 (by omega)), b1, bnd6_s]
              · rw [x]
                exact cG_neg ML (nI len) f' hh (nI j) t' s' (by omega) a' ((fr (d + 1) (Nat.le_refl _)).1.trans (if_pos rfl)) b2 b3 b4 b5 b6
              · rcases b13 with z | z
                · have := row_left (k2 := 0) (b7.2.2.2.2.2.1 j2 b8).1 (by rw [b10]; decide) (show j < 2 ^ 31 by omega) b11 rfl (by omega)
                  left
                  omega
                · exact Or.inr z.2
          · -- what is between ( and )
            rw [if_neg (show ¬ nI (cd a) = 45 by rw [e]; decide), if_pos (show nI (cd a) = 40 by rw [e]; rfl)]
            unfold BX5_readBase_86 fX5_readClosed
            rw [if_pos (show nI (cd a) = 40 by rw [e]; rfl), nI_1, nI_1, if_neg (by omega)]
            rcases hS Z q t (pushS s d 0) n ns (d + 1) (a + 1) f g (by omega) (by omega) h1 (by omega) (by omega) (by omega) (if_pos rfl) (if_pos rfl) (if_pos rfl) with ⟨a', a1, ⟨k, l, r, p, z, y⟩, a3⟩ | ⟨a', n', ns', j, f', hh, v1, q', t', t2, s', a1, y, x, hv, lz, ad, f0, fr, r1, nm, n42, n43, n45, ff, h9⟩
            · left
              rw [y, bnd7_s, if_pos rfl, bnd7_s]
              exact ⟨a', a1, ⟨_, _, _, _, _, rfl⟩, a3⟩
            · obtain ⟨m1, m2, m3, m4, m5, m6, m7⟩ := nm
              have r60 := r1.2.2.1
              have c2 := cd_le hln a'
              rw [y, bnd7_s, if_neg (nI_neM1 (by have := r1.1; omega)), c_next hln (by omega), bnd1_s]
              by_cases hc : cd a' = 41
              · right
                have al2 := cd_lt hln (show cd a' ≠ 0 by omega)
                rw [if_pos (show nI (cd a') = 41 by rw [hc]; rfl), bnd7_s, nI_1]
                refine ⟨a' + 1, n', ns', j, f', hh, q', t2, tb5 (s' 0) (upd (s' 1) (d + 1) (nI j)) (s' 2) (s' 3) (upd (s' 4) (d + 1) (-1)), by omega, rfl, ?_, Rl_mono r1 (by omega) (by omega), ⟨by omega, by omega, by omega, by omega, m5, by omega, m7⟩, fun i hi => ?_, by omega, by omega⟩
                · rw [x, cC_close hln (by omega) hc f' hh v1 t' s' (by omega) ad, upd_at, if_pos rfl]
                · have z := FrJ_trans (push_fr s d 0 i hi) (fr i (by omega))
                  exact ⟨z.1, (if_neg (by omega)).trans z.2.1, z.2.2.1, z.2.2.2.1, (if_neg (by omega)).trans z.2.2.2.2⟩
              · left
                rw [if_neg (show ¬ nI (cd a') = 41 from fun z => hc ((eqc (m := 41) c2 (by omega)).mp z)), bnd7_s]
                obtain ⟨hh, rfl⟩ : ∃ x, hh = x + 1 := ⟨hh - 1, by omega⟩
                refine ⟨a', a1, ⟨_, _, _, _, _, rfl⟩, ?_⟩
                rw [x]
                by_cases el : a' = len
                · subst el
                  rw [cC_end hln f' hh hv]
                  unfold EE
                  rw [ad, bnd10_s, if_neg (nI_ne0 (by omega) (by omega))]
                  exact ⟨t2, tb5 (s' 0) (upd (s' 1) (d + 1) (nI j)) (s' 2) (s' 3) (upd (s' 4) (d + 1) (-1)), _, rfl, r1.2.2.2.2.2.2.2.2⟩
                · rw [cC_bad hln (by omega) n42 n43 n45 (fun z => absurd z hc) f' hh hv]
                  exact ⟨t', s', _, rfl, lz⟩
      · left
        refine ⟨a, ha, ?_, ?_⟩
        · rw [if_neg (show ¬ nI (cd a) = 45 from fun z => hO (Or.inl ((eqc (m := 45) c1 (by omega)).mp z))), if_neg (show ¬ nI (cd a) = 40 from fun z => hO (Or.inr ((eqc (m := 40) c1 (by omega)).mp z)))]
          by_cases y : (7 : Int32) ≤ nI d
          · rw [if_pos y]
            exact ⟨_, _, _, _, _, rfl⟩
          · rw [if_neg y]
            exact ⟨_, _, _, _, _, rfl⟩
        · rw [cB_bad hln (by omega) (fun y => hO (Or.inl y)) (fun y => hO (Or.inr y)) (by omega)]
          exact ⟨t, s, _, rfl, low⟩
  · -- a number
    rw [if_neg hD, if_neg (show ¬ (1 : Int32) = 0 by decide)]
    have al := cd_lt hln (show cd a ≠ 0 by omega)
    obtain ⟨v', a', a1, a2, a3, a4, a5⟩ := num_loop hln (fun v1 pos => some (v1, pos)) (fun v1 Mformulas Mkind Mone Mother Mat => BX7_atom_93 ML (nI len) v1 Mformulas Mkind Mone Mother Mat) (t 0) (t 1) (t 2) (t 3) 1000 0 a 0 (by omega) (by omega) ha
    have a3 := a3 (by omega) (by unfold isD; omega)
    have a4 : fX5_readNumber L (nI len) (nI a) = some (v', nI a') := a4
    have hrow : rowOK n 0 v' 0 := Or.inl ⟨rfl, rfl⟩
    obtain ⟨j, n', q', t', b1, b2, b3, b4, b5, b6, b7, b8, b9, b10, b11, b12, b13⟩ := add_plain h hrow (by decide) (p := a) (a' := a') (by omega) (by omega) (by omega) (by omega)
    have b2 : fX7_formula 0 v' 0 (t 0) (t 1) (t 2) (t 3) = some (nI j, t' 0, t' 1, t' 2, t' 3) := b2
    right
    refine ⟨a', n', ns, j, f, 1000, q', t', s, a2, ?_, ?_, b7, ⟨by omega, by omega, by omega, by omega, b8, b13.elim Or.inl (fun y => Or.inr y.2), b9⟩, fun i _ => FrJ_refl s i, by omega, by omega⟩
    · rw [a4, bnd2_s, b1, bnd6_s]
    · refine cB_atom hln (by omega) (by omega) (by omega) (Or.inl ⟨by omega, by omega⟩) f g d t s ?_ b3 b4 b5 b6
      have ei : fX7_isIn (nI (cd a)) 97 102 = _ := m_isInN (lo := 97) (hi := 102) c1 (by omega) (by omega)
      unfold fX7_atom
      rw [m_sign hln (by omega), bnd1_s, ei, bnd1_s, if_pos (show cd a < 97 ∨ 102 < cd a by omega), if_pos rfl]
      refine Eq.trans a5 ?_
      show BX7_atom_93 ML (nI len) v' (t 0) (t 1) (t 2) (t 3) (nI a') = _
      unfold BX7_atom_93
      rw [b2, bnd5_s]
theorem part_step {L ML : Nat → Int32} {len : Nat} {cd : Nat → Nat} (hln : LnOK L ML len cd) {m : Nat} (hP : HP L ML len m) (hS : HS L ML len m cd) : HP L ML len (m + 1) := by
  intro Z q t s n ns d a f g hd hm h ha hf hg
  have hl := hln.1
  show ResP ML len Z q s n ns a d (cB ML (nI len) f g t s d a) (fX5_readPart (nI d) L (nI len) (nI a) (q 0) (q 1) (q 2) (q 3) (nI n) (fRec m).1 (fRec m).2)
  rw [readPart_eq]
  rcases base_step hln hP hS Z q t s n ns d a f g hd hm h ha hf hg with ⟨a', a1, ⟨k, l, r, p, z, y⟩, a3⟩ | ⟨a', n', ns', j, f', hh, q', t', s', a1, y, x, r1, nm, fr, ff, h9⟩
  · left
    rw [y, bnd7_s]
    unfold cTail
    rw [if_pos rfl]
    exact ⟨a', a1, ⟨_, _, _, _, _, rfl⟩, a3⟩
  · rw [y, bnd7_s, x]
    obtain ⟨m1, m2, m3, m4, m5, m6, m7⟩ := nm
    rcases power_step hln r1 a1 m5 with ⟨a2, a3, a4, a5⟩ | ⟨a2, n2, j2, q2, t2, b1, b2, b3, b4, b5, b6, b7, b8, b9, b10⟩
    · left
      obtain ⟨hh, rfl⟩ : ∃ x, hh = x + 1 := ⟨hh - 1, by omega⟩
      exact ⟨a2, a3, a4, a5 f' hh s' d⟩
    · right
      exact ⟨a2, n2, ns', j2, f', hh, q2, t2, s', b2, b3, b4 f' hh s' d, b5, ⟨by omega, by omega, by omega, by omega, b6, by omega, Ext_trans m7 m2 b9⟩, fr, by omega, h9⟩
def ET : Int32 → Int32 → (Nat → Int32) → (Nat → Int32) → (Nat → Int32) → (Nat → Int32) → Int32 → Option CY := fun v3 Lat Fkinds Flefts Frights Fplaces Fsize => some (v3, Lat, Fkinds, Flefts, Frights, Fplaces, Fsize)
theorem term_loop {L ML : Nat → Int32} {len : Nat} {cd : Nat → Nat} (hln : LnOK L ML len cd) {m : Nat} (hP : HP L ML len (m + 1)) {d : Nat} (hd : d ≤ 7) (hm : 8 ≤ m + 1 + d) (Z q0 s0 : TT) (n0 ns0 a0 : Nat) :
    ∀ (F a : Nat) (q t s : TT) (n ns j f h : Nat) (v1 : Int32), len - a < F → a ≤ len → 999 ≤ f + a → 992 + d ≤ h → (¬ v1 = -1) → s 4 d = nI j → (¬ s 0 d = 1) → s 0 d = s0 0 d → s 1 d = s0 1 d → s 2 d = s0 2 d → s 3 d = s0 3 d → (∀ i, i < d → FrJ s0 s i) → Rl Z q t n ns a → Num n0 ns0 a0 n ns a j q0 q →
      ResT ML len cd Z q0 s0 n0 ns0 a0 d (cC ML (nI len) f h v1 t s d a) (LX5_readTerm_7 L (nI len) (nI d) (fRec m).1 (fRec m).2 ET F (nI j) (nI a) (q 0) (q 1) (q 2) (q 3) (nI n))
  | 0, a, _, _, _, _, _, _, _, _, _, hF, _, _, _, _, _, _, _, _, _, _, _, _, _ => absurd hF (Nat.not_lt_zero _)
  | F + 1, a, q, t, s, n, ns, j, f, h, v1, hF, ha, hf, hh, hv, h4, h0, e0, e1, e2, e3, fr, hR, nm => by
    have hl := hln.1
    have c1 := cd_le hln a
    obtain ⟨m1, m2, m3, m4, m5, m6, m7⟩ := id nm
    have rn := hR.1
    have jm : ¬ nI j = -1 := nI_neM1 (by omega)
    rw [LX5_readTerm_7, if_neg jm]
    have stop : cd a ≠ 42 → ResT ML len cd Z q0 s0 n0 ns0 a0 d (cC ML (nI len) f h v1 t s d a) (ET (nI j) (nI a) (q 0) (q 1) (q 2) (q 3) (nI n)) := fun y => Or.inr ⟨a, n, ns, j, f, h, v1, q, t, s, ha, rfl, rfl, hv, h4, e0, e1, e2, e3, fr, hR, nm, y, hf, hh⟩
    by_cases el : len ≤ a
    · rw [if_pos ((nI_leI (by omega) (by omega)).mpr el)]
      exact stop (by rw [hln.2.2 a el]; decide)
    · rw [if_neg (fun y => el ((nI_leI (by omega) (by omega)).mp y)), c_next hln (by omega), bnd1_s]
      by_cases hc : cd a = 42
      · rw [if_pos (show nI (cd a) = 42 by rw [hc]; rfl), nI_1]
        obtain ⟨h, rfl⟩ : ∃ x, h = x + 1 := ⟨h - 1, by omega⟩
        obtain ⟨f, rfl⟩ : ∃ x, f = x + 1 := ⟨f - 1, by omega⟩
        rw [cC_star hln ha hc f h hv]
        have hp := hP Z q t s n ns d (a + 1) f 1000 hd hm (Rl_mono hR (by omega) (by omega)) (by omega) (by omega) (by omega)
        have hp : ResP ML len Z q s n ns (a + 1) d (cB ML (nI len) f 1000 t s d (a + 1)) (fX5_readPart (nI d) L (nI len) (nI (a + 1)) (q 0) (q 1) (q 2) (q 3) (nI n) (fRec m).1 (fRec m).2) := hp
        rcases hp with ⟨a', a1, ⟨k, l, r, p, z, y⟩, a3⟩ | ⟨a', n', ns', j2, f', hh2, q', t', s', a1, y, x, r1, nm2, fr2, ff, h9⟩
        · left
          obtain ⟨F, rfl⟩ : ∃ x, F = x + 1 := ⟨F - 1, by omega⟩
          rw [y, bnd7_s, if_pos rfl, LX5_readTerm_7, if_pos rfl]
          exact ⟨a', a1, ⟨_, _, _, _, _, rfl⟩, a3⟩
        · obtain ⟨p1, p2, p3, p4, p5, p6, p7⟩ := nm2
          have r60 := r1.2.2.1
          have hrow : rowOK n' 5 (nI j) (nI j2) := Or.inr (Or.inr (Or.inr (Or.inl ⟨Or.inr (Or.inr rfl), j, j2, by omega, p5, rfl, rfl⟩)))
          obtain ⟨j3, n3, q3, t3, b1, b2, b3, b4, b5, b6, b7, b8, b9, b10, b11, b12, b13⟩ := add_plain r1 hrow (by decide) (p := a) (a' := a') (by omega) (by omega) (by omega) (Nat.le_refl _)
          have b2 : fX7_formula 4 (nI j) (nI j2) (t' 0) (t' 1) (t' 2) (t' 3) = some (nI j3, t3 0, t3 1, t3 2, t3 3) := b2
          obtain ⟨hh2, rfl⟩ : ∃ x, hh2 = x + 1 := ⟨hh2 - 1, by omega⟩
          have frd := fr2 d (Nat.le_refl _)
          have s4 : s' 4 d = nI j := frd.2.2.2.2.trans h4
          have s0' : ¬ s' 0 d = 1 := by
            rw [frd.1]
            exact h0
          have rn3 := b7.1
          rw [y, bnd7_s, if_neg (nI_neM1 (by omega)), b1, bnd6_s, x, cG_mul ML (nI len) f' hh2 (nI j2) t' s' (by omega) a' s0' (by rw [s4]; exact jm) (t' := t3) (r := nI j3) (by rw [s4]; exact b2) b3 b4 b5 b6]
          refine term_loop hln hP hd hm Z q0 s0 n0 ns0 a0 F a' q3 t3 (tb5 (s' 0) (s' 1) (s' 2) (s' 3) (upd (s' 4) d (nI j3))) n3 ns' j3 f' hh2 (nI j2) (by omega) a1 ff (by omega) (nI_neM1 (by omega)) pk_us s0' (frd.1.trans e0) (frd.2.1.trans e1) (frd.2.2.1.trans e2) (frd.2.2.2.1.trans e3) (fun i hi => ?_) b7 ⟨by omega, by omega, by omega, by omega, b8, ?_, Ext_trans (Ext_trans m7 m2 p7) (by omega) b9⟩
          · have z := FrJ_trans (fr i hi) (fr2 i (by omega))
            exact ⟨z.1, z.2.1, z.2.2.1, z.2.2.2.1, (if_neg (by omega)).trans z.2.2.2.2⟩
          · rcases b13 with z | z
            · have ro := (b7.2.2.2.2.2.1 j3 b8).1
              have u1 := row_left (k2 := 0) ro (by rw [b10]; decide) (show j < 2 ^ 31 by omega) b11 rfl (by omega)
              have u2 := row_right ro (by rw [b10]; decide) (show j2 < 2 ^ 31 by omega) b12 (by omega)
              left
              omega
            · exact Or.inr z.2
      · rw [if_neg (show ¬ nI (cd a) = 42 from fun z => hc ((eqc (m := 42) c1 (by omega)).mp z))]
        exact stop hc
theorem term_step {L ML : Nat → Int32} {len : Nat} {cd : Nat → Nat} (hln : LnOK L ML len cd) {m : Nat} (hP : HP L ML len (m + 1)) (Z q t s : TT) (n ns d a f g : Nat) (hd : d ≤ 7) (hm : 8 ≤ m + 1 + d) (h : Rl Z q t n ns a) (ha : a ≤ len) (hf : 999 ≤ f + a) (hg : 8 ≤ g + d) (h0 : ¬ s 0 d = 1) (h4 : s 4 d = -1) :
    ResT ML len cd Z q s n ns a d (cB ML (nI len) f g t s d a) (fX5_readTerm (nI d) L (nI len) (nI a) (q 0) (q 1) (q 2) (q 3) (nI n) (fRec m).1 (fRec m).2) := by
  have hl := hln.1
  have hp := hP Z q t s n ns d a f g hd hm h ha hf hg
  have hp : ResP ML len Z q s n ns a d (cB ML (nI len) f g t s d a) (fX5_readPart (nI d) L (nI len) (nI a) (q 0) (q 1) (q 2) (q 3) (nI n) (fRec m).1 (fRec m).2) := hp
  unfold fX5_readTerm
  rcases hp with ⟨a', a1, ⟨k, l, r, p, z, y⟩, a3⟩ | ⟨a', n', ns', j2, f', hh2, q', t', s', a1, y, x, r1, nm2, fr2, ff, h9⟩
  · left
    rw [y, bnd7_s, LX5_readTerm_7, if_pos rfl]
    exact ⟨a', a1, ⟨_, _, _, _, _, rfl⟩, a3⟩
  · obtain ⟨hh2, rfl⟩ : ∃ x, hh2 = x + 1 := ⟨hh2 - 1, by omega⟩
    have frd := fr2 d (Nat.le_refl _)
    have s0' : ¬ s' 0 d = 1 := by
      rw [frd.1]
      exact h0
    have r60 := r1.2.2.1
    have rn := r1.1
    have jn := nm2.2.2.2.2.1
    rw [y, bnd7_s, x, cG_fst ML (nI len) f' hh2 (nI j2) t' s' (by omega) a' s0' (frd.2.2.2.2.trans h4)]
    refine term_loop hln hP hd hm Z q s n ns a 1000 a' q' t' (tb5 (s' 0) (s' 1) (s' 2) (s' 3) (upd (s' 4) d (nI j2))) n' ns' j2 f' hh2 (nI j2) (by omega) a1 ff (by omega) (nI_neM1 (by omega)) pk_us s0' frd.1 frd.2.1 frd.2.2.1 frd.2.2.2.1 (fun i hi => ?_) r1 nm2
    have z := fr2 i (by omega)
    exact ⟨z.1, z.2.1, z.2.2.1, z.2.2.2.1, (if_neg (by omega)).trans z.2.2.2.2⟩
theorem sum_loop {L ML : Nat → Int32} {len : Nat} {cd : Nat → Nat} (hln : LnOK L ML len cd) {m : Nat} (hP : HP L ML len (m + 1)) {d : Nat} (hd : d ≤ 7) (hm : 8 ≤ m + 1 + d) (Z q0 s0 : TT) (n0 ns0 a0 : Nat) :
    ∀ (F a : Nat) (q t t2 s : TT) (n ns j f h : Nat) (v1 : Int32), len - a < F → a ≤ len → 999 ≤ f + a → 992 + d ≤ h → (¬ v1 = -1) → (¬ s 0 d = 1) → s 0 d = s0 0 d → (∀ i, i < d → FrJ s0 s i) → LowZ Z t → fX7_adds (t 0) (t 1) (t 2) (t 3) (t 4) (t 5) (t 6) (t 7) (s 1) (s 2) (s 3) (s 4) (nI d) = some (t2 0, t2 1, t2 2, t2 3, t2 4, t2 5, t2 6, t2 7, upd (s 1) d (nI j), upd (s 4) d (-1)) → Rl Z q t2 n ns a → Num n0 ns0 a0 n ns a j q0 q → cd a ≠ 42 →
      ResS ML len cd Z q0 s0 n0 ns0 a0 d (cC ML (nI len) f h v1 t s d a) (LX5_readSum_7 L (nI len) (nI d) (fRec m).1 (fRec m).2 ET F (nI j) (nI a) (q 0) (q 1) (q 2) (q 3) (nI n))
  | 0, a, _, _, _, _, _, _, _, _, _, _, hF, _, _, _, _, _, _, _, _, _, _, _, _ => absurd hF (Nat.not_lt_zero _)
  | F + 1, a, q, t, t2, s, n, ns, j, f, h, v1, hF, ha, hf, hh, hv, h0, e0, fr, lz, ad, hR, nm, n42 => by
    have hl := hln.1
    have c1 := cd_le hln a
    obtain ⟨m1, m2, m3, m4, m5, m6, m7⟩ := id nm
    have rn := hR.1
    have jm : ¬ nI j = -1 := nI_neM1 (by omega)
    rw [LX5_readSum_7, if_neg jm]
    have stop : cd a ≠ 43 → cd a ≠ 45 → ResS ML len cd Z q0 s0 n0 ns0 a0 d (cC ML (nI len) f h v1 t s d a) (ET (nI j) (nI a) (q 0) (q 1) (q 2) (q 3) (nI n)) := fun y1 y2 => Or.inr ⟨a, n, ns, j, f, h, v1, q, t, t2, s, ha, rfl, rfl, hv, lz, ad, e0, fr, hR, nm, n42, y1, y2, hf, hh⟩
    by_cases el : len ≤ a
    · rw [if_pos ((nI_leI (by omega) (by omega)).mpr el)]
      have z := hln.2.2 a el
      exact stop (by omega) (by omega)
    · rw [if_neg (fun y => el ((nI_leI (by omega) (by omega)).mp y)), c_next hln (by omega), bnd1_s, bnd1_s]
      by_cases hc : cd a = 43 ∨ cd a = 45
      · have e41 : (if nI (cd a) = 43 then BX5_readSum_41 L (nI len) (nI d) (fRec m).1 (fRec m).2 (LX5_readSum_7 L (nI len) (nI d) (fRec m).1 (fRec m).2 ET F) ET (nI j) (nI a) (q 0) (q 1) (q 2) (q 3) (nI n) else if nI (cd a) = 45 then BX5_readSum_41 L (nI len) (nI d) (fRec m).1 (fRec m).2 (LX5_readSum_7 L (nI len) (nI d) (fRec m).1 (fRec m).2 ET F) ET (nI j) (nI a) (q 0) (q 1) (q 2) (q 3) (nI n) else ET (nI j) (nI a) (q 0) (q 1) (q 2) (q 3) (nI n)) = BX5_readSum_55 L (nI len) (nI d) (fRec m).1 (fRec m).2 (LX5_readSum_7 L (nI len) (nI d) (fRec m).1 (fRec m).2 ET F) ET (nI j) (if cd a = 43 then 3 else 4) (nI a) (q 0) (q 1) (q 2) (q 3) (nI n) := by
          unfold BX5_readSum_41
          rw [c_next hln (by omega), bnd1_s]
          rcases hc with y | y
          · rw [if_pos (show nI (cd a) = 43 by rw [y]; rfl), if_pos (show nI (cd a) = 43 by rw [y]; rfl), if_pos y]
          · rw [if_neg (show ¬ nI (cd a) = 43 by rw [y]; decide), if_pos (show nI (cd a) = 45 by rw [y]; rfl), if_neg (show ¬ nI (cd a) = 43 by rw [y]; decide), if_neg (by omega)]
        rw [e41]
        unfold BX5_readSum_55
        rw [nI_1]
        obtain ⟨h, rfl⟩ : ∃ x, h = x + 1 := ⟨h - 1, by omega⟩
        obtain ⟨f, rfl⟩ : ∃ x, f = x + 1 := ⟨f - 1, by omega⟩
        rw [cC_sign hln ha hc f h hv t s (by omega) ad]
        rcases term_step hln hP Z q t2 (tb5 (s 0) (upd (s 1) d (nI j)) (upd (s 2) d (nI (cd a))) (upd (s 3) d (nI a)) (upd (s 4) d (-1))) n ns d (a + 1) f 1000 hd hm (Rl_mono hR (by omega) (by omega)) (by omega) (by omega) (by omega) h0 pk_us with ⟨a', a1, ⟨k, l, r, p, z, y⟩, a3⟩ | ⟨a', n', ns', j2, f', hh2, v2, q', t', s', a1, y, x, hv2, g4, g0, g1, g2, g3, fr2, r1, nm2, k42, ff, h9⟩
        · left
          obtain ⟨F, rfl⟩ : ∃ x, F = x + 1 := ⟨F - 1, by omega⟩
          rw [y, bnd7_s, if_pos rfl, LX5_readSum_7, if_pos rfl]
          exact ⟨a', a1, ⟨_, _, _, _, _, rfl⟩, a3⟩
        · obtain ⟨p1, p2, p3, p4, p5, p6, p7⟩ := nm2
          have r60 := r1.2.2.1
          have rns := hR.2.1
          have g1 : s' 1 d = nI j := g1.trans pk_us
          have g2 : s' 2 d = nI (cd a) := g2.trans pk_us
          have g3 : s' 3 d = nI a := g3.trans pk_us
          obtain ⟨j3, n3, q3, t3, b1, b2, b3, b4, b5, b6, b7, b8, b9⟩ := adds_more r1 (s := s') (d := d) (by omega) g1 g4 (by omega) p5 g2 hc g3 (show a < a' by omega) (by omega) (by omega) (fun x x1 x2 x3 x4 => by
            have ro := (r1.2.2.2.2.2.1 x x1).1
            have u2 := row_right ro (x2.elim Or.inl (fun z => Or.inr (Or.inl z))) (show j2 < 2 ^ 31 by omega) x4 (by omega)
            have xn : x < n := by omega
            obtain ⟨pp, pp1, pp2⟩ := hR.2.2.2.2.2.2.1 x xn
            exact ⟨pp, by omega, by rw [(p7 x xn).2.2.2, pp2]⟩)
          have rn3 := b3.1
          rw [y, bnd7_s, if_neg (nI_neM1 (by omega)), b1, bnd6_s, x]
          refine sum_loop hln hP hd hm Z q0 s0 n0 ns0 a0 F a' q3 t' t3 s' n3 (ns' + 1) j3 f' hh2 v2 (by omega) a1 ff h9 hv2 (by rw [g0]; exact h0) (g0.trans e0) (fun i hi => ?_) r1.2.2.2.2.2.2.2.2 b2 b3 ⟨by omega, by omega, by omega, by omega, b4, ?_, Ext_trans (Ext_trans m7 m2 p7) (by omega) b5⟩ k42
          · have z : FrJ s (tb5 (s 0) (upd (s 1) d (nI j)) (upd (s 2) d (nI (cd a))) (upd (s 3) d (nI a)) (upd (s 4) d (-1))) i := ⟨rfl, if_neg (by omega), if_neg (by omega), if_neg (by omega), if_neg (by omega)⟩
            exact FrJ_trans (FrJ_trans (fr i hi) z) (fr2 i hi)
          · rcases b9 with z | z
            · have ro := (b3.2.2.2.2.2.1 j3 b4).1
              have kk : ¬ q3 0 j3 = 0 ∧ ¬ q3 0 j3 = 1 := by
                rcases b6 with z | z <;> (rw [z]; decide)
              have u1 := row_left (k2 := 0) ro kk (show j < 2 ^ 31 by omega) b7 rfl (by omega)
              have u2 := row_right ro (b6.elim Or.inl (fun z => Or.inr (Or.inl z))) (show j2 < 2 ^ 31 by omega) b8 (by omega)
              left
              omega
            · exact Or.inr z.2
      · rw [if_neg (show ¬ nI (cd a) = 43 from fun z => hc (Or.inl ((eqc (m := 43) c1 (by omega)).mp z))), if_neg (show ¬ nI (cd a) = 45 from fun z => hc (Or.inr ((eqc (m := 45) c1 (by omega)).mp z)))]
        exact stop (fun y => hc (Or.inl y)) (fun y => hc (Or.inr y))
theorem sum_step {L ML : Nat → Int32} {len : Nat} {cd : Nat → Nat} (hln : LnOK L ML len cd) {m : Nat} (hP : HP L ML len (m + 1)) : HS L ML len (m + 1) cd := by
  intro Z q t s n ns d a f g hd hm h ha hf hg h0 h1 h4
  have hl := hln.1
  show ResS ML len cd Z q s n ns a d (cB ML (nI len) f g t s d a) (fX5_readSum (nI d) L (nI len) (nI a) (q 0) (q 1) (q 2) (q 3) (nI n) (fRec m).1 (fRec m).2)
  unfold fX5_readSum
  rcases term_step hln hP Z q t s n ns d a f g hd hm h ha hf hg (by rw [h0]; decide) h4 with ⟨a', a1, ⟨k, l, r, p, z, y⟩, a3⟩ | ⟨a', n', ns', j2, f', hh2, v2, q', t', s', a1, y, x, hv2, g4, g0, g1, g2, g3, fr2, r1, nm2, k42, ff, h9⟩
  · left
    rw [y, bnd7_s, LX5_readSum_7, if_pos rfl]
    exact ⟨a', a1, ⟨_, _, _, _, _, rfl⟩, a3⟩
  · rw [y, bnd7_s, x]
    have ad := adds_fst (show d < 9 by omega) t' s' (g1.trans h1)
    rw [g4] at ad
    exact sum_loop hln hP hd hm Z q s n ns a 1000 a' q' t' t' s' n' ns' j2 f' hh2 v2 (by omega) a1 ff h9 hv2 (by rw [g0, h0]; decide) g0 fr2 r1.2.2.2.2.2.2.2.2 ad r1 nm2 k42
theorem read_rec {L ML : Nat → Int32} {len : Nat} {cd : Nat → Nat} (hln : LnOK L ML len cd) : ∀ m, HP L ML len m ∧ HS L ML len m cd
  | 0 => ⟨fun Z q t s n ns d a f g hd hm => by omega, fun Z q t s n ns d a f g hd hm => by omega⟩
  | m + 1 => by
    obtain ⟨h1, h2⟩ := read_rec hln m
    have h3 := part_step hln h1 h2
    exact ⟨h3, sum_step hln h3⟩
