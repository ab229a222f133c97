/-! ===== the line read: texts of parts joined by * + - ===== -/
def okR (n : Nat) (q : TT) : Prop := (∀ i, i < n → rowOK i (q 0 i) (q 1 i) (q 2 i)) ∧ ∀ i, i < n → ∃ p, p < 60 ∧ q 3 i = nI p
theorem c_fnd_loop {n : Nat} (hn : n ≤ 60) (q : TT) (k l r : Int32) : ∀ (f j : Nat), j ≤ n → n - j < f → ∃ m, m ≤ n ∧ LX3_find_3 (q 0) (q 1) (q 2) (nI n) k l r (fun v4 => some v4) f (nI j) = some (nI m)
  | 0, j, _, h => absurd h (Nat.not_lt_zero _)
  | f + 1, j, hj, h => by
    rw [LX3_find_3]
    by_cases hc : n ≤ j
    · rw [if_pos ((nI_leI (by omega) (by omega)).mpr hc)]
      exact ⟨j, hj, rfl⟩
    · rw [if_neg (fun q => hc ((nI_leI (by omega) (by omega)).mp q))]
      have nx := c_fnd_loop hn q k l r f (j + 1) (by omega) (by omega)
      simp only [gi_n (show j < 60 by omega) (show 60 < 2 ^ 31 by omega), nI_1]
      by_cases c1 : q 0 (nI j).toNatClampNeg = k
      · rw [if_pos c1]
        by_cases c2 : q 1 (nI j).toNatClampNeg = l
        · rw [if_pos c2]
          by_cases c3 : q 2 (nI j).toNatClampNeg = r
          · rw [if_pos c3]
            exact ⟨j, hj, rfl⟩
          · rw [if_neg c3]
            exact nx
        · rw [if_neg c2]
          exact nx
      · rw [if_neg c1]
        exact nx
theorem c_add {n : Nat} (hn : n < 60) {q : TT} (h : okR n q) {k l r : Int32} (hk : rowOK n k l r) {p : Nat} (hp : p < 60) :
    ∃ (j n' : Nat) (q' : TT), fX3_add k l r (nI p) (q 0) (q 1) (q 2) (q 3) (nI n) = some (nI j, q' 0, q' 1, q' 2, q' 3, nI n') ∧ j < n' ∧ n ≤ n' ∧ n' ≤ n + 1 ∧ okR n' q' := by
  obtain ⟨m, m1, m2⟩ := c_fnd_loop (show n ≤ 60 by omega) q k l r 1000 0 (by omega) (by omega)
  have m2 : fX3_find k l r (q 0) (q 1) (q 2) (nI n) = some (nI m) := m2
  unfold fX3_add
  rw [m2, bnd1_s, if_pos (show nI m < 60 from (nI_ltI (b := 60) (by omega) (by omega)).mpr (by omega))]
  by_cases c : m < n
  · rw [if_neg (show ¬ nI m = nI n from fun y => absurd ((nI_eq (by omega) (by omega)).mp y) (by omega))]
    exact ⟨m, n, q, rfl, c, Nat.le_refl _, by omega, h⟩
  · have : m = n := by omega
    subst this
    simp only [if_true, gi_n (show m < 60 by omega) (show 60 < 2 ^ 31 by omega), clamp_n (show m < 2 ^ 31 by omega), nI_1]
    refine ⟨m, m + 1, st (st (st (st q 0 (upd (q 0) m k)) 1 (upd (q 1) m l)) 2 (upd (q 2) m r)) 3 (upd (q 3) m (nI p)), rfl, by omega, by omega, by omega, fun j hj => ?_, fun j hj => ?_⟩
    · show rowOK j (upd (q 0) m k j) (upd (q 1) m l j) (upd (q 2) m r j)
      simp only [upd_at]
      by_cases e : j = m
      · subst e
        simp only [if_true]
        exact hk
      · simp only [e, if_false]
        exact h.1 j (by omega)
    · show ∃ p', p' < 60 ∧ upd (q 3) m (nI p) j = nI p'
      rw [upd_at]
      by_cases e : j = m
      · rw [if_pos e]
        exact ⟨p, hp, rfl⟩
      · rw [if_neg e]
        exact h.2 j (by omega)
theorem rowOK_up {n n' : Nat} {k l r : Int32} (h : rowOK n k l r) (hn : n ≤ n') : rowOK n' k l r := by
  rcases h with h | h | ⟨h1, h2, a, ha, h3⟩ | ⟨h1, a, b, ha, hb, h2⟩ | ⟨h1, a, e, ha, h2⟩
  · exact Or.inl h
  · exact Or.inr (Or.inl h)
  · exact Or.inr (Or.inr (Or.inl ⟨h1, h2, a, by omega, h3⟩))
  · exact Or.inr (Or.inr (Or.inr (Or.inl ⟨h1, a, b, by omega, by omega, h2⟩)))
  · exact Or.inr (Or.inr (Or.inr (Or.inr ⟨h1, a, e, by omega, h2⟩)))
/-- a reading that ends at e, with k signs more than rows -/
def Rs (k : Nat) (x : Option CY) (n0 e : Nat) : Prop := ∃ (j n' : Nat) (q' : TT), x = some (nI j, nI e, q' 0, q' 1, q' 2, q' 3, nI n') ∧ j < n' ∧ n0 ≤ n' ∧ n' + k ≤ e ∧ okR n' q'
section RD
variable {L : Nat → Int32} {ln : Nat} {cd : Nat → Nat}
theorem k_next (h : LnK ln cd L) {a : Nat} (ha : a ≤ 60) : fX5_next L (nI ln) (nI a) = some (nI (cd a)) := by
  have hl := h.1
  unfold fX5_next
  by_cases q : a < ln
  · obtain ⟨h1, h2, h3⟩ := h.2.1 a q
    rw [if_neg (fun y => absurd ((nI_leI (by omega) (by omega)).mp y) (by omega)), gi_n (show a < 60 by omega) (by omega), clamp_n (by omega), h3]
    exact gn_char (by omega)
  · rw [if_pos ((nI_leI (by omega) (by omega)).mpr (by omega)), h.2.2 a (by omega)]
    rfl
theorem k_126 (h : LnK ln cd L) (a : Nat) : cd a ≤ 126 := by
  by_cases q : a < ln
  · exact (h.2.1 a q).2.1
  · rw [h.2.2 a (by omega)]
    omega
theorem k_lt (h : LnK ln cd L) {a : Nat} (hc : cd a ≠ 0) : a < ln := by
  by_cases q : a < ln
  · exact q
  · exact absurd (h.2.2 a (by omega)) hc
theorem k_eq {c m : Nat} (hc : c ≤ 126) (hm : m ≤ 126) : (nI c = nI m) ↔ c = m := nI_eq (by omega) (by omega)
def isNm (c : Nat) : Prop := 97 ≤ c ∧ c ≤ 102
def is04 (c : Nat) : Prop := 48 ≤ c ∧ c ≤ 52
/-- a name -/
theorem k_name (h : LnK ln cd L) {a : Nat} (ha : a < 60) (hc : isNm (cd a)) (v2 : Int32) (fP fS : TPs) {k n : Nat} {q : TT} (hn : n + k ≤ a) (hq : okR n q) : Rs k (fX5_readBase v2 L (nI ln) (nI a) (q 0) (q 1) (q 2) (q 3) (nI n) fP fS) n (a + 1) := by
  have c126 := k_126 h a
  obtain ⟨c1, c2⟩ := hc
  have e97 : nI (cd a) - 97 = nI (cd a - 97) := pk_sub (b := 97) c1
  obtain ⟨j, n', q', e, h1, h2, h3, h4⟩ := c_add (show n < 60 by omega) hq (k := 1) (l := nI (cd a - 97)) (r := 0) (Or.inr (Or.inl ⟨rfl, rfl, _, by omega, rfl⟩)) (show a < 60 from ha)
  unfold fX5_readBase
  rw [k_next h (by omega), bnd1_s, c_isDigit c126, bnd1_s, if_pos (show cd a < 48 ∨ 57 < cd a by omega), if_pos rfl, if_neg (show ¬ nI (cd a) < 97 from fun y => by have := (nI_ltI (b := 97) (by omega) (by omega)).mp y; omega), if_neg (show ¬ (103 : Int32) ≤ nI (cd a) from fun y => by have := (nI_leI (a := 103) (by omega) (by omega)).mp y; omega), e97, e, bnd6_s, nI_1]
  exact ⟨j, n', q', rfl, h1, h2, by omega, h4⟩
/-- a number of two digits -/
theorem k_num (h : LnK ln cd L) {a : Nat} (ha : a + 2 ≤ 60) (hc : isD (cd a)) (hc2 : isD (cd (a + 1))) (hc3 : ¬ isD (cd (a + 2))) (v2 : Int32) (fP fS : TPs) {k n : Nat} {q : TT} (hn : n + k ≤ a) (hq : okR n q) : Rs k (fX5_readBase v2 L (nI ln) (nI a) (q 0) (q 1) (q 2) (q 3) (nI n) fP fS) n (a + 2) := by
  unfold isD at hc hc2 hc3
  have d0 := c_isDigit (k_126 h a)
  have d1 := c_isDigit (k_126 h (a + 1))
  have d2 := c_isDigit (k_126 h (a + 2))
  rw [if_neg (by omega)] at d0 d1
  rw [if_pos (by omega)] at d2
  have en : ∃ v, fX5_readNumber L (nI ln) (nI a) = some (v, nI (a + 2)) := by
    unfold fX5_readNumber
    rw [show (1000 : Nat) = 997 + 1 + 1 + 1 from rfl, LX5_readNumber_4, if_neg (by decide), k_next h (by omega), bnd1_s, d0, bnd1_s, if_neg (by decide), bnd1_s, nI_1, LX5_readNumber_4, if_neg (by decide), k_next h (by omega), bnd1_s, d1, bnd1_s, if_neg (by decide), bnd1_s, nI_1, LX5_readNumber_4, if_neg (by decide), k_next h (by omega), bnd1_s, d2, bnd1_s, if_pos rfl]
    exact ⟨_, rfl⟩
  obtain ⟨v, ev⟩ := en
  obtain ⟨j, n', q', e, h1, h2, h3, h4⟩ := c_add (show n < 60 by omega) hq (k := 0) (l := v) (r := 0) (Or.inl ⟨rfl, rfl⟩) (show a < 60 by omega)
  unfold fX5_readBase
  rw [k_next h (by omega), bnd1_s, d0, bnd1_s, if_neg (by decide), ev, bnd2_s, e, bnd6_s]
  exact ⟨j, n', q', rfl, h1, h2, by omega, h4⟩
/-- behind a base: no power -/
theorem k_plain (h : LnK ln cd L) {v2 : Int32} {fP fS : TPs} {at0 : Int32} {q0 : TT} {sz : Int32} {k n0 e : Nat} (he : e ≤ 60) (hb : Rs k (fX5_readBase v2 L (nI ln) at0 (q0 0) (q0 1) (q0 2) (q0 3) sz fP fS) n0 e) (hc : cd e ≠ 94) : Rs k (fX5_readPart v2 L (nI ln) at0 (q0 0) (q0 1) (q0 2) (q0 3) sz fP fS) n0 e := by
  obtain ⟨j, n', q', e1, h1, h2, h3, h4⟩ := hb
  unfold fX5_readPart
  rw [e1, bnd7_s, if_neg (nI_neM1 (by omega)), k_next h he, bnd1_s, if_neg (show ¬ nI (cd e) = 94 from fun y => hc ((k_eq (m := 94) (k_126 h e) (by omega)).mp y))]
  exact ⟨j, n', q', rfl, h1, h2, h3, h4⟩
/-- a power -/
theorem k_pow (h : LnK ln cd L) {v2 : Int32} {fP fS : TPs} {at0 : Int32} {q0 : TT} {sz : Int32} {k n0 e : Nat} (he : e + 2 ≤ 60) (hb : Rs k (fX5_readBase v2 L (nI ln) at0 (q0 0) (q0 1) (q0 2) (q0 3) sz fP fS) n0 e) (hc : cd e = 94) (hd : is04 (cd (e + 1))) : Rs k (fX5_readPart v2 L (nI ln) at0 (q0 0) (q0 1) (q0 2) (q0 3) sz fP fS) n0 (e + 2) := by
  obtain ⟨j, n', q', e1, h1, h2, h3, h4⟩ := hb
  obtain ⟨d1, d2⟩ := hd
  have ed : nI (cd (e + 1)) - 48 = nI (cd (e + 1) - 48) := pk_sub (b := 48) d1
  obtain ⟨j2, n2, q2, e2, g1, g2, g3, g4⟩ := c_add (show n' < 60 by omega) h4 (k := 6) (l := nI j) (r := nI (cd (e + 1) - 48)) (Or.inr (Or.inr (Or.inr (Or.inr ⟨rfl, j, _, h1, by omega, rfl, rfl⟩)))) (show e < 60 by omega)
  unfold fX5_readPart
  rw [e1, bnd7_s, if_neg (nI_neM1 (by omega)), k_next h (by omega), bnd1_s, if_pos (show nI (cd e) = 94 by rw [hc]; rfl), nI_1, k_next h (by omega), bnd1_s, if_neg (show ¬ nI (cd (e + 1)) < 48 from fun y => by have := (nI_ltI (b := 48) (by omega) (by omega)).mp y; omega), if_pos (show nI (cd (e + 1)) ≤ 52 from (nI_leI (b := 52) (by omega) (by omega)).mpr d2), ed, e2, bnd6_s, nI_1]
  exact ⟨j2, n2, q2, rfl, g1, by omega, by omega, g4⟩
/-! sums of products of parts -/
/-- a part from a to e is read -/
def PO (L : Nat → Int32) (ln : Nat) (v2 : Int32) (fP fS : TPs) (a e : Nat) : Prop := a < e ∧ ∀ (k n : Nat) (q : TT), n + k ≤ a → okR n q → Rs k (fX5_readPart v2 L (nI ln) (nI a) (q 0) (q 1) (q 2) (q 3) (nI n) fP fS) n e
def isOp (c : Nat) : Prop := c = 42 ∨ c = 43 ∨ c = 45
/-- p parts more from the sign at m to e -/
def Rem (PQ : Nat → Nat → Prop) (cd : Nat → Nat) : Nat → Nat → Nat → Prop
  | 0, m, e => m = e
  | p + 1, m, e => isOp (cd m) ∧ ∃ m', PQ (m + 1) m' ∧ m < m' ∧ Rem PQ cd p m' e
theorem Rem_le {PQ : Nat → Nat → Prop} : ∀ {p m e : Nat}, Rem PQ cd p m e → m ≤ e
  | 0, _, _, h => Nat.le_of_eq h
  | p + 1, m, e, ⟨_, m', _, h1, h2⟩ => by
    have := Rem_le h2
    omega
variable {v2 : Int32} {fP fS : TPs}
theorem k_term_loop (h : LnK ln cd L) {e : Nat} (he : e ≤ 60) (hst : ¬ isOp (cd e)) : ∀ (F p m k j n : Nat) (q : TT), p < F → Rem (PO L ln v2 fP fS) cd p m e → j < n → n + k ≤ m → okR n q →
    ∃ (p' m' : Nat), p' ≤ p ∧ Rem (PO L ln v2 fP fS) cd p' m' e ∧ cd m' ≠ 42 ∧ m ≤ m' ∧ Rs k (LX5_readTerm_7 L (nI ln) v2 fP fS (fun v3 Lat Fkinds Flefts Frights Fplaces Fsize => some (v3, Lat, Fkinds, Flefts, Frights, Fplaces, Fsize)) F (nI j) (nI m) (q 0) (q 1) (q 2) (q 3) (nI n)) n m'
  | 0, _, _, _, _, _, _, q, _, _, _, _ => absurd q (Nat.not_lt_zero _)
  | F + 1, p, m, k, j, n, q, hF, hR, hj, hn, hq => by
    have hme := Rem_le hR
    have c126 := k_126 h m
    have hl := h.1
    rw [LX5_readTerm_7, if_neg (nI_neM1 (by omega))]
    have stop : cd m ≠ 42 → ∃ (p' m' : Nat), p' ≤ p ∧ Rem (PO L ln v2 fP fS) cd p' m' e ∧ cd m' ≠ 42 ∧ m ≤ m' ∧ Rs k (if nI ln ≤ nI m then some (nI j, nI m, q 0, q 1, q 2, q 3, nI n) else bnd1 (fX5_next L (nI ln) (nI m)) (fun r4 => (if r4 = 42 then bnd7 (fX5_readPart v2 L (nI ln) (nI m + 1) (q 0) (q 1) (q 2) (q 3) (nI n) fP fS) (fun r6 at__6 Fkinds_6 Flefts_6 Frights_6 Fplaces_6 Fsize_6 => (if r6 = ((-1)) then LX5_readTerm_7 L (nI ln) v2 fP fS (fun v3 Lat Fkinds Flefts Frights Fplaces Fsize => some (v3, Lat, Fkinds, Flefts, Frights, Fplaces, Fsize)) F ((-1)) at__6 Fkinds_6 Flefts_6 Frights_6 Fplaces_6 Fsize_6 else bnd6 (fX3_add 5 (nI j) r6 (nI m) Fkinds_6 Flefts_6 Frights_6 Fplaces_6 Fsize_6) (fun r8 kinds_8 lefts_8 rights_8 places_8 size_8 => LX5_readTerm_7 L (nI ln) v2 fP fS (fun v3 Lat Fkinds Flefts Frights Fplaces Fsize => some (v3, Lat, Fkinds, Flefts, Frights, Fplaces, Fsize)) F r8 at__6 kinds_8 lefts_8 rights_8 places_8 size_8))) else some (nI j, nI m, q 0, q 1, q 2, q 3, nI n)))) n m' := fun y => by
      refine ⟨p, m, Nat.le_refl _, hR, y, Nat.le_refl _, ?_⟩
      by_cases z : nI ln ≤ nI m
      · rw [if_pos z]
        exact ⟨j, n, q, rfl, hj, Nat.le_refl _, hn, hq⟩
      · rw [if_neg z, k_next h (by omega), bnd1_s, if_neg (show ¬ nI (cd m) = 42 from fun w => y ((k_eq (m := 42) c126 (by omega)).mp w))]
        exact ⟨j, n, q, rfl, hj, Nat.le_refl _, hn, hq⟩
    match p, hR with
    | 0, hR =>
      have hR : m = e := hR
      subst hR
      exact stop (fun y => hst (Or.inl y))
    | p + 1, hR =>
      by_cases c : cd m = 42
      · obtain ⟨-, m1, ⟨-, hP⟩, hm1, hR1⟩ := hR
        have hm1e := Rem_le hR1
        have lt := k_lt h (a := m) (by rw [c]; decide)
        obtain ⟨j1, n1, q1, e1, g1, g2, g3, g4⟩ := hP (k + 1) n q (by omega) hq
        obtain ⟨j2, n2, q2, e2, f1, f2, f3, f4⟩ := c_add (show n1 < 60 by omega) g4 (k := 5) (l := nI j) (r := nI j1) (Or.inr (Or.inr (Or.inr (Or.inl ⟨Or.inr (Or.inr rfl), j, j1, by omega, g1, rfl, rfl⟩)))) (show m < 60 by omega)
        rw [if_neg (fun y => absurd ((nI_leI (by omega) (by omega)).mp y) (by omega)), k_next h (by omega), bnd1_s, if_pos (show nI (cd m) = 42 by rw [c]; rfl), nI_1, e1, bnd7_s, if_neg (nI_neM1 (by omega)), e2, bnd6_s]
        obtain ⟨p', m', a1, a2, a3, a4, j3, n3, q3, b1, b2, b3, b4, b5⟩ := k_term_loop h he hst F p m1 k j2 n2 q2 (by omega) hR1 f1 (by omega) f4
        exact ⟨p', m', by omega, a2, a3, by omega, j3, n3, q3, b1, b2, by omega, b4, b5⟩
      · exact stop c
theorem k_term (h : LnK ln cd L) {e : Nat} (he : e ≤ 60) (hst : ¬ isOp (cd e)) {p a m k n : Nat} {q : TT} (hp : p < 1000) (hP : PO L ln v2 fP fS a m) (hR : Rem (PO L ln v2 fP fS) cd p m e) (hn : n + k ≤ a) (hq : okR n q) :
    ∃ (p' m' : Nat), p' ≤ p ∧ Rem (PO L ln v2 fP fS) cd p' m' e ∧ cd m' ≠ 42 ∧ m ≤ m' ∧ Rs k (fX5_readTerm v2 L (nI ln) (nI a) (q 0) (q 1) (q 2) (q 3) (nI n) fP fS) n m' := by
  obtain ⟨j1, n1, q1, e1, g1, g2, g3, g4⟩ := hP.2 k n q hn hq
  unfold fX5_readTerm
  rw [e1, bnd7_s]
  obtain ⟨p', m', a1, a2, a3, a4, j3, n3, q3, b1, b2, b3, b4, b5⟩ := k_term_loop h he hst 1000 p m k j1 n1 q1 hp hR g1 g3 g4
  exact ⟨p', m', a1, a2, a3, a4, j3, n3, q3, b1, b2, by omega, b4, b5⟩
theorem k_sum_loop (h : LnK ln cd L) {e : Nat} (he : e ≤ 60) (hst : ¬ isOp (cd e)) : ∀ (F p m k j n : Nat) (q : TT), p < F → F ≤ 1000 → Rem (PO L ln v2 fP fS) cd p m e → cd m ≠ 42 → j < n → n + k ≤ m → okR n q →
    Rs k (LX5_readSum_7 L (nI ln) v2 fP fS (fun v3 Lat Fkinds Flefts Frights Fplaces Fsize => some (v3, Lat, Fkinds, Flefts, Frights, Fplaces, Fsize)) F (nI j) (nI m) (q 0) (q 1) (q 2) (q 3) (nI n)) n e
  | 0, _, _, _, _, _, _, q, _, _, _, _, _, _ => absurd q (Nat.not_lt_zero _)
  | F + 1, p, m, k, j, n, q, hF, hF2, hR, hc, hj, hn, hq => by
    have hme := Rem_le hR
    have c126 := k_126 h m
    have hl := h.1
    rw [LX5_readSum_7, if_neg (nI_neM1 (by omega))]
    match p, hR with
    | 0, hR =>
      have hR : m = e := hR
      subst hR
      by_cases z : nI ln ≤ nI m
      · rw [if_pos z]
        exact ⟨j, n, q, rfl, hj, Nat.le_refl _, hn, hq⟩
      · rw [if_neg z, k_next h (by omega), bnd1_s, if_neg (show ¬ nI (cd m) = 43 from fun w => hst (Or.inr (Or.inl ((k_eq (m := 43) c126 (by omega)).mp w)))), bnd1_s, if_neg (show ¬ nI (cd m) = 45 from fun w => hst (Or.inr (Or.inr ((k_eq (m := 45) c126 (by omega)).mp w))))]
        exact ⟨j, n, q, rfl, hj, Nat.le_refl _, hn, hq⟩
    | p + 1, hR =>
      obtain ⟨hop, m1, hP, hm1, hR1⟩ := hR
      have lt := k_lt h (a := m) (by rcases hop with y | y | y <;> (rw [y]; decide))
      obtain ⟨p2, m2, a1, a2, a3, a4, j1, n1, q1, e1, g1, g2, g3, g4⟩ := k_term h he hst (k := k + 1) (n := n) (q := q) (show p < 1000 by omega) hP hR1 (by omega) hq
      have hm2e := Rem_le a2
      have go : ∀ kk : Int32, kk = 3 ∨ kk = 4 → Rs k (BX5_readSum_55 L (nI ln) v2 fP fS (LX5_readSum_7 L (nI ln) v2 fP fS (fun v3 Lat Fkinds Flefts Frights Fplaces Fsize => some (v3, Lat, Fkinds, Flefts, Frights, Fplaces, Fsize)) F) (fun v3 Lat Fkinds Flefts Frights Fplaces Fsize => some (v3, Lat, Fkinds, Flefts, Frights, Fplaces, Fsize)) (nI j) kk (nI m) (q 0) (q 1) (q 2) (q 3) (nI n)) n e := fun kk hkk => by
        obtain ⟨j2, n2, q2, e2, f1, f2, f3, f4⟩ := c_add (show n1 < 60 by omega) g4 (k := kk) (l := nI j) (r := nI j1) (Or.inr (Or.inr (Or.inr (Or.inl ⟨hkk.elim Or.inl (fun y => Or.inr (Or.inl y)), j, j1, by omega, g1, rfl, rfl⟩)))) (show m < 60 by omega)
        unfold BX5_readSum_55
        rw [nI_1, e1, bnd7_s, if_neg (nI_neM1 (by omega)), e2, bnd6_s]
        obtain ⟨j3, n3, q3, b1, b2, b3, b4, b5⟩ := k_sum_loop h he hst F p2 m2 k j2 n2 q2 (by omega) (by omega) a2 a3 f1 (by omega) f4
        exact ⟨j3, n3, q3, b1, b2, by omega, b4, b5⟩
      rw [if_neg (fun y => absurd ((nI_leI (by omega) (by omega)).mp y) (by omega)), k_next h (by omega), bnd1_s]
      rcases hop with y | y | y
      · exact absurd y hc
      · rw [if_pos (show nI (cd m) = 43 by rw [y]; rfl)]
        unfold BX5_readSum_41
        rw [k_next h (by omega), bnd1_s, if_pos (show nI (cd m) = 43 by rw [y]; rfl)]
        exact go 3 (Or.inl rfl)
      · have n43 : ¬ nI (cd m) = 43 := by rw [y]; decide
        rw [if_neg n43, bnd1_s, if_pos (show nI (cd m) = 45 by rw [y]; rfl)]
        unfold BX5_readSum_41
        rw [k_next h (by omega), bnd1_s, if_neg n43]
        exact go 4 (Or.inr rfl)
theorem k_sum (h : LnK ln cd L) {e : Nat} (he : e ≤ 60) (hst : ¬ isOp (cd e)) {p a m k n : Nat} {q : TT} (hp : p < 1000) (hP : PO L ln v2 fP fS a m) (hR : Rem (PO L ln v2 fP fS) cd p m e) (hn : n + k ≤ a) (hq : okR n q) : Rs k (fX5_readSum v2 L (nI ln) (nI a) (q 0) (q 1) (q 2) (q 3) (nI n) fP fS) n e := by
  obtain ⟨p2, m2, a1, a2, a3, a4, j1, n1, q1, e1, g1, g2, g3, g4⟩ := k_term h he hst hp hP hR hn hq
  unfold fX5_readSum
  rw [e1, bnd7_s]
  obtain ⟨j3, n3, q3, b1, b2, b3, b4, b5⟩ := k_sum_loop h he hst 1000 p2 m2 k j1 n1 q1 (by omega) (by omega) a2 a3 g1 g3 g4
  exact ⟨j3, n3, q3, b1, b2, by omega, b4, b5⟩
/-! the parts that the law writes -/
theorem po_name (h : LnK ln cd L) {a : Nat} (ha : a + 1 ≤ 60) (hc : isNm (cd a)) (hn : cd (a + 1) ≠ 94) : PO L ln v2 fP fS a (a + 1) := ⟨by omega, fun k n q h1 h2 => k_plain h ha (k_name h (by omega) hc v2 fP fS h1 h2) hn⟩
theorem po_npow (h : LnK ln cd L) {a : Nat} (ha : a + 3 ≤ 60) (hc : isNm (cd a)) (hn : cd (a + 1) = 94) (hd : is04 (cd (a + 2))) : PO L ln v2 fP fS a (a + 3) := ⟨by omega, fun k n q h1 h2 => k_pow h (e := a + 1) (by omega) (k_name h (by omega) hc v2 fP fS h1 h2) hn hd⟩
theorem po_num (h : LnK ln cd L) {a : Nat} (ha : a + 2 ≤ 60) (hc : isD (cd a)) (hc2 : isD (cd (a + 1))) (hc3 : ¬ isD (cd (a + 2))) (hn : cd (a + 2) ≠ 94) : PO L ln v2 fP fS a (a + 2) := ⟨by omega, fun k n q h1 h2 => k_plain h ha (k_num h ha hc hc2 hc3 v2 fP fS h1 h2) hn⟩
/-- in parentheses, a name, a sign, a name -/
theorem k_paren (h : LnK ln cd L) {a : Nat} (ha : a + 5 ≤ 60) (c0 : cd a = 40) (c1 : isNm (cd (a + 1))) (c2 : cd (a + 2) = 43 ∨ cd (a + 2) = 45) (c3 : isNm (cd (a + 3))) (c4 : cd (a + 4) = 41) {k n : Nat} {q : TT} (hn : n + k ≤ a) (hq : okR n q) : Rs k (fX5_readBase 0 L (nI ln) (nI a) (q 0) (q 1) (q 2) (q 3) (nI n) (fRec 9).1 (fRec 9).2) n (a + 5) := by
  have hR : Rem (PO L ln (0 + 1) (fRec 8).1 (fRec 8).2) cd 1 (a + 2) (a + 4) := ⟨Or.inr c2, a + 4, po_name h (by omega) c3 (by rw [c4]; decide), by omega, rfl⟩
  obtain ⟨j, n', q', e1, h1, h2, h3, h4⟩ := k_sum h (e := a + 4) (by omega) (fun y => by unfold isOp at y; omega) (p := 1) (by omega) (po_name (v2 := 0 + 1) (fP := (fRec 8).1) (fS := (fRec 8).2) h (show a + 1 + 1 ≤ 60 by omega) c1 (by rw [show a + 1 + 1 = a + 2 from rfl]; omega)) hR (show n + (k + 1) ≤ a + 1 by omega) hq
  have e1 : (fRec 9).2 (0 + 1) L (nI ln) (nI (a + 1)) (q 0) (q 1) (q 2) (q 3) (nI n) = some (nI j, nI (a + 4), q' 0, q' 1, q' 2, q' 3, nI n') := e1
  have ec : fX5_readClosed (0 + 1) L (nI ln) (nI (a + 1)) (q 0) (q 1) (q 2) (q 3) (nI n) (fRec 9).2 = some (nI j, nI (a + 5), q' 0, q' 1, q' 2, q' 3, nI n') := by
    unfold fX5_readClosed
    rw [e1, bnd7_s, if_neg (nI_neM1 (by omega)), k_next h (by omega), bnd1_s, if_pos (show nI (cd (a + 4)) = 41 by rw [c4]; rfl), nI_1]
  have d0 := c_isDigit (k_126 h a)
  rw [if_pos (by omega)] at d0
  unfold fX5_readBase
  rw [k_next h (by omega), bnd1_s, d0, bnd1_s, if_pos rfl, if_pos (show nI (cd a) < 97 from (nI_ltI (b := 97) (by omega) (by omega)).mpr (by omega))]
  unfold BX5_readBase_66
  rw [if_neg (show ¬ (7 : Int32) ≤ 0 by decide), if_neg (show ¬ nI (cd a) = 45 by rw [c0]; decide), if_pos (show nI (cd a) = 40 by rw [c0]; rfl)]
  unfold BX5_readBase_86
  rw [if_pos (show nI (cd a) = 40 by rw [c0]; rfl), nI_1, ec, bnd7_s]
  exact ⟨j, n', q', rfl, h1, h2, by omega, h4⟩
theorem po_sum (h : LnK ln cd L) {a : Nat} (ha : a + 5 ≤ 60) (c0 : cd a = 40) (c1 : isNm (cd (a + 1))) (c2 : cd (a + 2) = 43 ∨ cd (a + 2) = 45) (c3 : isNm (cd (a + 3))) (c4 : cd (a + 4) = 41) (hn : cd (a + 5) ≠ 94) : PO L ln 0 (fRec 9).1 (fRec 9).2 a (a + 5) := ⟨by omega, fun k n q h1 h2 => k_plain h ha (k_paren h ha c0 c1 c2 c3 c4 h1 h2) hn⟩
theorem po_spow (h : LnK ln cd L) {a : Nat} (ha : a + 7 ≤ 60) (c0 : cd a = 40) (c1 : isNm (cd (a + 1))) (c2 : cd (a + 2) = 43 ∨ cd (a + 2) = 45) (c3 : isNm (cd (a + 3))) (c4 : cd (a + 4) = 41) (c5 : cd (a + 5) = 94) (c6 : is04 (cd (a + 6))) : PO L ln 0 (fRec 9).1 (fRec 9).2 a (a + 7) := ⟨by omega, fun k n q h1 h2 => k_pow h (e := a + 5) (by omega) (k_paren h (by omega) c0 c1 c2 c3 c4 h1 h2) c5 c6⟩
/-- an opposite of a power -/
theorem po_neg (h : LnK ln cd L) {a : Nat} (ha : a + 4 ≤ 60) (c0 : cd a = 45) (c1 : isNm (cd (a + 1))) (c2 : cd (a + 2) = 94) (c3 : is04 (cd (a + 3))) (hn : cd (a + 4) ≠ 94) : PO L ln 0 (fRec 9).1 (fRec 9).2 a (a + 4) := ⟨by omega, fun k n q h1 h2 => k_plain h ha (by
  obtain ⟨j, n', q', e1, g1, g2, g3, g4⟩ := (po_npow (v2 := 0 + 1) (fP := (fRec 8).1) (fS := (fRec 8).2) h (show a + 1 + 3 ≤ 60 by omega) c1 c2 c3).2 (k + 1) n q (by omega) h2
  have e1 : (fRec 9).1 (0 + 1) L (nI ln) (nI (a + 1)) (q 0) (q 1) (q 2) (q 3) (nI n) = some (nI j, nI (a + 4), q' 0, q' 1, q' 2, q' 3, nI n') := e1
  obtain ⟨j2, n2, q2, e2, f1, f2, f3, f4⟩ := c_add (show n' < 60 by omega) g4 (k := 2) (l := nI j) (r := 0) (Or.inr (Or.inr (Or.inl ⟨rfl, rfl, j, g1, rfl⟩))) (show a < 60 by omega)
  have d0 := c_isDigit (k_126 h a)
  rw [if_pos (by omega)] at d0
  unfold fX5_readBase
  rw [k_next h (by omega), bnd1_s, d0, bnd1_s, if_pos rfl, if_pos (show nI (cd a) < 97 from (nI_ltI (b := 97) (by omega) (by omega)).mpr (by omega))]
  unfold BX5_readBase_66
  rw [if_neg (show ¬ (7 : Int32) ≤ 0 by decide), if_pos (show nI (cd a) = 45 by rw [c0]; rfl)]
  unfold BX5_readBase_86
  rw [if_neg (show ¬ nI (cd a) = 40 by rw [c0]; decide), nI_1, e1, bnd7_s, if_neg (nI_neM1 (by omega)), e2, bnd6_s]
  exact ⟨j2, n2, q2, rfl, f1, by omega, by omega, f4⟩) hn⟩
end RD
/-- a part stands from a to e -/
def PcAt (cd : Nat → Nat) (a e : Nat) : Prop := (isNm (cd a) ∧ e = a + 1) ∨ (isD (cd a) ∧ isD (cd (a + 1)) ∧ e = a + 2) ∨ (cd a = 40 ∧ isNm (cd (a + 1)) ∧ (cd (a + 2) = 43 ∨ cd (a + 2) = 45) ∧ isNm (cd (a + 3)) ∧ cd (a + 4) = 41 ∧ (e = a + 5 ∨ (cd (a + 5) = 94 ∧ is04 (cd (a + 6)) ∧ e = a + 7))) ∨
  (cd a = 45 ∧ isNm (cd (a + 1)) ∧ cd (a + 2) = 94 ∧ is04 (cd (a + 3)) ∧ e = a + 4) ∨ (isNm (cd a) ∧ cd (a + 1) = 94 ∧ is04 (cd (a + 2)) ∧ e = a + 3)
theorem po_of {L : Nat → Int32} {ln : Nat} {cd : Nat → Nat} (h : LnK ln cd L) {a e : Nat} (he : e ≤ 60) (hp : PcAt cd a e) (hb : cd e = 0 ∨ isOp (cd e)) : PO L ln 0 (fRec 9).1 (fRec 9).2 a e := by
  unfold isOp at hb
  rcases hp with ⟨c0, rfl⟩ | ⟨c0, c1, rfl⟩ | ⟨c0, c1, c2, c3, c4, rfl | ⟨c5, c6, rfl⟩⟩ | ⟨c0, c1, c2, c3, rfl⟩ | ⟨c0, c1, c2, rfl⟩
  · exact po_name h he c0 (by omega)
  · exact po_num h he c0 c1 (fun y => by unfold isD at y; omega) (by omega)
  · exact po_sum h he c0 c1 c2 c3 c4 (by omega)
  · exact po_spow h he c0 c1 c2 c3 c4 c5 c6
  · exact po_neg h he c0 c1 c2 c3 (by omega)
  · exact po_npow h he c0 c1 c2
/-- p signs with parts behind them from m to e -/
def RmS (cd : Nat → Nat) : Nat → Nat → Nat → Prop
  | 0, m, e => m = e
  | p + 1, m, e => isOp (cd m) ∧ ∃ m', PcAt cd (m + 1) m' ∧ RmS cd p m' e
theorem PcAt_lt {cd : Nat → Nat} {a e : Nat} (h : PcAt cd a e) : a < e := by
  rcases h with ⟨-, h⟩ | ⟨-, -, h⟩ | ⟨-, -, -, -, -, h | ⟨-, -, h⟩⟩ | ⟨-, -, -, -, h⟩ | ⟨-, -, -, h⟩ <;> omega
theorem RmS_le {cd : Nat → Nat} : ∀ {p m e : Nat}, RmS cd p m e → m ≤ e
  | 0, _, _, h => Nat.le_of_eq h
  | p + 1, m, e, ⟨_, m', h1, h2⟩ => by
    have := RmS_le h2
    have := PcAt_lt h1
    omega
theorem RmS_Rem {L : Nat → Int32} {ln : Nat} {cd : Nat → Nat} (h : LnK ln cd L) {e : Nat} (he : e ≤ 60) (h0 : cd e = 0) : ∀ {p m : Nat}, RmS cd p m e → Rem (PO L ln 0 (fRec 9).1 (fRec 9).2) cd p m e
  | 0, _, h => h
  | p + 1, m, ⟨h1, m', h2, h3⟩ => by
    have ih := RmS_Rem h he h0 h3
    have := RmS_le h3
    have := PcAt_lt h2
    refine ⟨h1, m', po_of h (by omega) h2 ?_, by omega, ih⟩
    match p, h3 with
    | 0, h3 =>
      have h3 : m' = e := h3
      rw [h3]
      exact Or.inl h0
    | p + 1, h3 => exact Or.inr h3.1
/-- THE LINE that the law writes is read whole -/
theorem ln_ok {ln : Nat} {cd : Nat → Nat} {p m : Nat} (hp : p < 60) (h1 : PcAt cd 0 m) (h2 : RmS cd p m ln) : okLn ln cd := fun L lat q sz rt h => by
  have hl := h.1
  have h0 := h.2.2 ln (Nat.le_refl _)
  have hm := RmS_le h2
  have hlt := PcAt_lt h1
  have hb : cd m = 0 ∨ isOp (cd m) := by
    match p, h2 with
    | 0, h2 =>
      have h2 : m = ln := h2
      rw [h2]
      exact Or.inl h0
    | p + 1, h2 => exact Or.inr h2.1
  obtain ⟨j, n, q', e1, g1, g2, g3, g4⟩ := k_sum (v2 := 0) (fP := (fRec 9).1) (fS := (fRec 9).2) h hl (fun y => by unfold isOp at y; omega) (show p < 1000 by omega) (po_of h (by omega) h1 hb) (RmS_Rem h hl h0 h2) (show 0 + 0 ≤ 0 by omega) (q := q) ⟨fun i hi => absurd hi (Nat.not_lt_zero _), fun i hi => absurd hi (Nat.not_lt_zero _)⟩
  have e1 : (fRec 10).2 0 L (nI ln) 0 (q 0) (q 1) (q 2) (q 3) 0 = some (nI j, nI ln, q' 0, q' 1, q' 2, q' 3, nI n) := e1
  refine ⟨n, j, q', ?_, by omega, by omega, g1, g4.1, g4.2⟩
  unfold fX5_readInto fX3_clear
  rw [bnd2_s, e1, bnd7_s, if_neg (nI_neM1 (by omega)), if_pos rfl]
  unfold BX5_readInto_37 BX5_readInto_48
  rw [if_neg (show ¬ (1 : Int32) = 0 by decide), if_neg (show ¬ (1 : Int32) = 0 by decide)]
theorem ln_bad {ln : Nat} {cd : Nat → Nat} (h1 : cd 0 < 48 ∨ 57 < cd 0) (h2 : cd 0 < 97) (h3 : cd 0 ≠ 45) (h4 : cd 0 ≠ 40) : badLn ln cd := fun L lat q sz rt h => by
  have c126 := k_126 h 0
  have d0 := c_isDigit c126
  rw [if_pos h1] at d0
  have nx := k_next h (a := 0) (by omega)
  rw [nI_0] at nx
  have eb : fX5_readBase 0 L (nI ln) 0 (q 0) (q 1) (q 2) (q 3) 0 (fRec 9).1 (fRec 9).2 = some (-1, 0, q 0, q 1, q 2, q 3, 0) := by
    unfold fX5_readBase
    rw [nx, bnd1_s, d0, bnd1_s, if_pos rfl, if_pos (show nI (cd 0) < 97 from (nI_ltI (b := 97) (by omega) (by omega)).mpr h2)]
    unfold BX5_readBase_66
    rw [if_neg (show ¬ (7 : Int32) ≤ 0 by decide), if_neg (show ¬ nI (cd 0) = 45 from fun y => h3 ((k_eq (m := 45) c126 (by omega)).mp y)), if_neg (show ¬ nI (cd 0) = 40 from fun y => h4 ((k_eq (m := 40) c126 (by omega)).mp y))]
  have es : fX5_readSum 0 L (nI ln) 0 (q 0) (q 1) (q 2) (q 3) 0 (fRec 9).1 (fRec 9).2 = some (-1, 0, q 0, q 1, q 2, q 3, 0) := by
    unfold fX5_readSum fX5_readTerm fX5_readPart
    rw [eb, bnd7_s, if_pos rfl, bnd7_s, show (1000 : Nat) = 999 + 1 from rfl, LX5_readTerm_7, if_pos rfl, bnd7_s, LX5_readSum_7, if_pos rfl]
  have e1 : (fRec 10).2 0 L (nI ln) 0 (q 0) (q 1) (q 2) (q 3) 0 = some (-1, 0, q 0, q 1, q 2, q 3, 0) := es
  refine ⟨q 0, q 1, q 2, q 3, 0, ?_⟩
  unfold fX5_readInto fX3_clear
  rw [bnd2_s, e1, bnd7_s, if_pos rfl]
  unfold BX5_readInto_36 BX5_readInto_37 BX5_readInto_48
  rw [if_pos rfl, if_pos rfl]
