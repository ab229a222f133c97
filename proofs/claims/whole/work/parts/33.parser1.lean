/-! ===== reading the line: the rows' table on both sides ===== -/
abbrev TT := Nat → Nat → Int32
def tb4 (a0 a1 a2 a3 : Nat → Int32) : TT
  | 0 => a0
  | 1 => a1
  | 2 => a2
  | _ => a3
def tb8 (a0 a1 a2 a3 a4 a5 a6 a7 : Nat → Int32) : TT
  | 0 => a0
  | 1 => a1
  | 2 => a2
  | 3 => a3
  | 4 => a4
  | 5 => a5
  | 6 => a6
  | _ => a7
def isK (x : Int32) : Prop := x = 0 ∨ x = 1 ∨ x = 2 ∨ x = 3 ∨ x = 4 ∨ x = 5 ∨ x = 6
theorem km_inj {x y : Int32} (hx : isK x) (hy : isK y) : km x = km y ↔ x = y := by
  rcases hx with rfl | rfl | rfl | rfl | rfl | rfl | rfl <;> rcases hy with rfl | rfl | rfl | rfl | rfl | rfl | rfl <;> decide
theorem rowOK_K {n : Nat} {k l r : Int32} (h : rowOK n k l r) : isK k := by
  unfold isK
  rcases h with ⟨hk, hr⟩ | ⟨hk, hr, j, hj, hl⟩ | ⟨hk, hr, a, ha, hl⟩ | ⟨hk, a, b, ha, hb, hl, hr⟩ | ⟨hk, a, e, ha, he, hl, hr⟩
  · exact Or.inl hk
  · exact Or.inr (Or.inl hk)
  · exact Or.inr (Or.inr (Or.inl hk))
  · rcases hk with hk | hk | hk
    · exact Or.inr (Or.inr (Or.inr (Or.inl hk)))
    · exact Or.inr (Or.inr (Or.inr (Or.inr (Or.inl hk))))
    · exact Or.inr (Or.inr (Or.inr (Or.inr (Or.inr (Or.inl hk)))))
  · exact Or.inr (Or.inr (Or.inr (Or.inr (Or.inr (Or.inr hk)))))
theorem clamp8 : (8 : Int32).toNatClampNeg = 8 := by decide
theorem gi8 {α : Type} {x : Option α} : gi 8 9 x = x := gi_n (j := 8) (by omega) (by omega)
theorem ix512 (j : Nat) : (512 : Int32) + nI j = nI (512 + j) := by rw [show (512 : Int32) = nI 512 from rfl, nI_add]
theorem find_loop {n : Nat} (hn : n ≤ 60) {q t : TT} (hrow : RowsRel n 512 (q 0) (q 1) (q 2) (t 1) (t 2) (t 3)) (hf : t 0 8 = nI n) {k : Int32} (l r : Int32) (hk : isK k) (E1 : Int32 → Option Int32) (E62 E71 : Int32 → (Nat → Int32) → (Nat → Int32) → (Nat → Int32) → (Nat → Int32) → Option (Int32 × (Nat → Int32) × (Nat → Int32) × (Nat → Int32) × (Nat → Int32))) :
    ∀ (f j : Nat), j ≤ n → n - j < f → ∃ m, j ≤ m ∧ m ≤ n ∧ (m < n → q 0 m = k ∧ q 1 m = l ∧ q 2 m = r) ∧ LX3_find_3 (q 0) (q 1) (q 2) (nI n) k l r E1 f (nI j) = E1 (nI m) ∧
      LX7_formula_8 (km k) l r E62 E71 f 512 (nI j) (t 0) (t 1) (t 2) (t 3) = if m < n then E62 (nI m) (t 0) (t 1) (t 2) (t 3) else E71 512 (t 0) (t 1) (t 2) (t 3)
  | 0, j, _, h => absurd h (Nat.not_lt_zero _)
  | f + 1, j, hj, h => by
    rw [LX3_find_3, LX7_formula_8, clamp8, hf, gi8]
    by_cases hc : n ≤ j
    · have : j = n := by omega
      subst this
      have hq : nI j ≤ nI j := (nI_leI (by omega) (by omega)).mpr (Nat.le_refl _)
      rw [if_pos hq, if_pos hq]
      exact ⟨j, Nat.le_refl _, Nat.le_refl _, fun y => absurd y (Nat.lt_irrefl _), rfl, (if_neg (Nat.lt_irrefl _)).symm⟩
    · have hq : ¬ nI n ≤ nI j := fun q => hc ((nI_leI (by omega) (by omega)).mp q)
      obtain ⟨hok, e1, e2, e3⟩ := hrow j (by omega)
      obtain ⟨m, m1, m2, m3, m4, m5⟩ := find_loop hn hrow hf l r hk E1 E62 E71 f (j + 1) (by omega) (by omega)
      rw [if_neg hq, if_neg hq]
      simp only [ix512, gi_n (show j < 60 by omega) (show 60 < 2 ^ 31 by omega), gi_n (show 512 + j < 576 by omega) (show 576 < 2 ^ 31 by omega), clamp_n (show j < 2 ^ 31 by omega), clamp_n (show 512 + j < 2 ^ 31 by omega), e1, e2, e3, km_inj (rowOK_K hok) hk, nI_1]
      by_cases c1 : q 0 j = k
      · rw [if_pos c1, if_pos c1]
        by_cases c2 : q 1 j = l
        · rw [if_pos c2, if_pos c2]
          by_cases c3 : q 2 j = r
          · rw [if_pos c3, if_pos c3]
            exact ⟨j, Nat.le_refl _, hj, fun _ => ⟨c1, c2, c3⟩, rfl, (if_pos (by omega)).symm⟩
          · rw [if_neg c3, if_neg c3]
            exact ⟨m, by omega, m2, m3, m4, m5⟩
        · rw [if_neg c2, if_neg c2]
          exact ⟨m, by omega, m2, m3, m4, m5⟩
      · rw [if_neg c1, if_neg c1]
        exact ⟨m, by omega, m2, m3, m4, m5⟩
/-- the rows that there were stay -/
def Ext (n : Nat) (q q' : TT) : Prop := ∀ j, j < n → q' 0 j = q 0 j ∧ q' 1 j = q 1 j ∧ q' 2 j = q 2 j ∧ q' 3 j = q 3 j
theorem Ext_refl (n : Nat) (q : TT) : Ext n q q := fun _ _ => ⟨rfl, rfl, rfl, rfl⟩
theorem Ext_trans {n n' : Nat} {q q' q'' : TT} (h : Ext n q q') (hn : n ≤ n') (h' : Ext n' q' q'') : Ext n q q'' := fun j hj => by
  obtain ⟨a1, a2, a3, a4⟩ := h j hj
  obtain ⟨b1, b2, b3, b4⟩ := h' j (by omega)
  exact ⟨b1.trans a1, b2.trans a2, b3.trans a3, b4.trans a4⟩
/-- one more row, or the one that there is alike -/
theorem add_both {n : Nat} (hn : n < 60) {q t : TT} (hrow : RowsRel n 512 (q 0) (q 1) (q 2) (t 1) (t 2) (t 3)) (hf : t 0 8 = nI n) {k l r : Int32} (hk : rowOK n k l r) (p : Int32) :
    ∃ (j n' : Nat) (q' : TT) (t0 t1 t2 t3 : Nat → Int32), fX3_add k l r p (q 0) (q 1) (q 2) (q 3) (nI n) = some (nI j, q' 0, q' 1, q' 2, q' 3, nI n') ∧ fX7_formula (km k) l r (t 0) (t 1) (t 2) (t 3) = some (nI j, t0, t1, t2, t3) ∧
      j < n' ∧ Ext n q q' ∧ RowsRel n' 512 (q' 0) (q' 1) (q' 2) t1 t2 t3 ∧ t0 8 = nI n' ∧ (∀ i, i < 8 → t0 i = t 0 i) ∧ (∀ i, i < 512 → t1 i = t 1 i ∧ t2 i = t 2 i ∧ t3 i = t 3 i) ∧ q' 0 j = k ∧ q' 1 j = l ∧ q' 2 j = r ∧ ((n' = n ∧ q' = q) ∨ (n' = n + 1 ∧ j = n ∧ q' 3 n = p)) := by
  unfold fX3_add fX3_find fX7_formula
  obtain ⟨m, m1, m2, m3, m4, m5⟩ := find_loop (show n ≤ 60 by omega) hrow hf l r (rowOK_K hk) (fun v4 => some v4) (fun v5 a b c d => some (v5, a, b, c, d)) (fun v4 Mformulas Mkind Mone Mother => gi 8 9 (gi (v4 + (Mformulas (8 : Int32).toNatClampNeg)) 576 (gi (v4 + (Mformulas (8 : Int32).toNatClampNeg)) 576 (gi (v4 + (Mformulas (8 : Int32).toNatClampNeg)) 576 (gi 8 9 (gi 8 9 (some (Mformulas (8 : Int32).toNatClampNeg, upd Mformulas ((8 : Int32).toNatClampNeg) ((Mformulas (8 : Int32).toNatClampNeg) + 1), upd Mkind ((v4 + (Mformulas (8 : Int32).toNatClampNeg)).toNatClampNeg) (km k), upd Mone ((v4 + (Mformulas (8 : Int32).toNatClampNeg)).toNatClampNeg) l, upd Mother ((v4 + (Mformulas (8 : Int32).toNatClampNeg)).toNatClampNeg) r)))))))) 1000 0 (by omega) (by omega)
  have m4 : LX3_find_3 (q 0) (q 1) (q 2) (nI n) k l r (fun v4 => some v4) 1000 0 = some (nI m) := m4
  rw [m4, bnd1_s, if_pos (show nI m < 60 from (nI_ltI (b := 60) (by omega) (by omega)).mpr (by omega))]
  by_cases c : m < n
  · rw [if_pos c] at m5
    obtain ⟨a1, a2, a3⟩ := m3 c
    rw [if_neg (show ¬ nI m = nI n from fun y => absurd ((nI_eq (by omega) (by omega)).mp y) (by omega))]
    exact ⟨m, n, q, t 0, t 1, t 2, t 3, rfl, m5, c, Ext_refl n q, hrow, hf, fun _ _ => rfl, fun _ _ => ⟨rfl, rfl, rfl⟩, a1, a2, a3, Or.inl ⟨rfl, rfl⟩⟩
  · have : m = n := by omega
    subst this
    rw [if_neg c] at m5
    simp only [clamp8, hf, ix512, gi8, gi_n (show 512 + m < 576 by omega) (show 576 < 2 ^ 31 by omega), clamp_n (show 512 + m < 2 ^ 31 by omega), nI_1] at m5
    simp only [if_true, gi_n (show m < 60 by omega) (show 60 < 2 ^ 31 by omega), clamp_n (show m < 2 ^ 31 by omega), nI_1]
    refine ⟨m, m + 1, tb4 (upd (q 0) m k) (upd (q 1) m l) (upd (q 2) m r) (upd (q 3) m p), _, _, _, _, rfl, m5, by omega, fun j hj => ?_, fun j hj => ?_, if_pos rfl, fun i hi => if_neg (by omega), fun i hi => ⟨if_neg (by omega), if_neg (by omega), if_neg (by omega)⟩, if_pos rfl, if_pos rfl, if_pos rfl, Or.inr ⟨rfl, rfl, if_pos rfl⟩⟩
    · exact ⟨if_neg (by omega), if_neg (by omega), if_neg (by omega), if_neg (by omega)⟩
    · show rowOK j (upd (q 0) m k j) (upd (q 1) m l j) (upd (q 2) m r j) ∧ upd (t 1) (512 + m) (km k) (512 + j) = km (upd (q 0) m k j) ∧ upd (t 2) (512 + m) l (512 + j) = upd (q 1) m l j ∧ upd (t 3) (512 + m) r (512 + j) = upd (q 2) m r j
      simp only [upd_at]
      by_cases e : j = m
      · subst e
        simp only [if_true]
        exact ⟨hk, trivial, trivial, trivial⟩
      · simp only [e, if_false, show ¬ 512 + j = 512 + m by omega]
        exact hrow j (by omega)
/-! ===== the signs of the line ===== -/
/-- the sign that stands there; 0 behind the last -/
theorem gn_char {α : Type} {c : Nat} (hc : c < 65536) {x : Option α} : gn .char (nI c) x = x := by
  unfold gn
  rw [(pk_charN hc).1]
  exact if_pos rfl
def LnOK (L ML : Nat → Int32) (len : Nat) (cd : Nat → Nat) : Prop := len ≤ 60 ∧ (∀ a, a < len → 32 ≤ cd a ∧ cd a ≤ 126 ∧ L a = nI (cd a) ∧ ML a = nI (cd a)) ∧ ∀ a, len ≤ a → cd a = 0
theorem LnOK_ex {L ML : Nat → Int32} {len : Nat} (hl : len ≤ 60) (h : LineRel len L ML) : ∃ cd, LnOK L ML len cd := by
  refine ⟨fun a => if a < len then (L a).toNatClampNeg else 0, hl, fun a ha => ?_, fun a ha => if_neg (by omega)⟩
  obtain ⟨e, c, c1, c2, c3⟩ := h a ha
  have : (if a < len then (L a).toNatClampNeg else 0) = c := by rw [if_pos ha, c3, clamp_n (by omega)]
  refine ⟨?_, ?_, ?_, ?_⟩
  · show 32 ≤ (if a < len then (L a).toNatClampNeg else 0)
    omega
  · show (if a < len then (L a).toNatClampNeg else 0) ≤ 126
    omega
  · show L a = nI (if a < len then (L a).toNatClampNeg else 0)
    rw [this, c3]
  · show ML a = nI (if a < len then (L a).toNatClampNeg else 0)
    rw [this, ← e, c3]
theorem cd_le {L ML : Nat → Int32} {len : Nat} {cd : Nat → Nat} (h : LnOK L ML len cd) (a : Nat) : cd a ≤ 126 := by
  by_cases q : a < len
  · exact (h.2.1 a q).2.1
  · rw [h.2.2 a (by omega)]
    omega
theorem c_next {L ML : Nat → Int32} {len : Nat} {cd : Nat → Nat} (h : LnOK L ML len cd) {a : Nat} (ha : a ≤ 60) : fX5_next L (nI len) (nI a) = some (nI (cd a)) := by
  have hl := h.1
  unfold fX5_next
  by_cases q : a < len
  · obtain ⟨h1, h2, h3, h4⟩ := h.2.1 a q
    rw [if_neg (fun y => absurd ((nI_leI (by omega) (by omega)).mp y) (by omega)), gi_n (show a < 60 by omega) (by omega), clamp_n (by omega), h3]
    exact gn_char (by omega)
  · rw [if_pos ((nI_leI (by omega) (by omega)).mpr (by omega)), h.2.2 a (by omega)]
    rfl
theorem m_sign {L ML : Nat → Int32} {len : Nat} {cd : Nat → Nat} (h : LnOK L ML len cd) {a : Nat} (ha : a ≤ 60) : fX7_sign ML (nI len) (nI a) = some (nI (cd a)) := by
  have hl := h.1
  unfold fX7_sign
  by_cases q : a < len
  · obtain ⟨h1, h2, h3, h4⟩ := h.2.1 a q
    rw [if_neg (fun y => absurd ((nI_leI (by omega) (by omega)).mp y) (by omega)), gi_n (show a < 64 by omega) (by omega), clamp_n (by omega), h4]
  · rw [if_pos ((nI_leI (by omega) (by omega)).mpr (by omega)), h.2.2 a (by omega)]
    rfl
def isD (c : Nat) : Prop := 48 ≤ c ∧ c ≤ 57
theorem c_isDigit {c : Nat} (hc : c ≤ 126) : fX5_isDigit (nI c) = some (if c < 48 ∨ 57 < c then 0 else 1) := by
  unfold fX5_isDigit
  by_cases h1 : c < 48
  · rw [if_pos (show nI c < 48 from (nI_ltI (b := 48) (by omega) (by omega)).mpr h1), if_pos (Or.inl h1)]
  · rw [if_neg (show ¬ nI c < 48 from fun y => h1 ((nI_ltI (b := 48) (by omega) (by omega)).mp y))]
    by_cases h2 : 57 < c
    · rw [if_pos (show (57 : Int32) < nI c from (nI_ltI (a := 57) (by omega) (by omega)).mpr h2), if_pos (Or.inr h2)]
    · rw [if_neg (show ¬ (57 : Int32) < nI c from fun y => h2 ((nI_ltI (a := 57) (by omega) (by omega)).mp y)), if_neg (by omega)]
theorem m_isInN {c lo hi : Nat} (hc : c ≤ 126) (hl : lo ≤ 126) (hh : hi ≤ 126) : fX7_isIn (nI c) (nI lo) (nI hi) = some (if c < lo ∨ hi < c then 0 else 1) := by
  rw [isIn_eq]
  have : (nI c < nI lo ∨ nI hi < nI c) ↔ (c < lo ∨ hi < c) := or_congr (nI_ltI (by omega) (by omega)) (nI_ltI (by omega) (by omega))
  by_cases y : c < lo ∨ hi < c
  · rw [if_pos y, if_pos (this.mpr y)]
  · rw [if_neg y, if_neg (fun z => y (this.mp z))]
theorem m_isDigit {c : Nat} (hc : c ≤ 126) : fX7_isDigit (nI c) = some (if c < 48 ∨ 57 < c then 0 else 1) := by
  unfold fX7_isDigit
  have e : fX7_isIn (nI c) 48 57 = _ := m_isInN (lo := 48) (hi := 57) hc (by omega) (by omega)
  rw [e, bnd1_s]
  by_cases y : c < 48 ∨ 57 < c
  · rw [if_pos y, gn_0]
  · rw [if_neg y, gn_1]
theorem num_loop {L ML : Nat → Int32} {len : Nat} {cd : Nat → Nat} (h : LnOK L ML len cd) (E1 : Int32 → Int32 → Option (Int32 × Int32)) (E2 : Int32 → (Nat → Int32) → (Nat → Int32) → (Nat → Int32) → (Nat → Int32) → Int32 → Option (Int32 × (Nat → Int32) × (Nat → Int32) × (Nat → Int32) × (Nat → Int32) × Int32)) (t0 t1 t2 t3 : Nat → Int32) :
    ∀ (f j a : Nat) (v : Int32), j ≤ 4 → 4 - j < f → a ≤ len → ∃ (v' : Int32) (a' : Nat), a ≤ a' ∧ a' ≤ len ∧ (j < 4 → isD (cd a) → a < a') ∧ LX5_readNumber_4 L (nI len) E1 f v (nI j) (nI a) = E1 v' (nI a') ∧ LX7_atom_49 ML (nI len) E2 f v (nI j) t0 t1 t2 t3 (nI a) = E2 v' t0 t1 t2 t3 (nI a')
  | 0, j, _, _, _, q, _ => absurd q (Nat.not_lt_zero _)
  | f + 1, j, a, v, hj, q, ha => by
    have hl := h.1
    have c126 := cd_le h a
    rw [LX5_readNumber_4, LX7_atom_49]
    by_cases e4 : 4 ≤ j
    · have hq : (4 : Int32) ≤ nI j := (nI_leI (a := 4) (by omega) (by omega)).mpr e4
      rw [if_pos hq, if_pos hq]
      exact ⟨v, a, Nat.le_refl _, ha, fun y => by omega, rfl, rfl⟩
    · have hq : ¬ (4 : Int32) ≤ nI j := fun y => e4 ((nI_leI (a := 4) (by omega) (by omega)).mp y)
      rw [if_neg hq, if_neg hq, c_next h (by omega), m_sign h (by omega)]
      simp only [bnd1_s, c_isDigit c126, m_isDigit c126]
      by_cases y : cd a < 48 ∨ 57 < cd a
      · rw [if_pos y, if_pos rfl, if_pos rfl]
        exact ⟨v, a, Nat.le_refl _, ha, fun _ z => by unfold isD at z; omega, rfl, rfl⟩
      · have hlt : a < len := by
          by_cases z : a < len
          · exact z
          · rw [h.2.2 a (by omega)] at y
            omega
        rw [if_neg y, if_neg (show ¬ (1 : Int32) = 0 by decide), if_neg (show ¬ (1 : Int32) = 0 by decide), nI_1, nI_1, show 10 * v + nI (cd a) - 48 = 10 * v + (nI (cd a) - 48) by grind]
        obtain ⟨v', a', a1, a2, -, a4, a5⟩ := num_loop h E1 E2 t0 t1 t2 t3 f (j + 1) (a + 1) (10 * v + (nI (cd a) - 48)) (by omega) (by omega) (by omega)
        exact ⟨v', a', by omega, a2, fun _ _ => by omega, a4, a5⟩
