/-! ===== the numbers and guards of the functions ===== -/
theorem gi_ok {α : Type} {i : Int32} {n : Nat} {x : Option α} (h : vp_in i n) : gi i n x = x := by
  unfold gi
  exact if_neg h
theorem gi_n {α : Type} {j n : Nat} {x : Option α} (h : j < n) (hn : n < 2 ^ 31) : gi (nI j) n x = x := gi_ok (vp_in_nI h hn)
theorem gz_ok {α : Type} {y : Int32} {x : Option α} (h : ¬ y = 0) : gz y x = x := by
  unfold gz
  exact if_neg h
theorem gzL_ok {α : Type} {y : Int64} {x : Option α} (h : ¬ y = 0) : gzL y x = x := by
  unfold gzL
  exact if_neg h
theorem gn_0 {α : Type} {x : Option α} : gn .boolean 0 x = x := by
  unfold gn
  exact if_pos rfl
theorem gn_1 {α : Type} {x : Option α} : gn .boolean 1 x = x := by
  unfold gn
  exact if_pos rfl
theorem bnd1_s {α0 β : Type} (a0 : α0) (f : α0 → Option β) : bnd1 (some a0) f = f a0 := rfl
theorem bnd2_s {α0 α1 β : Type} (a0 : α0) (a1 : α1) (f : α0 → α1 → Option β) : bnd2 (some (a0, a1)) f = f a0 a1 := rfl
theorem bnd3_s {α0 α1 α2 β : Type} (a0 : α0) (a1 : α1) (a2 : α2) (f : α0 → α1 → α2 → Option β) : bnd3 (some (a0, a1, a2)) f = f a0 a1 a2 := rfl
theorem bnd4_s {α0 α1 α2 α3 β : Type} (a0 : α0) (a1 : α1) (a2 : α2) (a3 : α3) (f : α0 → α1 → α2 → α3 → Option β) : bnd4 (some (a0, a1, a2, a3)) f = f a0 a1 a2 a3 := rfl
theorem bnd5_s {α0 α1 α2 α3 α4 β : Type} (a0 : α0) (a1 : α1) (a2 : α2) (a3 : α3) (a4 : α4) (f : α0 → α1 → α2 → α3 → α4 → Option β) : bnd5 (some (a0, a1, a2, a3, a4)) f = f a0 a1 a2 a3 a4 := rfl
theorem bnd6_s {α0 α1 α2 α3 α4 α5 β : Type} (a0 : α0) (a1 : α1) (a2 : α2) (a3 : α3) (a4 : α4) (a5 : α5) (f : α0 → α1 → α2 → α3 → α4 → α5 → Option β) : bnd6 (some (a0, a1, a2, a3, a4, a5)) f = f a0 a1 a2 a3 a4 a5 := rfl
theorem bnd7_s {α0 α1 α2 α3 α4 α5 α6 β : Type} (a0 : α0) (a1 : α1) (a2 : α2) (a3 : α3) (a4 : α4) (a5 : α5) (a6 : α6) (f : α0 → α1 → α2 → α3 → α4 → α5 → α6 → Option β) : bnd7 (some (a0, a1, a2, a3, a4, a5, a6)) f = f a0 a1 a2 a3 a4 a5 a6 := rfl
theorem lt_i (a b : Int32) : a < b ↔ a.toInt < b.toInt := Int32.lt_iff_toInt_lt
theorem le_i (a b : Int32) : a ≤ b ↔ a.toInt ≤ b.toInt := Int32.le_iff_toInt_le
/-- an index in range is a small number -/
theorem ix_of {x hi : Int32} {n : Nat} (hh : hi.toInt = (n : Int)) (h0 : ¬ x < 0) (h1 : ¬ hi < x) (hn : n < 2 ^ 31 - 1) : ∃ j : Nat, j < n + 1 ∧ x = nI j := by
  rw [lt_i] at h0 h1
  have z : (0 : Int32).toInt = 0 := by decide
  have hv : vp_in x (n + 1) := vp_in_iff.mpr ⟨by omega, by omega⟩
  exact vp_in_of hv (by omega)
theorem isIn_eq (v lo hi : Int32) : fX7_isIn v lo hi = some (if v < lo ∨ hi < v then 0 else 1) := by
  unfold fX7_isIn
  by_cases h1 : v < lo
  · simp [h1]
  · by_cases h2 : hi < v <;> simp [h1, h2]
theorem isInput_eq (v : Int32) : fX7_isInput v = some (if v < 0 ∨ 5 < v then 0 else 1) := by
  unfold fX7_isInput
  rw [isIn_eq, bnd1_s]
  by_cases h : v < 0 ∨ 5 < v
  · rw [if_pos h, gn_0]
  · rw [if_neg h, gn_1]
theorem isModel_eq (v n : Int32) : fX7_isModel v n = some (if v < 0 ∨ n - 1 < v then 0 else 1) := by
  unfold fX7_isModel
  rw [isIn_eq, bnd1_s]
  by_cases h : v < 0 ∨ n - 1 < v
  · rw [if_pos h, gn_0]
  · rw [if_neg h, gn_1]
theorem holds_eq (v t : Int32) : fX7_holds v t = some (if v = 0 then 1 else 0, v) := by
  unfold fX7_holds
  by_cases h : v = 0 <;> simp [h]
theorem clamp_n {n : Nat} (h : n < 2 ^ 31) : (nI n).toNatClampNeg = n := nI_clamp h
theorem upd_at (f : Nat → Int32) (k : Nat) (x : Int32) (j : Nat) : upd f k x j = if j = k then x else f j := rfl
theorem updL_at (f : Nat → Int64) (k : Nat) (x : Int64) (j : Nat) : vp_updL f k x j = if j = k then x else f j := rfl
theorem upd2_at (f : Nat → Nat → Int32) (i j : Nat) (x : Int32) (a b : Nat) : upd2 f i j x a b = if a = i then (if b = j then x else f i b) else f a b := by
  unfold upd2
  by_cases h : a = i
  · rw [if_pos h, if_pos h]; rfl
  · rw [if_neg h, if_neg h]
/-! ===== shape ===== -/
/-- the variance that a shape gives -/
def varOf (s w : Int32) : Int32 := if s = 1 then w * w / 3 else if s = 2 then w * w / 6 else if s = 3 then w * w / 2 else 0
theorem c_tellShape {i : Nat} (hi : i < 6) (v2 v3 v4 : Int32) (E V S Wd C : Nat → Int32) :
    fX4_tellShape (nI i) v2 v3 v4 E V S Wd C = some (varOf v3 v4, upd E i v2, upd V i (varOf v3 v4), upd S i v3, upd Wd i v4, upd C i 0) := by
  have e : fX4_shapeVariance v3 (v4 * v4) = some (varOf v3 v4) := by
    unfold fX4_shapeVariance varOf
    by_cases h1 : v3 = 1
    · simp [h1]
    · by_cases h2 : v3 = 2
      · simp [h2]
      · by_cases h3 : v3 = 3 <;> simp [h1, h2, h3]
  unfold fX4_tellShape
  simp only [gi_n hi (by omega), e, bnd1_s, clamp_n (show i < 2 ^ 31 by omega), upd_at, if_true]
/-- which shapes can be told -/
def shapeBad (v2 v3 v4 : Int32) : Prop := v2 < -999 ∨ 999 < v2 ∨ v3 < 0 ∨ 3 < v3 ∨ v4 < 0 ∨ (if v3 = 0 then (0 : Int32) else 99) < v4
theorem m_shape_in (v1 : Int32) (h : v1 < 0 ∨ 5 < v1) (v2 v3 v4 : Int32) (E S Wd Mn V : Nat → Int32) (T : Int32) :
    fX7_shape v1 v2 v3 v4 E S Wd Mn V T = some (0, E, S, Wd, Mn, V, 1) := by
  have a70 : BX7_shape_70 v1 v2 v3 v4 1 E S Wd Mn V T = some (0, E, S, Wd, Mn, V, 1) := by
    unfold BX7_shape_70
    rw [holds_eq]
    rfl
  have a46 : ∀ s0, BX7_shape_46 v1 v2 v3 v4 s0 E S Wd Mn V T = some (0, E, S, Wd, Mn, V, 1) := by
    intro s0
    unfold BX7_shape_46
    rw [isInput_eq, bnd1_s, if_pos h, if_pos rfl, a70]
  have a45 : BX7_shape_45 v1 v2 v3 v4 E S Wd Mn V T = some (0, E, S, Wd, Mn, V, 1) := a46 0
  have a35 : ∀ s0 s1 s2, BX7_shape_35 v1 v2 v3 v4 s0 s1 s2 E S Wd Mn V T = some (0, E, S, Wd, Mn, V, 1) := by
    intro s0 s1 s2
    unfold BX7_shape_35
    rw [isIn_eq, bnd1_s, a45, a46]
    split <;> rfl
  unfold fX7_shape
  rw [isIn_eq, isIn_eq]
  simp only [bnd1_s, a45, a35]
  repeat' split
  all_goals rfl
theorem m_shape_bad {i : Nat} (hi : i < 6) {v2 v3 v4 : Int32} (h : shapeBad v2 v3 v4) (E S Wd Mn V : Nat → Int32) (T : Int32) :
    fX7_shape (nI i) v2 v3 v4 E S Wd Mn V T = some (0, E, S, Wd, Mn, V, 2) := by
  have hin : ¬ (nI i < 0 ∨ 5 < nI i) := by
    rw [lt_i, lt_i, nI_toInt (by omega)]
    have z : (0 : Int32).toInt = 0 := by decide
    have z5 : (5 : Int32).toInt = 5 := by decide
    omega
  have a70 : BX7_shape_70 (nI i) v2 v3 v4 2 E S Wd Mn V T = some (0, E, S, Wd, Mn, V, 2) := by
    unfold BX7_shape_70
    rw [holds_eq]
    rfl
  have a45 : BX7_shape_45 (nI i) v2 v3 v4 E S Wd Mn V T = some (0, E, S, Wd, Mn, V, 2) := by
    unfold BX7_shape_45 BX7_shape_46
    rw [isInput_eq, bnd1_s, if_neg hin, if_neg (by decide), if_pos rfl, a70]
  unfold fX7_shape
  rw [isIn_eq, isIn_eq]
  simp only [bnd1_s]
  by_cases h1 : v2 < -999 ∨ 999 < v2
  · rw [if_pos h1, if_pos rfl, a45]
  · rw [if_neg h1, if_neg (by decide)]
    by_cases h2 : v3 < 0 ∨ 3 < v3
    · rw [if_pos h2, if_pos rfl, a45]
    · rw [if_neg h2, if_neg (by decide)]
      by_cases h3 : v3 = 0
      · rw [if_pos h3]
        unfold BX7_shape_35
        unfold shapeBad at h
        rw [if_pos h3] at h
        have hb : v4 < 0 ∨ 0 < v4 := by
          rcases h with h | h | h | h | h | h
          · exact absurd (Or.inl h) h1
          · exact absurd (Or.inr h) h1
          · exact absurd (Or.inl h) h2
          · exact absurd (Or.inr h) h2
          · exact Or.inl h
          · exact Or.inr h
        rw [isIn_eq, bnd1_s, if_pos hb, if_pos rfl, a45]
      · rw [if_neg h3]
        unfold BX7_shape_35
        unfold shapeBad at h
        rw [if_neg h3] at h
        have hb : v4 < 0 ∨ 99 < v4 := by
          rcases h with h | h | h | h | h | h
          · exact absurd (Or.inl h) h1
          · exact absurd (Or.inr h) h1
          · exact absurd (Or.inl h) h2
          · exact absurd (Or.inr h) h2
          · exact Or.inl h
          · exact Or.inr h
        rw [isIn_eq, bnd1_s, if_pos hb, if_pos rfl, a45]
theorem m_shape_ok {i : Nat} (hi : i < 6) {v2 v3 v4 : Int32} (h : ¬ shapeBad v2 v3 v4) (E S Wd Mn V : Nat → Int32) (T : Int32) :
    fX7_shape (nI i) v2 v3 v4 E S Wd Mn V T = some (varOf v3 v4, upd E i v2, upd S i v3, upd Wd i v4, upd Mn i 0, upd V i (varOf v3 v4), 0) := by
  have hin : ¬ (nI i < 0 ∨ 5 < nI i) := by
    rw [lt_i, lt_i, nI_toInt (by omega)]
    have z : (0 : Int32).toInt = 0 := by decide
    have z5 : (5 : Int32).toInt = 5 := by decide
    omega
  unfold shapeBad at h
  simp only [not_or] at h
  obtain ⟨h1, h2, h3, h4, h5, h6⟩ := h
  have hc := clamp_n (show i < 2 ^ 31 by omega)
  have a70 : BX7_shape_70 (nI i) v2 v3 v4 0 E S Wd Mn V T = some (varOf v3 v4, upd E i v2, upd S i v3, upd Wd i v4, upd Mn i 0, upd V i (varOf v3 v4), 0) := by
    unfold BX7_shape_70
    rw [holds_eq, bnd2_s, if_pos rfl, if_neg (by decide)]
    simp only [gi_n hi (show 6 < 2 ^ 31 by omega), hc]
    unfold BX7_shape_145 BX7_shape_146
    simp only [gi_n hi (show 6 < 2 ^ 31 by omega), hc, gz_ok (show ¬ (3 : Int32) = 0 by decide), gz_ok (show ¬ (6 : Int32) = 0 by decide), gz_ok (show ¬ (2 : Int32) = 0 by decide), upd_at, if_true]
    unfold varOf
    by_cases e0 : v3 = 0
    · simp [e0]
    · by_cases e1 : v3 = 1
      · simp [e1]
      · by_cases e2 : v3 = 2
        · simp [e2]
        · have e3 : v3 = 3 := by
            rw [lt_i] at h3 h4
            have z : (0 : Int32).toInt = 0 := by decide
            have z3 : (3 : Int32).toInt = 3 := by decide
            have t0 : v3.toInt ≠ 0 := fun q => e0 (Int32.toInt_inj.mp (by rw [q, z]))
            have t1 : v3.toInt ≠ 1 := fun q => e1 (Int32.toInt_inj.mp (by rw [q]; decide))
            have t2 : v3.toInt ≠ 2 := fun q => e2 (Int32.toInt_inj.mp (by rw [q]; decide))
            exact Int32.toInt_inj.mp (by rw [z3]; omega)
          simp [e3]
  have a46 : BX7_shape_46 (nI i) v2 v3 v4 1 E S Wd Mn V T = some (varOf v3 v4, upd E i v2, upd S i v3, upd Wd i v4, upd Mn i 0, upd V i (varOf v3 v4), 0) := by
    unfold BX7_shape_46
    rw [isInput_eq, bnd1_s, if_neg hin, if_neg (by decide), if_neg (by decide), a70]
  unfold fX7_shape
  rw [isIn_eq, isIn_eq]
  simp only [bnd1_s]
  rw [if_neg (show ¬ (v2 < -999 ∨ 999 < v2) from fun q => q.elim h1 h2), if_neg (by decide), if_neg (show ¬ (v3 < 0 ∨ 3 < v3) from fun q => q.elim h3 h4), if_neg (by decide)]
  by_cases e0 : v3 = 0
  · rw [if_pos e0]
    rw [if_pos e0] at h6
    unfold BX7_shape_35
    rw [isIn_eq, bnd1_s, if_neg (show ¬ (v4 < 0 ∨ 0 < v4) from fun q => q.elim h5 h6), if_neg (by decide), a46]
  · rw [if_neg e0]
    rw [if_neg e0] at h6
    unfold BX7_shape_35
    rw [isIn_eq, bnd1_s, if_neg (show ¬ (v4 < 0 ∨ 99 < v4) from fun q => q.elim h5 h6), if_neg (by decide), a46]
