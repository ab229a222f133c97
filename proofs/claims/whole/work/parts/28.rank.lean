/-! ===== ranks ===== -/
def rankTo (P : Nat → Int64) (i : Nat) : Nat → Nat
  | 0 => 0
  | o + 1 => rankTo P i o + (if P i < P o ∨ (P o = P i ∧ o < i) then 1 else 0)
theorem rankTo_yes {P : Nat → Int64} {i o : Nat} (y : P i < P o ∨ (P o = P i ∧ o < i)) : rankTo P i (o + 1) = rankTo P i o + 1 := by
  show rankTo P i o + (if P i < P o ∨ (P o = P i ∧ o < i) then 1 else 0) = _
  rw [if_pos y]
theorem rankTo_no {P : Nat → Int64} {i o : Nat} (y : ¬ (P i < P o ∨ (P o = P i ∧ o < i))) : rankTo P i (o + 1) = rankTo P i o := by
  show rankTo P i o + (if P i < P o ∨ (P o = P i ∧ o < i) then 1 else 0) = _
  rw [if_neg y]
  rfl
theorem rankTo_le (P : Nat → Int64) (i : Nat) : ∀ n, rankTo P i n ≤ n
  | 0 => Nat.le_refl _
  | n + 1 => by
    have := rankTo_le P i n
    unfold rankTo
    split <;> omega
theorem rankTo_congr {P Q : Nat → Int64} (h : ∀ i, i < 6 → P i = Q i) {i : Nat} (hi : i < 6) : ∀ n, n ≤ 6 → rankTo P i n = rankTo Q i n
  | 0, _ => rfl
  | n + 1, hn => by
    unfold rankTo
    rw [rankTo_congr h hi n (by omega), h i hi, h n (by omega)]
theorem c_rank_loop (P : Nat → Int64) {i : Nat} (hi : i < 6) (E : Int32 → Option Int32) : ∀ (f o : Nat), o ≤ 6 → 6 - o < f → LX0_rankOf_4 P (nI i) E f (nI (rankTo P i o)) (nI o) = E (nI (rankTo P i 6))
  | 0, o, _, q => absurd q (Nat.not_lt_zero _)
  | f + 1, o, ho, q => by
    rw [LX0_rankOf_4]
    by_cases hc : 6 ≤ o
    · have : o = 6 := by omega
      subst this
      rw [if_pos (by decide)]
    · have hq : ¬ (6 : Int32) ≤ nI o := fun q => hc ((nI_leI (a := 6) (by omega) (by omega)).mp q)
      have ih := c_rank_loop P hi E f (o + 1) (by omega) (by omega)
      rw [if_neg hq]
      unfold BX0_rankOf_31
      simp only [gi_n (show o < 6 by omega) (show 6 < 2 ^ 31 by omega), gi_n hi (show 6 < 2 ^ 31 by omega), clamp_n (show o < 2 ^ 31 by omega), clamp_n (show i < 2 ^ 31 by omega), nI_1, lg_cmp_gt, lg_cmp_eq, nI_leI (show i < 2 ^ 31 by omega) (show o < 2 ^ 31 by omega)]
      have yes : (P i < P o ∨ (P o = P i ∧ o < i)) → LX0_rankOf_4 P (nI i) E f (nI (rankTo P i o + 1)) (nI (o + 1)) = E (nI (rankTo P i 6)) := fun y => by
        rw [rankTo_yes y] at ih
        exact ih
      have no : ¬ (P i < P o ∨ (P o = P i ∧ o < i)) → LX0_rankOf_4 P (nI i) E f (nI (rankTo P i o)) (nI (o + 1)) = E (nI (rankTo P i 6)) := fun y => by
        rw [rankTo_no y] at ih
        exact ih
      by_cases c1 : P o = P i
      · have nl : ¬ P i < P o := fun y => lg_lt_ne y c1.symm
        rw [if_pos c1, if_neg nl, if_neg (show ¬ (1 : Int32) = 0 by decide)]
        by_cases c2 : i ≤ o
        · rw [if_pos c2]
          exact no (fun y => y.elim nl (fun z => by omega))
        · rw [if_neg c2]
          exact yes (Or.inr ⟨c1, by omega⟩)
      · rw [if_neg c1]
        by_cases c2 : P i < P o
        · rw [if_pos c2]
          exact yes (Or.inl c2)
        · rw [if_neg c2, if_pos trivial]
          exact no (fun y => y.elim c2 (fun z => c1 z.1))
theorem c_rankOf (P : Nat → Int64) {i : Nat} (hi : i < 6) : fX0_rankOf (nI i) P = some (nI (rankTo P i 6)) := c_rank_loop P hi (fun v2 => some v2) 1000 0 (by omega) (by omega)
theorem m_rank_loop {va : Nat → Int32} {W : Nat → Int64} (est form root MK MO MT drawn : Nat → Int32) (models v1 v2 : Int32) {i : Nat} (hi : i < 6) (E : Int32 → Int32 → (Nat → Int64) → (Nat → Int64) → (Nat → Int64) → Int32 → Option (Int32 × (Nat → Int64) × (Nat → Int64) × (Nat → Int64) × Int32)) (V S : Nat → Int64) (T : Int32) :
    ∀ (f o : Nat), o ≤ 6 → 6 - o < f → LX7_ranked_45 est va form root MK MO MT drawn models v1 v2 E f (nI i) (nI (rankTo (partOf W va) i o)) (nI o) V S W T = E (nI i) (nI (rankTo (partOf W va) i 6)) V S W T
  | 0, o, _, q => absurd q (Nat.not_lt_zero _)
  | f + 1, o, ho, q => by
    rw [LX7_ranked_45]
    by_cases hc : 6 ≤ o
    · have : o = 6 := by omega
      subst this
      rw [if_pos (by decide)]
    · have hq : ¬ (6 : Int32) ≤ nI o := fun q => hc ((nI_leI (a := 6) (by omega) (by omega)).mp q)
      have ih := m_rank_loop (va := va) (W := W) est form root MK MO MT drawn models v1 v2 hi E V S T f (o + 1) (by omega) (by omega)
      rw [if_neg hq]
      unfold BX7_ranked_90 BX7_ranked_94 BX7_ranked_95
      simp only [m_part hi, m_part (show o < 6 by omega), bnd1_s, lg_cmp_gt, lg_cmp_eq, nI_1, nI_leI (show i < 2 ^ 31 by omega) (show o < 2 ^ 31 by omega)]
      have z0 : ∀ x : Int32, x + 0 = x := fun x => by grind
      generalize hP : partOf W va = P at ih ⊢
      have yes : (P i < P o ∨ (P o = P i ∧ o < i)) → LX7_ranked_45 est va form root MK MO MT drawn models v1 v2 E f (nI i) (nI (rankTo P i o + 1)) (nI (o + 1)) V S W T = E (nI i) (nI (rankTo P i 6)) V S W T := fun y => by
        rw [rankTo_yes y] at ih
        exact ih
      have no : ¬ (P i < P o ∨ (P o = P i ∧ o < i)) → LX7_ranked_45 est va form root MK MO MT drawn models v1 v2 E f (nI i) (nI (rankTo P i o) + 0) (nI (o + 1)) V S W T = E (nI i) (nI (rankTo P i 6)) V S W T := fun y => by
        rw [rankTo_no y] at ih
        rw [z0]
        exact ih
      by_cases c2 : P i < P o
      · rw [if_pos c2]
        exact yes (Or.inl c2)
      · rw [if_neg c2]
        by_cases c1 : P o = P i
        · rw [if_pos c1]
          by_cases c3 : i ≤ o
          · rw [if_pos c3]
            exact no (fun y => y.elim c2 (fun z => by omega))
          · rw [if_neg c3]
            exact yes (Or.inr ⟨c1, by omega⟩)
        · rw [if_neg c1]
          exact no (fun y => y.elim c2 (fun z => c1 z.1))
theorem atRank_loop {va : Nat → Int32} {W P : Nat → Int64} (hP : ∀ i, i < 6 → P i = partOf W va i) (est form root MK MO MT drawn : Nat → Int32) (models v1 v2 : Int32) (V S : Nat → Int64) (T : Int32) :
    ∀ (f i : Nat), i ≤ 6 → 6 - i < f → ∃ r, LX0_inputAtRank_2 P v2 (fun v2 => some v2) (some (-1)) f (nI i) = some r ∧ LX7_ranked_33 est va form root MK MO MT drawn models v1 v2 (fun v3 V S W T => some (v3, V, S, W, T)) (fun V S W T => some (-1, V, S, W, T)) f (nI i) V S W T = some (r, V, S, W, T)
  | 0, i, _, q => absurd q (Nat.not_lt_zero _)
  | f + 1, i, hi, q => by
    rw [LX0_inputAtRank_2, LX7_ranked_33]
    by_cases hc : 6 ≤ i
    · have : i = 6 := by omega
      subst this
      rw [if_pos (by decide), if_pos (by decide)]
      exact ⟨_, rfl, rfl⟩
    · have hq : ¬ (6 : Int32) ≤ nI i := fun q => hc ((nI_leI (a := 6) (by omega) (by omega)).mp q)
      obtain ⟨r, r1, r2⟩ := atRank_loop hP est form root MK MO MT drawn models v1 v2 V S T f (i + 1) (by omega) (by omega)
      rw [if_neg hq, if_neg hq, c_rankOf P (by omega), bnd1_s, rankTo_congr hP (by omega) 6 (by omega)]
      have l := m_rank_loop (va := va) (W := W) est form root MK MO MT drawn models v1 v2 (show i < 6 by omega) (fun v3 v4 V S W T => if v4 = v2 then (fun v3 V S W T => some (v3, V, S, W, T)) v3 V S W T else LX7_ranked_33 est va form root MK MO MT drawn models v1 v2 (fun v3 V S W T => some (v3, V, S, W, T)) (fun V S W T => some (-1, V, S, W, T)) f (v3 + 1) V S W T) V S T 1000 0 (by omega) (by omega)
      by_cases c : nI (rankTo (partOf W va) i 6) = v2
      · rw [if_pos c]
        refine ⟨nI i, rfl, Eq.trans l ?_⟩
        rw [if_pos c]
      · rw [if_neg c, nI_1]
        refine ⟨r, r1, Eq.trans l ?_⟩
        rw [if_neg c, nI_1]
        exact r2
