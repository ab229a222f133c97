/-! ===== the budget's check: what the book shows satisfies it ===== -/
theorem if_t {c : Prop} [Decidable c] {X Y : Prop} (hc : c) (h : X) : if c then X else Y := by rw [if_pos hc]; exact h
theorem if_f {c : Prop} [Decidable c] {X Y : Prop} (hc : ¬ c) (h : Y) : if c then X else Y := by rw [if_neg hc]; exact h
theorem n10 : ¬ (1 : Int32) = 0 := by decide
theorem nI6 {k : Nat} (h : k < 6) : ¬ (6 : Int32) ≤ nI k := fun q => by
  have := (nI_leI (a := 6) (by omega) (by omega)).mp q
  omega
/-! an injective map of n numbers into n numbers is onto -/
theorem onto_n : ∀ (n : Nat) (f : Nat → Nat), (∀ i, i < n → f i < n) → (∀ i j, i < n → j < n → f i = f j → i = j) → ∀ p, p < n → ∃ i, i < n ∧ f i = p
  | 0, _, _, _, p, hp => absurd hp (Nat.not_lt_zero _)
  | n + 1, f, hf, hi, p, hp => by
    by_cases hv : f n = n
    · have ih := onto_n n f (fun i h => by
        have h1 := hf i (by omega)
        have h2 : f i ≠ n := fun q => by
          have := hi i n (by omega) (by omega) (by rw [q, hv])
          omega
        omega) (fun i j h1 h2 => hi i j (by omega) (by omega))
      by_cases e : p = n
      · exact ⟨n, by omega, by rw [hv, e]⟩
      · obtain ⟨i, h1, h2⟩ := ih p (by omega)
        exact ⟨i, by omega, h2⟩
    · have hvn : f n < n := by
        have := hf n (by omega)
        omega
      have ih := onto_n n (fun i => if f i = n then f n else f i) (fun i h => by
        show (if f i = n then f n else f i) < n
        by_cases q : f i = n
        · rw [if_pos q]; exact hvn
        · rw [if_neg q]
          have := hf i (by omega)
          omega) (fun i j h1 h2 h => by
        have h : (if f i = n then f n else f i) = (if f j = n then f n else f j) := h
        by_cases q1 : f i = n
        · by_cases q2 : f j = n
          · exact hi i j (by omega) (by omega) (by rw [q1, q2])
          · rw [if_pos q1, if_neg q2] at h
            have := hi n j (by omega) (by omega) h
            omega
        · by_cases q2 : f j = n
          · rw [if_neg q1, if_pos q2] at h
            have := hi i n (by omega) (by omega) h
            omega
          · rw [if_neg q1, if_neg q2] at h
            exact hi i j (by omega) (by omega) h)
      by_cases e : p = f n
      · exact ⟨n, by omega, e.symm⟩
      · by_cases e2 : p = n
        · obtain ⟨i, h1, h2⟩ := ih (f n) hvn
          have h2 : (if f i = n then f n else f i) = f n := h2
          by_cases q : f i = n
          · exact ⟨i, by omega, by rw [q, e2]⟩
          · rw [if_neg q] at h2
            have := hi i n (by omega) (by omega) h2
            omega
        · obtain ⟨i, h1, h2⟩ := ih p (by omega)
          have h2 : (if f i = n then f n else f i) = p := h2
          by_cases q : f i = n
          · rw [if_pos q] at h2
            exact absurd h2.symm e
          · rw [if_neg q] at h2
            exact ⟨i, by omega, h2⟩
/-! ranks -/
def bfr (P : Nat → Int64) (o i : Nat) : Prop := P i < P o ∨ (P o = P i ∧ o < i)
theorem bfr_tr {P : Nat → Int64} {a b c : Nat} (h1 : bfr P a b) (h2 : bfr P b c) : bfr P a c := by
  unfold bfr at *
  rcases h1 with h1 | ⟨h1, h3⟩ <;> rcases h2 with h2 | ⟨h2, h4⟩
  · exact Or.inl (Int64.lt_trans h2 h1)
  · left; rw [← h2]; exact h1
  · left; rw [h1]; exact h2
  · exact Or.inr ⟨h1.trans h2, by omega⟩
theorem bfr_ir {P : Nat → Int64} {a : Nat} : ¬ bfr P a a := fun h => by
  rcases h with h | ⟨-, h⟩
  · exact Int64.lt_irrefl h
  · omega
theorem bfr_tot {P : Nat → Int64} {a b : Nat} (h : a ≠ b) : bfr P a b ∨ bfr P b a := by
  unfold bfr
  by_cases h1 : P b < P a
  · exact Or.inl (Or.inl h1)
  · by_cases h2 : P a < P b
    · exact Or.inr (Or.inl h2)
    · have e : P a = P b := Int64.le_antisymm (Int64.not_lt.mp h1) (Int64.not_lt.mp h2)
      rcases Nat.lt_or_gt_of_ne h with q | q
      · exact Or.inl (Or.inr ⟨e, q⟩)
      · exact Or.inr (Or.inr ⟨e.symm, q⟩)
theorem rank_mono {P : Nat → Int64} {a b : Nat} (h : bfr P a b) : ∀ n, rankTo P a n ≤ rankTo P b n ∧ (a < n → rankTo P a n < rankTo P b n)
  | 0 => ⟨Nat.le_refl _, fun q => absurd q (Nat.not_lt_zero _)⟩
  | n + 1 => by
    obtain ⟨i1, i2⟩ := rank_mono h n
    by_cases ca : bfr P n a
    · have cb := bfr_tr ca h
      have hne : n ≠ a := fun q => by rw [q] at ca; exact bfr_ir ca
      rw [rankTo_yes ca, rankTo_yes cb]
      exact ⟨by omega, fun q => by have := i2 (by omega); omega⟩
    · rw [rankTo_no ca]
      by_cases cb : bfr P n b
      · rw [rankTo_yes cb]
        exact ⟨by omega, fun _ => by omega⟩
      · rw [rankTo_no cb]
        refine ⟨i1, fun q => ?_⟩
        by_cases e : n = a
        · rw [e] at cb
          exact absurd h cb
        · exact i2 (by omega)
theorem rank_lt6 (P : Nat → Int64) {a : Nat} (h : a < 6) : rankTo P a 6 < 6 := by
  have st : ∀ n, rankTo P a n ≤ n ∧ (a < n → rankTo P a n < n) := fun n => by
    induction n with
    | zero => exact ⟨Nat.le_refl _, fun q => absurd q (Nat.not_lt_zero _)⟩
    | succ n ih =>
      by_cases c : bfr P n a
      · have hne : n ≠ a := fun q => by rw [q] at c; exact bfr_ir c
        rw [rankTo_yes c]
        exact ⟨by omega, fun q => by have := ih.2 (by omega); omega⟩
      · rw [rankTo_no c]
        exact ⟨by omega, fun _ => by omega⟩
  exact (st 6).2 h
theorem rank_inj {P : Nat → Int64} {a b : Nat} (ha : a < 6) (hb : b < 6) (h : rankTo P a 6 = rankTo P b 6) : a = b := by
  by_cases e : a = b
  · exact e
  · rcases bfr_tot (P := P) e with q | q
    · have := (rank_mono q 6).2 ha
      omega
    · have := (rank_mono q 6).2 hb
      omega
theorem rank_on (P : Nat → Int64) {p : Nat} (hp : p < 6) : ∃ j, j < 6 ∧ rankTo P j 6 = p := onto_n 6 (fun j => rankTo P j 6) (fun _ h => rank_lt6 P h) (fun _ _ h1 h2 h => rank_inj h1 h2 h) p hp
theorem rank_fall {P : Nat → Int64} {a b : Nat} (h : rankTo P a 6 < rankTo P b 6) (ha : a < 6) (hb : b < 6) : bfr P a b := by
  have e : a ≠ b := fun q => by rw [q] at h; omega
  rcases bfr_tot (P := P) e with q | q
  · exact q
  · have := (rank_mono q 6).2 hb
    omega
/-! the mask of the inputs that have had a place -/
theorem mask_or : ∀ M, M < 64 → ∀ j, j < 6 → nI M ||| ((1 : Int32) <<< ((nI j : Int32) &&& 31)) = nI (M ||| 2 ^ j) ∧ M ||| 2 ^ j < 64 ∧ ∀ i, i < 6 → (M ||| 2 ^ j).testBit i = (M.testBit i || decide (i = j)) := by decide +kernel
theorem mask_all : ∀ M, M < 64 → (∀ i, i < 6 → M.testBit i = true) → M = 63 := by decide +kernel
/-- what is seen, with other factors -/
abbrev oF (o : OBk) (fa : Nat → Int32) : OBk := mkO (oc o) (oI o) (ocv o) (oln o) (ocd o) (ova o) (ose o) (ods o) fa (otn o) (ox o)
theorem bud_l1 {o : OBk} {m : Nat} (hm : m < oc o) {K9 : Int32 → OBk → Prop} {E : Int64 → Int32 → OBk → Prop} (hE : E (sumTo (ptO o m) 6) 1 o) : ∀ (f k : Nat), k ≤ 6 → 6 - k < f → LL_isBudget_8 K9 (nI m) E f (sumTo (ptO o m) k) 1 (nI k) o
  | 0, k, _, q => absurd q (Nat.not_lt_zero _)
  | f + 1, k, hk, q => by
    rw [LL_isBudget_8]
    by_cases hc : 6 ≤ k
    · have : k = 6 := by omega
      subst this
      exact if_t (by decide) hE
    · have h6 : k < 6 := by omega
      have ih := bud_l1 hm (K9 := K9) hE f (k + 1) (by omega) (by omega)
      refine if_f (nI6 h6) (if_f n10 ⟨m, k, hm, h6, rfl, rfl, ⟨m, k, hm, h6, rfl, rfl, if_t ((lg_cmp_eq _ _).mpr rfl) ⟨m, k, hm, h6, rfl, rfl, ⟨k, h6, rfl, by decide, if_t ((lg_cmp_eq _ _).mpr rfl) ?_⟩⟩⟩⟩)
      refine ⟨k, h6, rfl, by decide, ?_⟩
      rw [← nI_1] at ih
      exact ih
/-! the fifteen pairs -/
def pa (k : Nat) : Nat := if k < 5 then 0 else if k < 9 then 1 else if k < 12 then 2 else if k < 14 then 3 else 4
def pb (k : Nat) : Nat := if k < 5 then k + 1 else if k < 9 then k - 3 else if k < 12 then k - 6 else if k < 14 then k - 8 else 5
def ctP (o : OBk) (m k : Nat) : Int64 := 2 * (ose o m (pa k) * ose o m (pb k) * (ocv o (pa k) (pb k)).toInt64)
theorem cv_back {cv : Nat → Nat → Int32} (h : okCv cv) {i j : Nat} (hi : i < 6) (hj : j < 6) : upd2 (upd2 (upd2 (upd2 cv i j 0) j i 0) i j (cv i j)) j i (cv i j) = cv := funext fun a => funext fun b => by
  simp only [upd2_at]
  have e := (h i j hi hj).1
  by_cases a1 : a = j <;> by_cases b1 : b = i <;> by_cases a2 : a = i <;> by_cases b2 : b = j <;> simp only [a1, b1, a2, b2, if_true, if_false] <;> (try subst_vars) <;> (try simp only [if_true, if_false]) <;> first | rfl | exact e | exact e.symm | simp_all
theorem cv_rg {v : Int32} (h : -9999 ≤ v ∧ v ≤ 9999) : ¬ (v < (-9999) ∨ ¬ v ≤ 9999) := fun q => q.elim (fun q => absurd h.1 (Int32.not_le.mpr q)) (fun q => q h.2)
theorem bud_pair {o : OBk} {m i j : Nat} (hm : m < oc o) (hi : i < 6) (hj : j < 6) (hij : ¬ i = j) (hC : okCv (ocv o)) {K9 : Int32 → OBk → Prop} {K : Int64 → Int32 → Int32 → OBk → Prop} {E : Int64 → Int32 → OBk → Prop} (v2 : Int64) (v5 : Int32) (fa : Nat → Int32)
    (hK : ∀ fa, OFo (oF o fa) → K (v2 + 2 * (ose o m i * ose o m j * (ocv o i j).toInt64)) 1 (v5 + 1) (oF o fa)) : BL_isBudget_217 K9 (nI m) K E v2 v5 (nI i) (nI j) (oF o fa) := by
  unfold BL_isBudget_217
  refine ⟨i, j, hi, hj, hij, rfl, rfl, by decide, fun fa1 _ => ⟨i, j, hi, hj, hij, rfl, rfl, cv_rg (hC i j hi hj).2, fun fa2 h2 => ?_⟩⟩
  have z : upd2 (upd2 (ocv o) i j 0) j i 0 i j = 0 := by
    rw [upd2_at]
    by_cases a : i = j
    · exact absurd a hij
    · rw [if_neg a, upd2_at, if_pos rfl, if_pos rfl]
  have e : ∀ fa, (mkO (oc o) (oI o) (upd2 (upd2 (upd2 (upd2 (ocv o) i j 0) j i 0) i j (ocv o i j)) j i (ocv o i j)) (oln o) (ocd o) (ova o) (ose o) (ods o) fa (otn o) (ox o)) = oF o fa := fun fa => by rw [cv_back hC hi hj]
  refine if_t z ?_
  unfold BL_isBudget_252
  have h2' : OFo (oF o fa2) := by
    rw [← e fa2]
    exact h2
  show cb_sensitivity (nI m) (nI i) (mkO (oc o) (oI o) (upd2 (upd2 (upd2 (upd2 (ocv o) i j 0) j i 0) i j (ocv o i j)) j i (ocv o i j)) (oln o) (ocd o) (ova o) (ose o) (ods o) fa2 (otn o) (ox o)) _
  rw [e fa2]
  exact ⟨m, i, hm, hi, rfl, rfl, ⟨m, j, hm, hj, rfl, rfl, hK fa2 h2'⟩⟩
theorem bud_l2 {o : OBk} {m : Nat} (hm : m < oc o) (hC : okCv (ocv o)) {K9 : Int32 → OBk → Prop} {E : Int64 → Int32 → OBk → Prop} (S : Int64) (hE : ∀ fa, OFo (oF o fa) → E (S + sumTo (ctP o m) 15) 1 (oF o fa)) : ∀ (f k : Nat) (fa : Nat → Int32), OFo (oF o fa) → k ≤ 15 → 15 - k < f → LL_isBudget_101 K9 (nI m) E f (S + sumTo (ctP o m) k) 1 (nI k) (oF o fa)
  | 0, k, _, _, _, q => absurd q (Nat.not_lt_zero _)
  | f + 1, k, fa, hO, hk, q => by
    rw [LL_isBudget_101]
    by_cases hc : 15 ≤ k
    · have : k = 15 := by omega
      subst this
      exact if_t (by decide) (hE fa hO)
    · have ih := fun fa hO => bud_l2 hm hC (K9 := K9) S hE f (k + 1) fa hO (by omega) (by omega)
      have h15 : ¬ (15 : Int32) ≤ nI k := fun q => hc ((nI_leI (a := 15) (by omega) (by omega)).mp q)
      refine if_f h15 (if_f n10 ?_)
      have go : ∀ (i j : Nat), i < 6 → j < 6 → ¬ i = j → pa k = i → pb k = j → BL_isBudget_217 K9 (nI m) (LL_isBudget_101 K9 (nI m) E f) E (S + sumTo (ctP o m) k) (nI k) (nI i) (nI j) (oF o fa) := fun i j hi hj hij e1 e2 => by
        refine bud_pair hm hi hj hij hC _ _ fa (fun fa h => ?_)
        have := ih fa h
        rw [nI_1]
        have e : S + sumTo (ctP o m) k + 2 * (ose o m i * ose o m j * (ocv o i j).toInt64) = S + sumTo (ctP o m) (k + 1) := by
          show _ = S + (sumTo (ctP o m) k + ctP o m k)
          unfold ctP
          rw [e1, e2, Int64.add_assoc]
        rw [e]
        exact this
      rcases (show k = 0 ∨ k = 1 ∨ k = 2 ∨ k = 3 ∨ k = 4 ∨ k = 5 ∨ k = 6 ∨ k = 7 ∨ k = 8 ∨ k = 9 ∨ k = 10 ∨ k = 11 ∨ k = 12 ∨ k = 13 ∨ k = 14 by omega) with rfl | rfl | rfl | rfl | rfl | rfl | rfl | rfl | rfl | rfl | rfl | rfl | rfl | rfl | rfl
      · refine if_f (by decide) ?_
        unfold BL_isBudget_157
        refine if_f (by decide) ?_
        rw [show nI 0 + 1 = nI 1 by decide]
        exact go 0 1 (by decide) (by decide) (by decide) rfl rfl
      · refine if_f (by decide) ?_
        unfold BL_isBudget_157
        refine if_f (by decide) ?_
        rw [show nI 1 + 1 = nI 2 by decide]
        exact go 0 2 (by decide) (by decide) (by decide) rfl rfl
      · refine if_f (by decide) ?_
        unfold BL_isBudget_157
        refine if_f (by decide) ?_
        rw [show nI 2 + 1 = nI 3 by decide]
        exact go 0 3 (by decide) (by decide) (by decide) rfl rfl
      · refine if_f (by decide) ?_
        unfold BL_isBudget_157
        refine if_f (by decide) ?_
        rw [show nI 3 + 1 = nI 4 by decide]
        exact go 0 4 (by decide) (by decide) (by decide) rfl rfl
      · refine if_f (by decide) ?_
        unfold BL_isBudget_157
        refine if_f (by decide) ?_
        rw [show nI 4 + 1 = nI 5 by decide]
        exact go 0 5 (by decide) (by decide) (by decide) rfl rfl
      · refine if_t (by decide) (if_f (by decide) ?_)
        unfold BL_isBudget_157
        refine if_t (by decide) (if_f (by decide) ?_)
        rw [show nI 5 - 3 = nI 2 by decide]
        exact go 1 2 (by decide) (by decide) (by decide) rfl rfl
      · refine if_t (by decide) (if_f (by decide) ?_)
        unfold BL_isBudget_157
        refine if_t (by decide) (if_f (by decide) ?_)
        rw [show nI 6 - 3 = nI 3 by decide]
        exact go 1 3 (by decide) (by decide) (by decide) rfl rfl
      · refine if_t (by decide) (if_f (by decide) ?_)
        unfold BL_isBudget_157
        refine if_t (by decide) (if_f (by decide) ?_)
        rw [show nI 7 - 3 = nI 4 by decide]
        exact go 1 4 (by decide) (by decide) (by decide) rfl rfl
      · refine if_t (by decide) (if_f (by decide) ?_)
        unfold BL_isBudget_157
        refine if_t (by decide) (if_f (by decide) ?_)
        rw [show nI 8 - 3 = nI 5 by decide]
        exact go 1 5 (by decide) (by decide) (by decide) rfl rfl
      · refine if_t (by decide) (if_t (by decide) (if_f (by decide) ?_))
        unfold BL_isBudget_157
        refine if_t (by decide) (if_t (by decide) (if_f (by decide) ?_))
        rw [show nI 9 - 6 = nI 3 by decide]
        exact go 2 3 (by decide) (by decide) (by decide) rfl rfl
      · refine if_t (by decide) (if_t (by decide) (if_f (by decide) ?_))
        unfold BL_isBudget_157
        refine if_t (by decide) (if_t (by decide) (if_f (by decide) ?_))
        rw [show nI 10 - 6 = nI 4 by decide]
        exact go 2 4 (by decide) (by decide) (by decide) rfl rfl
      · refine if_t (by decide) (if_t (by decide) (if_f (by decide) ?_))
        unfold BL_isBudget_157
        refine if_t (by decide) (if_t (by decide) (if_f (by decide) ?_))
        rw [show nI 11 - 6 = nI 5 by decide]
        exact go 2 5 (by decide) (by decide) (by decide) rfl rfl
      · refine if_t (by decide) (if_t (by decide) (if_t (by decide) (if_f (by decide) ?_)))
        unfold BL_isBudget_157
        refine if_t (by decide) (if_t (by decide) (if_t (by decide) (if_f (by decide) ?_)))
        rw [show nI 12 - 8 = nI 4 by decide]
        exact go 3 4 (by decide) (by decide) (by decide) rfl rfl
      · refine if_t (by decide) (if_t (by decide) (if_t (by decide) (if_f (by decide) ?_)))
        unfold BL_isBudget_157
        refine if_t (by decide) (if_t (by decide) (if_t (by decide) (if_f (by decide) ?_)))
        rw [show nI 13 - 8 = nI 5 by decide]
        exact go 3 5 (by decide) (by decide) (by decide) rfl rfl
      · refine if_t (by decide) (if_t (by decide) (if_t (by decide) (if_t (by decide) ?_)))
        unfold BL_isBudget_157
        refine if_t (by decide) (if_t (by decide) (if_t (by decide) (if_t (by decide) ?_)))
        exact go 4 5 (by decide) (by decide) (by decide) rfl rfl
theorem bud_sum {o : OBk} (hC : okCv (ocv o)) (m : Nat) : sumTo (ptO o m) 6 + sumTo (ctP o m) 15 = vrO o m := by
  have ec : ∀ i j, i < 6 → j < 6 → covTerm (ose o m) (ocv o) i j = 2 * (ose o m j * ose o m i * (ocv o j i).toInt64) := fun i j hi hj => by
    unfold covTerm
    rw [(hC i j hi hj).1]
    grind
  have l : vrO o m = ((((((0 + (ptO o m 0 + 0)) + (ptO o m 1 + (0 + covTerm (ose o m) (ocv o) 1 0))) + (ptO o m 2 + ((0 + covTerm (ose o m) (ocv o) 2 0) + covTerm (ose o m) (ocv o) 2 1))) + (ptO o m 3 + (((0 + covTerm (ose o m) (ocv o) 3 0) + covTerm (ose o m) (ocv o) 3 1) + covTerm (ose o m) (ocv o) 3 2))) + (ptO o m 4 + ((((0 + covTerm (ose o m) (ocv o) 4 0) + covTerm (ose o m) (ocv o) 4 1) + covTerm (ose o m) (ocv o) 4 2) + covTerm (ose o m) (ocv o) 4 3))) + (ptO o m 5 + (((((0 + covTerm (ose o m) (ocv o) 5 0) + covTerm (ose o m) (ocv o) 5 1) + covTerm (ose o m) (ocv o) 5 2) + covTerm (ose o m) (ocv o) 5 3) + covTerm (ose o m) (ocv o) 5 4))) := rfl
  have r1 : sumTo (ptO o m) 6 = 0 + ptO o m 0 + ptO o m 1 + ptO o m 2 + ptO o m 3 + ptO o m 4 + ptO o m 5 := rfl
  have r2 : sumTo (ctP o m) 15 = 0 + ctP o m 0 + ctP o m 1 + ctP o m 2 + ctP o m 3 + ctP o m 4 + ctP o m 5 + ctP o m 6 + ctP o m 7 + ctP o m 8 + ctP o m 9 + ctP o m 10 + ctP o m 11 + ctP o m 12 + ctP o m 13 + ctP o m 14 := rfl
  rw [l, r1, r2, ec 1 0 (by omega) (by omega), ec 2 0 (by omega) (by omega), ec 2 1 (by omega) (by omega), ec 3 0 (by omega) (by omega), ec 3 1 (by omega) (by omega), ec 3 2 (by omega) (by omega), ec 4 0 (by omega) (by omega), ec 4 1 (by omega) (by omega), ec 4 2 (by omega) (by omega), ec 4 3 (by omega) (by omega), ec 5 0 (by omega) (by omega), ec 5 1 (by omega) (by omega), ec 5 2 (by omega) (by omega), ec 5 3 (by omega) (by omega), ec 5 4 (by omega) (by omega)]
  rw [show ctP o m 0 = 2 * (ose o m 0 * ose o m 1 * (ocv o 0 1).toInt64) from rfl, show ctP o m 1 = 2 * (ose o m 0 * ose o m 2 * (ocv o 0 2).toInt64) from rfl, show ctP o m 2 = 2 * (ose o m 0 * ose o m 3 * (ocv o 0 3).toInt64) from rfl, show ctP o m 3 = 2 * (ose o m 0 * ose o m 4 * (ocv o 0 4).toInt64) from rfl, show ctP o m 4 = 2 * (ose o m 0 * ose o m 5 * (ocv o 0 5).toInt64) from rfl, show ctP o m 5 = 2 * (ose o m 1 * ose o m 2 * (ocv o 1 2).toInt64) from rfl, show ctP o m 6 = 2 * (ose o m 1 * ose o m 3 * (ocv o 1 3).toInt64) from rfl, show ctP o m 7 = 2 * (ose o m 1 * ose o m 4 * (ocv o 1 4).toInt64) from rfl, show ctP o m 8 = 2 * (ose o m 1 * ose o m 5 * (ocv o 1 5).toInt64) from rfl, show ctP o m 9 = 2 * (ose o m 2 * ose o m 3 * (ocv o 2 3).toInt64) from rfl, show ctP o m 10 = 2 * (ose o m 2 * ose o m 4 * (ocv o 2 4).toInt64) from rfl, show ctP o m 11 = 2 * (ose o m 2 * ose o m 5 * (ocv o 2 5).toInt64) from rfl, show ctP o m 12 = 2 * (ose o m 3 * ose o m 4 * (ocv o 3 4).toInt64) from rfl, show ctP o m 13 = 2 * (ose o m 3 * ose o m 5 * (ocv o 3 5).toInt64) from rfl, show ctP o m 14 = 2 * (ose o m 4 * ose o m 5 * (ocv o 4 5).toInt64) from rfl]
  generalize ptO o m 0 = x0
  generalize ptO o m 1 = x1
  generalize ptO o m 2 = x2
  generalize ptO o m 3 = x3
  generalize ptO o m 4 = x4
  generalize ptO o m 5 = x5
  generalize 2 * (ose o m 0 * ose o m 1 * (ocv o 0 1).toInt64) = y0
  generalize 2 * (ose o m 0 * ose o m 2 * (ocv o 0 2).toInt64) = y1
  generalize 2 * (ose o m 0 * ose o m 3 * (ocv o 0 3).toInt64) = y2
  generalize 2 * (ose o m 0 * ose o m 4 * (ocv o 0 4).toInt64) = y3
  generalize 2 * (ose o m 0 * ose o m 5 * (ocv o 0 5).toInt64) = y4
  generalize 2 * (ose o m 1 * ose o m 2 * (ocv o 1 2).toInt64) = y5
  generalize 2 * (ose o m 1 * ose o m 3 * (ocv o 1 3).toInt64) = y6
  generalize 2 * (ose o m 1 * ose o m 4 * (ocv o 1 4).toInt64) = y7
  generalize 2 * (ose o m 1 * ose o m 5 * (ocv o 1 5).toInt64) = y8
  generalize 2 * (ose o m 2 * ose o m 3 * (ocv o 2 3).toInt64) = y9
  generalize 2 * (ose o m 2 * ose o m 4 * (ocv o 2 4).toInt64) = y10
  generalize 2 * (ose o m 2 * ose o m 5 * (ocv o 2 5).toInt64) = y11
  generalize 2 * (ose o m 3 * ose o m 4 * (ocv o 3 4).toInt64) = y12
  generalize 2 * (ose o m 3 * ose o m 5 * (ocv o 3 5).toInt64) = y13
  generalize 2 * (ose o m 4 * ose o m 5 * (ocv o 4 5).toInt64) = y14
  simp only [Int64.zero_add, Int64.add_zero]
  ac_rfl
theorem bud_509 {o : OBk} {m p j jb : Nat} (hm : m < oc o) (hp : p < 6) (hj : j < 6) (hr : rankTo (ptO o m) j 6 = p) (hjb : jb < 6) (hb : (p = 0 ∧ jb = j) ∨ rankTo (ptO o m) jb 6 < p) {M : Nat} (hM : M < 64) {K9 : Int32 → OBk → Prop} {K : Int32 → Int64 → Int32 → Int32 → OBk → Prop} {E : Int32 → Int32 → OBk → Prop} (hK : K 1 (vrO o m) (nI (M ||| 2 ^ j)) (nI p + 1) o) : BL_isBudget_509 K9 (nI m) K E (vrO o m) (nI M) (nI p) (nI j) (nI jb) o := by
  have fin : BL_isBudget_556 K9 (nI m) K E (vrO o m) (nI M) (nI p) (nI j) o := by
    unfold BL_isBudget_556 BL_isBudget_561
    have tail : BL_isBudget_611 K9 (nI m) K E (vrO o m) (nI M) (nI p) (nI j) 1 o := by
      unfold BL_isBudget_611
      rw [(mask_or M hM j hj).1]
      exact hK
    refine if_f n10 ⟨m, j, hm, hj, rfl, rfl, ?_⟩
    by_cases hv : vrO o m = 0
    · refine if_t ((lg_cmp_eq _ _).mpr hv) ?_
      unfold BL_isBudget_602
      refine if_t ((lg_cmp_eq _ _).mpr ?_) tail
      show shareAt (ptO o m j) (vrO o m) = 0
      unfold shareAt
      exact if_pos hv
    · refine if_f (fun q => hv ((lg_cmp_eq _ _).mp q)) ⟨m, j, hm, hj, rfl, rfl, ⟨hv, ?_⟩⟩
      unfold BL_isBudget_602
      refine if_t ((lg_cmp_eq _ _).mpr ?_) tail
      show shareAt (ptO o m j) (vrO o m) = 100 * ptO o m j / vrO o m
      unfold shareAt
      exact if_neg hv
  unfold BL_isBudget_509
  refine ⟨m, jb, hm, hjb, rfl, rfl, ⟨m, j, hm, hj, rfl, rfl, ?_⟩⟩
  have eq : ptO o m jb = ptO o m j → jb ≤ j → (if 0 < lg_cmp (if (0 : Int32) = 0 then ptO o m jb else shareAt (ptO o m jb) (vrO o m)) (if (0 : Int32) = 0 then ptO o m j else shareAt (ptO o m j) (vrO o m)) then BL_isBudget_556 K9 (nI m) K E (vrO o m) (nI M) (nI p) (nI j) o else cb_contribution (nI m) (nI j) 0 o (fun r44 Ob44 => (if (lg_cmp (if (0 : Int32) = 0 then ptO o m jb else shareAt (ptO o m jb) (vrO o m)) r44) = 0 then (if nI j < nI jb then BL_isBudget_560 K9 (nI m) K E (vrO o m) (nI M) (nI p) (nI j) Ob44 else BL_isBudget_556 K9 (nI m) K E (vrO o m) (nI M) (nI p) (nI j) Ob44) else BL_isBudget_560 K9 (nI m) K E (vrO o m) (nI M) (nI p) (nI j) Ob44))) := fun e1 e2 => by
    refine if_f (fun q => ?_) ⟨m, j, hm, hj, rfl, rfl, if_t ((lg_cmp_eq _ _).mpr e1) (if_f (fun q => ?_) fin)⟩
    · have q : 0 < lg_cmp (ptO o m jb) (ptO o m j) := q
      rw [lg_cmp_gt, e1] at q
      exact Int64.lt_irrefl q
    · have := (nI_ltI (by omega) (by omega)).mp q
      omega
  rcases hb with ⟨h0, rfl⟩ | hb
  · exact eq rfl (Nat.le_refl _)
  · rcases rank_fall (P := ptO o m) (a := jb) (b := j) (by omega) hjb hj with q | ⟨q1, q2⟩
    · exact if_t ((lg_cmp_gt _ _).mpr q) fin
    · exact eq q1 (by omega)
theorem bud_l3 {o : OBk} {m : Nat} (hm : m < oc o) {K9 : Int32 → OBk → Prop} {E : Int32 → Int32 → OBk → Prop} (hE : E 1 63 o) : ∀ (f p M : Nat), p ≤ 6 → 6 - p < f → M < 64 → (∀ i, i < 6 → (M.testBit i = true ↔ rankTo (ptO o m) i 6 < p)) → LL_isBudget_469 K9 (nI m) E f 1 (vrO o m) (nI M) (nI p) o
  | 0, p, _, _, q, _, _ => absurd q (Nat.not_lt_zero _)
  | f + 1, p, M, hp, q, hM, hB => by
    rw [LL_isBudget_469]
    by_cases hc : 6 ≤ p
    · have : p = 6 := by omega
      subst this
      have e := mask_all M hM (fun i hi => (hB i hi).mpr (rank_lt6 _ hi))
      refine if_t (by decide) ?_
      rw [e]
      exact hE
    · have h6 : p < 6 := by omega
      refine if_f (nI6 h6) (if_f n10 ⟨m, p, hm, by omega, rfl, rfl, fun r hr => ?_⟩)
      obtain ⟨j, hj, rfl, ej⟩ : ∃ j, j < 6 ∧ r = nI j ∧ rankTo (ptO o m) j 6 = p := by
        rcases hr with h | ⟨-, h⟩
        · exact h
        · obtain ⟨j, h1, h2⟩ := rank_on (ptO o m) h6
          exact absurd h2 (h j h1)
      obtain ⟨m1, m2, m3⟩ := mask_or M hM j hj
      have next : LL_isBudget_469 K9 (nI m) E f 1 (vrO o m) (nI (M ||| 2 ^ j)) (nI p + 1) o := by
        rw [nI_1]
        refine bud_l3 hm hE f (p + 1) _ (by omega) (by omega) m2 (fun i hi => ?_)
        rw [m3 i hi, Bool.or_eq_true, hB i hi, decide_eq_true_eq]
        constructor
        · rintro (h | h)
          · omega
          · rw [h, ej]; omega
        · intro h
          by_cases e : rankTo (ptO o m) i 6 < p
          · exact Or.inl e
          · exact Or.inr (rank_inj (P := ptO o m) hi hj (by omega))
      by_cases h0 : p = 0
      · refine if_t (by rw [h0]; rfl) ?_
        exact bud_509 hm h6 hj ej hj (Or.inl ⟨h0, rfl⟩) hM next
      · obtain ⟨p', rfl⟩ : ∃ p', p = p' + 1 := ⟨p - 1, by omega⟩
        refine if_f (fun q => h0 ((nI_eq (b := 0) (by omega) (by omega)).mp q)) ⟨m, p', hm, by omega, rfl, nI_pred p', fun r hr => ?_⟩
        obtain ⟨jb, hjb, rfl, ejb⟩ : ∃ j, j < 6 ∧ r = nI j ∧ rankTo (ptO o m) j 6 = p' := by
          rcases hr with h | ⟨-, h⟩
          · exact h
          · obtain ⟨j, h1, h2⟩ := rank_on (ptO o m) (show p' < 6 by omega)
            exact absurd h2 (h j h1)
        exact bud_509 hm h6 hj ej hjb (Or.inr (by omega)) hM next
theorem cbb0 {o : OBk} {m : Nat} (hm : m < oc o) {K : Int64 → OBk → Prop} (h : K (vrO o m) o) : cb_budget (nI m) 0 o K := ⟨m, hm, rfl, Or.inl rfl, by
  unfold budO
  rw [if_pos rfl]
  exact h⟩
theorem cbb1 {o : OBk} {m : Nat} (hm : m < oc o) {K : Int64 → OBk → Prop} (h : K (dbt (vrO o m)) o) : cb_budget (nI m) 1 o K := ⟨m, hm, rfl, Or.inr (Or.inl rfl), by
  unfold budO
  rw [if_neg (show ¬ (1 : Int32) = 0 by decide), if_pos rfl]
  exact h⟩
theorem cbb3 {o : OBk} {m : Nat} (hm : m < oc o) {K : Int64 → OBk → Prop} (h : K (ofa o m).toInt64 o) : cb_budget (nI m) 3 o K := ⟨m, hm, rfl, Or.inr (Or.inr (Or.inl rfl)), by
  unfold budO
  rw [if_neg (show ¬ (3 : Int32) = 0 by decide), if_neg (show ¬ (3 : Int32) = 1 by decide), if_pos rfl]
  exact h⟩
theorem cbb4 {o : OBk} {m : Nat} (hm : m < oc o) {K : Int64 → OBk → Prop} (h : K (sdO o m) o) : cb_budget (nI m) 4 o K := ⟨m, hm, rfl, Or.inr (Or.inr (Or.inr rfl)), by
  unfold budO
  rw [if_neg (show ¬ (4 : Int32) = 0 by decide), if_neg (show ¬ (4 : Int32) = 1 by decide), if_neg (show ¬ (4 : Int32) = 3 by decide)]
  exact h⟩
theorem toI64_m1 {x : Int32} : x.toInt64 = -1 ↔ x = -1 := by
  constructor
  · intro h
    have := congrArg Int64.toInt h
    rw [Int32.toInt_toInt64] at this
    exact Int32.toInt_inj.mp this
  · intro h
    rw [h]
    rfl
theorem bud_461 {o : OBk} (hF : OFo o) {m : Nat} (hm : m < oc o) {K9 : Int32 → OBk → Prop} (hK : K9 1 o) : BL_isBudget_461 K9 (nI m) (vrO o m) 1 o := by
  unfold BL_isBudget_461
  refine bud_l3 hm (o := o) ?_ 1000 0 0 (by omega) (by omega) (by omega) (fun i _ => by simp)
  show BL_isBudget_628 K9 (nI m) 1 63 o
  unfold BL_isBudget_628
  refine if_f n10 (if_t rfl ⟨m, 6, hm, by omega, rfl, rfl, fun r hr => ?_⟩)
  have er : r = -1 := by
    rcases hr with ⟨j, h1, -, h3⟩ | ⟨h, -⟩
    · have := rank_lt6 (ptO o m) h1
      omega
    · exact h
  refine if_t er ⟨m, hm, rfl, if_f (fun q => ?_) ⟨rfl, hK⟩⟩
  rcases (hF.2.2.2.2.2.2.2.2 m hm).1 with e | ⟨p, hp, e⟩
  · rw [e] at q
    exact absurd q (by decide)
  · rw [e] at q
    have := (nI_leI (a := 60) (by omega) (by omega)).mp q
    omega
