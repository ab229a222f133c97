/-! ===== sensitivities, forward ===== -/
def powSl (l r : Int32) (V : Nat → Int64) : Int64 := if r = 0 then 0 else r.toInt64 * powL (V l.toNatClampNeg) (r.toNatClampNeg - 1)
def slopeRow (k l r i : Int32) (V S : Nat → Int64) : Int64 :=
  if k = 0 then 0 else if k = 1 then (if l = i then 1 else 0) else if k = 2 then -(S l.toNatClampNeg) else if k = 3 then S l.toNatClampNeg + S r.toNatClampNeg else if k = 4 then S l.toNatClampNeg - S r.toNatClampNeg else if k = 5 then V l.toNatClampNeg * S r.toNatClampNeg + S l.toNatClampNeg * V r.toNatClampNeg else powSl l r V * S l.toNatClampNeg
theorem c_powerSlope {n a e : Nat} (hn : n < 60) (ha : a < 60) (he : e < 5) {L R : Nat → Int32} (hl : L n = nI a) (hr : R n = nI e) (V : Nat → Int64) :
    fX3_powerSlope (nI n) L R V = some (powSl (L n) (R n) V) := by
  unfold fX3_powerSlope powSl
  rw [gi_n hn (by omega), gi_n hn (by omega), clamp_n (show n < 2 ^ 31 by omega), hl, hr, gi_n ha (by omega), clamp_n (show a < 2 ^ 31 by omega), clamp_n (show e < 2 ^ 31 by omega)]
  by_cases h0 : nI e = 0
  · rw [if_pos h0, if_pos h0]
  · rw [if_neg h0, if_neg h0]
    obtain ⟨e2, rfl⟩ : ∃ e2, e = e2 + 1 := by
      cases e with
      | zero => exact absurd rfl h0
      | succ e2 => exact ⟨e2, rfl⟩
    rw [nI_pred, c_power _ (show e2 < 900 by omega), bnd1_s]
    rfl
theorem c_slopeOfPart {n : Nat} (hn : n < 60) {K L R : Nat → Int32} (h : rowOK n (K n) (L n) (R n)) (i : Int32) (V S : Nat → Int64) :
    fX3_slopeOfPart (nI n) i K L R V S = some (slopeRow (K n) (L n) (R n) i V S) := by
  unfold fX3_slopeOfPart
  simp only [gi_n hn (show 60 < 2 ^ 31 by omega), clamp_n (show n < 2 ^ 31 by omega)]
  rcases h with ⟨hk, hr⟩ | ⟨hk, hr, j, hj, hl⟩ | ⟨hk, hr, a, ha, hl⟩ | ⟨hk, a, b, ha, hb, hl, hr⟩ | ⟨hk, a, e, ha, he, hl, hr⟩
  · simp [slopeRow, hk]
  · by_cases hi : L n = i
    · simp [slopeRow, hk, hi]
    · simp [slopeRow, hk, hi]
  · simp [slopeRow, hk, hl, gi_n (show a < 60 by omega) (show 60 < 2 ^ 31 by omega)]
  · rcases hk with hk | hk | hk <;> simp [slopeRow, hk, hl, hr, gi_n (show a < 60 by omega) (show 60 < 2 ^ 31 by omega), gi_n (show b < 60 by omega) (show 60 < 2 ^ 31 by omega)]
  · have e1 := c_powerSlope hn (show a < 60 by omega) he hl hr V
    simp [slopeRow, hk, e1, bnd1_s, hl, gi_n (show a < 60 by omega) (show 60 < 2 ^ 31 by omega)]
def slopesTo (K L R : Nat → Int32) (i : Int32) (V : Nat → Int64) : Nat → (Nat → Int64) → Nat → Int64
  | 0, S => S
  | n + 1, S => vp_updL (slopesTo K L R i V n S) n (slopeRow (K n) (L n) (R n) i V (slopesTo K L R i V n S))
theorem c_slope_loop {sz : Nat} (hsz : sz ≤ 60) {K L R : Nat → Int32} (h : ∀ n, n < sz → rowOK n (K n) (L n) (R n)) (rt i : Int32) (u : Nat → Int32) (V S : Nat → Int64) (E : (Nat → Int64) → (Nat → Int64) → Option (Int64 × (Nat → Int64) × (Nat → Int64))) :
    ∀ (f j : Nat), j ≤ sz → sz - j < f → LX3_slopeForward_8 K L R (nI sz) rt u i E f (nI j) V (slopesTo K L R i V j S) = E V (slopesTo K L R i V sz S)
  | 0, j, _, q => absurd q (Nat.not_lt_zero _)
  | f + 1, j, hj, q => by
    rw [LX3_slopeForward_8]
    by_cases hc : sz ≤ j
    · have : j = sz := by omega
      subst this
      rw [if_pos ((nI_leI (by omega) (by omega)).mpr hc)]
    · rw [if_neg (fun q => hc ((nI_leI (by omega) (by omega)).mp q)), c_slopeOfPart (by omega) (h j (by omega)), bnd1_s, gi_n (show j < 60 by omega) (by omega), nI_1, clamp_n (by omega)]
      exact c_slope_loop hsz h rt i u V S E f (j + 1) (by omega) (by omega)
theorem c_slopeForward {sz rt : Nat} (hsz : sz ≤ 60) {K L R : Nat → Int32} (h : ∀ n, n < sz → rowOK n (K n) (L n) (R n)) (hr : rt < 60) (i : Int32) (u : Nat → Int32) (V S : Nat → Int64) :
    fX3_slopeForward i K L R V S (nI sz) (nI rt) u = some (slopesTo K L R i (valsTo K L R u sz V) sz S rt, valsTo K L R u sz V, slopesTo K L R i (valsTo K L R u sz V) sz S) := by
  unfold fX3_slopeForward
  rw [c_reckonBy hsz h hr, bnd2_s]
  have e := c_slope_loop hsz h (nI rt) i u (valsTo K L R u sz V) S (fun Fvalues Fslopes => gi (nI rt) 60 (some (Fslopes (nI rt).toNatClampNeg, Fvalues, Fslopes))) 1000 0 (by omega) (by omega)
  refine Eq.trans e ?_
  show gi (nI rt) 60 _ = _
  rw [gi_n hr (by omega), clamp_n (by omega)]
theorem m_slope_step {m sz : Nat} (hm : m < 9) (hsz : sz ≤ 60) {K L R MK MO MT form root : Nat → Int32} (h : RowsRel sz (64 * m) K L R MK MO MT) (hf : form m = nI sz) (i : Int32) (V : Nat → Int64) (E : (Nat → Int64) → Option (Int64 × (Nat → Int64))) (f : Nat) {j : Nat} (hj : j < sz) (S : Nat → Int64) :
    LX7_slopeOf_2 form root MK MO MT V (nI m) i E (f + 1) (nI j) S = LX7_slopeOf_2 form root MK MO MT V (nI m) i E f (nI (j + 1)) (vp_updL S j (slopeRow (K j) (L j) (R j) i V S)) := by
  obtain ⟨hok, e1, e2, e3⟩ := h j hj
  have hc := clamp_n (show 64 * m + j < 2 ^ 31 by omega)
  have hi := fun (x : Option (Int64 × (Nat → Int64))) => gi_n (x := x) (show 64 * m + j < 576 by omega) (show 576 < 2 ^ 31 by omega)
  have hj64 := fun (x : Option (Int64 × (Nat → Int64))) => gi_n (x := x) (show j < 64 by omega) (show 64 < 2 ^ 31 by omega)
  have hcj := clamp_n (show j < 2 ^ 31 by omega)
  rw [LX7_slopeOf_2]
  simp only [ix64, gi_n hm (show 9 < 2 ^ 31 by omega), clamp_n (show m < 2 ^ 31 by omega), hf, hi, hc, e1, e2, e3, if_neg (nI_ge hj (show sz < 2 ^ 31 by omega))]
  rcases hok with ⟨hk, hr⟩ | ⟨hk, hr, a, ha, hl⟩ | ⟨hk, hr, a, ha, hl⟩ | ⟨hk, a, b, ha, hb, hl, hr⟩ | ⟨hk, a, e, ha, he, hl, hr⟩
  · simp [hk, km, BX7_slopeOf_40, BX7_slopeOf_66, BX7_slopeOf_67, hi, hj64, hc, hcj, e2, slopeRow, nI_1]
  · by_cases hv : L j = i
    · simp [hk, hv, km, BX7_slopeOf_40, BX7_slopeOf_66, BX7_slopeOf_67, hi, hj64, hc, hcj, e2, slopeRow, nI_1]
    · simp [hk, hv, km, BX7_slopeOf_40, BX7_slopeOf_66, BX7_slopeOf_67, hi, hj64, hc, hcj, e2, slopeRow, nI_1]
  · simp [hk, hl, km, hi, hj64, hc, hcj, e2, slopeRow, nI_1, gi_n (show a < 64 by omega) (show 64 < 2 ^ 31 by omega), clamp_n (show a < 2 ^ 31 by omega)]
  · rcases hk with hk | hk | hk <;> simp [hk, hl, hr, km, hi, hj64, hc, hcj, e2, e3, slopeRow, nI_1, gi_n (show a < 64 by omega) (show 64 < 2 ^ 31 by omega), gi_n (show b < 64 by omega) (show 64 < 2 ^ 31 by omega), clamp_n (show a < 2 ^ 31 by omega), clamp_n (show b < 2 ^ 31 by omega)]
  · by_cases h0 : nI e = 0
    · simp [hk, hl, hr, h0, km, BX7_slopeOf_142, powSl, hi, hj64, hc, hcj, e2, e3, slopeRow, nI_1, gi_n (show a < 64 by omega) (show 64 < 2 ^ 31 by omega), clamp_n (show a < 2 ^ 31 by omega)]
    · obtain ⟨e4, rfl⟩ : ∃ e4, e = e4 + 1 := by
        cases e with
        | zero => exact absurd rfl h0
        | succ e4 => exact ⟨e4, rfl⟩
      simp [hk, hl, hr, h0, km, BX7_slopeOf_142, powSl, hi, hj64, hc, hcj, e2, e3, slopeRow, nI_1, nI_pred, gi_n (show a < 64 by omega) (show 64 < 2 ^ 31 by omega), clamp_n (show a < 2 ^ 31 by omega), m_power _ (show e4 < 900 by omega), bnd1_s, clamp_n (show e4 + 1 < 2 ^ 31 by omega)]
theorem m_slope_loop {m sz : Nat} (hm : m < 9) (hsz : sz ≤ 60) {K L R MK MO MT form root : Nat → Int32} (h : RowsRel sz (64 * m) K L R MK MO MT) (hf : form m = nI sz) (i : Int32) (V : Nat → Int64) (E : (Nat → Int64) → Option (Int64 × (Nat → Int64))) (S : Nat → Int64) :
    ∀ (f j : Nat), j ≤ sz → sz - j < f → LX7_slopeOf_2 form root MK MO MT V (nI m) i E f (nI j) (slopesTo K L R i V j S) = E (slopesTo K L R i V sz S)
  | 0, j, _, q => absurd q (Nat.not_lt_zero _)
  | f + 1, j, hj, q => by
    by_cases hc : j < sz
    · rw [m_slope_step hm hsz h hf i V E f hc]
      exact m_slope_loop hm hsz h hf i V E S f (j + 1) (by omega) (by omega)
    · have : j = sz := by omega
      subst this
      rw [LX7_slopeOf_2, gi_n hm (by omega), clamp_n (by omega), hf, if_pos ((nI_leI (by omega) (by omega)).mpr (Nat.le_refl _))]
theorem m_slopeOf {m sz rt : Nat} (hm : m < 9) (hsz : sz ≤ 60) (hrt : rt < 60) {K L R MK MO MT form root : Nat → Int32} (h : RowsRel sz (64 * m) K L R MK MO MT) (hf : form m = nI sz) (hr : root m = nI rt) (i : Int32) (V S : Nat → Int64) :
    fX7_slopeOf (nI m) i form root MK MO MT V S = some (slopesTo K L R i V sz S rt, slopesTo K L R i V sz S) := by
  unfold fX7_slopeOf
  have e := m_slope_loop (root := root) hm hsz h hf i V (fun Mslope => gi (nI m) 9 (gi (root (nI m).toNatClampNeg) 64 (some (Mslope (root (nI m).toNatClampNeg).toNatClampNeg, Mslope)))) S 1000 0 (by omega) (by omega)
  refine Eq.trans e ?_
  show gi (nI m) 9 _ = _
  rw [gi_n hm (by omega), clamp_n (by omega), hr, gi_n (show rt < 64 by omega) (by omega), clamp_n (by omega)]
theorem slopesTo_agree {K L R : Nat → Int32} {i : Int32} {V V2 S S2 : Nat → Int64} : ∀ {n : Nat}, n ≤ 60 → (∀ j, j < n → rowOK j (K j) (L j) (R j)) → (∀ j, j < n → V j = V2 j) → ∀ j, j < n → slopesTo K L R i V n S j = slopesTo K L R i V2 n S2 j
  | 0, _, _, _, j, hj => absurd hj (Nat.not_lt_zero _)
  | n + 1, hn, h, hV, j, hj => by
    have ih := slopesTo_agree (i := i) (S := S) (S2 := S2) (n := n) (by omega) (fun j q => h j (by omega)) (fun j q => hV j (by omega))
    show vp_updL _ n _ j = vp_updL _ n _ j
    rw [updL_at, updL_at]
    by_cases e : j = n
    · rw [if_pos e, if_pos e]
      rcases h n (by omega) with ⟨hk, hr⟩ | ⟨hk, hr, a, ha, hl⟩ | ⟨hk, hr, a, ha, hl⟩ | ⟨hk, a, b, ha, hb, hl, hr⟩ | ⟨hk, a, e, ha, he, hl, hr⟩
      · simp [slopeRow, hk]
      · simp [slopeRow, hk]
      · simp [slopeRow, hk, hl, clamp_n (show a < 2 ^ 31 by omega), ih a ha]
      · rcases hk with hk | hk | hk <;> simp [slopeRow, hk, hl, hr, clamp_n (show a < 2 ^ 31 by omega), clamp_n (show b < 2 ^ 31 by omega), ih a ha, ih b hb, hV a (by omega), hV b (by omega)]
      · simp [slopeRow, powSl, hk, hl, clamp_n (show a < 2 ^ 31 by omega), ih a ha, hV a (by omega)]
    · rw [if_neg e, if_neg e]
      exact ih j (by omega)
