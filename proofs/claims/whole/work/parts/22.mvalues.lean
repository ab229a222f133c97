/-! ===== the same rows in the reference ===== -/
def RowsRel (sz base : Nat) (K L R MK MO MT : Nat → Int32) : Prop := ∀ n, n < sz → rowOK n (K n) (L n) (R n) ∧ MK (base + n) = km (K n) ∧ MO (base + n) = L n ∧ MT (base + n) = R n
theorem ix64 (m j : Nat) : (64 : Int32) * nI m + nI j = nI (64 * m + j) := by
  rw [show (64 : Int32) = nI 64 from rfl, pk_mul, nI_add]
theorem m_values_step {m sz : Nat} (hm : m < 9) (hsz : sz ≤ 60) {K L R MK MO MT est form root drawn u : Nat → Int32} (h : RowsRel sz (64 * m) K L R MK MO MT) (hf : form m = nI sz) {v2 : Int32} (hu : u = if v2 = 0 then est else drawn) (E : (Nat → Int64) → Option (Int64 × (Nat → Int64))) (f : Nat) {j : Nat} (hj : j < sz) (V : Nat → Int64) :
    LX7_values_2 est form root MK MO MT drawn (nI m) v2 E (f + 1) (nI j) V = LX7_values_2 est form root MK MO MT drawn (nI m) v2 E f (nI (j + 1)) (vp_updL V j (valRow (K j) (L j) (R j) u V)) := by
  obtain ⟨hok, e1, e2, e3⟩ := h j hj
  have hc := clamp_n (show 64 * m + j < 2 ^ 31 by omega)
  have hi := fun (x : Option (Int64 × (Nat → Int64))) => gi_n (x := x) (show 64 * m + j < 576 by omega) (show 576 < 2 ^ 31 by omega)
  have hj64 := fun (x : Option (Int64 × (Nat → Int64))) => gi_n (x := x) (show j < 64 by omega) (show 64 < 2 ^ 31 by omega)
  have hcj := clamp_n (show j < 2 ^ 31 by omega)
  rw [LX7_values_2]
  simp only [ix64, gi_n hm (show 9 < 2 ^ 31 by omega), clamp_n (show m < 2 ^ 31 by omega), hf, hi, hc, e1, e2, e3, if_neg (nI_ge hj (show sz < 2 ^ 31 by omega))]
  rcases hok with ⟨hk, hr⟩ | ⟨hk, hr, a, ha, hl⟩ | ⟨hk, hr, a, ha, hl⟩ | ⟨hk, a, b, ha, hb, hl, hr⟩ | ⟨hk, a, e, ha, he, hl, hr⟩
  · simp [hk, km, BX7_values_40, BX7_values_94, hi, hj64, hc, hcj, e2, valRow, nI_1]
  · by_cases hv : v2 = 0
    · subst hv
      simp [hk, hl, km, BX7_values_40, BX7_values_94, hi, hj64, hc, hcj, e2, valRow, nI_1, gi_n ha (show 6 < 2 ^ 31 by omega), hu]
    · simp [hk, hl, km, BX7_values_40, BX7_values_94, hi, hj64, hc, hcj, e2, valRow, nI_1, gi_n ha (show 6 < 2 ^ 31 by omega), hu, hv]
  · simp [hk, hl, km, BX7_values_125, BX7_values_141, hi, hj64, hc, hcj, e2, valRow, nI_1, gi_n (show a < 64 by omega) (show 64 < 2 ^ 31 by omega), clamp_n (show a < 2 ^ 31 by omega)]
  · rcases hk with hk | hk | hk <;> simp [hk, hl, hr, km, BX7_values_141, hi, hj64, hc, hcj, e2, e3, valRow, nI_1, gi_n (show a < 64 by omega) (show 64 < 2 ^ 31 by omega), gi_n (show b < 64 by omega) (show 64 < 2 ^ 31 by omega), clamp_n (show a < 2 ^ 31 by omega), clamp_n (show b < 2 ^ 31 by omega)]
  · simp [hk, hl, hr, km, BX7_values_125, BX7_values_141, hi, hj64, hc, hcj, e2, e3, valRow, nI_1, gi_n (show a < 64 by omega) (show 64 < 2 ^ 31 by omega), clamp_n (show a < 2 ^ 31 by omega), m_power _ (show e < 900 by omega), bnd1_s, clamp_n (show e < 2 ^ 31 by omega)]
theorem m_values_loop {m sz : Nat} (hm : m < 9) (hsz : sz ≤ 60) {K L R MK MO MT est form root drawn u : Nat → Int32} (h : RowsRel sz (64 * m) K L R MK MO MT) (hf : form m = nI sz) {v2 : Int32} (hu : u = if v2 = 0 then est else drawn) (E : (Nat → Int64) → Option (Int64 × (Nat → Int64))) (V : Nat → Int64) :
    ∀ (f j : Nat), j ≤ sz → sz - j < f → LX7_values_2 est form root MK MO MT drawn (nI m) v2 E f (nI j) (valsTo K L R u j V) = E (valsTo K L R u sz V)
  | 0, j, _, q => absurd q (Nat.not_lt_zero _)
  | f + 1, j, hj, q => by
    by_cases hc : j < sz
    · rw [m_values_step hm hsz h hf hu E f hc]
      exact m_values_loop hm hsz h hf hu E V f (j + 1) (by omega) (by omega)
    · have : j = sz := by omega
      subst this
      rw [LX7_values_2, gi_n hm (by omega), clamp_n (by omega), hf, if_pos ((nI_leI (by omega) (by omega)).mpr (Nat.le_refl _))]
theorem m_values {m sz rt : Nat} (hm : m < 9) (hsz : sz ≤ 60) (hrt : rt < 60) {K L R MK MO MT est form root drawn u : Nat → Int32} (h : RowsRel sz (64 * m) K L R MK MO MT) (hf : form m = nI sz) (hr : root m = nI rt) {v2 : Int32} (hu : u = if v2 = 0 then est else drawn) (V : Nat → Int64) :
    fX7_values (nI m) v2 est form root MK MO MT V drawn = some (valsTo K L R u sz V rt, valsTo K L R u sz V) := by
  unfold fX7_values
  rw [show (0 : Int32) = nI 0 from rfl, show V = valsTo K L R u 0 V from rfl, m_values_loop hm hsz h hf (by simpa using hu) _ V 1000 0 (by omega) (by omega), gi_n hm (by omega), clamp_n (by omega), hr, gi_n (show rt < 64 by omega) (by omega), clamp_n (by omega)]
  rfl
/-- two walks over the same rows agree, whatever was there before -/
theorem valsTo_agree {K L R u : Nat → Int32} {V V2 : Nat → Int64} : ∀ {n : Nat}, n ≤ 60 → (∀ j, j < n → rowOK j (K j) (L j) (R j)) → ∀ j, j < n → valsTo K L R u n V j = valsTo K L R u n V2 j
  | 0, _, _, j, hj => absurd hj (Nat.not_lt_zero _)
  | n + 1, hn, h, j, hj => by
    have ih := valsTo_agree (u := u) (V := V) (V2 := V2) (n := n) (by omega) (fun j q => h j (by omega))
    show vp_updL _ n _ j = vp_updL _ n _ j
    rw [updL_at, updL_at]
    by_cases e : j = n
    · rw [if_pos e, if_pos e]
      rcases h n (by omega) with ⟨hk, hr⟩ | ⟨hk, hr, a, ha, hl⟩ | ⟨hk, hr, a, ha, hl⟩ | ⟨hk, a, b, ha, hb, hl, hr⟩ | ⟨hk, a, e, ha, he, hl, hr⟩
      · simp [valRow, hk]
      · simp [valRow, hk]
      · simp [valRow, hk, hl, clamp_n (show a < 2 ^ 31 by omega), ih a ha]
      · rcases hk with hk | hk | hk <;> simp [valRow, hk, hl, hr, clamp_n (show a < 2 ^ 31 by omega), clamp_n (show b < 2 ^ 31 by omega), ih a ha, ih b hb]
      · simp [valRow, hk, hl, clamp_n (show a < 2 ^ 31 by omega), ih a ha]
    · rw [if_neg e, if_neg e]
      exact ih j (by omega)
