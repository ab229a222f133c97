/-! ===== draws ===== -/
def nxt (k : Nat) : Nat := (75 * k + 74) % 65537
theorem nxt_le (k : Nat) : nxt k ≤ 65536 := by
  have := Nat.mod_lt (75 * k + 74) (show 0 < 65537 by decide)
  unfold nxt
  omega
theorem nxt_rem {k : Nat} (hk : k ≤ 65536) : jrem ((75 * nI k) + 74) 65537 = nI (nxt k) := by
  have e : (75 * nI k) + 74 = nI (75 * k + 74) := by rw [show (75 : Int32) = nI 75 from rfl, pk_mul, show (74 : Int32) = nI 74 from rfl, nI_add]
  rw [e]
  exact pk_rem (d := 65537) (by omega) (by decide) (by decide)
theorem rem_n {a b : Nat} (ha : a ≤ 65536) (hb : 0 < b) (hb2 : b < 2 ^ 31) : jrem (nI a) (nI b) = nI (a % b) := pk_rem (by omega) hb hb2
theorem c_modulo {b k : Nat} (hb : 0 < b) (hb2 : b < 2 ^ 31) (hk : k ≤ 65536) : fX1_modulo (nI b) (nI k) = some (nI (nxt k % b), nI (nxt k)) := by
  unfold fX1_modulo
  simp only [nxt_rem hk]
  rw [if_neg (nI_nle hb hb2), gz_ok (nI_ne0 hb hb2), rem_n (nxt_le k) hb hb2]
theorem m_chance {k : Nat} (hk : k ≤ 65536) : fX7_chance (nI k) = some (nI (nxt k), nI (nxt k)) := by
  unfold fX7_chance
  simp only [nxt_rem hk]
theorem drawOf_same {i : Nat} (hi : i < 6) {E V S W C mE mV mS mW mM mR : Nat → Int32} {RD : Nat → Nat → Int32} (hA : ARel E V S C mE mV mS mM) (hS : SRel S W C mW mR RD) {k : Nat} (hk : k ≤ 65536) :
    ∃ r k', k' ≤ 65536 ∧ fX4_drawOf (nI i) E S W C RD (nI k) = some (r, nI k') ∧ fX7_draws (nI i) mE mS mW mM mR (nI k) = some (r, nI k') := by
  obtain ⟨a1, a2, a3, a4⟩ := hA i hi
  have n1 := nxt_le k
  have hci := clamp_n (show i < 2 ^ 31 by omega)
  unfold fX4_drawOf fX7_draws
  simp only [gi_n hi (show 6 < 2 ^ 31 by omega), hci, a1, a3, a4]
  rcases hS i hi with ⟨h1, c, c1, c2, h2, h3⟩ | ⟨s, w, s3, w99, h1, h2, h3, h4⟩
  · simp only [h1, h2]
    rw [if_neg (show ¬ (4 : Int32) = 1 by decide), if_neg (show ¬ (4 : Int32) = 1 by decide), if_neg (show ¬ (4 : Int32) = 2 by decide), if_neg (show ¬ (4 : Int32) = 2 by decide), if_neg (show ¬ (4 : Int32) = 3 by decide), if_neg (show ¬ (4 : Int32) = 3 by decide), if_pos trivial, if_pos trivial]
    have lt := Nat.mod_lt (nxt k) (show 0 < c by omega)
    rw [c_modulo (by omega) (by omega) hk, m_chance hk, bnd2_s, bnd2_s, gz_ok (nI_ne0 (by omega) (by omega))]
    simp only [rem_n n1 (show 0 < c by omega) (show c < 2 ^ 31 by omega), ix8i, gi_n (show nxt k % c < 8 by omega) (show 8 < 2 ^ 31 by omega), gi_n (show 8 * i + nxt k % c < 48 by omega) (show 48 < 2 ^ 31 by omega), clamp_n (show nxt k % c < 2 ^ 31 by omega), clamp_n (show 8 * i + nxt k % c < 2 ^ 31 by omega)]
    exact ⟨_, _, n1, rfl, by rw [(h3 _ lt).1]⟩
  · simp only [h1, h3, h4]
    have w21 : (2 : Int32) * nI w + 1 = nI (2 * w + 1) := by rw [show (2 : Int32) = nI 2 from rfl, pk_mul, nI_1]
    have w1 : nI w + 1 = nI (w + 1) := nI_1 w
    have : s = 0 ∨ s = 1 ∨ s = 2 ∨ s = 3 := by omega
    rcases this with rfl | rfl | rfl | rfl
    · rw [if_neg (show ¬ nI 0 = 1 by decide), if_neg (show ¬ nI 0 = 1 by decide), if_neg (show ¬ nI 0 = 2 by decide), if_neg (show ¬ nI 0 = 2 by decide), if_neg (show ¬ nI 0 = 3 by decide), if_neg (show ¬ nI 0 = 3 by decide), if_neg (show ¬ nI 0 = 4 by decide), if_neg (show ¬ nI 0 = 4 by decide)]
      exact ⟨_, _, hk, rfl, rfl⟩
    · rw [if_pos (show nI 1 = 1 from rfl), if_pos (show nI 1 = 1 from rfl), w21, c_modulo (by omega) (by omega) hk, m_chance hk, bnd2_s, bnd2_s, gz_ok (nI_ne0 (by omega) (by omega)), rem_n n1 (by omega) (by omega)]
      exact ⟨_, _, n1, rfl, rfl⟩
    · rw [if_neg (show ¬ nI 2 = 1 by decide), if_neg (show ¬ nI 2 = 1 by decide), if_pos (show nI 2 = 2 from rfl), if_pos (show nI 2 = 2 from rfl), w1, c_modulo (by omega) (by omega) hk, m_chance hk, bnd2_s, bnd2_s, c_modulo (by omega) (by omega) n1, m_chance n1, bnd2_s, bnd2_s, gz_ok (nI_ne0 (by omega) (by omega)), gz_ok (nI_ne0 (by omega) (by omega)), rem_n n1 (by omega) (by omega), rem_n (nxt_le _) (by omega) (by omega)]
      exact ⟨_, _, nxt_le _, rfl, rfl⟩
    · rw [if_neg (show ¬ nI 3 = 1 by decide), if_neg (show ¬ nI 3 = 1 by decide), if_neg (show ¬ nI 3 = 2 by decide), if_neg (show ¬ nI 3 = 2 by decide), if_pos (show nI 3 = 3 from rfl), if_pos (show nI 3 = 3 from rfl)]
      have m := c_modulo (b := 2) (by omega) (by omega) hk
      have m : fX1_modulo 2 (nI k) = some (nI (nxt k % 2), nI (nxt k)) := m
      rw [m, m_chance hk, bnd2_s, bnd2_s]
      have r2 : jrem (nI (nxt k)) 2 = nI (nxt k % 2) := rem_n (b := 2) n1 (by omega) (by omega)
      rw [r2]
      rcases Nat.mod_two_eq_zero_or_one (nxt k) with z | z
      · rw [z, if_pos (show nI 0 = 0 from rfl)]
        refine ⟨_, _, n1, rfl, ?_⟩
        have : E i - nI w + 2 * nI w * nI 0 = E i + -nI w := by
          rw [nI_0]
          grind
        rw [this]
      · rw [z, if_neg (show ¬ nI 1 = 0 by decide)]
        refine ⟨_, _, n1, rfl, ?_⟩
        have : E i - nI w + 2 * nI w * nI 1 = E i + nI w := by
          rw [show nI 1 = 1 from rfl]
          grind
        rw [this]
theorem drawn_loop {E V S W C mE mV mS mW mM mR : Nat → Int32} {RD : Nat → Nat → Int32} (hA : ARel E V S C mE mV mS mM) (hS : SRel S W C mW mR RD) (va mC form root MK MO MT fr fa : Nat → Int32) (models rows v1 v2 : Int32) (E1 : (Nat → Int32) → Int32 → Option ((Nat → Int32) × Int32)) (E2 : Int64 → Int64 → Int32 → Int32 → (Nat → Int64) → (Nat → Int64) → (Nat → Int32) → (Nat → Int64) → Int32 → Int32 → Option (Int32 × (Nat → Int64) × (Nat → Int64) × (Nat → Int32) × (Nat → Int64) × Int32 × Int32)) (v3 v5 : Int64) (v7 v8 : Int32) (V1 V2 V3 : Nat → Int64) (T : Int32) :
    ∀ (f j k : Nat) (u w : Nat → Int32), j ≤ 6 → 6 - j < f → k ≤ 65536 → (∀ i, i < j → u i = w i) →
      ∃ (k' : Nat) (u' w' : Nat → Int32), k' ≤ 65536 ∧ (∀ i, i < 6 → u' i = w' i) ∧ LX4_drawInto_2 E S W C RD E1 f (nI j) u (nI k) = E1 u' (nI k') ∧
        LX7_draw_73 mE mS mW mM mR va mC form root MK MO MT fr fa models rows v1 v2 E2 f v3 v5 v7 v8 (nI j) V1 V2 w V3 T (nI k) = E2 v3 v5 v7 v8 V1 V2 w' V3 T (nI k')
  | 0, j, _, _, _, _, q, _, _ => absurd q (Nat.not_lt_zero _)
  | f + 1, j, k, u, w, hj, q, hk, hu => by
    rw [LX4_drawInto_2, LX7_draw_73]
    by_cases hc : 6 ≤ j
    · have : j = 6 := by omega
      subst this
      rw [if_pos (by decide), if_pos (by decide)]
      exact ⟨k, u, w, hk, hu, rfl, rfl⟩
    · have hq : ¬ (6 : Int32) ≤ nI j := fun q => hc ((nI_leI (a := 6) (by omega) (by omega)).mp q)
      obtain ⟨r, k', k1, e1, e2⟩ := drawOf_same (show j < 6 by omega) hA hS hk
      rw [if_neg hq, if_neg hq, e1, e2, bnd2_s, bnd2_s, gi_n (show j < 6 by omega) (by omega), gi_n (show j < 6 by omega) (by omega), clamp_n (by omega), nI_1]
      refine drawn_loop hA hS va mC form root MK MO MT fr fa models rows v1 v2 E1 E2 v3 v5 v7 v8 V1 V2 V3 T f (j + 1) k' _ _ (by omega) (by omega) k1 (fun i hi => ?_)
      rw [upd_at, upd_at]
      by_cases y : i = j
      · rw [if_pos y, if_pos y]
      · rw [if_neg y, if_neg y]
        exact hu i (by omega)
/-- the same rows over the same inputs are worth the same -/
theorem valsTo_u {K L R u w : Nat → Int32} {V V2 : Nat → Int64} (hu : ∀ i, i < 6 → u i = w i) : ∀ {n : Nat}, n ≤ 60 → (∀ j, j < n → rowOK j (K j) (L j) (R j)) → ∀ j, j < n → valsTo K L R u n V j = valsTo K L R w n V2 j
  | 0, _, _, j, hj => absurd hj (Nat.not_lt_zero _)
  | n + 1, hn, h, j, hj => by
    have ih := valsTo_u (V := V) (V2 := V2) hu (n := n) (by omega) (fun j q => h j (by omega))
    show vp_updL _ n _ j = vp_updL _ n _ j
    rw [updL_at, updL_at]
    by_cases e : j = n
    · rw [if_pos e, if_pos e]
      rcases h n (by omega) with ⟨hk, hr⟩ | ⟨hk, hr, a, ha, hl⟩ | ⟨hk, hr, a, ha, hl⟩ | ⟨hk, a, b, ha, hb, hl, hr⟩ | ⟨hk, a, e, ha, he, hl, hr⟩
      · simp [valRow, hk]
      · simp [valRow, hk, hl, clamp_n (show a < 2 ^ 31 by omega), hu a ha]
      · simp [valRow, hk, hl, clamp_n (show a < 2 ^ 31 by omega), ih a ha]
      · rcases hk with hk | hk | hk <;> simp [valRow, hk, hl, hr, clamp_n (show a < 2 ^ 31 by omega), clamp_n (show b < 2 ^ 31 by omega), ih a ha, ih b hb]
      · simp [valRow, hk, hl, clamp_n (show a < 2 ^ 31 by omega), ih a ha]
    · rw [if_neg e, if_neg e]
      exact ih j (by omega)
/-! ===== what is asked of an input ===== -/
theorem c_widthOrCount {i : Nat} (hi : i < 6) (S W C : Nat → Int32) : fX4_widthOrCount (nI i) S W C = some (if S i = 4 then C i else W i) := by
  unfold fX4_widthOrCount
  simp only [gi_n hi (show 6 < 2 ^ 31 by omega), clamp_n (show i < 2 ^ 31 by omega)]
  by_cases h : S i = 4
  · rw [if_pos h, if_pos h]
  · rw [if_neg h, if_neg h]
/-- the answer of input -/
def inpAns (E V S W C : Nat → Int32) (i : Nat) (v : Int32) : Int32 := if v = 3 then degOf C i else if v = 0 then E i else if v = 1 then V i else if v = 2 then S i else if S i = 4 then C i else W i
theorem m_input_in {a : Int32} (h : a < 0 ∨ 5 < a) (v : Int32) (mE mS mW mM mV : Nat → Int32) (T : Int32) : fX7_input a v mE mS mW mM mV T = some (0, 1) := by
  unfold fX7_input
  rw [isInput_eq, bnd1_s, if_pos h, if_pos rfl]
  unfold BX7_input_26
  rw [holds_eq]
  rfl
theorem m_input_bad {i : Nat} (hi : i < 6) {v : Int32} (h : v < 0 ∨ 4 < v) (mE mS mW mM mV : Nat → Int32) (T : Int32) : fX7_input (nI i) v mE mS mW mM mV T = some (0, 2) := by
  unfold fX7_input
  rw [isInput_eq, bnd1_s, if_neg (in_n hi), if_neg (show ¬ (1 : Int32) = 0 by decide), isIn_eq, bnd1_s, if_pos h, if_pos rfl]
  unfold BX7_input_26
  rw [holds_eq]
  rfl
theorem m_input_ok {i : Nat} (hi : i < 6) {v : Int32} (h : ¬ (v < 0 ∨ 4 < v)) {E V S W C mE mV mS mW mM mR : Nat → Int32} {RD : Nat → Nat → Int32} (hA : ARel E V S C mE mV mS mM) (hS : SRel S W C mW mR RD) (T : Int32) : fX7_input (nI i) v mE mS mW mM mV T = some (inpAns E V S W C i v, 0) := by
  obtain ⟨a1, a2, a3, a4⟩ := hA i hi
  have sc : sortCnt mS mM := fun j hj => by
    obtain ⟨b1, b2, b3, b4⟩ := hA j hj
    rw [b3, b4]
    exact SRel_cnt hS j hj
  have dg : degOf mM i = degOf C i := by
    unfold degOf
    rw [a4]
  unfold fX7_input
  rw [isInput_eq, bnd1_s, if_neg (in_n hi), if_neg (show ¬ (1 : Int32) = 0 by decide), isIn_eq, bnd1_s, if_neg h, if_neg (show ¬ (1 : Int32) = 0 by decide)]
  unfold BX7_input_26
  rw [holds_eq, bnd2_s, if_pos rfl, if_neg (show ¬ (1 : Int32) = 0 by decide)]
  simp only [gi_n hi (show 6 < 2 ^ 31 by omega), clamp_n (show i < 2 ^ 31 by omega), m_degreesOf hi sc, bnd1_s, a1, a2, a3, a4, dg]
  unfold inpAns
  by_cases h3 : v = 3
  · rw [if_pos h3, if_pos h3]
  · rw [if_neg h3, if_neg h3]
    by_cases h0 : v = 0
    · rw [if_pos h0, if_pos h0]
    · rw [if_neg h0, if_neg h0]
      by_cases h1 : v = 1
      · rw [if_pos h1, if_pos h1]
      · rw [if_neg h1, if_neg h1]
        by_cases h2 : v = 2
        · rw [if_pos h2, if_pos h2]
        · rw [if_neg h2, if_neg h2]
          rcases hS i hi with ⟨e1, -⟩ | ⟨s, w, s3, w99, e1, e2, e3, e4⟩
          · rw [if_pos e1, if_pos e1]
          · have ne : ¬ S i = 4 := by
              rw [e1]
              exact fun q => absurd ((nI_eq (b := 4) (by omega) (by omega)).mp q) (by omega)
            rw [if_neg ne, if_neg ne, e3, e4]
