theorem subL (x y : Int64) : x - y = x + -y := by grind
theorem negmulL (x y : Int64) : -x * y = x * -y := by grind
/-! ===== sensitivities, backward: the sum of what is handed down stays ===== -/
theorem fill6_loop (E : (Nat → Int64) → Option (Nat → Int64)) (w : Nat → Int64) : ∀ (f j : Nat), j ≤ 6 → 6 - j < f → LJ7_fill_d0a16_n6_6 0 E f (nI j) 6 (fun k => if k < j then 0 else w k) = E (fun k => if k < 6 then 0 else w k)
  | 0, j, _, q => absurd q (Nat.not_lt_zero _)
  | f + 1, j, hj, q => by
    rw [LJ7_fill_d0a16_n6_6]
    by_cases hc : 6 ≤ j
    · have : j = 6 := by omega
      subst this
      rw [if_pos (by decide)]
    · have hq : ¬ (6 : Int32) ≤ nI j := fun q => hc ((nI_leI (a := 6) (by omega) (by omega)).mp q)
      rw [if_neg hq, gi_n (show j < 6 by omega) (by omega), nI_1, clamp_n (by omega)]
      rw [show (vp_updL (fun k => if k < j then (0 : Int64) else w k) j 0) = (fun k => if k < j + 1 then (0 : Int64) else w k) from funext fun k => by
        rw [updL_at]
        by_cases h1 : k = j
        · rw [if_pos h1, if_pos (by omega)]
        · rw [if_neg h1]
          by_cases h2 : k < j
          · rw [if_pos h2, if_pos (by omega)]
          · rw [if_neg h2, if_neg (by omega)]]
      exact fill6_loop E w f (j + 1) (by omega) (by omega)
theorem fill6 (w : Nat → Int64) : fJ7_fill_d0a16_n6 0 w = some (fun k => if k < 6 then 0 else w k) := by
  unfold fJ7_fill_d0a16_n6
  have e := fill6_loop (fun wA => some wA) w 1000 0 (by omega) (by omega)
  simp only [Nat.not_lt_zero, if_false] at e
  exact e
theorem fill60_loop (E : (Nat → Int64) → Option (Nat → Int64)) (w : Nat → Int64) : ∀ (f j : Nat), j ≤ 60 → 60 - j < f → LJ7_fill_d0a16_n60_6 0 E f (nI j) 60 (fun k => if k < j then 0 else w k) = E (fun k => if k < 60 then 0 else w k)
  | 0, j, _, q => absurd q (Nat.not_lt_zero _)
  | f + 1, j, hj, q => by
    rw [LJ7_fill_d0a16_n60_6]
    by_cases hc : 60 ≤ j
    · have : j = 60 := by omega
      subst this
      rw [if_pos (by decide)]
    · have hq : ¬ (60 : Int32) ≤ nI j := fun q => hc ((nI_leI (a := 60) (by omega) (by omega)).mp q)
      rw [if_neg hq, gi_n (show j < 60 by omega) (by omega), nI_1, clamp_n (by omega)]
      rw [show (vp_updL (fun k => if k < j then (0 : Int64) else w k) j 0) = (fun k => if k < j + 1 then (0 : Int64) else w k) from funext fun k => by
        rw [updL_at]
        by_cases h1 : k = j
        · rw [if_pos h1, if_pos (by omega)]
        · rw [if_neg h1]
          by_cases h2 : k < j
          · rw [if_pos h2, if_pos (by omega)]
          · rw [if_neg h2, if_neg (by omega)]]
      exact fill60_loop E w f (j + 1) (by omega) (by omega)
theorem fill60 (w : Nat → Int64) : fJ7_fill_d0a16_n60 0 w = some (fun k => if k < 60 then 0 else w k) := by
  unfold fJ7_fill_d0a16_n60
  have e := fill60_loop (fun wA => some wA) w 1000 0 (by omega) (by omega)
  simp only [Nat.not_lt_zero, if_false] at e
  exact e
def sumTo (f : Nat → Int64) : Nat → Int64
  | 0 => 0
  | n + 1 => sumTo f n + f n
theorem sumTo_congr {f g : Nat → Int64} : ∀ {n : Nat}, (∀ j, j < n → f j = g j) → sumTo f n = sumTo g n
  | 0, _ => rfl
  | n + 1, h => by
    show sumTo f n + f n = sumTo g n + g n
    rw [sumTo_congr (fun j q => h j (by omega)), h n (by omega)]
theorem sumTo_upd {A S : Nat → Int64} {a : Nat} {x : Int64} : ∀ {n : Nat}, a < n → sumTo (fun j => vp_updL A a (A a + x) j * S j) n = sumTo (fun j => A j * S j) n + x * S a
  | 0, h => absurd h (Nat.not_lt_zero _)
  | n + 1, h => by
    show sumTo (fun j => vp_updL A a (A a + x) j * S j) n + vp_updL A a (A a + x) n * S n = sumTo (fun j => A j * S j) n + A n * S n + x * S a
    by_cases e : a = n
    · subst e
      rw [sumTo_congr (g := fun j => A j * S j) (fun j q => by show vp_updL A a (A a + x) j * S j = A j * S j; rw [updL_at, if_neg (by omega)]), updL_at, if_pos rfl]
      grind
    · rw [sumTo_upd (show a < n by omega), updL_at, if_neg (fun q => e q.symm)]
      grind
theorem sumTo_delta {S : Nat → Int64} {r : Nat} : ∀ {n : Nat}, r < n → sumTo (fun j => (if j = r then (1 : Int64) else 0) * S j) n = S r
  | 0, h => absurd h (Nat.not_lt_zero _)
  | n + 1, h => by
    show sumTo (fun j => (if j = r then (1 : Int64) else 0) * S j) n + (if n = r then (1 : Int64) else 0) * S n = S r
    by_cases e : n = r
    · subst e
      rw [sumTo_congr (g := fun _ => 0) (fun j q => by show (if j = n then (1 : Int64) else 0) * S j = 0; rw [if_neg (by omega)]; grind), if_pos rfl]
      have z : ∀ k, sumTo (fun _ => (0 : Int64)) k = 0 := by
        intro k
        induction k with
        | zero => rfl
        | succ k ih => show sumTo (fun _ => (0 : Int64)) k + 0 = 0; rw [ih]; rfl
      rw [z]
      grind
    · rw [sumTo_delta (show r < n by omega), if_neg e]
      grind
/-- rows laid once stay, and each is its row of the final ones -/
theorem slopesTo_low {K L R : Nat → Int32} {i : Int32} {V S : Nat → Int64} {j : Nat} : ∀ {n : Nat}, j < n → slopesTo K L R i V n S j = slopesTo K L R i V (j + 1) S j
  | 0, h => absurd h (Nat.not_lt_zero _)
  | n + 1, h => by
    by_cases e : j = n
    · subst e; rfl
    · rw [← slopesTo_low (n := n) (show j < n by omega)]
      show vp_updL _ n _ j = _
      rw [updL_at, if_neg e]
theorem slopesTo_fix {K L R : Nat → Int32} {i : Int32} {V S : Nat → Int64} {n sz : Nat} (hsz : sz ≤ 60) (h : rowOK n (K n) (L n) (R n)) (hn : n < sz) : slopesTo K L R i V sz S n = slopeRow (K n) (L n) (R n) i V (slopesTo K L R i V sz S) := by
  have lo : ∀ a, a < n → slopesTo K L R i V n S a = slopesTo K L R i V sz S a := fun a ha => by
    rw [slopesTo_low (n := n) ha, slopesTo_low (n := sz) (by omega)]
  rw [slopesTo_low (n := sz) hn]
  show vp_updL _ n _ n = _
  rw [updL_at, if_pos rfl]
  rcases h with ⟨hk, hr⟩ | ⟨hk, hr, a, ha, hl⟩ | ⟨hk, hr, a, ha, hl⟩ | ⟨hk, a, b, ha, hb, hl, hr⟩ | ⟨hk, a, e, ha, he, hl, hr⟩
  · simp [slopeRow, hk]
  · simp [slopeRow, hk]
  · simp [slopeRow, hk, hl, clamp_n (show a < 2 ^ 31 by omega), lo a ha]
  · rcases hk with hk | hk | hk <;> simp [slopeRow, hk, hl, hr, clamp_n (show a < 2 ^ 31 by omega), clamp_n (show b < 2 ^ 31 by omega), lo a ha, lo b hb]
  · simp [slopeRow, powSl, hk, hl, clamp_n (show a < 2 ^ 31 by omega), lo a ha]
/-- one part's slope handed down to what it is made of -/
theorem c_handDown {n : Nat} (hn : n < 60) {K L R : Nat → Int32} (h : rowOK n (K n) (L n) (R n)) (h0 : ¬ K n = 0) (h1 : ¬ K n = 1) (V A : Nat → Int64) :
    ∃ A2 : Nat → Int64, fX3_handDown (nI n) K L R V A = some A2 ∧ ∀ (i : Int32) (S : Nat → Int64), sumTo (fun j => A2 j * S j) n = sumTo (fun j => A j * S j) n + A n * slopeRow (K n) (L n) (R n) i V S := by
  unfold fX3_handDown
  simp only [gi_n hn (show 60 < 2 ^ 31 by omega), clamp_n (show n < 2 ^ 31 by omega)]
  rcases h with ⟨hk, hr⟩ | ⟨hk, hr, a, ha, hl⟩ | ⟨hk, hr, a, ha, hl⟩ | ⟨hk, a, b, ha, hb, hl, hr⟩ | ⟨hk, a, e, ha, he, hl, hr⟩
  · exact absurd hk h0
  · exact absurd hk h1
  · refine ⟨vp_updL A a (A a + (-(A n))), ?_, fun i S => ?_⟩
    · rw [hk, hl]
      simp [gi_n (show a < 60 by omega) (show 60 < 2 ^ 31 by omega), clamp_n (show a < 2 ^ 31 by omega)]
      rw [subL]
    · rw [sumTo_upd ha]
      simp [slopeRow, hk, hl, clamp_n (show a < 2 ^ 31 by omega)]
      exact negmulL _ _
  · rcases hk with hk | hk | hk
    · refine ⟨vp_updL (vp_updL A a (A a + A n)) b (vp_updL A a (A a + A n) b + A n), ?_, fun i S => ?_⟩
      · rw [hk, hl, hr]
        simp [gi_n (show a < 60 by omega) (show 60 < 2 ^ 31 by omega), gi_n (show b < 60 by omega) (show 60 < 2 ^ 31 by omega), clamp_n (show a < 2 ^ 31 by omega), clamp_n (show b < 2 ^ 31 by omega)]
      · rw [sumTo_upd hb, sumTo_upd ha]
        simp [slopeRow, hk, hl, hr, clamp_n (show a < 2 ^ 31 by omega), clamp_n (show b < 2 ^ 31 by omega)]
        grind
    · refine ⟨vp_updL (vp_updL A a (A a + A n)) b (vp_updL A a (A a + A n) b + (-(A n))), ?_, fun i S => ?_⟩
      · rw [hk, hl, hr]
        simp [gi_n (show a < 60 by omega) (show 60 < 2 ^ 31 by omega), gi_n (show b < 60 by omega) (show 60 < 2 ^ 31 by omega), clamp_n (show a < 2 ^ 31 by omega), clamp_n (show b < 2 ^ 31 by omega)]
        rw [subL]
      · rw [sumTo_upd hb, sumTo_upd ha]
        simp [slopeRow, hk, hl, hr, clamp_n (show a < 2 ^ 31 by omega), clamp_n (show b < 2 ^ 31 by omega)]
        grind
    · refine ⟨vp_updL (vp_updL A a (A a + A n * V b)) b (vp_updL A a (A a + A n * V b) b + A n * V a), ?_, fun i S => ?_⟩
      · rw [hk, hl, hr]
        simp [gi_n (show a < 60 by omega) (show 60 < 2 ^ 31 by omega), gi_n (show b < 60 by omega) (show 60 < 2 ^ 31 by omega), clamp_n (show a < 2 ^ 31 by omega), clamp_n (show b < 2 ^ 31 by omega)]
      · rw [sumTo_upd hb, sumTo_upd ha]
        simp [slopeRow, hk, hl, hr, clamp_n (show a < 2 ^ 31 by omega), clamp_n (show b < 2 ^ 31 by omega)]
        grind
  · have e1 := c_powerSlope hn (show a < 60 by omega) he hl hr V
    refine ⟨vp_updL A a (A a + A n * powSl (L n) (R n) V), ?_, fun i S => ?_⟩
    · rw [e1, hk, hl]
      simp [bnd1_s, gi_n (show a < 60 by omega) (show 60 < 2 ^ 31 by omega), clamp_n (show a < 2 ^ 31 by omega)]
    · rw [sumTo_upd ha]
      simp [slopeRow, hk, hl, clamp_n (show a < 2 ^ 31 by omega)]
      grind
/-- where the walk down stands with n parts left -/
def hd (n : Nat) : Int32 := nI n + (-1)
theorem c_back_loop {sz : Nat} (hsz : sz ≤ 60) {K L R : Nat → Int32} (h : ∀ n, n < sz → rowOK n (K n) (L n) (R n)) (rt : Int32) (u : Nat → Int32) (V : Nat → Int64) (E : (Nat → Int64) → (Nat → Int64) → (Nat → Int64) → Option ((Nat → Int64) × (Nat → Int64) × (Nat → Int64))) (G : Nat → Int64) (S : Nat → Nat → Int64) (hS : ∀ i, i < 6 → ∀ n, n < sz → S i n = slopeRow (K n) (L n) (R n) (nI i) V (S i)) :
    ∀ (f n : Nat) (A w : Nat → Int64), n ≤ sz → n < f → (∀ i, i < 6 → sumTo (fun j => A j * S i j) n + w i = G i) →
      ∃ A2 w2 : Nat → Int64, LX3_slopesBackward_36 K L R (nI sz) rt u E f (hd n) V A w = E V A2 w2 ∧ ∀ i, i < 6 → w2 i = G i
  | 0, n, A, w, _, q, _ => absurd q (Nat.not_lt_zero _)
  | f + 1, 0, A, w, _, _, hG => by
    refine ⟨A, w, ?_, fun i hi => ?_⟩
    · rw [LX3_slopesBackward_36, if_pos (by decide)]
    · have := hG i hi
      rw [← this]
      show w i = 0 + w i
      grind
  | f + 1, n + 1, A, w, hn, hf, hG => by
    have eh : hd (n + 1) = nI n := pk_m1 n
    have hneg : ¬ nI n < 0 := nI_pos (by omega)
    have en : nI n + (-1) = hd n := rfl
    rw [LX3_slopesBackward_36, eh, if_neg hneg, gi_n (show n < 60 by omega) (by omega), clamp_n (show n < 2 ^ 31 by omega), en]
    by_cases k1 : K n = 1
    · rw [if_pos k1]
      rcases h n (by omega) with ⟨hk, hr⟩ | ⟨hk, hr, a, ha, hl⟩ | ⟨hk, hr, a, ha, hl⟩ | ⟨hk, a, b, ha, hb, hl, hr⟩ | ⟨hk, a, e, ha, he, hl, hr⟩
      · rw [hk] at k1; exact absurd k1 (by decide)
      · rw [hl]
        simp only [gi_n (show n < 60 by omega) (show 60 < 2 ^ 31 by omega), gi_n ha (show 6 < 2 ^ 31 by omega), clamp_n (show a < 2 ^ 31 by omega)]
        refine c_back_loop hsz h rt u V E G S hS f n A _ (by omega) (by omega) (fun i hi => ?_)
        have g1 := hG i hi
        have g2 := hS i hi n (by omega)
        simp only [slopeRow, hk, hl] at g2
        rw [if_neg (by decide), if_pos trivial] at g2
        rw [← g1, updL_at]
        show _ = sumTo (fun j => A j * S i j) n + A n * S i n + w i
        by_cases e : i = a
        · subst e
          rw [if_pos rfl] at g2 ⊢
          rw [g2]
          grind
        · rw [if_neg (fun q => e ((nI_eq (by omega) (by omega)).mp q.symm))] at g2
          rw [if_neg e, g2]
          grind
      · rw [hk] at k1; exact absurd k1 (by decide)
      · rcases hk with hk | hk | hk <;> (rw [hk] at k1; exact absurd k1 (by decide))
      · rw [hk] at k1; exact absurd k1 (by decide)
    · rw [if_neg k1, gi_n (show n < 60 by omega) (by omega)]
      by_cases k0 : K n = 0
      · rw [if_pos k0]
        refine c_back_loop hsz h rt u V E G S hS f n A w (by omega) (by omega) (fun i hi => ?_)
        have g1 := hG i hi
        have g2 := hS i hi n (by omega)
        simp only [slopeRow, k0, if_true] at g2
        rw [← g1]
        show _ = sumTo (fun j => A j * S i j) n + A n * S i n + w i
        rw [g2]
        grind
      · rw [if_neg k0]
        obtain ⟨A2, e2, e3⟩ := c_handDown (show n < 60 by omega) (h n (by omega)) k0 k1 V A
        rw [e2, bnd1_s]
        refine c_back_loop hsz h rt u V E G S hS f n A2 w (by omega) (by omega) (fun i hi => ?_)
        have g1 := hG i hi
        rw [e3 (nI i) (S i), ← hS i hi n (by omega)]
        exact g1
theorem c_slopesBackward {sz rt : Nat} (hsz : sz ≤ 60) {K L R : Nat → Int32} (h : ∀ n, n < sz → rowOK n (K n) (L n) (R n)) (hr : rt < sz) (u : Nat → Int32) (V S0 w : Nat → Int64) :
    ∃ A2 w2 : Nat → Int64, fX3_slopesBackward K L R V S0 (nI sz) (nI rt) u w = some (valsTo K L R u sz V, A2, w2) ∧ ∀ (S : Nat → Int64) (i : Nat), i < 6 → w2 i = slopesTo K L R (nI i) (valsTo K L R u sz V) sz S rt := by
  unfold fX3_slopesBackward
  rw [c_reckonBy hsz h (by omega), bnd2_s, fill6, bnd1_s, fill60, bnd1_s, gi_n (show rt < 60 by omega) (by omega), clamp_n (by omega)]
  have hst : nI sz - 1 = hd sz := by
    show nI sz - 1 = nI sz + (-1)
    grind
  rw [hst]
  obtain ⟨A2, w2, e, hw⟩ := c_back_loop hsz h (nI rt) u (valsTo K L R u sz V) (fun Fvalues Fslopes wA => some (Fvalues, Fslopes, wA)) (fun i => slopesTo K L R (nI i) (valsTo K L R u sz V) sz S0 rt) (fun i => slopesTo K L R (nI i) (valsTo K L R u sz V) sz S0) (fun i _ n hn => slopesTo_fix hsz (h n hn) hn) 1000 sz (vp_updL (fun k => if k < 60 then 0 else S0 k) rt 1) (fun k => if k < 6 then 0 else w k) (Nat.le_refl _) (by omega) (fun i hi => by
    show _ + (if i < 6 then (0 : Int64) else w i) = _
    rw [if_pos hi, sumTo_congr (g := fun j => (if j = rt then (1 : Int64) else 0) * slopesTo K L R (nI i) (valsTo K L R u sz V) sz S0 j) (fun j hj => by
      show vp_updL _ rt 1 j * _ = _
      rw [updL_at]
      by_cases e : j = rt
      · rw [if_pos e, if_pos e]
      · rw [if_neg e, if_neg e, if_pos (by omega)]), sumTo_delta hr]
    grind)
  refine ⟨A2, w2, e, fun S i hi => ?_⟩
  rw [hw i hi]
  exact slopesTo_agree hsz h (fun _ _ => rfl) rt hr
