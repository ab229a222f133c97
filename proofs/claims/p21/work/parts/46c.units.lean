/-! ===== units ===== -/
def expRow (k l r : Int32) (u X : Nat → Int32) : Int32 :=
  if k = 0 then 0 else if k = 1 then u l.toNatClampNeg else if k = 5 then X l.toNatClampNeg + X r.toNatClampNeg else if k = 6 then X l.toNatClampNeg * r else X l.toNatClampNeg
def expTo (K L R u : Nat → Int32) : Nat → (Nat → Int32) → Nat → Int32
  | 0, X => X
  | n + 1, X => upd (expTo K L R u n X) n (expRow (K n) (L n) (R n) u (expTo K L R u n X))
theorem c_exponentOfPart {n : Nat} (hn : n < 60) {K L R : Nat → Int32} (h : rowOK n (K n) (L n) (R n)) (X u : Nat → Int32) :
    fX3_exponentOfPart (nI n) K L R X u = some (expRow (K n) (L n) (R n) u X) := by
  unfold fX3_exponentOfPart
  simp only [gi_n hn (show 60 < 2 ^ 31 by omega), clamp_n (show n < 2 ^ 31 by omega), BX3_exponentOfPart_95]
  rcases h with ⟨hk, hr⟩ | ⟨hk, hr, j, hj, hl⟩ | ⟨hk, hr, a, ha, hl⟩ | ⟨hk, a, b, ha, hb, hl, hr⟩ | ⟨hk, a, e, ha, he, hl, hr⟩
  · simp [expRow, hk]
  · simp [expRow, hk, hl, gi_n hj (show 6 < 2 ^ 31 by omega)]
  · simp [expRow, hk, hl, gi_n (show a < 60 by omega) (show 60 < 2 ^ 31 by omega)]
  · rcases hk with hk | hk | hk <;> simp [expRow, hk, hl, hr, gi_n (show a < 60 by omega) (show 60 < 2 ^ 31 by omega), gi_n (show b < 60 by omega) (show 60 < 2 ^ 31 by omega)]
  · simp [expRow, hk, hl, gi_n (show a < 60 by omega) (show 60 < 2 ^ 31 by omega)]
theorem c_exp_loop {sz : Nat} (hsz : sz ≤ 60) {K L R : Nat → Int32} (h : ∀ n, n < sz → rowOK n (K n) (L n) (R n)) (rt : Int32) (u X : Nat → Int32) (E : (Nat → Int32) → Option (Int32 × (Nat → Int32))) :
    ∀ (f j : Nat), j ≤ sz → sz - j < f → LX3_exponentBy_2 K L R (nI sz) rt u E f (nI j) (expTo K L R u j X) = E (expTo K L R u sz X)
  | 0, j, _, q => absurd q (Nat.not_lt_zero _)
  | f + 1, j, hj, q => by
    rw [LX3_exponentBy_2]
    by_cases hc : sz ≤ j
    · have : j = sz := by omega
      subst this
      rw [if_pos ((nI_leI (by omega) (by omega)).mpr hc)]
    · rw [if_neg (fun q => hc ((nI_leI (by omega) (by omega)).mp q)), c_exponentOfPart (by omega) (h j (by omega)), bnd1_s, gi_n (show j < 60 by omega) (by omega), nI_1, clamp_n (by omega)]
      exact c_exp_loop hsz h rt u X E f (j + 1) (by omega) (by omega)
theorem c_exponentBy {sz rt : Nat} (hsz : sz ≤ 60) {K L R : Nat → Int32} (h : ∀ n, n < sz → rowOK n (K n) (L n) (R n)) (hr : rt < 60) (u X : Nat → Int32) :
    fX3_exponentBy K L R X (nI sz) (nI rt) u = some (expTo K L R u sz X rt, expTo K L R u sz X) := by
  unfold fX3_exponentBy
  have e := c_exp_loop hsz h (nI rt) u X (fun Fexponents => gi (nI rt) 60 (some (Fexponents (nI rt).toNatClampNeg, Fexponents))) 1000 0 (by omega) (by omega)
  refine Eq.trans e ?_
  show gi (nI rt) 60 _ = _
  rw [gi_n hr (by omega), clamp_n (by omega)]
theorem expTo_agree {K L R u : Nat → Int32} {X X2 : Nat → Int32} : ∀ {n : Nat}, n ≤ 60 → (∀ j, j < n → rowOK j (K j) (L j) (R j)) → ∀ j, j < n → expTo K L R u n X j = expTo K L R u n X2 j
  | 0, _, _, j, hj => absurd hj (Nat.not_lt_zero _)
  | n + 1, hn, h, j, hj => by
    have ih := expTo_agree (u := u) (X := X) (X2 := X2) (n := n) (by omega) (fun j q => h j (by omega))
    show upd _ n _ j = upd _ n _ j
    rw [upd_at, upd_at]
    by_cases e : j = n
    · rw [if_pos e, if_pos e]
      rcases h n (by omega) with ⟨hk, hr⟩ | ⟨hk, hr, a, ha, hl⟩ | ⟨hk, hr, a, ha, hl⟩ | ⟨hk, a, b, ha, hb, hl, hr⟩ | ⟨hk, a, e, ha, he, hl, hr⟩
      · simp [expRow, hk]
      · simp [expRow, hk]
      · simp [expRow, hk, hl, clamp_n (show a < 2 ^ 31 by omega), ih a ha]
      · rcases hk with hk | hk | hk <;> simp [expRow, hk, hl, hr, clamp_n (show a < 2 ^ 31 by omega), clamp_n (show b < 2 ^ 31 by omega), ih a ha, ih b hb]
      · simp [expRow, hk, hl, clamp_n (show a < 2 ^ 31 by omega), ih a ha]
    · rw [if_neg e, if_neg e]
      exact ih j (by omega)
/-! ===== the first sign whose sides differ ===== -/
/-- r is the least of P's places, or -1 without one -/
def isMin (P : Nat → Prop) (r : Int32) : Prop := (r = -1 ∧ ∀ p, ¬ P p) ∨ ∃ p, p < 60 ∧ r = nI p ∧ P p ∧ ∀ q, P q → p ≤ q
theorem nI_neM1 {p : Nat} (h : p < 60) : ¬ nI p = -1 := fun q => by
  have := congrArg Int32.toInt q
  rw [nI_toInt (by omega)] at this
  have z : (-1 : Int32).toInt = -1 := by decide
  omega
theorem isMin_congr {P Q : Nat → Prop} {r : Int32} (h : isMin P r) (e : ∀ p, P p ↔ Q p) : isMin Q r := by
  rcases h with ⟨h1, h2⟩ | ⟨p, h1, h2, h3, h4⟩
  · exact Or.inl ⟨h1, fun p q => h2 p ((e p).mpr q)⟩
  · exact Or.inr ⟨p, h1, h2, (e p).mp h3, fun q hq => h4 q ((e q).mpr hq)⟩
theorem isMin_step {P : Nat → Prop} {acc : Int32} {p : Nat} (h : isMin P acc) (hp : p < 60) : isMin (fun q => P q ∨ q = p) (if acc = -1 then nI p else if acc ≤ nI p then acc else nI p) := by
  rcases h with ⟨h1, h2⟩ | ⟨a, h1, h2, h3, h4⟩
  · rw [if_pos h1]
    exact Or.inr ⟨p, hp, rfl, Or.inr rfl, fun q hq => by
      rcases hq with hq | hq
      · exact absurd hq (h2 q)
      · omega⟩
  · subst h2
    rw [if_neg (nI_neM1 h1)]
    by_cases hc : a ≤ p
    · rw [if_pos ((nI_leI (by omega) (by omega)).mpr hc)]
      exact Or.inr ⟨a, h1, rfl, Or.inl h3, fun q hq => by
        rcases hq with hq | hq
        · exact h4 q hq
        · omega⟩
    · rw [if_neg (fun q => hc ((nI_leI (by omega) (by omega)).mp q))]
      exact Or.inr ⟨p, hp, rfl, Or.inr rfl, fun q hq => by
        rcases hq with hq | hq
        · have := h4 q hq
          omega
        · omega⟩
theorem isMin_both {P Q : Nat → Prop} {r s : Int32} (h1 : isMin P r) (h2 : isMin Q s) :
    isMin (fun p => P p ∨ Q p) (if r = -1 then (if r < s then s else r) else if s = -1 then (if r < s then s else r) else if s < r then s else r) := by
  have z : (-1 : Int32).toInt = -1 := by decide
  rcases h1 with ⟨a1, a2⟩ | ⟨p, a1, a2, a3, a4⟩
  · subst a1
    rw [if_pos rfl]
    rcases h2 with ⟨b1, b2⟩ | ⟨q, b1, b2, b3, b4⟩
    · subst b1
      rw [if_neg (by decide)]
      exact Or.inl ⟨rfl, fun p hp => hp.elim (a2 p) (b2 p)⟩
    · subst b2
      rw [if_pos (by rw [lt_i, nI_toInt (by omega)]; omega)]
      exact Or.inr ⟨q, b1, rfl, Or.inr b3, fun t ht => ht.elim (fun x => absurd x (a2 t)) (b4 t)⟩
  · subst a2
    rw [if_neg (nI_neM1 a1)]
    rcases h2 with ⟨b1, b2⟩ | ⟨q, b1, b2, b3, b4⟩
    · subst b1
      rw [if_pos rfl, if_neg (by rw [lt_i, nI_toInt (by omega)]; omega)]
      exact Or.inr ⟨p, a1, rfl, Or.inl a3, fun t ht => ht.elim (a4 t) (fun x => absurd x (b2 t))⟩
    · subst b2
      rw [if_neg (nI_neM1 b1)]
      by_cases hc : q < p
      · rw [if_pos ((nI_ltI (by omega) (by omega)).mpr hc)]
        exact Or.inr ⟨q, b1, rfl, Or.inr b3, fun t ht => ht.elim (fun x => by have := a4 t x; omega) (b4 t)⟩
      · rw [if_neg (fun x => hc ((nI_ltI (by omega) (by omega)).mp x))]
        exact Or.inr ⟨p, a1, rfl, Or.inl a3, fun t ht => ht.elim (a4 t) (fun x => by have := b4 t x; omega)⟩
theorem isMin_eq {P Q : Nat → Prop} {r s : Int32} (h1 : isMin P r) (h2 : isMin Q s) (hPQ : ∀ p, P p → Q p) (hQP : ∀ p, Q p → ∃ q, q ≤ p ∧ P q) : r = s := by
  rcases h1 with ⟨a1, a2⟩ | ⟨p, a1, a2, a3, a4⟩ <;> rcases h2 with ⟨b1, b2⟩ | ⟨q, b1, b2, b3, b4⟩
  · rw [a1, b1]
  · obtain ⟨x, -, hx⟩ := hQP q b3
    exact absurd hx (a2 x)
  · exact absurd (hPQ p a3) (b2 p)
  · obtain ⟨x, hx1, hx⟩ := hQP q b3
    have h3 := a4 x hx
    have h4 := b4 p (hPQ p a3)
    rw [a2, b2, show p = q by omega]
/-- a part is a + or - whose sides have not one exponent -/
def unev (K L R X : Nat → Int32) (n : Nat) : Prop := (K n = 3 ∨ K n = 4) ∧ ¬ X (L n).toNatClampNeg = X (R n).toNatClampNeg
theorem c_uneven_loop {sz : Nat} (hsz : sz ≤ 60) {K L R PL X : Nat → Int32} (h : ∀ n, n < sz → rowOK n (K n) (L n) (R n)) (hp : ∀ n, n < sz → ∃ p, p < 60 ∧ PL n = nI p) (E : Int32 → Option Int32) :
    ∀ (f j : Nat) (acc : Int32), j ≤ sz → sz - j < f → isMin (fun p => p < 60 ∧ ∃ n, n < j ∧ unev K L R X n ∧ PL n = nI p) acc →
      ∃ r, LX3_findUnevenSides_4 K L R PL X (nI sz) E f acc (nI j) = E r ∧ isMin (fun p => p < 60 ∧ ∃ n, n < sz ∧ unev K L R X n ∧ PL n = nI p) r
  | 0, j, _, _, q, _ => absurd q (Nat.not_lt_zero _)
  | f + 1, j, acc, hj, q, hm => by
    by_cases hc : j < sz
    · have hj60 := fun (x : Option Int32) => gi_n (x := x) (show j < 60 by omega) (show 60 < 2 ^ 31 by omega)
      have hcj := clamp_n (show j < 2 ^ 31 by omega)
      obtain ⟨p, hp1, hp2⟩ := hp j hc
      have skip : ¬ unev K L R X j → isMin (fun p => p < 60 ∧ ∃ n, n < j + 1 ∧ unev K L R X n ∧ PL n = nI p) acc := fun hu => isMin_congr hm (fun p => ⟨fun ⟨h0, n, h1, h2, h3⟩ => ⟨h0, n, by omega, h2, h3⟩, fun ⟨h0, n, h1, h2, h3⟩ => ⟨h0, n, by
        rcases Nat.lt_or_ge n j with h | h
        · exact h
        · have : n = j := by omega
          subst this
          exact absurd h2 hu, h2, h3⟩⟩)
      have take : unev K L R X j → isMin (fun p => p < 60 ∧ ∃ n, n < j + 1 ∧ unev K L R X n ∧ PL n = nI p) (if acc = -1 then PL j else if acc ≤ PL j then acc else PL j) := fun hu => by
        rw [hp2]
        refine isMin_congr (isMin_step hm hp1) (fun t => ⟨fun h => ?_, fun h => ?_⟩)
        · rcases h with ⟨h0, n, h1, h2, h3⟩ | h
          · exact ⟨h0, n, by omega, h2, h3⟩
          · exact ⟨by omega, j, by omega, hu, by rw [hp2, h]⟩
        · obtain ⟨h0, n, h1, h2, h3⟩ := h
          rcases Nat.lt_or_ge n j with h | h
          · exact Or.inl ⟨h0, n, h, h2, h3⟩
          · have : n = j := by omega
            subst this
            rw [hp2] at h3
            exact Or.inr ((nI_eq (by omega) (by omega)).mp h3).symm
      have ih := fun acc hm => c_uneven_loop (X := X) hsz h hp E f (j + 1) acc (by omega) (by omega) hm
      rw [LX3_findUnevenSides_4, if_neg (nI_ge hc (by omega)), hj60, hcj]
      have body : (K j = 3 ∨ K j = 4) → ∃ r, BX3_findUnevenSides_32 K L R PL X (nI sz) (LX3_findUnevenSides_4 K L R PL X (nI sz) E f) E acc (nI j) = E r ∧ isMin (fun p => p < 60 ∧ ∃ n, n < sz ∧ unev K L R X n ∧ PL n = nI p) r := fun hk => by
        obtain ⟨a, b, ha, hb, hl, hr⟩ : ∃ a b, a < j ∧ b < j ∧ L j = nI a ∧ R j = nI b := by
          rcases h j hc with ⟨hk2, hr⟩ | ⟨hk2, hr, a, ha, hl⟩ | ⟨hk2, hr, a, ha, hl⟩ | ⟨hk2, a, b, ha, hb, hl, hr⟩ | ⟨hk2, a, e, ha, he, hl, hr⟩
          · rw [hk2] at hk; exact absurd hk (by decide)
          · rw [hk2] at hk; exact absurd hk (by decide)
          · rw [hk2] at hk; exact absurd hk (by decide)
          · exact ⟨a, b, ha, hb, hl, hr⟩
          · rw [hk2] at hk; exact absurd hk (by decide)
        unfold BX3_findUnevenSides_32 BX3_findUnevenSides_61 BX3_findUnevenSides_62 BX3_findUnevenSides_82
        simp only [hj60, hcj]
        rw [hl, hr, gi_n (show a < 60 by omega) (by omega), gi_n (show b < 60 by omega) (by omega)]
        by_cases hx : X (nI a).toNatClampNeg = X (nI b).toNatClampNeg
        · rw [if_pos hx, if_pos trivial, nI_1]
          exact ih acc (skip (fun hu => hu.2 (by rw [hl, hr]; exact hx)))
        · have hu : unev K L R X j := ⟨hk, by rw [hl, hr]; exact hx⟩
          rw [if_neg hx, if_neg (by decide), nI_1]
          have t := take hu
          by_cases c1 : acc = -1
          · rw [if_pos c1] at t ⊢
            exact ih _ t
          · rw [if_neg c1] at t ⊢
            by_cases c2 : acc ≤ PL j
            · rw [if_pos c2] at t ⊢
              exact ih _ t
            · rw [if_neg c2] at t ⊢
              exact ih _ t
      by_cases k3 : K j = 3
      · rw [if_pos k3]
        exact body (Or.inl k3)
      · rw [if_neg k3, hj60]
        by_cases k4 : K j = 4
        · rw [if_pos k4]
          exact body (Or.inr k4)
        · rw [if_neg k4]
          unfold BX3_findUnevenSides_61 BX3_findUnevenSides_62
          rw [if_pos rfl, nI_1]
          exact ih acc (skip (fun hu => hu.1.elim k3 k4))
    · have : j = sz := by omega
      subst this
      exact ⟨acc, by rw [LX3_findUnevenSides_4, if_pos ((nI_leI (by omega) (by omega)).mpr (Nat.le_refl _))], hm⟩
theorem c_findDisagreement {sz rt : Nat} (hsz : sz ≤ 60) {K L R PL : Nat → Int32} (h : ∀ n, n < sz → rowOK n (K n) (L n) (R n)) (hp : ∀ n, n < sz → ∃ p, p < 60 ∧ PL n = nI p) (hr : rt < 60) (X u1 u2 : Nat → Int32) :
    ∃ (r : Int32) (X2 : Nat → Int32), fX3_findDisagreement K L R PL X (nI sz) (nI rt) u1 u2 = some (r, X2) ∧ isMin (fun p => p < 60 ∧ ((∃ n, n < sz ∧ unev K L R (expTo K L R u1 sz X) n ∧ PL n = nI p) ∨ ∃ n, n < sz ∧ unev K L R (expTo K L R u2 sz (expTo K L R u1 sz X)) n ∧ PL n = nI p)) r := by
  unfold fX3_findDisagreement
  rw [c_exponentBy hsz h hr, bnd2_s]
  obtain ⟨r1, e1, m1⟩ := c_uneven_loop (X := expTo K L R u1 sz X) hsz h hp (fun v1 => some v1) 1000 0 (-1) (by omega) (by omega) (Or.inl ⟨rfl, fun p hp => by obtain ⟨-, n, h1, -⟩ := hp; omega⟩)
  obtain ⟨r2, e2, m2⟩ := c_uneven_loop (X := expTo K L R u2 sz (expTo K L R u1 sz X)) hsz h hp (fun v1 => some v1) 1000 0 (-1) (by omega) (by omega) (Or.inl ⟨rfl, fun p hp => by obtain ⟨-, n, h1, -⟩ := hp; omega⟩)
  have e1 : fX3_findUnevenSides K L R PL (expTo K L R u1 sz X) (nI sz) = some r1 := e1
  have e2 : fX3_findUnevenSides K L R PL (expTo K L R u2 sz (expTo K L R u1 sz X)) (nI sz) = some r2 := e2
  rw [e1, bnd1_s, c_exponentBy hsz h hr, bnd2_s, e2, bnd1_s]
  refine ⟨_, expTo K L R u2 sz (expTo K L R u1 sz X), ?_, isMin_congr (isMin_both m1 m2) (fun p => ⟨fun q => ?_, fun q => ?_⟩)⟩
  · unfold BX3_findDisagreement_34
    by_cases c1 : r1 = -1
    · rw [if_pos c1, if_pos c1]
    · rw [if_neg c1, if_neg c1]
      by_cases c2 : r2 = -1
      · rw [if_pos c2, if_pos c2]
      · rw [if_neg c2, if_neg c2]
  · rcases q with ⟨q0, q⟩ | ⟨q0, q⟩
    · exact ⟨q0, Or.inl q⟩
    · exact ⟨q0, Or.inr q⟩
  · rcases q with ⟨q0, q | q⟩
    · exact Or.inl ⟨q0, q⟩
    · exact Or.inr ⟨q0, q⟩
/-! the reference: its rows of signs -/
