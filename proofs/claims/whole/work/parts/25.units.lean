/-! ===== units ===== -/
def expRow (k l r : Int32) (u X : Nat → Int32) : Int32 :=
  if k = 0 then 0 else if k = 1 then u l.toNatClampNeg else if k = 5 then X l.toNatClampNeg + X r.toNatClampNeg else if k = 6 then X l.toNatClampNeg * r else X l.toNatClampNeg
def expTo (K L R u : Nat → Int32) : Nat → (Nat → Int32) → Nat → Int32
  | 0, X => X
  | n + 1, X => upd (expTo K L R u n X) n (expRow (K n) (L n) (R n) u (expTo K L R u n X))
theorem c_exponentOfPart {n : Nat} (hn : n < 60) {K L R : Nat → Int32} (h : rowOK n (K n) (L n) (R n)) (X u : Nat → Int32) :
    fX3_exponentOfPart (nI n) K L R X u = some (expRow (K n) (L n) (R n) u X) := by
  unfold fX3_exponentOfPart
  simp only [gi_n hn (show 60 < 2 ^ 31 by omega), clamp_n (show n < 2 ^ 31 by omega), BX3_exponentOfPart_95]
  rcases h with ⟨hk, hr⟩ | ⟨hk, hr, j, hj, hl⟩ | ⟨hk, hr, a, ha, hl⟩ | ⟨hk, a, b, ha, hb, hl, hr⟩ | ⟨hk, a, e, ha, he, hl, hr⟩
  · simp [expRow, hk]
  · simp [expRow, hk, hl, gi_n hj (show 6 < 2 ^ 31 by omega)]
  · simp [expRow, hk, hl, gi_n (show a < 60 by omega) (show 60 < 2 ^ 31 by omega)]
  · rcases hk with hk | hk | hk <;> simp [expRow, hk, hl, hr, gi_n (show a < 60 by omega) (show 60 < 2 ^ 31 by omega), gi_n (show b < 60 by omega) (show 60 < 2 ^ 31 by omega)]
  · simp [expRow, hk, hl, gi_n (show a < 60 by omega) (show 60 < 2 ^ 31 by omega)]
theorem c_exp_loop {sz : Nat} (hsz : sz ≤ 60) {K L R : Nat → Int32} (h : ∀ n, n < sz → rowOK n (K n) (L n) (R n)) (rt : Int32) (u X : Nat → Int32) (E : (Nat → Int32) → Option (Int32 × (Nat → Int32))) :
    ∀ (f j : Nat), j ≤ sz → sz - j < f → LX3_exponentBy_2 K L R (nI sz) rt u E f (nI j) (expTo K L R u j X) = E (expTo K L R u sz X)
  | 0, j, _, q => absurd q (Nat.not_lt_zero _)
  | f + 1, j, hj, q => by
    rw [LX3_exponentBy_2]
    by_cases hc : sz ≤ j
    · have : j = sz := by omega
      subst this
      rw [if_pos ((nI_leI (by omega) (by omega)).mpr hc)]
    · rw [if_neg (fun q => hc ((nI_leI (by omega) (by omega)).mp q)), c_exponentOfPart (by omega) (h j (by omega)), bnd1_s, gi_n (show j < 60 by omega) (by omega), nI_1, clamp_n (by omega)]
      exact c_exp_loop hsz h rt u X E f (j + 1) (by omega) (by omega)
theorem c_exponentBy {sz rt : Nat} (hsz : sz ≤ 60) {K L R : Nat → Int32} (h : ∀ n, n < sz → rowOK n (K n) (L n) (R n)) (hr : rt < 60) (u X : Nat → Int32) :
    fX3_exponentBy K L R X (nI sz) (nI rt) u = some (expTo K L R u sz X rt, expTo K L R u sz X) := by
  unfold fX3_exponentBy
  have e := c_exp_loop hsz h (nI rt) u X (fun Fexponents => gi (nI rt) 60 (some (Fexponents (nI rt).toNatClampNeg, Fexponents))) 1000 0 (by omega) (by omega)
  refine Eq.trans e ?_
  show gi (nI rt) 60 _ = _
  rw [gi_n hr (by omega), clamp_n (by omega)]
theorem ix2 (j s : Nat) : (2 : Int32) * nI j + nI s = nI (2 * j + s) := by
  rw [show (2 : Int32) = nI 2 from rfl, pk_mul, nI_add]
theorem m_exp_step {m sz s : Nat} (hm : m < 9) (hsz : sz ≤ 60) (hs : s < 2) {K L R MK MO MT form un u : Nat → Int32} (h : RowsRel sz (64 * m) K L R MK MO MT) (hf : form m = nI sz) (hu : ∀ j, j < 6 → u j = un (2 * j + s)) (E : (Nat → Int32) → Option (Nat → Int32)) (f : Nat) {j : Nat} (hj : j < sz) (X : Nat → Int32) :
    LX7_laysExponents_2 un form MK MO MT (nI m) (nI s) E (f + 1) (nI j) X = LX7_laysExponents_2 un form MK MO MT (nI m) (nI s) E f (nI (j + 1)) (upd X j (expRow (K j) (L j) (R j) u X)) := by
  obtain ⟨hok, e1, e2, e3⟩ := h j hj
  have hc := clamp_n (show 64 * m + j < 2 ^ 31 by omega)
  have hi := fun (x : Option (Nat → Int32)) => gi_n (x := x) (show 64 * m + j < 576 by omega) (show 576 < 2 ^ 31 by omega)
  have hj64 := fun (x : Option (Nat → Int32)) => gi_n (x := x) (show j < 64 by omega) (show 64 < 2 ^ 31 by omega)
  have hcj := clamp_n (show j < 2 ^ 31 by omega)
  rw [LX7_laysExponents_2]
  simp only [ix64, gi_n hm (show 9 < 2 ^ 31 by omega), clamp_n (show m < 2 ^ 31 by omega), hf, hi, hc, e1, e2, e3, if_neg (nI_ge hj (show sz < 2 ^ 31 by omega))]
  rcases hok with ⟨hk, hr⟩ | ⟨hk, hr, a, ha, hl⟩ | ⟨hk, hr, a, ha, hl⟩ | ⟨hk, a, b, ha, hb, hl, hr⟩ | ⟨hk, a, e, ha, he, hl, hr⟩
  · simp [hk, km, hj64, hcj, expRow, nI_1]
  · simp [hk, hl, km, hj64, hcj, expRow, nI_1, ix2, gi_n (show 2 * a + s < 12 by omega) (show 12 < 2 ^ 31 by omega), clamp_n (show 2 * a + s < 2 ^ 31 by omega), clamp_n (show a < 2 ^ 31 by omega), hu a ha]
  · simp [hk, hl, km, BX7_laysExponents_149, hj64, hcj, expRow, nI_1, gi_n (show a < 64 by omega) (show 64 < 2 ^ 31 by omega), clamp_n (show a < 2 ^ 31 by omega)]
  · rcases hk with hk | hk | hk <;> simp [hk, hl, hr, km, BX7_laysExponents_149, hj64, hcj, expRow, nI_1, gi_n (show a < 64 by omega) (show 64 < 2 ^ 31 by omega), gi_n (show b < 64 by omega) (show 64 < 2 ^ 31 by omega), clamp_n (show a < 2 ^ 31 by omega), clamp_n (show b < 2 ^ 31 by omega)]
  · simp [hk, hl, hr, km, BX7_laysExponents_149, hj64, hcj, expRow, nI_1, gi_n (show a < 64 by omega) (show 64 < 2 ^ 31 by omega), clamp_n (show a < 2 ^ 31 by omega)]
theorem m_exp_loop {m sz s : Nat} (hm : m < 9) (hsz : sz ≤ 60) (hs : s < 2) {K L R MK MO MT form un u : Nat → Int32} (h : RowsRel sz (64 * m) K L R MK MO MT) (hf : form m = nI sz) (hu : ∀ j, j < 6 → u j = un (2 * j + s)) (E : (Nat → Int32) → Option (Nat → Int32)) (X : Nat → Int32) :
    ∀ (f j : Nat), j ≤ sz → sz - j < f → LX7_laysExponents_2 un form MK MO MT (nI m) (nI s) E f (nI j) (expTo K L R u j X) = E (expTo K L R u sz X)
  | 0, j, _, q => absurd q (Nat.not_lt_zero _)
  | f + 1, j, hj, q => by
    by_cases hc : j < sz
    · rw [m_exp_step hm hsz hs h hf hu E f hc]
      exact m_exp_loop hm hsz hs h hf hu E X f (j + 1) (by omega) (by omega)
    · have : j = sz := by omega
      subst this
      rw [LX7_laysExponents_2, gi_n hm (by omega), clamp_n (by omega), hf, if_pos ((nI_leI (by omega) (by omega)).mpr (Nat.le_refl _))]
theorem m_laysExponents {m sz s : Nat} (hm : m < 9) (hsz : sz ≤ 60) (hs : s < 2) {K L R MK MO MT form un u : Nat → Int32} (h : RowsRel sz (64 * m) K L R MK MO MT) (hf : form m = nI sz) (hu : ∀ j, j < 6 → u j = un (2 * j + s)) (X : Nat → Int32) :
    fX7_laysExponents (nI m) (nI s) un form MK MO MT X = some (expTo K L R u sz X) := by
  unfold fX7_laysExponents
  exact m_exp_loop hm hsz hs h hf hu (fun X => some X) X 1000 0 (by omega) (by omega)
theorem expTo_agree {K L R u : Nat → Int32} {X X2 : Nat → Int32} : ∀ {n : Nat}, n ≤ 60 → (∀ j, j < n → rowOK j (K j) (L j) (R j)) → ∀ j, j < n → expTo K L R u n X j = expTo K L R u n X2 j
  | 0, _, _, j, hj => absurd hj (Nat.not_lt_zero _)
  | n + 1, hn, h, j, hj => by
    have ih := expTo_agree (u := u) (X := X) (X2 := X2) (n := n) (by omega) (fun j q => h j (by omega))
    show upd _ n _ j = upd _ n _ j
    rw [upd_at, upd_at]
    by_cases e : j = n
    · rw [if_pos e, if_pos e]
      rcases h n (by omega) with ⟨hk, hr⟩ | ⟨hk, hr, a, ha, hl⟩ | ⟨hk, hr, a, ha, hl⟩ | ⟨hk, a, b, ha, hb, hl, hr⟩ | ⟨hk, a, e, ha, he, hl, hr⟩
      · simp [expRow, hk]
      · simp [expRow, hk]
      · simp [expRow, hk, hl, clamp_n (show a < 2 ^ 31 by omega), ih a ha]
      · rcases hk with hk | hk | hk <;> simp [expRow, hk, hl, hr, clamp_n (show a < 2 ^ 31 by omega), clamp_n (show b < 2 ^ 31 by omega), ih a ha, ih b hb]
      · simp [expRow, hk, hl, clamp_n (show a < 2 ^ 31 by omega), ih a ha]
    · rw [if_neg e, if_neg e]
      exact ih j (by omega)
/-! ===== the first sign whose sides differ ===== -/
/-- r is the least of P's places, or -1 without one -/
def isMin (P : Nat → Prop) (r : Int32) : Prop := (r = -1 ∧ ∀ p, ¬ P p) ∨ ∃ p, p < 60 ∧ r = nI p ∧ P p ∧ ∀ q, P q → p ≤ q
theorem nI_neM1 {p : Nat} (h : p < 60) : ¬ nI p = -1 := fun q => by
  have := congrArg Int32.toInt q
  rw [nI_toInt (by omega)] at this
  have z : (-1 : Int32).toInt = -1 := by decide
  omega
theorem isMin_congr {P Q : Nat → Prop} {r : Int32} (h : isMin P r) (e : ∀ p, P p ↔ Q p) : isMin Q r := by
  rcases h with ⟨h1, h2⟩ | ⟨p, h1, h2, h3, h4⟩
  · exact Or.inl ⟨h1, fun p q => h2 p ((e p).mpr q)⟩
  · exact Or.inr ⟨p, h1, h2, (e p).mp h3, fun q hq => h4 q ((e q).mpr hq)⟩
theorem isMin_step {P : Nat → Prop} {acc : Int32} {p : Nat} (h : isMin P acc) (hp : p < 60) : isMin (fun q => P q ∨ q = p) (if acc = -1 then nI p else if acc ≤ nI p then acc else nI p) := by
  rcases h with ⟨h1, h2⟩ | ⟨a, h1, h2, h3, h4⟩
  · rw [if_pos h1]
    exact Or.inr ⟨p, hp, rfl, Or.inr rfl, fun q hq => by
      rcases hq with hq | hq
      · exact absurd hq (h2 q)
      · omega⟩
  · subst h2
    rw [if_neg (nI_neM1 h1)]
    by_cases hc : a ≤ p
    · rw [if_pos ((nI_leI (by omega) (by omega)).mpr hc)]
      exact Or.inr ⟨a, h1, rfl, Or.inl h3, fun q hq => by
        rcases hq with hq | hq
        · exact h4 q hq
        · omega⟩
    · rw [if_neg (fun q => hc ((nI_leI (by omega) (by omega)).mp q))]
      exact Or.inr ⟨p, hp, rfl, Or.inr rfl, fun q hq => by
        rcases hq with hq | hq
        · have := h4 q hq
          omega
        · omega⟩
theorem isMin_both {P Q : Nat → Prop} {r s : Int32} (h1 : isMin P r) (h2 : isMin Q s) :
    isMin (fun p => P p ∨ Q p) (if r = -1 then (if r < s then s else r) else if s = -1 then (if r < s then s else r) else if s < r then s else r) := by
  have z : (-1 : Int32).toInt = -1 := by decide
  rcases h1 with ⟨a1, a2⟩ | ⟨p, a1, a2, a3, a4⟩
  · subst a1
    rw [if_pos rfl]
    rcases h2 with ⟨b1, b2⟩ | ⟨q, b1, b2, b3, b4⟩
    · subst b1
      rw [if_neg (by decide)]
      exact Or.inl ⟨rfl, fun p hp => hp.elim (a2 p) (b2 p)⟩
    · subst b2
      rw [if_pos (by rw [lt_i, nI_toInt (by omega)]; omega)]
      exact Or.inr ⟨q, b1, rfl, Or.inr b3, fun t ht => ht.elim (fun x => absurd x (a2 t)) (b4 t)⟩
  · subst a2
    rw [if_neg (nI_neM1 a1)]
    rcases h2 with ⟨b1, b2⟩ | ⟨q, b1, b2, b3, b4⟩
    · subst b1
      rw [if_pos rfl, if_neg (by rw [lt_i, nI_toInt (by omega)]; omega)]
      exact Or.inr ⟨p, a1, rfl, Or.inl a3, fun t ht => ht.elim (a4 t) (fun x => absurd x (b2 t))⟩
    · subst b2
      rw [if_neg (nI_neM1 b1)]
      by_cases hc : q < p
      · rw [if_pos ((nI_ltI (by omega) (by omega)).mpr hc)]
        exact Or.inr ⟨q, b1, rfl, Or.inr b3, fun t ht => ht.elim (fun x => by have := a4 t x; omega) (b4 t)⟩
      · rw [if_neg (fun x => hc ((nI_ltI (by omega) (by omega)).mp x))]
        exact Or.inr ⟨p, a1, rfl, Or.inl a3, fun t ht => ht.elim (a4 t) (fun x => by have := b4 t x; omega)⟩
theorem isMin_eq {P Q : Nat → Prop} {r s : Int32} (h1 : isMin P r) (h2 : isMin Q s) (hPQ : ∀ p, P p → Q p) (hQP : ∀ p, Q p → ∃ q, q ≤ p ∧ P q) : r = s := by
  rcases h1 with ⟨a1, a2⟩ | ⟨p, a1, a2, a3, a4⟩ <;> rcases h2 with ⟨b1, b2⟩ | ⟨q, b1, b2, b3, b4⟩
  · rw [a1, b1]
  · obtain ⟨x, -, hx⟩ := hQP q b3
    exact absurd hx (a2 x)
  · exact absurd (hPQ p a3) (b2 p)
  · obtain ⟨x, hx1, hx⟩ := hQP q b3
    have h3 := a4 x hx
    have h4 := b4 p (hPQ p a3)
    rw [a2, b2, show p = q by omega]
/-- a part is a + or - whose sides have not one exponent -/
def unev (K L R X : Nat → Int32) (n : Nat) : Prop := (K n = 3 ∨ K n = 4) ∧ ¬ X (L n).toNatClampNeg = X (R n).toNatClampNeg
theorem c_uneven_loop {sz : Nat} (hsz : sz ≤ 60) {K L R PL X : Nat → Int32} (h : ∀ n, n < sz → rowOK n (K n) (L n) (R n)) (hp : ∀ n, n < sz → ∃ p, p < 60 ∧ PL n = nI p) (E : Int32 → Option Int32) :
    ∀ (f j : Nat) (acc : Int32), j ≤ sz → sz - j < f → isMin (fun p => p < 60 ∧ ∃ n, n < j ∧ unev K L R X n ∧ PL n = nI p) acc →
      ∃ r, LX3_findUnevenSides_4 K L R PL X (nI sz) E f acc (nI j) = E r ∧ isMin (fun p => p < 60 ∧ ∃ n, n < sz ∧ unev K L R X n ∧ PL n = nI p) r
  | 0, j, _, _, q, _ => absurd q (Nat.not_lt_zero _)
  | f + 1, j, acc, hj, q, hm => by
    by_cases hc : j < sz
    · have hj60 := fun (x : Option Int32) => gi_n (x := x) (show j < 60 by omega) (show 60 < 2 ^ 31 by omega)
      have hcj := clamp_n (show j < 2 ^ 31 by omega)
      obtain ⟨p, hp1, hp2⟩ := hp j hc
      have skip : ¬ unev K L R X j → isMin (fun p => p < 60 ∧ ∃ n, n < j + 1 ∧ unev K L R X n ∧ PL n = nI p) acc := fun hu => isMin_congr hm (fun p => ⟨fun ⟨h0, n, h1, h2, h3⟩ => ⟨h0, n, by omega, h2, h3⟩, fun ⟨h0, n, h1, h2, h3⟩ => ⟨h0, n, by
        rcases Nat.lt_or_ge n j with h | h
        · exact h
        · have : n = j := by omega
          subst this
          exact absurd h2 hu, h2, h3⟩⟩)
      have take : unev K L R X j → isMin (fun p => p < 60 ∧ ∃ n, n < j + 1 ∧ unev K L R X n ∧ PL n = nI p) (if acc = -1 then PL j else if acc ≤ PL j then acc else PL j) := fun hu => by
        rw [hp2]
        refine isMin_congr (isMin_step hm hp1) (fun t => ⟨fun h => ?_, fun h => ?_⟩)
        · rcases h with ⟨h0, n, h1, h2, h3⟩ | h
          · exact ⟨h0, n, by omega, h2, h3⟩
          · exact ⟨by omega, j, by omega, hu, by rw [hp2, h]⟩
        · obtain ⟨h0, n, h1, h2, h3⟩ := h
          rcases Nat.lt_or_ge n j with h | h
          · exact Or.inl ⟨h0, n, h, h2, h3⟩
          · have : n = j := by omega
            subst this
            rw [hp2] at h3
            exact Or.inr ((nI_eq (by omega) (by omega)).mp h3).symm
      have ih := fun acc hm => c_uneven_loop (X := X) hsz h hp E f (j + 1) acc (by omega) (by omega) hm
      rw [LX3_findUnevenSides_4, if_neg (nI_ge hc (by omega)), hj60, hcj]
      have body : (K j = 3 ∨ K j = 4) → ∃ r, BX3_findUnevenSides_32 K L R PL X (nI sz) (LX3_findUnevenSides_4 K L R PL X (nI sz) E f) E acc (nI j) = E r ∧ isMin (fun p => p < 60 ∧ ∃ n, n < sz ∧ unev K L R X n ∧ PL n = nI p) r := fun hk => by
        obtain ⟨a, b, ha, hb, hl, hr⟩ : ∃ a b, a < j ∧ b < j ∧ L j = nI a ∧ R j = nI b := by
          rcases h j hc with ⟨hk2, hr⟩ | ⟨hk2, hr, a, ha, hl⟩ | ⟨hk2, hr, a, ha, hl⟩ | ⟨hk2, a, b, ha, hb, hl, hr⟩ | ⟨hk2, a, e, ha, he, hl, hr⟩
          · rw [hk2] at hk; exact absurd hk (by decide)
          · rw [hk2] at hk; exact absurd hk (by decide)
          · rw [hk2] at hk; exact absurd hk (by decide)
          · exact ⟨a, b, ha, hb, hl, hr⟩
          · rw [hk2] at hk; exact absurd hk (by decide)
        unfold BX3_findUnevenSides_32 BX3_findUnevenSides_61 BX3_findUnevenSides_62 BX3_findUnevenSides_82
        simp only [hj60, hcj]
        rw [hl, hr, gi_n (show a < 60 by omega) (by omega), gi_n (show b < 60 by omega) (by omega)]
        by_cases hx : X (nI a).toNatClampNeg = X (nI b).toNatClampNeg
        · rw [if_pos hx, if_pos trivial, nI_1]
          exact ih acc (skip (fun hu => hu.2 (by rw [hl, hr]; exact hx)))
        · have hu : unev K L R X j := ⟨hk, by rw [hl, hr]; exact hx⟩
          rw [if_neg hx, if_neg (by decide), nI_1]
          have t := take hu
          by_cases c1 : acc = -1
          · rw [if_pos c1] at t ⊢
            exact ih _ t
          · rw [if_neg c1] at t ⊢
            by_cases c2 : acc ≤ PL j
            · rw [if_pos c2] at t ⊢
              exact ih _ t
            · rw [if_neg c2] at t ⊢
              exact ih _ t
      by_cases k3 : K j = 3
      · rw [if_pos k3]
        exact body (Or.inl k3)
      · rw [if_neg k3, hj60]
        by_cases k4 : K j = 4
        · rw [if_pos k4]
          exact body (Or.inr k4)
        · rw [if_neg k4]
          unfold BX3_findUnevenSides_61 BX3_findUnevenSides_62
          rw [if_pos rfl, nI_1]
          exact ih acc (skip (fun hu => hu.1.elim k3 k4))
    · have : j = sz := by omega
      subst this
      exact ⟨acc, by rw [LX3_findUnevenSides_4, if_pos ((nI_leI (by omega) (by omega)).mpr (Nat.le_refl _))], hm⟩
theorem c_findDisagreement {sz rt : Nat} (hsz : sz ≤ 60) {K L R PL : Nat → Int32} (h : ∀ n, n < sz → rowOK n (K n) (L n) (R n)) (hp : ∀ n, n < sz → ∃ p, p < 60 ∧ PL n = nI p) (hr : rt < 60) (X u1 u2 : Nat → Int32) :
    ∃ (r : Int32) (X2 : Nat → Int32), fX3_findDisagreement K L R PL X (nI sz) (nI rt) u1 u2 = some (r, X2) ∧ isMin (fun p => p < 60 ∧ ((∃ n, n < sz ∧ unev K L R (expTo K L R u1 sz X) n ∧ PL n = nI p) ∨ ∃ n, n < sz ∧ unev K L R (expTo K L R u2 sz (expTo K L R u1 sz X)) n ∧ PL n = nI p)) r := by
  unfold fX3_findDisagreement
  rw [c_exponentBy hsz h hr, bnd2_s]
  obtain ⟨r1, e1, m1⟩ := c_uneven_loop (X := expTo K L R u1 sz X) hsz h hp (fun v1 => some v1) 1000 0 (-1) (by omega) (by omega) (Or.inl ⟨rfl, fun p hp => by obtain ⟨-, n, h1, -⟩ := hp; omega⟩)
  obtain ⟨r2, e2, m2⟩ := c_uneven_loop (X := expTo K L R u2 sz (expTo K L R u1 sz X)) hsz h hp (fun v1 => some v1) 1000 0 (-1) (by omega) (by omega) (Or.inl ⟨rfl, fun p hp => by obtain ⟨-, n, h1, -⟩ := hp; omega⟩)
  have e1 : fX3_findUnevenSides K L R PL (expTo K L R u1 sz X) (nI sz) = some r1 := e1
  have e2 : fX3_findUnevenSides K L R PL (expTo K L R u2 sz (expTo K L R u1 sz X)) (nI sz) = some r2 := e2
  rw [e1, bnd1_s, c_exponentBy hsz h hr, bnd2_s, e2, bnd1_s]
  refine ⟨_, expTo K L R u2 sz (expTo K L R u1 sz X), ?_, isMin_congr (isMin_both m1 m2) (fun p => ⟨fun q => ?_, fun q => ?_⟩)⟩
  · unfold BX3_findDisagreement_34
    by_cases c1 : r1 = -1
    · rw [if_pos c1, if_pos c1]
    · rw [if_neg c1, if_neg c1]
      by_cases c2 : r2 = -1
      · rw [if_pos c2, if_pos c2]
      · rw [if_neg c2, if_neg c2]
  · rcases q with ⟨q0, q⟩ | ⟨q0, q⟩
    · exact ⟨q0, Or.inl q⟩
    · exact ⟨q0, Or.inr q⟩
  · rcases q with ⟨q0, q | q⟩
    · exact Or.inl ⟨q0, q⟩
    · exact Or.inr ⟨q0, q⟩
/-! the reference: its rows of signs -/
def unevS (L R X : Nat → Int32) (b n : Nat) : Prop := ¬ X (L (b + n)).toNatClampNeg = X (R (b + n)).toNatClampNeg
theorem m_sign_loop {m ns : Nat} (hm : m < 9) (hns : ns ≤ 60) {un form MK MO MT sg PL ML MR : Nat → Int32} (hs : sg m = nI ns) (hrow : ∀ n, n < ns → (∃ a b p, a < 60 ∧ b < 60 ∧ p < 60 ∧ ML (64 * m + n) = nI a ∧ MR (64 * m + n) = nI b ∧ PL (64 * m + n) = nI p)) (P : Nat → Prop) (s : Int32) (X : Nat → Int32) (E : Int32 → Int32 → (Nat → Int32) → Option (Int32 × (Nat → Int32))) :
    ∀ (f j : Nat) (acc : Int32), j ≤ ns → ns - j < f → isMin (fun p => P p ∨ (p < 60 ∧ ∃ n, n < j ∧ unevS ML MR X (64 * m) n ∧ PL (64 * m + n) = nI p)) acc →
      ∃ r, LX7_fault_18 un form MK MO MT sg PL ML MR (nI m) E f acc s (nI j) X = E r s X ∧ isMin (fun p => P p ∨ (p < 60 ∧ ∃ n, n < ns ∧ unevS ML MR X (64 * m) n ∧ PL (64 * m + n) = nI p)) r
  | 0, j, _, _, q, _ => absurd q (Nat.not_lt_zero _)
  | f + 1, j, acc, hj, q, hmn => by
    by_cases hc : j < ns
    · have hcl := clamp_n (show 64 * m + j < 2 ^ 31 by omega)
      have hi := fun (x : Option (Int32 × (Nat → Int32))) => gi_n (x := x) (show 64 * m + j < 576 by omega) (show 576 < 2 ^ 31 by omega)
      obtain ⟨a, b, p, ha, hb, hp1, e1, e2, hp2⟩ := hrow j hc
      have ih := fun acc hm2 => m_sign_loop (form := form) (un := un) (MK := MK) (MO := MO) (MT := MT) hm hns hs hrow P s X E f (j + 1) acc (by omega) (by omega) hm2
      have skip : ¬ unevS ML MR X (64 * m) j → isMin (fun p => P p ∨ (p < 60 ∧ ∃ n, n < j + 1 ∧ unevS ML MR X (64 * m) n ∧ PL (64 * m + n) = nI p)) acc := fun hu => isMin_congr hmn (fun t => ⟨fun h => h.elim Or.inl (fun ⟨h0, n, h1, h2, h3⟩ => Or.inr ⟨h0, n, by omega, h2, h3⟩), fun h => h.elim Or.inl (fun ⟨h0, n, h1, h2, h3⟩ => Or.inr ⟨h0, n, by
        rcases Nat.lt_or_ge n j with h | h
        · exact h
        · have : n = j := by omega
          subst this
          exact absurd h2 hu, h2, h3⟩)⟩)
      have take : unevS ML MR X (64 * m) j → isMin (fun p => P p ∨ (p < 60 ∧ ∃ n, n < j + 1 ∧ unevS ML MR X (64 * m) n ∧ PL (64 * m + n) = nI p)) (if acc = -1 then PL (64 * m + j) else if acc ≤ PL (64 * m + j) then acc else PL (64 * m + j)) := fun hu => by
        rw [hp2]
        refine isMin_congr (isMin_step hmn hp1) (fun t => ⟨fun h => ?_, fun h => ?_⟩)
        · rcases h with (h | ⟨h0, n, h1, h2, h3⟩) | h
          · exact Or.inl h
          · exact Or.inr ⟨h0, n, by omega, h2, h3⟩
          · exact Or.inr ⟨by omega, j, by omega, hu, by rw [hp2, h]⟩
        · rcases h with h | ⟨h0, n, h1, h2, h3⟩
          · exact Or.inl (Or.inl h)
          · rcases Nat.lt_or_ge n j with h | h
            · exact Or.inl (Or.inr ⟨h0, n, h, h2, h3⟩)
            · have : n = j := by omega
              subst this
              rw [hp2] at h3
              exact Or.inr ((nI_eq (by omega) (by omega)).mp h3).symm
      rw [LX7_fault_18]
      simp only [ix64, gi_n hm (show 9 < 2 ^ 31 by omega), clamp_n (show m < 2 ^ 31 by omega), hs, hi, hcl, if_neg (nI_ge hc (show ns < 2 ^ 31 by omega))]
      rw [e1, e2, gi_n (show a < 64 by omega) (by omega), gi_n (show b < 64 by omega) (by omega)]
      unfold BX7_fault_85 BX7_fault_81 BX7_fault_86
      simp only [hi, hcl, nI_1]
      by_cases hx : X (nI a).toNatClampNeg = X (nI b).toNatClampNeg
      · rw [if_pos hx, if_pos trivial]
        exact ih acc (skip (fun hu => hu (by rw [e1, e2]; exact hx)))
      · have t := take (show unevS ML MR X (64 * m) j from fun y => hx (by rw [e1, e2] at y; exact y))
        rw [if_neg hx]
        by_cases c1 : acc = -1
        · rw [if_pos c1] at t ⊢
          rw [if_neg (by decide)]
          exact ih _ t
        · rw [if_neg c1] at t ⊢
          by_cases c2 : acc ≤ PL (64 * m + j)
          · rw [if_pos c2] at t ⊢
            rw [if_pos trivial]
            exact ih _ t
          · rw [if_neg c2] at t ⊢
            rw [if_neg (by decide)]
            exact ih _ t
    · have : j = ns := by omega
      subst this
      refine ⟨acc, ?_, hmn⟩
      rw [LX7_fault_18, gi_n hm (by omega), clamp_n (by omega), hs, if_pos ((nI_leI (by omega) (by omega)).mpr (Nat.le_refl _))]
/-- what the two sides' rows of signs have to do with one another -/
def SignsRel (sz ns b : Nat) (K L R PL ML MR MP : Nat → Int32) : Prop :=
  (∀ n, n < sz → ∃ p, p < 60 ∧ PL n = nI p) ∧ (∀ i, i < ns → ∃ n p q, n < sz ∧ (K n = 3 ∨ K n = 4) ∧ ML (b + i) = L n ∧ MR (b + i) = R n ∧ PL n = nI p ∧ MP (b + i) = nI q ∧ p ≤ q ∧ q < 60) ∧
    ∀ n, n < sz → (K n = 3 ∨ K n = 4) → ∃ i, i < ns ∧ ML (b + i) = L n ∧ MR (b + i) = R n ∧ MP (b + i) = PL n
theorem disagree_same {m sz ns rt : Nat} (hm : m < 9) (hsz : sz ≤ 60) (hns : ns ≤ 60) (hrt : rt < 60) {K L R PL MK MO MT form un u1 u2 sg MP ML MR : Nat → Int32} (h : RowsRel sz (64 * m) K L R MK MO MT) (hf : form m = nI sz) (hs : sg m = nI ns) (hS : SignsRel sz ns (64 * m) K L R PL ML MR MP) (hu1 : ∀ j, j < 6 → u1 j = un (2 * j)) (hu2 : ∀ j, j < 6 → u2 j = un (2 * j + 1)) (X Y : Nat → Int32) :
    ∃ (r : Int32) (X2 Y2 : Nat → Int32), fX3_findDisagreement K L R PL X (nI sz) (nI rt) u1 u2 = some (r, X2) ∧ fX7_fault (nI m) un form MK MO MT sg MP ML MR Y = some (r, Y2) ∧ (r = -1 ∨ ∃ p, p < 60 ∧ r = nI p) := by
  have hok : ∀ n, n < sz → rowOK n (K n) (L n) (R n) := fun n hn => (h n hn).1
  obtain ⟨r, X2, e1, m1⟩ := c_findDisagreement hsz hok hS.1 hrt X u1 u2
  have hrow : ∀ n, n < ns → ∃ a b p, a < 60 ∧ b < 60 ∧ p < 60 ∧ ML (64 * m + n) = nI a ∧ MR (64 * m + n) = nI b ∧ MP (64 * m + n) = nI p := fun i hi => by
    obtain ⟨n, p, q, h1, h2, h3, h4, h5, h6, h7, h8⟩ := hS.2.1 i hi
    rcases hok n h1 with ⟨hk2, hr⟩ | ⟨hk2, hr, a, ha, hl⟩ | ⟨hk2, hr, a, ha, hl⟩ | ⟨hk2, a, b, ha, hb, hl, hr⟩ | ⟨hk2, a, e, ha, he, hl, hr⟩
    · rw [hk2] at h2; exact absurd h2 (by decide)
    · rw [hk2] at h2; exact absurd h2 (by decide)
    · rw [hk2] at h2; exact absurd h2 (by decide)
    · exact ⟨a, b, q, by omega, by omega, h8, by rw [h3, hl], by rw [h4, hr], h6⟩
    · rw [hk2] at h2; exact absurd h2 (by decide)
  have hv1 : ∀ j, j < 6 → u1 j = un (2 * j + 0) := hu1
  -- the reference's two walks
  obtain ⟨r1, e2, m2⟩ := m_sign_loop (form := form) (un := un) (MK := MK) (MO := MO) (MT := MT) hm hns hs hrow (fun _ => False) (nI 0) (expTo K L R u1 sz Y) (fun v2 v3 Mexponent => LX7_fault_4 un form MK MO MT sg MP ML MR (nI m) (fun v2 Mexponent => some (v2, Mexponent)) 999 v2 (v3 + 1) Mexponent) 1000 0 (-1) (by omega) (by omega) (Or.inl ⟨rfl, fun p hp => by
    rcases hp with h | ⟨-, n, h1, -⟩
    · exact h
    · omega⟩)
  obtain ⟨r2, e3, m3⟩ := m_sign_loop (form := form) (un := un) (MK := MK) (MO := MO) (MT := MT) hm hns hs hrow (fun p => False ∨ (p < 60 ∧ ∃ n, n < ns ∧ unevS ML MR (expTo K L R u1 sz Y) (64 * m) n ∧ MP (64 * m + n) = nI p)) (nI 1) (expTo K L R u2 sz (expTo K L R u1 sz Y)) (fun v2 v3 Mexponent => LX7_fault_4 un form MK MO MT sg MP ML MR (nI m) (fun v2 Mexponent => some (v2, Mexponent)) 998 v2 (v3 + 1) Mexponent) 1000 0 r1 (by omega) (by omega) (isMin_congr m2 (fun p => ⟨Or.inl, fun q => q.elim id (fun ⟨_, n, h1, _⟩ => by omega)⟩))
  have e4 : fX7_fault (nI m) un form MK MO MT sg MP ML MR Y = some (r2, expTo K L R u2 sz (expTo K L R u1 sz Y)) := by
    unfold fX7_fault
    rw [LX7_fault_4, if_neg (by decide)]
    have l1 := m_laysExponents hm hsz (show 0 < 2 by omega) h hf hv1 Y
    have l1 : fX7_laysExponents (nI m) 0 un form MK MO MT Y = some (expTo K L R u1 sz Y) := l1
    rw [l1, bnd1_s]
    refine Eq.trans e2 ?_
    show LX7_fault_4 un form MK MO MT sg MP ML MR (nI m) (fun v2 Mexponent => some (v2, Mexponent)) (998 + 1) r1 (nI 0 + 1) (expTo K L R u1 sz Y) = _
    rw [LX7_fault_4, nI_1, if_neg (by decide)]
    have l2 := m_laysExponents hm hsz (show 1 < 2 by omega) h hf hu2 (expTo K L R u1 sz Y)
    rw [l2, bnd1_s]
    refine Eq.trans e3 ?_
    show LX7_fault_4 un form MK MO MT sg MP ML MR (nI m) (fun v2 Mexponent => some (v2, Mexponent)) (997 + 1) r2 (nI 1 + 1) _ = _
    rw [LX7_fault_4, nI_1, if_pos (by decide)]
  -- entries at the rows agree, whatever the walks began with
  have ag1 := expTo_agree (u := u1) (X := X) (X2 := Y) hsz hok
  have ag2 := expTo_agree (u := u2) (X := expTo K L R u1 sz X) (X2 := expTo K L R u1 sz Y) hsz hok
  have low : ∀ n, n < sz → (K n = 3 ∨ K n = 4) → ∃ a b, a < sz ∧ b < sz ∧ L n = nI a ∧ R n = nI b := fun n h1 h2 => by
    rcases hok n h1 with ⟨hk2, hr⟩ | ⟨hk2, hr, a, ha, hl⟩ | ⟨hk2, hr, a, ha, hl⟩ | ⟨hk2, a, b, ha, hb, hl, hr⟩ | ⟨hk2, a, e, ha, he, hl, hr⟩
    · rw [hk2] at h2; exact absurd h2 (by decide)
    · rw [hk2] at h2; exact absurd h2 (by decide)
    · rw [hk2] at h2; exact absurd h2 (by decide)
    · exact ⟨a, b, by omega, by omega, hl, hr⟩
    · rw [hk2] at h2; exact absurd h2 (by decide)
  have same : ∀ (Z W : Nat → Int32), (∀ j, j < sz → Z j = W j) → ∀ n, n < sz → (K n = 3 ∨ K n = 4) → ((Z (L n).toNatClampNeg = Z (R n).toNatClampNeg) ↔ (W (L n).toNatClampNeg = W (R n).toNatClampNeg)) := fun Z W hZ n h1 h2 => by
    obtain ⟨a, b, ha, hb, hl, hr⟩ := low n h1 h2
    rw [hl, hr, clamp_n (by omega), clamp_n (by omega), hZ a ha, hZ b hb]
  have fwd : ∀ (Z W : Nat → Int32), (∀ j, j < sz → Z j = W j) → ∀ p, p < 60 → (∃ n, n < sz ∧ unev K L R Z n ∧ PL n = nI p) → ∃ i, i < ns ∧ unevS ML MR W (64 * m) i ∧ MP (64 * m + i) = nI p := fun Z W hZ p _ hn => by
    obtain ⟨n, h1, ⟨h2, h3⟩, h4⟩ := hn
    obtain ⟨i, i1, i2, i3, i4⟩ := hS.2.2 n h1 h2
    refine ⟨i, i1, fun y => h3 ((same Z W hZ n h1 h2).mpr (by rw [i2, i3] at y; exact y)), by rw [i4, h4]⟩
  have bwd : ∀ (Z W : Nat → Int32), (∀ j, j < sz → Z j = W j) → ∀ p, p < 60 → (∃ i, i < ns ∧ unevS ML MR W (64 * m) i ∧ MP (64 * m + i) = nI p) → ∃ q, q ≤ p ∧ q < 60 ∧ ∃ n, n < sz ∧ unev K L R Z n ∧ PL n = nI q := fun Z W hZ p hp60 hi => by
    obtain ⟨i, i1, i2, i3⟩ := hi
    obtain ⟨n, p1, q1, h1, h2, h3, h4, h5, h6, h7, h8⟩ := hS.2.1 i i1
    have : q1 = p := (nI_eq (by omega) (by omega)).mp (h6.symm.trans i3)
    exact ⟨p1, by omega, by omega, n, h1, ⟨h2, fun y => i2 (by rw [h3, h4]; exact (same Z W hZ n h1 h2).mp y)⟩, h5⟩
  have er : r = r2 := isMin_eq m1 m3 (fun p hp => by
    obtain ⟨h0, hp⟩ := hp
    rcases hp with hp | hp
    · exact Or.inl (Or.inr ⟨h0, fwd _ _ ag1 p h0 hp⟩)
    · exact Or.inr ⟨h0, fwd _ _ ag2 p h0 hp⟩) (fun p hp => by
    rcases hp with (hp | ⟨h0, hp⟩) | ⟨h0, hp⟩
    · exact absurd hp id
    · obtain ⟨q, q1, q2, q3⟩ := bwd _ _ ag1 p h0 hp
      exact ⟨q, q1, q2, Or.inl q3⟩
    · obtain ⟨q, q1, q2, q3⟩ := bwd _ _ ag2 p h0 hp
      exact ⟨q, q1, q2, Or.inr q3⟩)
  refine ⟨r, X2, _, e1, by rw [er]; exact e4, ?_⟩
  rcases m1 with ⟨h1, -⟩ | ⟨p, h1, h2, -⟩
  · exact Or.inl h1
  · exact Or.inr ⟨p, h1, h2⟩
