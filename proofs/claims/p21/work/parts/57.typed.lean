/-! ===== a model is typed and read ===== -/
theorem bytes_ok {n c : Nat} (hc : c ≤ 8) (h : ∀ i, i < 8 → (i < c → 32 ≤ byteN n i ∧ byteN n i ≤ 126) ∧ (c ≤ i → byteN n i = 0)) : fstZ n c ∧ okSigns n c := by
  refine ⟨⟨hc, fun q => (h c q).2 (Nat.le_refl _), fun j hj q => ?_⟩, fun i hi => (h i (by omega)).1 hi, fun j h1 h2 => (h j h2).2 h1⟩
  have := ((h j (by omega)).1 hj).1
  omega
/-- eight bytes, of which the first c are signs -/
abbrev bt (n : Nat) (b0 b1 b2 b3 b4 b5 b6 : Nat) : Prop := byteN n 0 = b0 ∧ byteN n 1 = b1 ∧ byteN n 2 = b2 ∧ byteN n 3 = b3 ∧ byteN n 4 = b4 ∧ byteN n 5 = b5 ∧ byteN n 6 = b6 ∧ byteN n 7 = 0
theorem bt_ok {n c b0 b1 b2 b3 b4 b5 b6 : Nat} (hc : c ≤ 7) (h : bt n b0 b1 b2 b3 b4 b5 b6) (hb : ∀ i, i < 7 → (i < c → 32 ≤ [b0, b1, b2, b3, b4, b5, b6].getD i 0 ∧ [b0, b1, b2, b3, b4, b5, b6].getD i 0 ≤ 126) ∧ (c ≤ i → [b0, b1, b2, b3, b4, b5, b6].getD i 0 = 0)) : fstZ n c ∧ okSigns n c := by
  obtain ⟨h0, h1, h2, h3, h4, h5, h6, h7⟩ := h
  refine bytes_ok (by omega) (fun i hi => ?_)
  rcases (show i = 0 ∨ i = 1 ∨ i = 2 ∨ i = 3 ∨ i = 4 ∨ i = 5 ∨ i = 6 ∨ i = 7 by omega) with rfl | rfl | rfl | rfl | rfl | rfl | rfl | rfl
  · rw [h0]; exact hb 0 (by omega)
  · rw [h1]; exact hb 1 (by omega)
  · rw [h2]; exact hb 2 (by omega)
  · rw [h3]; exact hb 3 (by omega)
  · rw [h4]; exact hb 4 (by omega)
  · rw [h5]; exact hb 5 (by omega)
  · rw [h6]; exact hb 6 (by omega)
  · exact ⟨fun q => by omega, fun _ => h7⟩
theorem pt0 : ∀ x, x < 6 → ((97 : Int32) + nI x).toInt64 = lN (97 + x) ∧ bt (97 + x) (97 + x) 0 0 0 0 0 0 := by decide +kernel
theorem pt1 : ∀ x, x < 10 → ∀ y, y < 10 → (((48 : Int32) + nI x) ||| (((48 : Int32) + nI y) <<< ((8 : Int32) &&& 31))).toInt64 = lN (48 + x + (48 + y) * 256) ∧ bt (48 + x + (48 + y) * 256) (48 + x) (48 + y) 0 0 0 0 0 := by decide +kernel
theorem pt2 : ∀ x, x < 6 → ∀ y, y < 6 → (((((40 : Int64) ||| (jlshl (((97 : Int32) + nI x).toInt64) 8)) ||| 2818048) ||| (jlshl (((97 : Int32) + nI y).toInt64) 24)) ||| 176093659136) = lN (40 + (97 + x) * 2 ^ 8 + 43 * 2 ^ 16 + (97 + y) * 2 ^ 24 + 41 * 2 ^ 32) ∧ bt (40 + (97 + x) * 2 ^ 8 + 43 * 2 ^ 16 + (97 + y) * 2 ^ 24 + 41 * 2 ^ 32) 40 (97 + x) 43 (97 + y) 41 0 0 := by decide +kernel
theorem pt3a : ∀ x, x < 6 → ∀ y, y < 6 → ∀ z, z < 5 → ((((((40 : Int64) ||| (jlshl (((97 : Int32) + nI x).toInt64) 8)) ||| 2949120) ||| (jlshl (((97 : Int32) + nI y).toInt64) 24)) ||| 176093659136) ||| 103354093010944) ||| (jlshl (((48 : Int32) + nI z).toInt64) 48) = lN (40 + (97 + x) * 2 ^ 8 + 45 * 2 ^ 16 + (97 + y) * 2 ^ 24 + 41 * 2 ^ 32 + 94 * 2 ^ 40 + (48 + z) * 2 ^ 48) := by decide +kernel
theorem pt3b : ∀ x, x < 6 → ∀ y, y < 6 → ∀ z, z < 5 → bt (40 + (97 + x) * 2 ^ 8 + 45 * 2 ^ 16 + (97 + y) * 2 ^ 24 + 41 * 2 ^ 32 + 94 * 2 ^ 40 + (48 + z) * 2 ^ 48) 40 (97 + x) 45 (97 + y) 41 94 (48 + z) := by decide +kernel
theorem pt3 : ∀ x, x < 6 → ∀ y, y < 6 → ∀ z, z < 5 → ((((((40 : Int64) ||| (jlshl (((97 : Int32) + nI x).toInt64) 8)) ||| 2949120) ||| (jlshl (((97 : Int32) + nI y).toInt64) 24)) ||| 176093659136) ||| 103354093010944) ||| (jlshl (((48 : Int32) + nI z).toInt64) 48) = lN (40 + (97 + x) * 2 ^ 8 + 45 * 2 ^ 16 + (97 + y) * 2 ^ 24 + 41 * 2 ^ 32 + 94 * 2 ^ 40 + (48 + z) * 2 ^ 48) ∧ bt (40 + (97 + x) * 2 ^ 8 + 45 * 2 ^ 16 + (97 + y) * 2 ^ 24 + 41 * 2 ^ 32 + 94 * 2 ^ 40 + (48 + z) * 2 ^ 48) 40 (97 + x) 45 (97 + y) 41 94 (48 + z) := fun x hx y hy z hz => ⟨pt3a x hx y hy z hz, pt3b x hx y hy z hz⟩
theorem pt4 : ∀ x, x < 6 → ∀ z, z < 5 → (((45 : Int64) ||| (jlshl (((97 : Int32) + nI x).toInt64) 8)) ||| 6160384) ||| (jlshl (((48 : Int32) + nI z).toInt64) 24) = lN (45 + (97 + x) * 2 ^ 8 + 94 * 2 ^ 16 + (48 + z) * 2 ^ 24) ∧ bt (45 + (97 + x) * 2 ^ 8 + 94 * 2 ^ 16 + (48 + z) * 2 ^ 24) 45 (97 + x) 94 (48 + z) 0 0 0 := by decide +kernel
theorem pt5 : ∀ x, x < 6 → ∀ z, z < 5 → (((97 : Int32) + nI x).toInt64 ||| 24064) ||| (jlshl (((48 : Int32) + nI z).toInt64) 16) = lN (97 + x + 94 * 2 ^ 8 + (48 + z) * 2 ^ 16) ∧ bt (97 + x + 94 * 2 ^ 8 + (48 + z) * 2 ^ 16) (97 + x) 94 (48 + z) 0 0 0 0 := by decide +kernel
/-- what the law writes as a part -/
theorem part_ok {A B : Nat} (hA : A < 2 ^ 31) (hB : B < 2 ^ 31) : ∃ n c, fL_part (nI A) (nI B) = some (lN n) ∧ n < 2 ^ 64 ∧ fstZ n c ∧ okSigns n c ∧ 1 ≤ c ∧ c ≤ 7 ∧ PcAt (byteN n) 0 c := by
  have ex : jrem (nI A) 6 = nI (A % 6) := jr_n hA 6 (by omega) (by omega)
  have ey : jrem (nI B) 6 = nI (B % 6) := jr_n hB 6 (by omega) (by omega)
  have et : jrem (nI A / 6) 6 = nI (A / 6 % 6) := by
    rw [show nI A / 6 = nI (A / 6) from dv_n hA 6 (by omega) (by omega)]
    exact jr_n (by omega) 6 (by omega) (by omega)
  have ez : jrem (nI B / 6) 5 = nI (B / 6 % 5) := by
    rw [show nI B / 6 = nI (B / 6) from dv_n hB 6 (by omega) (by omega)]
    exact jr_n (by omega) 5 (by omega) (by omega)
  have e1 : jrem (nI B) 10 = nI (B % 10) := jr_n hB 10 (by omega) (by omega)
  have e2 : jrem (nI B / 10) 10 = nI (B / 10 % 10) := by
    rw [show nI B / 10 = nI (B / 10) from dv_n hB 10 (by omega) (by omega)]
    exact jr_n (by omega) 10 (by omega) (by omega)
  have lx := Nat.mod_lt A (show 0 < 6 by omega)
  have ly := Nat.mod_lt B (show 0 < 6 by omega)
  have lt := Nat.mod_lt (A / 6) (show 0 < 6 by omega)
  have lz := Nat.mod_lt (B / 6) (show 0 < 5 by omega)
  have l1 := Nat.mod_lt B (show 0 < 10 by omega)
  have l2 := Nat.mod_lt (B / 10) (show 0 < 10 by omega)
  unfold fL_part
  rw [ex, ey, et, ez, e1, e2]
  generalize A % 6 = x at lx
  generalize B % 6 = y at ly
  generalize A / 6 % 6 = t at lt
  generalize B / 6 % 5 = z at lz
  generalize B % 10 = u at l1
  generalize B / 10 % 10 = v at l2
  have sm : ∀ {b0 b1 b2 b3 b4 b5 b6 c : Nat}, c ≤ 7 → (∀ i, i < 7 → (i < c → 32 ≤ [b0, b1, b2, b3, b4, b5, b6].getD i 0 ∧ [b0, b1, b2, b3, b4, b5, b6].getD i 0 ≤ 126) ∧ (c ≤ i → [b0, b1, b2, b3, b4, b5, b6].getD i 0 = 0)) → (∀ i, i < 7 → (i < c → 32 ≤ [b0, b1, b2, b3, b4, b5, b6].getD i 0 ∧ [b0, b1, b2, b3, b4, b5, b6].getD i 0 ≤ 126) ∧ (c ≤ i → [b0, b1, b2, b3, b4, b5, b6].getD i 0 = 0)) := fun _ h => h
  have c7 : ∀ i, i < 7 → i = 0 ∨ i = 1 ∨ i = 2 ∨ i = 3 ∨ i = 4 ∨ i = 5 ∨ i = 6 := fun i hi => by omega
  rcases (show t = 0 ∨ t = 1 ∨ t = 2 ∨ t = 3 ∨ t = 4 ∨ t = 5 by omega) with rfl | rfl | rfl | rfl | rfl | rfl
  · obtain ⟨p1, p2⟩ := pt0 x lx
    obtain ⟨q1, q2⟩ := bt_ok (c := 1) (by omega) p2 (fun i hi => by rcases c7 i hi with rfl | rfl | rfl | rfl | rfl | rfl | rfl <;> simp <;> omega)
    rw [if_pos (by decide), p1]
    obtain ⟨b0, b1, b2, b3, b4, b5, b6, b7⟩ := p2
    refine ⟨_, 1, rfl, by omega, q1, q2, by omega, by omega, Or.inl ⟨?_, rfl⟩⟩
    unfold isNm
    omega
  · obtain ⟨p1, p2⟩ := pt1 u l1 v l2
    obtain ⟨q1, q2⟩ := bt_ok (c := 2) (by omega) p2 (fun i hi => by rcases c7 i hi with rfl | rfl | rfl | rfl | rfl | rfl | rfl <;> simp <;> omega)
    rw [if_neg (by decide), if_pos (by decide), p1]
    obtain ⟨b0, b1, b2, b3, b4, b5, b6, b7⟩ := p2
    refine ⟨_, 2, rfl, by omega, q1, q2, by omega, by omega, Or.inr (Or.inl ⟨?_, ?_, rfl⟩)⟩
    · unfold isD
      omega
    · unfold isD
      simp only [Nat.zero_add]
      omega
  · obtain ⟨p1, p2⟩ := pt2 x lx y ly
    obtain ⟨q1, q2⟩ := bt_ok (c := 5) (by omega) p2 (fun i hi => by rcases c7 i hi with rfl | rfl | rfl | rfl | rfl | rfl | rfl <;> simp <;> omega)
    rw [if_neg (by decide), if_neg (by decide), if_pos (by decide), p1]
    obtain ⟨b0, b1, b2, b3, b4, b5, b6, b7⟩ := p2
    refine ⟨_, 5, rfl, by omega, q1, q2, by omega, by omega, Or.inr (Or.inr (Or.inl ⟨b0, ?_, Or.inl b2, ?_, b4, Or.inl rfl⟩))⟩
    · unfold isNm
      simp only [Nat.zero_add]
      omega
    · unfold isNm
      simp only [Nat.zero_add]
      omega
  · obtain ⟨p1, p2⟩ := pt3 x lx y ly z lz
    obtain ⟨q1, q2⟩ := bt_ok (c := 7) (by omega) p2 (fun i hi => by rcases c7 i hi with rfl | rfl | rfl | rfl | rfl | rfl | rfl <;> simp <;> omega)
    rw [if_neg (by decide), if_neg (by decide), if_neg (by decide), if_pos (by decide), p1]
    obtain ⟨b0, b1, b2, b3, b4, b5, b6, b7⟩ := p2
    refine ⟨_, 7, rfl, by omega, q1, q2, by omega, by omega, Or.inr (Or.inr (Or.inl ⟨b0, ?_, Or.inr b2, ?_, b4, Or.inr ⟨b5, ?_, rfl⟩⟩))⟩
    · unfold isNm
      simp only [Nat.zero_add]
      omega
    · unfold isNm
      simp only [Nat.zero_add]
      omega
    · unfold is04
      simp only [Nat.zero_add]
      omega
  · obtain ⟨p1, p2⟩ := pt4 x lx z lz
    obtain ⟨q1, q2⟩ := bt_ok (c := 4) (by omega) p2 (fun i hi => by rcases c7 i hi with rfl | rfl | rfl | rfl | rfl | rfl | rfl <;> simp <;> omega)
    rw [if_neg (by decide), if_neg (by decide), if_neg (by decide), if_neg (by decide), if_pos (by decide), p1]
    obtain ⟨b0, b1, b2, b3, b4, b5, b6, b7⟩ := p2
    refine ⟨_, 4, rfl, by omega, q1, q2, by omega, by omega, Or.inr (Or.inr (Or.inr (Or.inl ⟨b0, ?_, b2, ?_, rfl⟩)))⟩
    · unfold isNm
      simp only [Nat.zero_add]
      omega
    · unfold is04
      simp only [Nat.zero_add]
      omega
  · obtain ⟨p1, p2⟩ := pt5 x lx z lz
    obtain ⟨q1, q2⟩ := bt_ok (c := 3) (by omega) p2 (fun i hi => by rcases c7 i hi with rfl | rfl | rfl | rfl | rfl | rfl | rfl <;> simp <;> omega)
    rw [if_neg (by decide), if_neg (by decide), if_neg (by decide), if_neg (by decide), if_neg (by decide), p1]
    obtain ⟨b0, b1, b2, b3, b4, b5, b6, b7⟩ := p2
    refine ⟨_, 3, rfl, by omega, q1, q2, by omega, by omega, Or.inr (Or.inr (Or.inr (Or.inr ⟨?_, b1, ?_, rfl⟩)))⟩
    · unfold isNm
      omega
    · unfold is04
      simp only [Nat.zero_add]
      omega
theorem PcAt_sh {f g : Nat → Nat} {a c : Nat} (h : PcAt f 0 c) (e : ∀ i, i < c → g (a + i) = f i) : PcAt g a (a + c) := by
  unfold PcAt at *
  simp only [Nat.zero_add] at h
  rcases h with ⟨h1, rfl⟩ | ⟨h1, h2, rfl⟩ | ⟨h1, h2, h3, h4, h5, rfl | ⟨h6, h7, rfl⟩⟩ | ⟨h1, h2, h3, h4, rfl⟩ | ⟨h1, h2, h3, rfl⟩
  · have e0 := e 0 (by omega)
    rw [Nat.add_zero] at e0
    exact Or.inl ⟨by rw [e0]; exact h1, rfl⟩
  · have e0 := e 0 (by omega)
    rw [Nat.add_zero] at e0
    exact Or.inr (Or.inl ⟨by rw [e0]; exact h1, by rw [e 1 (by omega)]; exact h2, rfl⟩)
  · have e0 := e 0 (by omega)
    rw [Nat.add_zero] at e0
    exact Or.inr (Or.inr (Or.inl ⟨by rw [e0]; exact h1, by rw [e 1 (by omega)]; exact h2, by rw [e 2 (by omega)]; exact h3, by rw [e 3 (by omega)]; exact h4, by rw [e 4 (by omega)]; exact h5, Or.inl rfl⟩))
  · have e0 := e 0 (by omega)
    rw [Nat.add_zero] at e0
    exact Or.inr (Or.inr (Or.inl ⟨by rw [e0]; exact h1, by rw [e 1 (by omega)]; exact h2, by rw [e 2 (by omega)]; exact h3, by rw [e 3 (by omega)]; exact h4, by rw [e 4 (by omega)]; exact h5, Or.inr ⟨by rw [e 5 (by omega)]; exact h6, by rw [e 6 (by omega)]; exact h7, rfl⟩⟩))
  · have e0 := e 0 (by omega)
    rw [Nat.add_zero] at e0
    exact Or.inr (Or.inr (Or.inr (Or.inl ⟨by rw [e0]; exact h1, by rw [e 1 (by omega)]; exact h2, by rw [e 2 (by omega)]; exact h3, by rw [e 3 (by omega)]; exact h4, rfl⟩)))
  · have e0 := e 0 (by omega)
    rw [Nat.add_zero] at e0
    exact Or.inr (Or.inr (Or.inr (Or.inr ⟨by rw [e0]; exact h1, by rw [e 1 (by omega)]; exact h2, by rw [e 2 (by omega)]; exact h3, rfl⟩)))
theorem PcAt_cg {f g : Nat → Nat} {a e : Nat} (h : PcAt f a e) (he : ∀ i, i < e → g i = f i) : PcAt g a e := by
  unfold PcAt at *
  rcases h with ⟨h1, rfl⟩ | ⟨h1, h2, rfl⟩ | ⟨h1, h2, h3, h4, h5, rfl | ⟨h6, h7, rfl⟩⟩ | ⟨h1, h2, h3, h4, rfl⟩ | ⟨h1, h2, h3, rfl⟩
  · exact Or.inl ⟨by rw [he _ (by omega)]; exact h1, rfl⟩
  · exact Or.inr (Or.inl ⟨by rw [he _ (by omega)]; exact h1, by rw [he _ (by omega)]; exact h2, rfl⟩)
  · exact Or.inr (Or.inr (Or.inl ⟨by rw [he _ (by omega)]; exact h1, by rw [he _ (by omega)]; exact h2, by rw [he _ (by omega)]; exact h3, by rw [he _ (by omega)]; exact h4, by rw [he _ (by omega)]; exact h5, Or.inl rfl⟩))
  · exact Or.inr (Or.inr (Or.inl ⟨by rw [he _ (by omega)]; exact h1, by rw [he _ (by omega)]; exact h2, by rw [he _ (by omega)]; exact h3, by rw [he _ (by omega)]; exact h4, by rw [he _ (by omega)]; exact h5, Or.inr ⟨by rw [he _ (by omega)]; exact h6, by rw [he _ (by omega)]; exact h7, rfl⟩⟩))
  · exact Or.inr (Or.inr (Or.inr (Or.inl ⟨by rw [he _ (by omega)]; exact h1, by rw [he _ (by omega)]; exact h2, by rw [he _ (by omega)]; exact h3, by rw [he _ (by omega)]; exact h4, rfl⟩)))
  · exact Or.inr (Or.inr (Or.inr (Or.inr ⟨by rw [he _ (by omega)]; exact h1, by rw [he _ (by omega)]; exact h2, by rw [he _ (by omega)]; exact h3, rfl⟩)))
theorem RmS_cg {f g : Nat → Nat} : ∀ {p m e : Nat}, RmS f p m e → (∀ i, i < e → g i = f i) → RmS g p m e
  | 0, _, _, h, _ => h
  | p + 1, m, e, ⟨h1, m', h2, h3⟩, he => by
    have l1 := RmS_le h3
    have l2 := PcAt_lt h2
    exact ⟨by rw [he m (by omega)]; exact h1, m', PcAt_cg h2 (fun i hi => he i (by omega)), RmS_cg h3 he⟩
theorem RmS_sn {f : Nat → Nat} : ∀ {p m l e : Nat}, RmS f p m l → isOp (f l) → PcAt f (l + 1) e → RmS f (p + 1) m e
  | 0, m, l, e, h, h1, h2 => by
    have h : m = l := h
    subst h
    exact ⟨h1, e, h2, rfl⟩
  | p + 1, m, l, e, ⟨g1, m', g2, g3⟩, h1, h2 => ⟨g1, m', g2, RmS_sn g3 h1 h2⟩
/-- the line behind k parts -/
def LnI (k ln : Nat) (cd : Nat → Nat) : Prop := ln ≤ 8 * k ∧ ((k = 0 ∧ ln = 0) ∨ ∃ m p, p + 1 = k ∧ PcAt cd 0 m ∧ RmS cd p m ln)
theorem cdAp_lo {ln : Nat} {cd : Nat → Nat} {n c i : Nat} (h : i < ln) : cdAp ln cd n c i = cd i := if_pos h
theorem cdAp_hi {ln : Nat} {cd : Nat → Nat} {n c i : Nat} (h : i < c) : cdAp ln cd n c (ln + i) = byteN n i := by
  unfold cdAp
  rw [if_neg (by omega), if_pos (by omega), show ln + i - ln = i by omega]
theorem LnI_0 {ln : Nat} {cd : Nat → Nat} {n c : Nat} (h : LnI 0 ln cd) (hp : PcAt (byteN n) 0 c) (hc : c ≤ 7) : LnI 1 (ln + c) (cdAp ln cd n c) := by
  obtain ⟨h1, h2⟩ := h
  have : ln = 0 := by omega
  subst this
  refine ⟨by omega, Or.inr ⟨0 + c, 0, rfl, PcAt_sh hp (fun i hi => cdAp_hi hi), rfl⟩⟩
theorem LnI_S {k ln : Nat} {cd : Nat → Nat} {s n c : Nat} (h : LnI (k + 1) ln cd) (hs : isOp (byteN s 0)) (hp : PcAt (byteN n) 0 c) (hc : c ≤ 7) : LnI (k + 2) (ln + 1 + c) (cdAp (ln + 1) (cdAp ln cd s 1) n c) := by
  obtain ⟨h1, h2⟩ := h
  rcases h2 with ⟨h2, -⟩ | ⟨m, p, e, a1, a2⟩
  · omega
  · have lo : ∀ i, i < ln → cdAp (ln + 1) (cdAp ln cd s 1) n c i = cd i := fun i hi => by rw [cdAp_lo (by omega), cdAp_lo hi]
    have op : cdAp (ln + 1) (cdAp ln cd s 1) n c ln = byteN s 0 := by
      rw [cdAp_lo (by omega)]
      have := cdAp_hi (ln := ln) (cd := cd) (n := s) (c := 1) (i := 0) (by omega)
      rw [Nat.add_zero] at this
      exact this
    have ml := RmS_le a2
    exact ⟨by omega, Or.inr ⟨m, p + 1, by omega, PcAt_cg a1 (fun i hi => lo i (by omega)), RmS_sn (RmS_cg a2 lo) (by rw [op]; exact hs) (PcAt_sh hp (fun i hi => cdAp_hi hi))⟩⟩
/-- what is seen, with another line -/
abbrev oL (o : OBk) (ln : Nat) (cd : Nat → Nat) : OBk := mkO (oc o) (oI o) (ocv o) ln cd (ova o) (ose o) (ods o) (ofa o) (otn o) (ox o)
theorem sg_ok : ∀ s, s = 42 ∨ s = 43 ∨ s = 45 → fstZ s 1 ∧ okSigns s 1 ∧ isOp (byteN s 0) := fun s hs => by
  have key : bt 42 42 0 0 0 0 0 0 ∧ bt 43 43 0 0 0 0 0 0 ∧ bt 45 45 0 0 0 0 0 0 := by decide +kernel
  have c7 : ∀ i, i < 7 → i = 0 ∨ i = 1 ∨ i = 2 ∨ i = 3 ∨ i = 4 ∨ i = 5 ∨ i = 6 := fun i hi => by omega
  rcases hs with rfl | rfl | rfl
  · obtain ⟨q1, q2⟩ := bt_ok (c := 1) (by omega) key.1 (fun i hi => by rcases c7 i hi with rfl | rfl | rfl | rfl | rfl | rfl | rfl <;> simp)
    exact ⟨q1, q2, Or.inl key.1.1⟩
  · obtain ⟨q1, q2⟩ := bt_ok (c := 1) (by omega) key.2.1 (fun i hi => by rcases c7 i hi with rfl | rfl | rfl | rfl | rfl | rfl | rfl <;> simp)
    exact ⟨q1, q2, Or.inr (Or.inl key.2.1.1)⟩
  · obtain ⟨q1, q2⟩ := bt_ok (c := 1) (by omega) key.2.2 (fun i hi => by rcases c7 i hi with rfl | rfl | rfl | rfl | rfl | rfl | rfl <;> simp)
    exact ⟨q1, q2, Or.inr (Or.inr key.2.2.1)⟩
theorem z_ok : fstZ 0 0 ∧ okSigns 0 0 := bytes_ok (by omega) (fun i _ => ⟨fun q => absurd q (Nat.not_lt_zero _), fun _ => by unfold byteN; simp⟩)
section IR
variable {K9 : Int32 → OBk → (Nat → Int32) → Prop} {o : OBk} {d : Nat → Int32}
theorem ir_75 {a b k ln : Nat} (ha : a < 2 ^ 31) (hb : b < 2 ^ 31) (hk : k ≤ 4) {cd : Nat → Nat} (hl : ln ≤ 50) {E : Int32 → OBk → (Nat → Int32) → Prop} {K : Int32 → Int32 → Int32 → OBk → (Nat → Int32) → Prop} {v4 : Int32}
    (hK : ∀ n c, 1 ≤ c → c ≤ 7 → PcAt (byteN n) 0 c → OFo (oL o (ln + c) (cdAp ln cd n c)) → K v4 1 (nI (k + 1)) (oL o (ln + c) (cdAp ln cd n c)) d) : BL_isRead_75 K9 (nI a) (nI b) K E v4 (nI k) (oL o ln cd) d := by
  unfold BL_isRead_75
  have e2 : nI k + 2 = nI (k + 2) := by rw [show (2 : Int32) = nI 2 from rfl, nI_add]
  have e7 : (7 : Int32) * nI k = nI (7 * k) := by rw [show (7 : Int32) = nI 7 from rfl, pk_mul]
  have bA : a / (k + 2) + 7 * k < 2 ^ 31 := by
    rcases (show k = 0 ∨ k = 1 ∨ k = 2 ∨ k = 3 ∨ k = 4 by omega) with rfl | rfl | rfl | rfl | rfl <;> omega
  have bB : b / (k + 1) + k < 2 ^ 31 := by
    rcases (show k = 0 ∨ k = 1 ∨ k = 2 ∨ k = 3 ∨ k = 4 by omega) with rfl | rfl | rfl | rfl | rfl <;> omega
  obtain ⟨n, c, p1, p2, p3, p4, p5, p6, p7⟩ := part_ok bA bB
  rw [e2, nI_1, dv_n ha (k + 2) (by omega) (by omega), dv_n hb (k + 1) (by omega) (by omega), e7, nI_add, nI_add]
  refine ⟨nI_ne0 (by omega) (by omega), ⟨nI_ne0 (by omega) (by omega), ⟨_, p1, ⟨n, c, p2, rfl, p3, p4, show ln + c ≤ 60 by omega, fun hO => ?_⟩⟩⟩⟩
  exact if_f (show ¬ nI (ln + c) ≤ 0 from nI_nle (by omega) (by omega)) (hK n c p5 p6 p7 hO)
theorem ir_loop {a b P : Nat} (ha : a < 2 ^ 31) (hb : b < 2 ^ 31) (hP : P ≤ 5) {E : Int32 → OBk → (Nat → Int32) → Prop} (hE : ∀ ln cd, LnI P ln cd → OFo (oL o ln cd) → E 1 (oL o ln cd) d) : ∀ (f k ln : Nat) (cd : Nat → Nat), k ≤ P → P - k < f → LnI k ln cd → OFo (oL o ln cd) → LL_isRead_13 K9 (nI a) (nI b) E f (nI P) 1 (nI k) (oL o ln cd) d
  | 0, k, _, _, _, q, _, _ => absurd q (Nat.not_lt_zero _)
  | f + 1, k, ln, cd, hk, q, hL, hO => by
    rw [LL_isRead_13]
    by_cases hc : P ≤ k
    · have : k = P := by omega
      subst this
      exact if_t (Int32.le_refl _) (hE ln cd hL hO)
    · refine if_f (fun y => hc ((nI_leI (by omega) (by omega)).mp y)) (if_f n10 ⟨by rw [nI_1]; exact nI_ne0 (by omega) (by omega), ?_⟩)
      have hl := hL.1
      match k, hL with
      | 0, hL =>
        refine if_t rfl ?_
        exact ir_75 ha hb (by omega) (by omega) (fun n c c1 c7 hp hO' => ir_loop ha hb hP hE f 1 _ _ (by omega) (by omega) (LnI_0 hL hp c7) hO')
      | k + 1, hL =>
        refine if_f (fun y => by have := (nI_eq (b := 0) (by omega) (by omega)).mp y; omega) ?_
        have go : ∀ s : Nat, s = 42 ∨ s = 43 ∨ s = 45 → ∀ s1 : Int64, s1 = lN s → BL_isRead_69 K9 (nI a) (nI b) (LL_isRead_13 K9 (nI a) (nI b) E f) E (nI P) (nI (k + 1)) s1 (oL o ln cd) d := fun s hs s1 e1 => by
          obtain ⟨q1, q2, q3⟩ := sg_ok s hs
          unfold BL_isRead_69
          refine ⟨s, 1, by omega, e1, q1, q2, show ln + 1 ≤ 60 by omega, fun hO1 => ?_⟩
          refine if_f (show ¬ nI (ln + 1) ≤ 0 from nI_nle (by omega) (by omega)) ?_
          exact ir_75 (o := o) (ln := ln + 1) (cd := cdAp ln cd s 1) ha hb (by omega) (by omega) (fun n c c1 c7 hp hO' => ir_loop ha hb hP hE f (k + 2) _ _ (by omega) (by omega) (LnI_S hL q3 hp c7) hO')
        by_cases c1 : jrem ((nI a / 5) / (nI (k + 1) + 1)) 3 = 0
        · exact if_t c1 (go 42 (Or.inl rfl) 42 rfl)
        · refine if_f c1 ?_
          by_cases c2 : jrem ((nI a / 5) / (nI (k + 1) + 1)) 3 = 1
          · exact if_t c2 (go 43 (Or.inr (Or.inl rfl)) 43 rfl)
          · exact if_f c2 (go 45 (Or.inr (Or.inr rfl)) 45 rfl)
end IR
