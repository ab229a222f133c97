/-! ===== a line that is typed makes a model ===== -/
section IS
variable {K9 : Int32 → OBk → (Nat → Int32) → Prop} {d w : Nat → Int32}
theorem bad_0 : badLn 0 (fun _ => 0) := ln_bad (Or.inl (show (0 : Nat) < 48 by decide)) (show (0 : Nat) < 97 by decide) (show (0 : Nat) ≠ 45 by decide) (show (0 : Nat) ≠ 40 by decide)
theorem bad_1 : badLn (0 + 0 + 1) (cdAp (0 + 0) (cdAp 0 (fun _ => 0) 0 0) 42 1) := by
  have e : cdAp (0 + 0) (cdAp 0 (fun _ => 0) 0 0) 42 1 0 = 42 := by decide
  exact ln_bad (by rw [e]; decide) (by rw [e]; decide) (by rw [e]; decide) (by rw [e]; decide)
theorem rd_184 {c tn x : Nat} {I : TT} {cv : Nat → Nat → Int32} {va : Nat → Int64} {se : Nat → Nat → Int64} {ds fa : Nat → Int32} {mm n ln : Nat} {v2 v3 s2 s3 : Int32} (hO : OFo (mkO c I cv 0 (fun _ => 0) va se ds fa tn x)) (hm : mm < c) (hs : s2 + s3 = nI c) (n1 : 1 ≤ n) (n2 : n ≤ ln) (hl : ln ≤ 60) (h1 : d 1 = nI tn) (h2 : d 2 = -1 ∨ d 2 = nI x) (hw : ∀ i, i < 6 → w i = I 4 i)
    (hK : ∀ o' d', IV o' d' w → K9 1 o' d') : BL_isRead_184 K9 v2 v3 1 (nI ln) (nI mm) (nI n) 0 s2 s3 (mkO c I cv 0 (fun _ => 0) va se ds fa tn x) d := by
  have c8 : c ≤ 8 := hO.1
  unfold BL_isRead_184
  rw [cl0, hs]
  have f1 : ¬ nI ln ≤ 0 := nI_nle (by omega) (by omega)
  have f2 : ¬ 60 < nI ln := fun y => by
    have := (nI_ltI (a := 60) (by omega) (by omega)).mp y
    omega
  have f3 : ¬ nI n ≤ 0 := nI_nle (by omega) (by omega)
  have f4 : ¬ nI ln < nI n := fun y => by
    have := (nI_ltI (by omega) (by omega)).mp y
    omega
  have kk : OFo (mkO c I cv 0 (fun _ => 0) va se ds fa tn x) → K9 1 (mkO c I cv 0 (fun _ => 0) va se ds fa tn x) (upd d 0 (nI c)) := fun q => hK _ _ ⟨q, pk_us, h1, h2, hw, rfl⟩
  refine ⟨vi0, ⟨mm, hm, rfl, if_f n10 (if_f f1 (if_f f2 (if_f f3 (if_f f4 ⟨0, 0, by decide, rfl, z_ok.1, z_ok.2, show 0 + 0 ≤ 60 by omega, fun _ => if_t rfl ⟨42, 1, by decide, rfl, (sg_ok 42 (Or.inl rfl)).1, (sg_ok 42 (Or.inl rfl)).2.1, show 0 + 0 + 1 ≤ 60 by omega, fun _ => if_t rfl ⟨mm, by omega, Nat.le_of_lt hm, rfl, Or.inr ⟨bad_1, fun hO3 => if_t rfl ⟨mm, hm, rfl, if_t ((lg_cmp_eq _ _).mpr rfl) ⟨vi0, ?_⟩⟩⟩⟩⟩⟩))))⟩⟩
  have e : upd d 0 (nI c) 0 = nI c := pk_us
  by_cases z : c = 8
  · refine if_t ?_ ⟨rfl, kk hO3⟩
    rw [e, z]
    rfl
  · refine if_f (fun y => ?_) ⟨vi0, ⟨c, by omega, Nat.le_refl _, e, Or.inr ⟨bad_0, fun hO4 => if_t rfl ⟨rfl, kk hO4⟩⟩⟩⟩
    rw [e] at y
    exact z ((nI_eq (b := 8) (by omega) (by omega)).mp y)
theorem rd_119 {o : OBk} (hI : IV o d w) {b P ln : Nat} {cd : Nat → Nat} (hb : b < 2 ^ 31) (hP1 : 1 ≤ P) (hP : P ≤ 5) (hL : LnI P ln cd) {v2 : Int32} (hK : ∀ o' d', IV o' d' w → K9 1 o' d') : BL_isRead_119 K9 v2 (nI b) 1 (oL o ln cd) d := by
  obtain ⟨hO, h0, h1, h2, hw, -⟩ := hI
  have c8 : oc o ≤ 8 := hO.1
  obtain ⟨l8, hL⟩ := hL
  obtain ⟨m, p, ep, a1, a2⟩ : ∃ m p, p + 1 = P ∧ PcAt cd 0 m ∧ RmS cd p m ln := by
    rcases hL with ⟨q, -⟩ | q
    · omega
    · exact q
  have ml := RmS_le a2
  have mlt := PcAt_lt a1
  have okl : okLn (ln + 0) (cdAp ln cd 0 0) := ln_ok (show p < 60 by omega) (PcAt_cg a1 (fun i hi => cdAp_lo (by omega))) (RmS_cg a2 (fun i hi => cdAp_lo hi))
  have m157 : ∀ mm, mm < 8 → mm ≤ oc o → BL_isRead_157 K9 v2 (nI b) 1 (nI (ln + 0)) (nI mm) (oL o (ln + 0) (cdAp ln cd 0 0)) d := fun mm m8 mle => by
    unfold BL_isRead_157
    rw [cl0, h0]
    refine ⟨mm, m8, mle, rfl, Or.inl ⟨okl, fun n va se ds fa n1 n2 hO2 => ⟨vi0, ⟨vi0, ?_⟩⟩⟩⟩
    by_cases e : mm = oc o
    · rw [if_pos e] at hO2 ⊢
      refine if_t (by rw [e]) (rd_184 hO2 (show mm < oc o + 1 by omega) ?_ n1 n2 (by omega) h1 h2 hw hK)
      rw [nI_1]
    · rw [if_neg e] at hO2 ⊢
      refine if_f (fun y => e ((nI_eq (by omega) (by omega)).mp y)) (rd_184 hO2 (show mm < oc o by omega) ?_ n1 n2 (by omega) h1 h2 hw hK)
      rw [Int32.add_zero]
  have m146 : oc o < 8 → BL_isRead_146 K9 v2 (nI b) 1 (nI (ln + 0)) (oL o (ln + 0) (cdAp ln cd 0 0)) d := fun q => by
    unfold BL_isRead_146
    rw [cl0, h0]
    exact ⟨vi0, m157 _ q (Nat.le_refl _)⟩
  have m152 : ¬ oc o = 0 → BL_isRead_152 K9 v2 (nI b) 1 (nI (ln + 0)) (oL o (ln + 0) (cdAp ln cd 0 0)) d := fun q => by
    have l := Nat.mod_lt b (show 0 < oc o by omega)
    unfold BL_isRead_152
    rw [cl0, h0, jr_n hb (oc o) (by omega) (by omega)]
    exact ⟨vi0, ⟨nI_ne0 (by omega) (by omega), m157 _ (by omega) (by omega)⟩⟩
  unfold BL_isRead_119
  rw [cl0, h0]
  refine ⟨0, 0, by decide, rfl, z_ok.1, z_ok.2, show ln + 0 ≤ 60 by omega, fun _ => ⟨vi0, ?_⟩⟩
  by_cases z : oc o = 0
  · exact if_t (by rw [z]; rfl) (m146 (by omega))
  · refine if_f (fun y => z ((nI_eq (b := 0) (by omega) (by omega)).mp y)) ⟨vi0, ?_⟩
    by_cases z8 : 8 ≤ oc o
    · exact if_t ((nI_leI (a := 8) (by omega) (by omega)).mpr z8) (m152 z)
    · refine if_f (fun y => z8 ((nI_leI (a := 8) (by omega) (by omega)).mp y)) ?_
      by_cases z3 : jrem (nI b) 3 ≤ 0
      · exact if_t z3 (m152 z)
      · exact if_f z3 (m146 (by omega))
theorem isRead_ok {o : OBk} (hI : IV o d w) {a b : Nat} (ha : a < 2 ^ 31) (hb : b < 2 ^ 31) (hK : ∀ o' d', IV o' d' w → K9 1 o' d') : wL_isRead (nI a) (nI b) o d K9 := by
  have l5 := Nat.mod_lt a (show 0 < 5 by omega)
  have e5 : (1 : Int32) + jrem (nI a) 5 = nI (1 + a % 5) := by
    rw [show jrem (nI a) 5 = nI (a % 5) from jr_n ha 5 (by omega) (by omega), show (1 : Int32) = nI 1 from rfl, nI_add]
  have hl : oln o = 0 := hI.2.2.2.2.2
  unfold wL_isRead
  rw [e5]
  exact ir_loop (o := o) ha hb (show 1 + a % 5 ≤ 5 by omega) (fun ln cd hL _ => rd_119 hI hb (by omega) (by omega) hL hK) 1000 0 (oln o) (ocd o) (by omega) (by omega) ⟨by omega, Or.inl ⟨rfl, hl⟩⟩ hI.1
end IS
