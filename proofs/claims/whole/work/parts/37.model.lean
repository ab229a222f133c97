/-! ===== the line is read into a model ===== -/
theorem gi0 {α : Type} {x : Option α} : gi 0 9 x = x := gi_n (j := 0) (by omega) (by omega)
theorem reads_B (ML : Nat → Int32) (len op pos : Int32) (t s : TT) : fX7_reads ML (t 0) (t 1) (t 2) (t 3) (t 4) (t 5) (t 6) (t 7) (s 0) (s 1) (s 2) (s 3) (s 4) len op pos = cB ML len 999 1000 (tb8 (upd (t 0) 8 0) (t 1) (t 2) (t 3) (upd (t 4) 8 0) (t 5) (t 6) (t 7)) (tb5 (upd (s 0) 0 0) (upd (s 1) 0 (-1)) (s 2) (s 3) (upd (s 4) 0 (-1))) 0 0 := by
  unfold fX7_reads
  have g0 : ∀ x : Option PO, gi 0 9 x = x := fun x => gi_n (j := 0) (by omega) (by omega)
  rw [gi8, gi8, g0, g0, g0, clamp8, show (0 : Int32).toNatClampNeg = 0 by decide]
  exact reads47_B ML len 999 (tb8 (upd (t 0) 8 0) (t 1) (t 2) (t 3) (upd (t 4) 8 0) (t 5) (t 6) (t 7)) (tb5 (upd (s 0) 0 0) (upd (s 1) 0 (-1)) (s 2) (s 3) (upd (s 4) 0 (-1))) 0 0
theorem readInto_same {L ML : Nat → Int32} {len : Nat} (hl : len ≤ 60) (hL : LineRel len L ML) (q t s : TT) (sz rt lat op pos : Int32) :
    (∃ (a : Nat) (K2 L2 R2 P2 : Nat → Int32) (sz2 op2 : Int32) (t' s' : TT), a ≤ len ∧ fX5_readInto L (nI len) lat (q 0) (q 1) (q 2) (q 3) sz rt = some (nI a, 0, nI a, K2, L2, R2, P2, sz2, 0) ∧ fX7_reads ML (t 0) (t 1) (t 2) (t 3) (t 4) (t 5) (t 6) (t 7) (s 0) (s 1) (s 2) (s 3) (s 4) (nI len) op pos = some (-1, t' 0, t' 1, t' 2, t' 3, t' 4, t' 5, t' 6, t' 7, s' 0, s' 1, s' 2, s' 3, s' 4, op2, nI a) ∧ LowZ t t') ∨
    (∃ (n ns j : Nat) (q' t' s' : TT) (op2 : Int32), fX5_readInto L (nI len) lat (q 0) (q 1) (q 2) (q 3) sz rt = some (-1, 0, nI len, q' 0, q' 1, q' 2, q' 3, nI n, nI j) ∧ fX7_reads ML (t 0) (t 1) (t 2) (t 3) (t 4) (t 5) (t 6) (t 7) (s 0) (s 1) (s 2) (s 3) (s 4) (nI len) op pos = some (nI j, t' 0, t' 1, t' 2, t' 3, t' 4, t' 5, t' 6, t' 7, s' 0, s' 1, s' 2, s' 3, s' 4, op2, nI len) ∧ Rl t q' t' n ns len ∧ j < n) := by
  obtain ⟨cd, hln⟩ := LnOK_ex hl hL
  have hS := (read_rec hln 10).2
  have low0 : LowZ t (tb8 (upd (t 0) 8 0) (t 1) (t 2) (t 3) (upd (t 4) 8 0) (t 5) (t 6) (t 7)) := ⟨fun j hj => ⟨if_neg (by omega), if_neg (by omega)⟩, fun j _ => ⟨rfl, rfl, rfl, rfl, rfl, rfl⟩⟩
  have h0 : Rl t q (tb8 (upd (t 0) 8 0) (t 1) (t 2) (t 3) (upd (t 4) 8 0) (t 5) (t 6) (t 7)) 0 0 0 := ⟨Nat.le_refl _, Nat.le_refl _, by omega, pk_us, pk_us, fun j hj => absurd hj (Nat.not_lt_zero _), fun j hj => absurd hj (Nat.not_lt_zero _), ⟨fun j hj => absurd hj (Nat.not_lt_zero _), fun j hj => absurd hj (Nat.not_lt_zero _), fun j hj => absurd hj (Nat.not_lt_zero _)⟩, low0⟩
  have r := hS t q _ (tb5 (upd (s 0) 0 0) (upd (s 1) 0 (-1)) (s 2) (s 3) (upd (s 4) 0 (-1))) 0 0 0 0 999 1000 (by omega) (by omega) h0 (by omega) (by omega) (by omega) pk_us pk_us pk_us
  rw [reads_B]
  unfold fX5_readInto fX3_clear
  rw [bnd2_s]
  rcases r with ⟨a', a1, ⟨k, l, r, p, z, y⟩, t', s', op2, a3, a4⟩ | ⟨a', n', ns', j, f', hh, v1, q', t', t2, s', a1, y, x, hv, lz, ad, f0, fr, r1, nm, n42, n43, n45, ff, h9⟩
  · left
    have y : (fRec 10).2 0 L (nI len) 0 (q 0) (q 1) (q 2) (q 3) 0 = some (-1, nI a', k, l, r, p, z) := y
    rw [y, bnd7_s, if_pos rfl, a3]
    exact ⟨a', k, l, r, p, z, op2, t', s', a1, rfl, rfl, a4⟩
  · have y : (fRec 10).2 0 L (nI len) 0 (q 0) (q 1) (q 2) (q 3) 0 = some (nI j, nI a', q' 0, q' 1, q' 2, q' 3, nI n') := y
    have rn := r1.1
    have jn := nm.2.2.2.2.1
    obtain ⟨hh, rfl⟩ : ∃ x, hh = x + 1 := ⟨hh - 1, by omega⟩
    rw [y, bnd7_s, if_neg (nI_neM1 (by omega)), x]
    by_cases e : a' = len
    · right
      subst e
      rw [if_pos rfl, cC_end hln f' hh hv]
      unfold EE
      have op0 : nI 0 = 0 := rfl
      rw [ad, bnd10_s, if_pos op0, gi0, show (0 : Int32).toNatClampNeg = 0 by decide]
      refine ⟨n', ns', j, q', t2, tb5 (s' 0) (upd (s' 1) 0 (nI j)) (s' 2) (s' 3) (upd (s' 4) 0 (-1)), nI 0, ?_, ?_, r1, jn⟩
      · unfold BX5_readInto_37 BX5_readInto_48
        rw [if_neg (show ¬ (1 : Int32) = 0 by decide), if_neg (show ¬ (1 : Int32) = 0 by decide)]
      · rw [upd_at, if_pos rfl]
        rfl
    · left
      rw [if_neg (fun z => e ((nI_eq (by omega) (by omega)).mp z)), cC_bad hln (by omega) n42 n43 n45 (fun _ => rfl) f' hh hv]
      have e36 : BX5_readInto_36 L (nI j) (nI len) (nI a') (q' 0) (q' 1) (q' 2) (q' 3) (nI n') 0 = some (nI a', 0, nI a', q' 0, q' 1, q' 2, q' 3, nI n', 0) := by
        unfold BX5_readInto_36 BX5_readInto_37 BX5_readInto_48
        rw [if_pos rfl, if_pos rfl]
      exact ⟨a', q' 0, q' 1, q' 2, q' 3, nI n', nI 0, t', s', a1, e36, rfl, lz⟩
/-- what the two sides have of one model -/
def FRel (i : Nat) (K L R PL : Nat → Int32) (sz rt : Int32) (form root MK MO MT sg MP ML MR : Nat → Int32) : Prop :=
  ∃ n ns r, n ≤ 60 ∧ ns ≤ 60 ∧ r < n ∧ sz = nI n ∧ rt = nI r ∧ form i = nI n ∧ root i = nI r ∧ sg i = nI ns ∧ RowsRel n (64 * i) K L R MK MO MT ∧ SignsRel n ns (64 * i) K L R PL ML MR MP
theorem FRel_keep {i : Nat} {K L R PL : Nat → Int32} {sz rt : Int32} {form root MK MO MT sg MP ML MR form2 root2 MK2 MO2 MT2 sg2 MP2 ML2 MR2 : Nat → Int32} (h : FRel i K L R PL sz rt form root MK MO MT sg MP ML MR) (e1 : form2 i = form i) (e2 : root2 i = root i) (e3 : sg2 i = sg i) (e : ∀ j, j < 64 → MK2 (64 * i + j) = MK (64 * i + j) ∧ MO2 (64 * i + j) = MO (64 * i + j) ∧ MT2 (64 * i + j) = MT (64 * i + j) ∧ MP2 (64 * i + j) = MP (64 * i + j) ∧ ML2 (64 * i + j) = ML (64 * i + j) ∧ MR2 (64 * i + j) = MR (64 * i + j)) :
    FRel i K L R PL sz rt form2 root2 MK2 MO2 MT2 sg2 MP2 ML2 MR2 := by
  obtain ⟨n, ns, r, h1, h2, h3, h4, h5, h6, h7, h8, h9, h10, h11, h12⟩ := h
  refine ⟨n, ns, r, h1, h2, h3, h4, h5, e1.trans h6, e2.trans h7, e3.trans h8, fun j hj => ?_, h10, fun j hj => ?_, fun j hj hk => ?_⟩
  · obtain ⟨a1, a2, a3, a4, a5, a6⟩ := e j (by omega)
    obtain ⟨b1, b2, b3, b4⟩ := h9 j hj
    exact ⟨b1, a1.trans b2, a2.trans b3, a3.trans b4⟩
  · obtain ⟨a1, a2, a3, a4, a5, a6⟩ := e j (by omega)
    obtain ⟨m, p, x, b1, b2, b3, b4, b5, b6, b7, b8⟩ := h11 j hj
    exact ⟨m, p, x, b1, b2, a5.trans b3, a6.trans b4, b5, a4.trans b6, b7, b8⟩
  · obtain ⟨x, b1, b2, b3, b4⟩ := h12 j hj hk
    obtain ⟨a1, a2, a3, a4, a5, a6⟩ := e x (by omega)
    exact ⟨x, b1, a5.trans b2, a6.trans b3, a4.trans b4⟩
/-- the first k cells of the spare rows copied -/
def cp (g : Nat → Int32) (m k : Nat) : Nat → Int32 := fun j => if 64 * m ≤ j ∧ j < 64 * m + k then g (512 + (j - 64 * m)) else g j
theorem cp_0 (g : Nat → Int32) (m : Nat) : cp g m 0 = g := funext fun j => if_neg (by omega)
theorem cp_step {m k : Nat} (hm : m < 8) (hk : k < 64) (g : Nat → Int32) : upd (cp g m k) (64 * m + k) (cp g m k (512 + k)) = cp g m (k + 1) := funext fun j => by
  rw [upd_at]
  have e : cp g m k (512 + k) = g (512 + k) := if_neg (by omega)
  rw [e]
  unfold cp
  by_cases h1 : j = 64 * m + k
  · rw [if_pos h1, if_pos (by omega)]
    congr 1
    omega
  · rw [if_neg h1]
    by_cases h2 : 64 * m ≤ j ∧ j < 64 * m + k
    · rw [if_pos h2, if_pos (by omega)]
    · rw [if_neg h2, if_neg (by omega)]
theorem keeps_loop {m : Nat} (hm : m < 8) (v2 : Int32) (form root : Nat → Int32) (sg : Nat → Int32) (b1 b2 b3 b5 b6 b7 : Nat → Int32) (E : (Nat → Int32) → (Nat → Int32) → (Nat → Int32) → (Nat → Int32) → (Nat → Int32) → (Nat → Int32) → (Nat → Int32) → (Nat → Int32) → (Nat → Int32) → Option ((Nat → Int32) × (Nat → Int32) × (Nat → Int32) × (Nat → Int32) × (Nat → Int32) × (Nat → Int32) × (Nat → Int32) × (Nat → Int32) × (Nat → Int32))) :
    ∀ (f k : Nat), k ≤ 64 → 64 - k < f → LX7_keeps_7 (nI m) v2 E f 512 (nI k) form root (cp b1 m k) (cp b2 m k) (cp b3 m k) sg (cp b5 m k) (cp b6 m k) (cp b7 m k) = E form root (cp b1 m 64) (cp b2 m 64) (cp b3 m 64) sg (cp b5 m 64) (cp b6 m 64) (cp b7 m 64)
  | 0, k, _, q => absurd q (Nat.not_lt_zero _)
  | f + 1, k, hk, q => by
    rw [LX7_keeps_7]
    by_cases hc : 64 ≤ k
    · have : k = 64 := by omega
      subst this
      rw [if_pos (by decide)]
    · have hq : ¬ (64 : Int32) ≤ nI k := fun q => hc ((nI_leI (a := 64) (by omega) (by omega)).mp q)
      rw [if_neg hq]
      simp only [ix512, ix64, gi_n (show 512 + k < 576 by omega) (show 576 < 2 ^ 31 by omega), gi_n (show 64 * m + k < 576 by omega) (show 576 < 2 ^ 31 by omega), clamp_n (show 512 + k < 2 ^ 31 by omega), clamp_n (show 64 * m + k < 2 ^ 31 by omega), cp_step hm (show k < 64 by omega), nI_1]
      exact keeps_loop hm v2 form root sg b1 b2 b3 b5 b6 b7 E f (k + 1) (by omega) (by omega)
theorem m_keeps {m : Nat} (hm : m < 8) (v2 : Int32) (form root b1 b2 b3 sg b5 b6 b7 : Nat → Int32) : fX7_keeps (nI m) v2 form root b1 b2 b3 sg b5 b6 b7 = some (upd form m (form 8), upd root m v2, cp b1 m 64, cp b2 m 64, cp b3 m 64, upd sg m (sg 8), cp b5 m 64, cp b6 m 64, cp b7 m 64) := by
  unfold fX7_keeps
  have l := keeps_loop hm v2 form root sg b1 b2 b3 b5 b6 b7 (fun Mformulas Mroot Mkind Mone Mother Msigns Mplace MleftOf MrightOf => gi 8 9 (gi (nI m) 9 (gi 8 9 (gi (nI m) 9 (gi (nI m) 9 (some (upd Mformulas ((nI m).toNatClampNeg) (Mformulas (8 : Int32).toNatClampNeg), upd Mroot ((nI m).toNatClampNeg) v2, Mkind, Mone, Mother, upd Msigns ((nI m).toNatClampNeg) (Msigns (8 : Int32).toNatClampNeg), Mplace, MleftOf, MrightOf))))))) 1000 0 (by omega) (by omega)
  rw [cp_0, cp_0, cp_0, cp_0, cp_0, cp_0] at l
  refine Eq.trans l ?_
  simp only [gi8, gi_n (show m < 9 by omega) (show 9 < 2 ^ 31 by omega), clamp_n (show m < 2 ^ 31 by omega), clamp8]
/-- the calls of model that are refused -/
theorem m_model_in {v c : Int32} (h : v < 0 ∨ c < v) (ML root : Nat → Int32) (t s : TT) (T len op pos : Int32) : fX7_model v ML (t 0) root (t 1) (t 2) (t 3) (t 4) (t 5) (t 6) (t 7) (s 0) (s 1) (s 2) (s 3) (s 4) T len c op pos = some (0, t 0, root, t 1, t 2, t 3, t 4, t 5, t 6, t 7, s 0, s 1, s 2, s 3, s 4, 1, len, c, op, pos) := by
  unfold fX7_model BX7_model_28
  rw [isIn_eq, bnd1_s, if_pos h, if_pos rfl, holds_eq]
  rfl
theorem m_model_all (ML root : Nat → Int32) (t s : TT) (T len op pos : Int32) : fX7_model 8 ML (t 0) root (t 1) (t 2) (t 3) (t 4) (t 5) (t 6) (t 7) (s 0) (s 1) (s 2) (s 3) (s 4) T len 8 op pos = some (0, t 0, root, t 1, t 2, t 3, t 4, t 5, t 6, t 7, s 0, s 1, s 2, s 3, s 4, 2, len, 8, op, pos) := by
  unfold fX7_model BX7_model_28
  rw [isIn_eq, bnd1_s, if_neg (show ¬ ((8 : Int32) < 0 ∨ (8 : Int32) < 8) by decide), if_neg (show ¬ (1 : Int32) = 0 by decide), if_pos rfl, holds_eq]
  rfl
theorem model_same {L ML : Nat → Int32} {len : Nat} (hl : len ≤ 60) (hL : LineRel len L ML) {m c : Nat} (hm : m < 8) (hc : m ≤ c) (hc8 : c ≤ 8) (q t s : TT) (root : Nat → Int32) (sz rt lat T op pos : Int32) :
    (∃ (a : Nat) (K2 L2 R2 P2 : Nat → Int32) (sz2 op2 pos2 : Int32) (t' s' : TT), a ≤ len ∧ fX5_readInto L (nI len) lat (q 0) (q 1) (q 2) (q 3) sz rt = some (nI a, 0, nI a, K2, L2, R2, P2, sz2, 0) ∧ fX7_model (nI m) ML (t 0) root (t 1) (t 2) (t 3) (t 4) (t 5) (t 6) (t 7) (s 0) (s 1) (s 2) (s 3) (s 4) T (nI len) (nI c) op pos = some (-1 - nI a, t' 0, root, t' 1, t' 2, t' 3, t' 4, t' 5, t' 6, t' 7, s' 0, s' 1, s' 2, s' 3, s' 4, 0, 0, nI c, op2, pos2) ∧
      ∀ (i : Nat) (K L R PL : Nat → Int32) (sz rt : Int32), i < 8 → FRel i K L R PL sz rt (t 0) root (t 1) (t 2) (t 3) (t 4) (t 5) (t 6) (t 7) → FRel i K L R PL sz rt (t' 0) root (t' 1) (t' 2) (t' 3) (t' 4) (t' 5) (t' 6) (t' 7)) ∨
    (∃ (n j : Nat) (q' t' s' : TT) (root2 : Nat → Int32) (op2 pos2 : Int32), fX5_readInto L (nI len) lat (q 0) (q 1) (q 2) (q 3) sz rt = some (-1, 0, nI len, q' 0, q' 1, q' 2, q' 3, nI n, nI j) ∧ fX7_model (nI m) ML (t 0) root (t 1) (t 2) (t 3) (t 4) (t 5) (t 6) (t 7) (s 0) (s 1) (s 2) (s 3) (s 4) T (nI len) (nI c) op pos = some (nI n, t' 0, root2, t' 1, t' 2, t' 3, t' 4, t' 5, t' 6, t' 7, s' 0, s' 1, s' 2, s' 3, s' 4, 0, 0, nI (if m = c then c + 1 else c), op2, pos2) ∧
      FRel m (q' 0) (q' 1) (q' 2) (q' 3) (nI n) (nI j) (t' 0) root2 (t' 1) (t' 2) (t' 3) (t' 4) (t' 5) (t' 6) (t' 7) ∧
      ∀ (i : Nat) (K L R PL : Nat → Int32) (sz rt : Int32), i < 8 → i ≠ m → FRel i K L R PL sz rt (t 0) root (t 1) (t 2) (t 3) (t 4) (t 5) (t 6) (t 7) → FRel i K L R PL sz rt (t' 0) root2 (t' 1) (t' 2) (t' 3) (t' 4) (t' 5) (t' 6) (t' 7)) := by
  have hin : ¬ (nI m < 0 ∨ nI c < nI m) := fun y => by
    rcases y with y | y
    · exact nI_pos (by omega) y
    · have := (nI_ltI (by omega) (by omega)).mp y
      omega
  have n8 : ¬ nI m = 8 := fun y => by have := (nI_eq (b := 8) (by omega) (by omega)).mp y; omega
  unfold fX7_model
  rw [isIn_eq, bnd1_s, if_neg hin, if_neg (show ¬ (1 : Int32) = 0 by decide), if_neg n8]
  unfold BX7_model_28
  rw [holds_eq, bnd2_s, if_pos rfl, if_neg (show ¬ (1 : Int32) = 0 by decide)]
  rcases readInto_same hl hL q t s sz rt lat op pos with ⟨a, K2, L2, R2, P2, sz2, op2, t', s', a1, e1, e2, lz⟩ | ⟨n, ns, j, q', t', s', op2, e1, e2, hR, hj⟩
  · left
    rw [e2, bnd16_s, if_pos rfl]
    refine ⟨a, K2, L2, R2, P2, sz2, op2, nI a, t', s', a1, e1, rfl, fun i K L R PL sz rt hi h => FRel_keep h (lz.1 i hi).1 rfl (lz.1 i hi).2 (fun j hj => lz.2 (64 * i + j) (by omega))⟩
  · right
    obtain ⟨r1, r2, r3, r4, r5, r6, r7, r8, r9⟩ := hR
    rw [e2, bnd16_s, if_neg (nI_neM1 (by omega)), m_keeps hm, bnd9_s]
    have z0 : nI c + 0 = nI c := by grind
    refine ⟨n, j, q', tb8 (upd (t' 0) m (t' 0 8)) (cp (t' 1) m 64) (cp (t' 2) m 64) (cp (t' 3) m 64) (upd (t' 4) m (t' 4 8)) (cp (t' 5) m 64) (cp (t' 6) m 64) (cp (t' 7) m 64), s', upd root m (nI j), op2, nI len, e1, ?_, ?_, fun i K L R PL sz rt hi hne h => ?_⟩
    · unfold BX7_model_82
      rw [gi_n (show m < 9 by omega) (by omega), gi_n (show m < 9 by omega) (by omega), clamp_n (by omega), upd_at, if_pos rfl, r4, nI_1, z0]
      by_cases y : m = c
      · rw [if_pos (show nI m = nI c by rw [y]), if_pos y]
        rfl
      · rw [if_neg (fun z => y ((nI_eq (by omega) (by omega)).mp z)), if_neg y]
        rfl
    · have cpi : ∀ (g : Nat → Int32) (x : Nat), x < 64 → cp g m 64 (64 * m + x) = g (512 + x) := fun g x hx => by
        unfold cp
        rw [if_pos (by omega)]
        congr 1
        omega
      refine ⟨n, ns, j, by omega, by omega, hj, rfl, rfl, pk_us.trans r4, pk_us, pk_us.trans r5, fun x hx => ?_, r8.1, fun x hx => ?_, fun x hx hk => ?_⟩
      · obtain ⟨b1, b2, b3, b4⟩ := r6 x hx
        exact ⟨b1, (cpi _ x (by omega)).trans b2, (cpi _ x (by omega)).trans b3, (cpi _ x (by omega)).trans b4⟩
      · obtain ⟨y, p, z, b1, b2, b3, b4, b5, b6, b7, b8⟩ := r8.2.1 x hx
        exact ⟨y, p, z, b1, b2, (cpi _ x (by omega)).trans b3, (cpi _ x (by omega)).trans b4, b5, (cpi _ x (by omega)).trans b6, b7, b8⟩
      · obtain ⟨y, b1, b2, b3, b4⟩ := r8.2.2 x hx hk
        exact ⟨y, b1, (cpi _ y (by omega)).trans b2, (cpi _ y (by omega)).trans b3, (cpi _ y (by omega)).trans b4⟩
    · have cpo : ∀ (g : Nat → Int32) (x : Nat), x < 64 → cp g m 64 (64 * i + x) = g (64 * i + x) := fun g x hx => by
        unfold cp
        rw [if_neg (by omega)]
      refine FRel_keep h ((pk_un hne).trans (r9.1 i hi).1) (pk_un hne) ((pk_un hne).trans (r9.1 i hi).2) (fun x hx => ?_)
      obtain ⟨b1, b2, b3, b4, b5, b6⟩ := r9.2 (64 * i + x) (by omega)
      exact ⟨(cpo _ x hx).trans b1, (cpo _ x hx).trans b2, (cpo _ x hx).trans b3, (cpo _ x hx).trans b4, (cpo _ x hx).trans b5, (cpo _ x hx).trans b6⟩
