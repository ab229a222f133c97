/-! ===== bytes of a long ===== -/
theorem wb_tb (n : Nat) : (lN n).toBitVec = BitVec.ofNat 64 n := rfl
theorem wb_inj {a b : Int64} (h : a.toBitVec = b.toBitVec) : a = b := Int64.toBitVec_inj.mp h
theorem wb_tn {n : Nat} (h : n < 2 ^ 64) : (lN n).toBitVec.toNat = n := by rw [wb_tb, BitVec.toNat_ofNat, Nat.mod_eq_of_lt h]
theorem wb_of (x : Int64) : ∃ n, n < 2 ^ 64 ∧ x = lN n := ⟨x.toBitVec.toNat, x.toBitVec.isLt, wb_inj (by rw [wb_tb]; simp)⟩
theorem wb_of32 (x : Int32) : ∃ n, n < 2 ^ 32 ∧ x = nI n := ⟨x.toBitVec.toNat, x.toBitVec.isLt, Int32.toBitVec_inj.mp (by show _ = BitVec.ofNat 32 _; simp)⟩
theorem wb_c : ∀ k, k < 64 → ((nI k).toInt64 &&& 63) = lN k := by decide +kernel
theorem wb_cu : ∀ k, k < 64 → ((nI k).toInt64.toUInt64 &&& Int64.toUInt64 63) = UInt64.ofNat k := by decide +kernel
theorem wb_sm : ∀ k, k < 64 → (BitVec.ofNat 64 k).smod 64 = BitVec.ofNat 64 k := by decide +kernel
theorem wb_pw {a b : Nat} (h : a ≤ b) : 2 ^ b = 2 ^ a * 2 ^ (b - a) := by rw [← Nat.pow_add]; congr 1; omega
theorem wb_lt2 {a b : Nat} (h : a < b) : 2 ^ a < 2 ^ b := Nat.pow_lt_pow_right (by decide) h
theorem wb_mod (n : Nat) : lN n = lN (n % 2 ^ 64) := wb_inj (by rw [wb_tb, wb_tb]; apply BitVec.eq_of_toNat_eq; rw [BitVec.toNat_ofNat, BitVec.toNat_ofNat, Nat.mod_mod])
theorem wb_shr {n k : Nat} (hn : n < 2 ^ 64) (hk : k < 64) : ((lN n).toUInt64 >>> ((nI k).toInt64.toUInt64 &&& Int64.toUInt64 63)).toInt64 = lN (n / 2 ^ k) := by
  rw [wb_cu k hk]
  apply wb_inj
  apply BitVec.eq_of_toNat_eq
  show ((lN n).toUInt64 >>> UInt64.ofNat k).toNat = (BitVec.ofNat 64 _).toNat
  have h1 : (UInt64.ofNat k).toNat = k := by
    show (BitVec.ofNat 64 k).toNat = k
    rw [BitVec.toNat_ofNat, Nat.mod_eq_of_lt (by omega)]
  have h2 : (lN n).toUInt64.toNat = n := wb_tn hn
  rw [UInt64.toNat_shiftRight, h1, h2, Nat.mod_eq_of_lt hk, Nat.shiftRight_eq_div_pow, BitVec.toNat_ofNat, Nat.mod_eq_of_lt (Nat.lt_of_le_of_lt (Nat.div_le_self _ _) hn)]
def byteN (n k : Nat) : Nat := n / 2 ^ (8 * k) % 256
theorem byteN_lt (n k : Nat) : byteN n k < 256 := Nat.mod_lt _ (by decide)
theorem ix8 (k : Nat) : (8 : Int32) * nI k = nI (8 * k) := by rw [show (8 : Int32) = nI 8 from rfl, pk_mul]
theorem low_bits : ∀ i, i < 32 → (BitVec.ofNat 32 255).getLsbD i = decide (i < 8) := by decide
theorem byte_bits {y : Int64} {m : Nat} (h : ∀ i, i < 8 → y.toBitVec.getLsbD i = m.testBit i) : y.toInt32 &&& 255 = nI (m % 256) := by
  apply Int32.toBitVec_inj.mp
  rw [Int32.toBitVec_and]
  apply BitVec.eq_of_getLsbD_eq
  intro i hi
  show (y.toInt32.toBitVec &&& BitVec.ofNat 32 255).getLsbD i = (BitVec.ofNat 32 (m % 256)).getLsbD i
  rw [BitVec.getLsbD_and, low_bits i hi, Int64.toBitVec_toInt32, BitVec.getLsbD_signExtend, BitVec.getLsbD_ofNat, show m % 256 = m % 2 ^ 8 from rfl, Nat.testBit_mod_two_pow]
  by_cases h8 : i < 8
  · rw [if_pos (show i < 64 by omega), h i h8]
    simp [hi, h8]
  · simp [h8]
theorem byte_u {n k : Nat} (hn : n < 2 ^ 64) (hk : k < 8) : (jlushr (lN n) (8 * nI k)).toInt32 &&& 255 = nI (byteN n k) := by
  rw [ix8]
  show ((lN n).toUInt64 >>> ((nI (8 * k)).toInt64.toUInt64 &&& Int64.toUInt64 63)).toInt64.toInt32 &&& 255 = _
  rw [wb_shr hn (by omega)]
  refine byte_bits (fun i hi => ?_)
  rw [wb_tb, BitVec.getLsbD_ofNat]
  simp [show i < 64 by omega]
theorem byte_s {n k : Nat} (hk : k < 8) : (jlshr (lN n) (8 * nI k)).toInt32 &&& 255 = nI (byteN n k) := by
  rw [ix8]
  refine byte_bits (fun i hi => ?_)
  show (lN n >>> ((nI (8 * k)).toInt64 &&& 63)).toBitVec.getLsbD i = _
  rw [wb_c _ (by omega)]
  show ((lN n).toBitVec.sshiftRight ((lN (8 * k)).toBitVec.smod 64).toNat).getLsbD i = _
  rw [wb_tb, wb_tb, wb_sm _ (by omega), BitVec.toNat_ofNat, Nat.mod_eq_of_lt (show 8 * k < 2 ^ 64 by omega), BitVec.getLsbD_sshiftRight, BitVec.getLsbD_ofNat, Nat.testBit_div_two_pow]
  simp [show ¬ 64 ≤ i by omega, show i + 8 * k < 64 by omega, Nat.add_comm]
theorem byte_step (n k : Nat) : n / 2 ^ (8 * k) = 256 * (n / 2 ^ (8 * (k + 1))) + byteN n k := by
  unfold byteN
  rw [show 8 * (k + 1) = 8 * k + 8 by omega, Nat.pow_add, ← Nat.div_div_eq_div_mul, show (2 : Nat) ^ 8 = 256 from rfl]
  omega
theorem behind0 {n c : Nat} (hn : n < 2 ^ 64) (h : ∀ j, c ≤ j → j < 8 → byteN n j = 0) : ∀ d, d ≤ 8 - c → n / 2 ^ (8 * (8 - d)) = 0
  | 0, _ => Nat.div_eq_of_lt (by simpa using hn)
  | d + 1, hd => by
    have ih := behind0 hn h d (by omega)
    have s := byte_step n (8 - (d + 1))
    rw [show 8 - (d + 1) + 1 = 8 - d by omega, ih, h _ (by omega) (by omega)] at s
    omega
theorem behind {n c : Nat} (hn : n < 2 ^ 64) (hc : c < 8) : n / 2 ^ (8 * c) = 0 ↔ ∀ j, c ≤ j → j < 8 → byteN n j = 0 := by
  constructor
  · intro h j h1 h2
    have : n < 2 ^ (8 * c) := by
      have := Nat.div_add_mod n (2 ^ (8 * c))
      rw [h] at this
      have l := Nat.mod_lt n (Nat.two_pow_pos (8 * c))
      omega
    unfold byteN
    rw [Nat.div_eq_of_lt (Nat.lt_of_lt_of_le this (Nat.pow_le_pow_right (by decide) (by omega)))]
  · intro h
    have := behind0 hn h (8 - c) (Nat.le_refl _)
    rw [show 8 - (8 - c) = c by omega] at this
    exact this
theorem c_signIn {n k : Nat} (hn : n < 2 ^ 64) (hk : k < 8) : fX5_signIn (lN n) (nI k) = some (nI (byteN n k)) := by
  unfold fX5_signIn
  rw [byte_u hn hk]
/-- the first byte that is 0 -/
def fstZ (n c : Nat) : Prop := c ≤ 8 ∧ (c < 8 → byteN n c = 0) ∧ ∀ j, j < c → ¬ byteN n j = 0
theorem fstZ_ex (n : Nat) : ∃ c, fstZ n c := by
  obtain ⟨c, h1, h2⟩ := pk_least (fun k => 8 ≤ k ∨ byteN n k = 0) ⟨8, Or.inl (Nat.le_refl _)⟩
  refine ⟨c, ?_, ?_, ?_⟩
  · by_cases h : c ≤ 8
    · exact h
    · exact absurd (Or.inl (Nat.le_refl _)) (h2 8 (by omega))
  · intro h
    exact h1.elim (fun q => by omega) id
  · intro j hj q
    exact h2 j hj (Or.inr q)
def inR (n j : Nat) : Prop := 32 ≤ byteN n j ∧ byteN n j ≤ 126
theorem c_count_loop {n c : Nat} (hn : n < 2 ^ 64) (hc : fstZ n c) (E1 : Option Int32) (E2 : Int32 → Option Int32) : ∀ (f j : Nat), j ≤ c → c - j < f →
    (∀ i, i < j → inR n i) → LX5_countSigns_2 (lN n) E1 E2 f (nI j) = E2 (nI c) ∧ (∀ i, i < c → inR n i) ∨ LX5_countSigns_2 (lN n) E1 E2 f (nI j) = E1 ∧ ¬ ∀ i, i < c → inR n i
  | 0, j, _, q, _ => absurd q (Nat.not_lt_zero _)
  | f + 1, j, hj, q, hI => by
    obtain ⟨c1, c2, c3⟩ := hc
    rw [LX5_countSigns_2]
    by_cases e8 : 8 ≤ j
    · have : j = c := by omega
      subst this
      rw [if_pos (show (8 : Int32) ≤ nI j from (nI_leI (a := 8) (by omega) (by omega)).mpr e8)]
      exact Or.inl ⟨rfl, hI⟩
    · have hb := byteN_lt n j
      rw [if_neg (show ¬ (8 : Int32) ≤ nI j from fun q => e8 ((nI_leI (a := 8) (by omega) (by omega)).mp q)), c_signIn hn (by omega), bnd1_s, bnd1_s]
      by_cases e : j = c
      · subst e
        rw [c2 (by omega), if_pos (by decide)]
        exact Or.inl ⟨rfl, hI⟩
      · have nz := c3 j (by omega)
        rw [if_neg (nI_ne0 (by omega) (by omega)), nI_1]
        by_cases l : byteN n j < 32
        · rw [if_pos (show nI (byteN n j) < 32 from (nI_ltI (b := 32) (by omega) (by omega)).mpr l)]
          exact Or.inr ⟨rfl, fun y => by have := (y j (by omega)).1; omega⟩
        · rw [if_neg (show ¬ nI (byteN n j) < 32 from fun y => l ((nI_ltI (b := 32) (by omega) (by omega)).mp y))]
          by_cases g : byteN n j ≤ 126
          · rw [if_pos (show nI (byteN n j) ≤ 126 from (nI_leI (b := 126) (by omega) (by omega)).mpr g)]
            refine c_count_loop hn ⟨c1, c2, c3⟩ E1 E2 f (j + 1) (by omega) (by omega) (fun i hi => ?_)
            by_cases y : i = j
            · subst y
              exact ⟨by omega, g⟩
            · exact hI i (by omega)
          · rw [if_neg (show ¬ nI (byteN n j) ≤ 126 from fun y => g ((nI_leI (b := 126) (by omega) (by omega)).mp y))]
            exact Or.inr ⟨rfl, fun y => g (y j (by omega)).2⟩
/-- the signs can be typed -/
def okSigns (n c : Nat) : Prop := (∀ i, i < c → inR n i) ∧ ∀ j, c ≤ j → j < 8 → byteN n j = 0
theorem c_countSigns {n c : Nat} (hn : n < 2 ^ 64) (hc : fstZ n c) : (okSigns n c ∧ fX5_countSigns (lN n) = some (nI c)) ∨ (¬ okSigns n c ∧ fX5_countSigns (lN n) = some (-1)) := by
  have c1 := hc.1
  unfold fX5_countSigns
  rcases c_count_loop hn hc (some (-1)) (fun v2 => BX5_countSigns_42 (lN n) v2) 1000 0 (by omega) (by omega) (fun _ h => absurd h (Nat.not_lt_zero _)) with ⟨e, h⟩ | ⟨e, h⟩
  · have e : LX5_countSigns_2 (lN n) (some (-1)) (fun v2 => BX5_countSigns_42 (lN n) v2) 1000 0 = BX5_countSigns_42 (lN n) (nI c) := e
    rw [e]
    unfold BX5_countSigns_42 BX5_countSigns_59 BX5_countSigns_64
    by_cases e8 : c = 8
    · rw [if_pos (show nI c = 8 by rw [e8]; rfl), if_neg (by decide)]
      exact Or.inl ⟨⟨h, fun j h1 h2 => by omega⟩, rfl⟩
    · have hd : n / 2 ^ (8 * c) < 2 ^ 64 := Nat.lt_of_le_of_lt (Nat.div_le_self _ _) hn
      have ez : (lg_cmp (jlushr (lN n) (8 * nI c)) 0 = 0) ↔ n / 2 ^ (8 * c) = 0 := by
        rw [lg_cmp_eq, ix8]
        show ((lN n).toUInt64 >>> ((nI (8 * c)).toInt64.toUInt64 &&& Int64.toUInt64 63)).toInt64 = 0 ↔ _
        rw [wb_shr hn (by omega)]
        constructor
        · intro q
          have := congrArg (fun x : Int64 => x.toBitVec.toNat) q
          simp only [wb_tn hd] at this
          exact this
        · intro q
          rw [q]; rfl
      rw [if_neg (show ¬ nI c = 8 from fun q => e8 ((nI_eq (b := 8) (by omega) (by omega)).mp q))]
      by_cases z : n / 2 ^ (8 * c) = 0
      · rw [if_pos (ez.mpr z), if_neg (show ¬ (1 : Int32) = 0 by decide)]
        exact Or.inl ⟨⟨h, (behind hn (by omega)).mp z⟩, rfl⟩
      · rw [if_neg (fun q => z (ez.mp q)), if_pos rfl]
        exact Or.inr ⟨fun q => z ((behind hn (by omega)).mpr q.2), rfl⟩
  · have e : LX5_countSigns_2 (lN n) (some (-1)) (fun v2 => BX5_countSigns_42 (lN n) v2) 1000 0 = some (-1) := e
    exact Or.inr ⟨fun q => h q.1, e⟩
/-! the reference's count -/
abbrev MTy := Int32 × (Nat → Int32) × Int32 × Int32
def okAt (n c j : Nat) : Prop := byteN n j = 0 ∨ (j < c ∧ inR n j)
theorem okAt_all {n c : Nat} (hc : fstZ n c) : (∀ j, j < 8 → okAt n c j) ↔ okSigns n c := by
  obtain ⟨c1, c2, c3⟩ := hc
  constructor
  · intro h
    refine ⟨fun i hi => (h i (by omega)).elim (fun q => absurd q (c3 i hi)) (fun q => q.2), fun j h1 h2 => (h j h2).elim id (fun q => absurd q.1 (by omega))⟩
  · intro h j hj
    by_cases q : j < c
    · exact Or.inr ⟨q, h.1 j q⟩
    · exact Or.inl (h.2 j (by omega) hj)
theorem m_type_loop {n c : Nat} (hc : fstZ n c) (E : Int32 → Int32 → (Nat → Int32) → Int32 → Int32 → Option MTy) (ML : Nat → Int32) (T len : Int32) : ∀ (f k : Nat) (r : Int32), k ≤ 8 → 8 - k < f →
    ((r = 1 ∧ ∀ j, j < k → okAt n c j) ∨ (r = 0 ∧ ¬ ∀ j, j < k → okAt n c j)) →
      ∃ r2, ((r2 = 1 ∧ ∀ j, j < 8 → okAt n c j) ∨ (r2 = 0 ∧ ¬ ∀ j, j < 8 → okAt n c j)) ∧ LX7_type_11 (lN n) E f (nI (if k ≤ c then k else c)) r (if k ≤ c then 0 else 1) (nI k) ML T len = E (nI c) r2 ML T len
  | 0, k, _, _, q, _ => absurd q (Nat.not_lt_zero _)
  | f + 1, k, r, hk, q, hr => by
    obtain ⟨c1, c2, c3⟩ := hc
    rw [LX7_type_11]
    by_cases e8 : 8 ≤ k
    · have : k = 8 := by omega
      subst this
      rw [if_pos (by decide), show (if 8 ≤ c then 8 else c) = c by split <;> omega]
      exact ⟨r, hr, rfl⟩
    · have hb := byteN_lt n k
      rw [if_neg (show ¬ (8 : Int32) ≤ nI k from fun q => e8 ((nI_leI (a := 8) (by omega) (by omega)).mp q)), byte_s (by omega)]
      -- what the step comes to
      have tail : ∀ (r' : Int32), ((r' = 1 ∧ ∀ j, j < k + 1 → okAt n c j) ∨ (r' = 0 ∧ ¬ ∀ j, j < k + 1 → okAt n c j)) →
          ∃ r2, ((r2 = 1 ∧ ∀ j, j < 8 → okAt n c j) ∨ (r2 = 0 ∧ ¬ ∀ j, j < 8 → okAt n c j)) ∧ BX7_type_64 (lN n) (LX7_type_11 (lN n) E f) E (nI (if k ≤ c then k else c)) (if k ≤ c then 0 else 1) (nI k) (nI (byteN n k)) r' ML T len = E (nI c) r2 ML T len := fun r' h' => by
        obtain ⟨r2, h2, e2⟩ := m_type_loop ⟨c1, c2, c3⟩ E ML T len f (k + 1) r' (by omega) (by omega) h'
        refine ⟨r2, h2, ?_⟩
        rw [← e2]
        unfold BX7_type_64 BX7_type_76 BX7_type_81 BX7_type_94
        rw [nI_1]
        have z0 : ∀ x : Int32, x + 0 = x := fun x => by grind
        by_cases o1 : k ≤ c
        · rw [if_pos o1, if_pos o1, if_pos rfl]
          by_cases o2 : k = c
          · subst o2
            rw [c2 (by omega), if_pos (by decide), if_neg (show ¬ (1 : Int32) = 0 by decide), if_neg (by omega), if_neg (by omega), z0, show nI k + 1 = nI (k + 1) from nI_1 k]
          · rw [if_neg (nI_ne0 (by have := c3 k (by omega); omega) (by omega)), if_pos rfl, if_pos (by omega), if_pos (by omega)]
            rw [show nI k + 1 = nI (k + 1) from nI_1 k]
        · rw [if_neg o1, if_neg o1, if_neg (show ¬ (1 : Int32) = 0 by decide), if_neg (show ¬ (1 : Int32) = 0 by decide), if_neg (by omega), if_neg (by omega), z0, show nI k + 1 = nI (k + 1) from nI_1 k]
      have good : okAt n c k → r = 1 → ((1 : Int32) = 1 ∧ ∀ j, j < k + 1 → okAt n c j) ∨ ((1 : Int32) = 0 ∧ ¬ ∀ j, j < k + 1 → okAt n c j) := fun h1 h2 => by
        rcases hr with ⟨-, h⟩ | ⟨h, -⟩
        · refine Or.inl ⟨rfl, fun j hj => ?_⟩
          by_cases y : j = k
          · rw [y]; exact h1
          · exact h j (by omega)
        · rw [h] at h2
          exact absurd h2 (by decide)
      have bad : ¬ okAt n c k → ((0 : Int32) = 1 ∧ ∀ j, j < k + 1 → okAt n c j) ∨ ((0 : Int32) = 0 ∧ ¬ ∀ j, j < k + 1 → okAt n c j) := fun h1 => Or.inr ⟨rfl, fun y => h1 (y k (by omega))⟩
      unfold BX7_type_63 BX7_type_59
      by_cases r0 : r = 0
      · rw [if_pos r0]
        refine tail 0 (Or.inr ⟨rfl, fun y => ?_⟩)
        rcases hr with ⟨h, -⟩ | ⟨-, h⟩
        · rw [h] at r0
          exact absurd r0 (by decide)
        · exact h (fun j hj => y j (by omega))
      · have r1 : r = 1 := hr.elim (fun y => y.1) (fun y => absurd y.1 r0)
        rw [if_neg r0]
        by_cases bz : byteN n k = 0
        · rw [bz, if_pos (by decide), ← bz]
          exact tail 1 (good (Or.inl bz) r1)
        · rw [if_neg (nI_ne0 (by omega) (by omega))]
          by_cases o1 : k ≤ c
          · have kc : k < c := by
              by_cases y : k = c
              · exact absurd (by rw [y]; exact c2 (by omega)) bz
              · omega
            have ei : fX7_isIn (nI (byteN n k)) 32 126 = some (if byteN n k < 32 ∨ 126 < byteN n k then 0 else 1) := by
              rw [isIn_eq]
              have : (nI (byteN n k) < 32 ∨ 126 < nI (byteN n k)) ↔ (byteN n k < 32 ∨ 126 < byteN n k) := or_congr (nI_ltI (b := 32) (by omega) (by omega)) (nI_ltI (a := 126) (by omega) (by omega))
              by_cases y : byteN n k < 32 ∨ 126 < byteN n k
              · rw [if_pos y, if_pos (this.mpr y)]
              · rw [if_neg y, if_neg (fun z => y (this.mp z))]
            have t1 := tail 1
            have t0 := tail 0
            rw [if_pos o1, if_pos o1] at t1 t0 ⊢
            rw [if_pos rfl, ei, bnd1_s]
            by_cases y : byteN n k < 32 ∨ 126 < byteN n k
            · rw [if_pos y, if_pos rfl]
              exact t0 (bad (fun z => z.elim bz (fun z => by have := z.2; unfold inR at this; omega)))
            · rw [if_neg y, if_neg (show ¬ (1 : Int32) = 0 by decide)]
              exact t1 (good (Or.inr ⟨kc, by unfold inR; omega⟩) r1)
          · have t0 := tail 0
            rw [if_neg o1, if_neg o1] at t0 ⊢
            rw [if_neg (show ¬ (1 : Int32) = 0 by decide)]
            exact t0 (bad (fun z => z.elim bz (fun z => by omega)))
/-! the line -/
def LineRel (len : Nat) (L ML : Nat → Int32) : Prop := ∀ k, k < len → L k = ML k ∧ ∃ c, 32 ≤ c ∧ c ≤ 126 ∧ L k = nI c
theorem char_of {b : Nat} (h : b < 256) : vp_nar .char (ji2c (nI b)) = nI b := by
  show vp_nar .char ((nI b).toUInt32 % 65536).toInt32 = _
  rw [pk_vc, pk_char, pk_tn (by omega), Nat.mod_eq_of_lt (by omega)]
theorem append_loop {n c : Nat} (hn : n < 2 ^ 64) (hc : c ≤ 8) (hr : ∀ i, i < c → inR n i) {len : Nat} (hlen : len + c ≤ 60) (T : Int32) : ∀ (f j : Nat) (L ML : Nat → Int32), j ≤ c → c - j < f → LineRel (len + j) L ML →
    ∃ L2 ML2, LX5_append_3 (lN n) (nI c) (fun L l => some (L, l)) f (nI j) L (nI (len + j)) = some (L2, nI (len + c)) ∧ LX7_type_139 (lN n) (fun ML T l => some (l, ML, T, l)) f (nI c) (nI j) ML T (nI (len + j)) = some (nI (len + c), ML2, T, nI (len + c)) ∧ LineRel (len + c) L2 ML2
  | 0, j, _, _, _, q, _ => absurd q (Nat.not_lt_zero _)
  | f + 1, j, L, ML, hj, q, hL => by
    rw [LX5_append_3, LX7_type_139]
    by_cases e : c ≤ j
    · have : j = c := by omega
      subst this
      have hq : nI j ≤ nI j := (nI_leI (by omega) (by omega)).mpr (Nat.le_refl _)
      rw [if_pos hq, if_pos hq]
      exact ⟨L, ML, rfl, rfl, hL⟩
    · have hq : ¬ nI c ≤ nI j := fun q => e ((nI_leI (by omega) (by omega)).mp q)
      have hb := byteN_lt n j
      rw [if_neg hq, if_neg hq, if_neg (fun q : (60 : Int32) ≤ nI (len + j) => absurd ((nI_leI (a := 60) (by omega) (by omega)).mp q) (by omega)), c_signIn hn (by omega), bnd1_s, byte_s (by omega), char_of hb]
      rw [gi_n (show len + j < 60 by omega) (by omega), gi_n (show len + j < 64 by omega) (by omega), nI_1, nI_1, clamp_n (by omega)]
      refine append_loop hn hc hr hlen T f (j + 1) _ _ (by omega) (by omega) (fun k hk => ?_)
      rw [upd_at, upd_at]
      by_cases y : k = len + j
      · rw [if_pos y, if_pos y]
        exact ⟨rfl, byteN n j, (hr j (by omega)).1, (hr j (by omega)).2, rfl⟩
      · rw [if_neg y, if_neg y]
        exact hL k (by omega)
theorem type_same (x : Int64) {len : Nat} (hlen : len ≤ 60) {L ML : Nat → Int32} (hL : LineRel len L ML) (T : Int32) :
    (fX5_countSigns x = some (-1) ∧ fX7_type x ML T (nI len) = some (0, ML, 1, nI len)) ∨
    (∃ c, c ≤ 8 ∧ fX5_countSigns x = some (nI c) ∧ 60 < len + c ∧ fX7_type x ML T (nI len) = some (0, ML, 2, nI len)) ∨
    (∃ (c : Nat) (L2 ML2 : Nat → Int32), c ≤ 8 ∧ fX5_countSigns x = some (nI c) ∧ len + c ≤ 60 ∧ fX5_append x (nI c) L (nI len) = some (L2, nI (len + c)) ∧ fX7_type x ML T (nI len) = some (nI (len + c), ML2, 0, nI (len + c)) ∧ LineRel (len + c) L2 ML2) := by
  obtain ⟨n, hn, rfl⟩ := wb_of x
  obtain ⟨c, hc⟩ := fstZ_ex n
  have c1 := hc.1
  unfold fX7_type
  obtain ⟨r, hr, e⟩ := m_type_loop hc (fun v3 v4 ML T l => if v4 = 0 then BX7_type_128 (lN n) v3 1 ML T l else if l + v3 ≤ 60 then BX7_type_128 (lN n) v3 0 ML T l else BX7_type_128 (lN n) v3 2 ML T l) ML T (nI len) 1000 0 1 (by omega) (by omega) (Or.inl ⟨rfl, fun _ h => absurd h (Nat.not_lt_zero _)⟩)
  rw [if_pos (Nat.zero_le _), if_pos (Nat.zero_le _)] at e
  have e : LX7_type_11 (lN n) (fun v3 v4 ML T l => if v4 = 0 then BX7_type_128 (lN n) v3 1 ML T l else if l + v3 ≤ 60 then BX7_type_128 (lN n) v3 0 ML T l else BX7_type_128 (lN n) v3 2 ML T l) 1000 0 1 0 0 ML T (nI len) = _ := e
  rw [e]
  rcases c_countSigns hn hc with ⟨h1, h2⟩ | ⟨h1, h2⟩
  · have r1 : r = 1 := hr.elim (fun y => y.1) (fun y => absurd ((okAt_all hc).mpr h1) y.2)
    right
    rw [r1, if_neg (show ¬ (1 : Int32) = 0 by decide), nI_add]
    by_cases l : len + c ≤ 60
    · right
      obtain ⟨L2, ML2, a1, a2, a3⟩ := append_loop hn c1 h1.1 l 0 1000 0 L ML (by omega) (by omega) hL
      refine ⟨c, L2, ML2, c1, h2, l, a1, ?_, a3⟩
      rw [if_pos (show nI (len + c) ≤ 60 from (nI_leI (b := 60) (by omega) (by omega)).mpr l)]
      unfold BX7_type_128
      rw [holds_eq, bnd2_s, if_pos rfl, if_neg (show ¬ (1 : Int32) = 0 by decide)]
      exact a2
    · left
      refine ⟨c, c1, h2, by omega, ?_⟩
      rw [if_neg (show ¬ nI (len + c) ≤ 60 from fun y => l ((nI_leI (b := 60) (by omega) (by omega)).mp y))]
      unfold BX7_type_128
      rw [holds_eq]
      rfl
  · have r0 : r = 0 := hr.elim (fun y => absurd ((okAt_all hc).mp y.2) h1) (fun y => y.1)
    left
    refine ⟨h2, ?_⟩
    rw [r0, if_pos rfl]
    unfold BX7_type_128
    rw [holds_eq]
    rfl
