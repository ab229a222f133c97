/-! ===== the table ===== -/
theorem c_find_loop {n : Nat} (hn : n ≤ 12) (D : Nat → Int32) (v : Int32) : ∀ (f j : Nat), j ≤ n → n - j < f → (∀ i, i < j → ¬ D i = v) → ∃ k, k ≤ n ∧ LX2_find_2 D (nI n) v (fun v2 => some v2) f (nI j) = some (nI k) ∧ (k < n → D k = v) ∧ ∀ i, i < k → ¬ D i = v
  | 0, j, _, q, _ => absurd q (Nat.not_lt_zero _)
  | f + 1, j, hj, q, hI => by
    rw [LX2_find_2]
    by_cases hc : n ≤ j
    · have : j = n := by omega
      subst this
      rw [if_pos ((nI_leI (by omega) (by omega)).mpr hc)]
      exact ⟨j, hj, rfl, fun y => absurd y (by omega), hI⟩
    · rw [if_neg (fun q => hc ((nI_leI (by omega) (by omega)).mp q)), gi_n (show j < 12 by omega) (by omega), clamp_n (by omega), nI_1]
      by_cases e : D j = v
      · rw [if_pos e]
        exact ⟨j, hj, rfl, fun _ => e, hI⟩
      · rw [if_neg e]
        exact c_find_loop hn D v f (j + 1) (by omega) (by omega) (fun i hi => by
          by_cases y : i = j
          · rw [y]; exact e
          · exact hI i (by omega))
theorem c_find {n : Nat} (hn : n ≤ 12) (D : Nat → Int32) (v : Int32) : ∃ k, k ≤ n ∧ fX2_find v D (nI n) = some (nI k) ∧ (k < n → D k = v) ∧ ∀ i, i < k → ¬ D i = v :=
  c_find_loop hn D v 1000 0 (by omega) (by omega) (fun _ h => absurd h (Nat.not_lt_zero _))
/-- which pairs can be told to the table -/
abbrev tabBad (v1 v2 : Int32) : Prop := v1 < 1 ∨ 9999 < v1 ∨ v2 < -1 ∨ 999 < v2
theorem ji_m1 {k : Nat} (h : k < 12) : ¬ nI k = -1 := nI_neM1 (by omega)
/-! ===== the seed ===== -/
/-! ===== bytes of a long ===== -/
theorem wb_tb (n : Nat) : (lN n).toBitVec = BitVec.ofNat 64 n := rfl
theorem wb_inj {a b : Int64} (h : a.toBitVec = b.toBitVec) : a = b := Int64.toBitVec_inj.mp h
theorem wb_tn {n : Nat} (h : n < 2 ^ 64) : (lN n).toBitVec.toNat = n := by rw [wb_tb, BitVec.toNat_ofNat, Nat.mod_eq_of_lt h]
theorem wb_of (x : Int64) : ∃ n, n < 2 ^ 64 ∧ x = lN n := ⟨x.toBitVec.toNat, x.toBitVec.isLt, wb_inj (by rw [wb_tb]; simp)⟩
theorem wb_of32 (x : Int32) : ∃ n, n < 2 ^ 32 ∧ x = nI n := ⟨x.toBitVec.toNat, x.toBitVec.isLt, Int32.toBitVec_inj.mp (by show _ = BitVec.ofNat 32 _; simp)⟩
theorem wb_c : ∀ k, k < 64 → ((nI k).toInt64 &&& 63) = lN k := by decide +kernel
theorem wb_cu : ∀ k, k < 64 → ((nI k).toInt64.toUInt64 &&& Int64.toUInt64 63) = UInt64.ofNat k := by decide +kernel
theorem wb_sm : ∀ k, k < 64 → (BitVec.ofNat 64 k).smod 64 = BitVec.ofNat 64 k := by decide +kernel
theorem wb_pw {a b : Nat} (h : a ≤ b) : 2 ^ b = 2 ^ a * 2 ^ (b - a) := by rw [← Nat.pow_add]; congr 1; omega
theorem wb_lt2 {a b : Nat} (h : a < b) : 2 ^ a < 2 ^ b := Nat.pow_lt_pow_right (by decide) h
theorem wb_mod (n : Nat) : lN n = lN (n % 2 ^ 64) := wb_inj (by rw [wb_tb, wb_tb]; apply BitVec.eq_of_toNat_eq; rw [BitVec.toNat_ofNat, BitVec.toNat_ofNat, Nat.mod_mod])
theorem wb_shr {n k : Nat} (hn : n < 2 ^ 64) (hk : k < 64) : ((lN n).toUInt64 >>> ((nI k).toInt64.toUInt64 &&& Int64.toUInt64 63)).toInt64 = lN (n / 2 ^ k) := by
  rw [wb_cu k hk]
  apply wb_inj
  apply BitVec.eq_of_toNat_eq
  show ((lN n).toUInt64 >>> UInt64.ofNat k).toNat = (BitVec.ofNat 64 _).toNat
  have h1 : (UInt64.ofNat k).toNat = k := by
    show (BitVec.ofNat 64 k).toNat = k
    rw [BitVec.toNat_ofNat, Nat.mod_eq_of_lt (by omega)]
  have h2 : (lN n).toUInt64.toNat = n := wb_tn hn
  rw [UInt64.toNat_shiftRight, h1, h2, Nat.mod_eq_of_lt hk, Nat.shiftRight_eq_div_pow, BitVec.toNat_ofNat, Nat.mod_eq_of_lt (Nat.lt_of_le_of_lt (Nat.div_le_self _ _) hn)]
def byteN (n k : Nat) : Nat := n / 2 ^ (8 * k) % 256
theorem byteN_lt (n k : Nat) : byteN n k < 256 := Nat.mod_lt _ (by decide)
theorem ix8 (k : Nat) : (8 : Int32) * nI k = nI (8 * k) := by rw [show (8 : Int32) = nI 8 from rfl, pk_mul]
theorem low_bits : ∀ i, i < 32 → (BitVec.ofNat 32 255).getLsbD i = decide (i < 8) := by decide
theorem byte_bits {y : Int64} {m : Nat} (h : ∀ i, i < 8 → y.toBitVec.getLsbD i = m.testBit i) : y.toInt32 &&& 255 = nI (m % 256) := by
  apply Int32.toBitVec_inj.mp
  rw [Int32.toBitVec_and]
  apply BitVec.eq_of_getLsbD_eq
  intro i hi
  show (y.toInt32.toBitVec &&& BitVec.ofNat 32 255).getLsbD i = (BitVec.ofNat 32 (m % 256)).getLsbD i
  rw [BitVec.getLsbD_and, low_bits i hi, Int64.toBitVec_toInt32, BitVec.getLsbD_signExtend, BitVec.getLsbD_ofNat, show m % 256 = m % 2 ^ 8 from rfl, Nat.testBit_mod_two_pow]
  by_cases h8 : i < 8
  · rw [if_pos (show i < 64 by omega), h i h8]
    simp [hi, h8]
  · simp [h8]
theorem byte_u {n k : Nat} (hn : n < 2 ^ 64) (hk : k < 8) : (jlushr (lN n) (8 * nI k)).toInt32 &&& 255 = nI (byteN n k) := by
  rw [ix8]
  show ((lN n).toUInt64 >>> ((nI (8 * k)).toInt64.toUInt64 &&& Int64.toUInt64 63)).toInt64.toInt32 &&& 255 = _
  rw [wb_shr hn (by omega)]
  refine byte_bits (fun i hi => ?_)
  rw [wb_tb, BitVec.getLsbD_ofNat]
  simp [show i < 64 by omega]
theorem byte_s {n k : Nat} (hk : k < 8) : (jlshr (lN n) (8 * nI k)).toInt32 &&& 255 = nI (byteN n k) := by
  rw [ix8]
  refine byte_bits (fun i hi => ?_)
  show (lN n >>> ((nI (8 * k)).toInt64 &&& 63)).toBitVec.getLsbD i = _
  rw [wb_c _ (by omega)]
  show ((lN n).toBitVec.sshiftRight ((lN (8 * k)).toBitVec.smod 64).toNat).getLsbD i = _
  rw [wb_tb, wb_tb, wb_sm _ (by omega), BitVec.toNat_ofNat, Nat.mod_eq_of_lt (show 8 * k < 2 ^ 64 by omega), BitVec.getLsbD_sshiftRight, BitVec.getLsbD_ofNat, Nat.testBit_div_two_pow]
  simp [show ¬ 64 ≤ i by omega, show i + 8 * k < 64 by omega, Nat.add_comm]
theorem byte_step (n k : Nat) : n / 2 ^ (8 * k) = 256 * (n / 2 ^ (8 * (k + 1))) + byteN n k := by
  unfold byteN
  rw [show 8 * (k + 1) = 8 * k + 8 by omega, Nat.pow_add, ← Nat.div_div_eq_div_mul, show (2 : Nat) ^ 8 = 256 from rfl]
  omega
theorem behind0 {n c : Nat} (hn : n < 2 ^ 64) (h : ∀ j, c ≤ j → j < 8 → byteN n j = 0) : ∀ d, d ≤ 8 - c → n / 2 ^ (8 * (8 - d)) = 0
  | 0, _ => Nat.div_eq_of_lt (by simpa using hn)
  | d + 1, hd => by
    have ih := behind0 hn h d (by omega)
    have s := byte_step n (8 - (d + 1))
    rw [show 8 - (d + 1) + 1 = 8 - d by omega, ih, h _ (by omega) (by omega)] at s
    omega
theorem behind {n c : Nat} (hn : n < 2 ^ 64) (hc : c < 8) : n / 2 ^ (8 * c) = 0 ↔ ∀ j, c ≤ j → j < 8 → byteN n j = 0 := by
  constructor
  · intro h j h1 h2
    have : n < 2 ^ (8 * c) := by
      have := Nat.div_add_mod n (2 ^ (8 * c))
      rw [h] at this
      have l := Nat.mod_lt n (Nat.two_pow_pos (8 * c))
      omega
    unfold byteN
    rw [Nat.div_eq_of_lt (Nat.lt_of_lt_of_le this (Nat.pow_le_pow_right (by decide) (by omega)))]
  · intro h
    have := behind0 hn h (8 - c) (Nat.le_refl _)
    rw [show 8 - (8 - c) = c by omega] at this
    exact this
theorem c_signIn {n k : Nat} (hn : n < 2 ^ 64) (hk : k < 8) : fX5_signIn (lN n) (nI k) = some (nI (byteN n k)) := by
  unfold fX5_signIn
  rw [byte_u hn hk]
/-- the first byte that is 0 -/
def fstZ (n c : Nat) : Prop := c ≤ 8 ∧ (c < 8 → byteN n c = 0) ∧ ∀ j, j < c → ¬ byteN n j = 0
theorem fstZ_ex (n : Nat) : ∃ c, fstZ n c := by
  obtain ⟨c, h1, h2⟩ := pk_least (fun k => 8 ≤ k ∨ byteN n k = 0) ⟨8, Or.inl (Nat.le_refl _)⟩
  refine ⟨c, ?_, ?_, ?_⟩
  · by_cases h : c ≤ 8
    · exact h
    · exact absurd (Or.inl (Nat.le_refl _)) (h2 8 (by omega))
  · intro h
    exact h1.elim (fun q => by omega) id
  · intro j hj q
    exact h2 j hj (Or.inr q)
def inR (n j : Nat) : Prop := 32 ≤ byteN n j ∧ byteN n j ≤ 126
theorem c_count_loop {n c : Nat} (hn : n < 2 ^ 64) (hc : fstZ n c) (E1 : Option Int32) (E2 : Int32 → Option Int32) : ∀ (f j : Nat), j ≤ c → c - j < f →
    (∀ i, i < j → inR n i) → LX5_countSigns_2 (lN n) E1 E2 f (nI j) = E2 (nI c) ∧ (∀ i, i < c → inR n i) ∨ LX5_countSigns_2 (lN n) E1 E2 f (nI j) = E1 ∧ ¬ ∀ i, i < c → inR n i
  | 0, j, _, q, _ => absurd q (Nat.not_lt_zero _)
  | f + 1, j, hj, q, hI => by
    obtain ⟨c1, c2, c3⟩ := hc
    rw [LX5_countSigns_2]
    by_cases e8 : 8 ≤ j
    · have : j = c := by omega
      subst this
      rw [if_pos (show (8 : Int32) ≤ nI j from (nI_leI (a := 8) (by omega) (by omega)).mpr e8)]
      exact Or.inl ⟨rfl, hI⟩
    · have hb := byteN_lt n j
      rw [if_neg (show ¬ (8 : Int32) ≤ nI j from fun q => e8 ((nI_leI (a := 8) (by omega) (by omega)).mp q)), c_signIn hn (by omega), bnd1_s, bnd1_s]
      by_cases e : j = c
      · subst e
        rw [c2 (by omega), if_pos (by decide)]
        exact Or.inl ⟨rfl, hI⟩
      · have nz := c3 j (by omega)
        rw [if_neg (nI_ne0 (by omega) (by omega)), nI_1]
        by_cases l : byteN n j < 32
        · rw [if_pos (show nI (byteN n j) < 32 from (nI_ltI (b := 32) (by omega) (by omega)).mpr l)]
          exact Or.inr ⟨rfl, fun y => by have := (y j (by omega)).1; omega⟩
        · rw [if_neg (show ¬ nI (byteN n j) < 32 from fun y => l ((nI_ltI (b := 32) (by omega) (by omega)).mp y))]
          by_cases g : byteN n j ≤ 126
          · rw [if_pos (show nI (byteN n j) ≤ 126 from (nI_leI (b := 126) (by omega) (by omega)).mpr g)]
            refine c_count_loop hn ⟨c1, c2, c3⟩ E1 E2 f (j + 1) (by omega) (by omega) (fun i hi => ?_)
            by_cases y : i = j
            · subst y
              exact ⟨by omega, g⟩
            · exact hI i (by omega)
          · rw [if_neg (show ¬ nI (byteN n j) ≤ 126 from fun y => g ((nI_leI (b := 126) (by omega) (by omega)).mp y))]
            exact Or.inr ⟨rfl, fun y => g (y j (by omega)).2⟩
/-- the signs can be typed -/
def okSigns (n c : Nat) : Prop := (∀ i, i < c → inR n i) ∧ ∀ j, c ≤ j → j < 8 → byteN n j = 0
theorem c_countSigns {n c : Nat} (hn : n < 2 ^ 64) (hc : fstZ n c) : (okSigns n c ∧ fX5_countSigns (lN n) = some (nI c)) ∨ (¬ okSigns n c ∧ fX5_countSigns (lN n) = some (-1)) := by
  have c1 := hc.1
  unfold fX5_countSigns
  rcases c_count_loop hn hc (some (-1)) (fun v2 => BX5_countSigns_42 (lN n) v2) 1000 0 (by omega) (by omega) (fun _ h => absurd h (Nat.not_lt_zero _)) with ⟨e, h⟩ | ⟨e, h⟩
  · have e : LX5_countSigns_2 (lN n) (some (-1)) (fun v2 => BX5_countSigns_42 (lN n) v2) 1000 0 = BX5_countSigns_42 (lN n) (nI c) := e
    rw [e]
    unfold BX5_countSigns_42 BX5_countSigns_59 BX5_countSigns_64
    by_cases e8 : c = 8
    · rw [if_pos (show nI c = 8 by rw [e8]; rfl), if_neg (by decide)]
      exact Or.inl ⟨⟨h, fun j h1 h2 => by omega⟩, rfl⟩
    · have hd : n / 2 ^ (8 * c) < 2 ^ 64 := Nat.lt_of_le_of_lt (Nat.div_le_self _ _) hn
      have ez : (lg_cmp (jlushr (lN n) (8 * nI c)) 0 = 0) ↔ n / 2 ^ (8 * c) = 0 := by
        rw [lg_cmp_eq, ix8]
        show ((lN n).toUInt64 >>> ((nI (8 * c)).toInt64.toUInt64 &&& Int64.toUInt64 63)).toInt64 = 0 ↔ _
        rw [wb_shr hn (by omega)]
        constructor
        · intro q
          have := congrArg (fun x : Int64 => x.toBitVec.toNat) q
          simp only [wb_tn hd] at this
          exact this
        · intro q
          rw [q]; rfl
      rw [if_neg (show ¬ nI c = 8 from fun q => e8 ((nI_eq (b := 8) (by omega) (by omega)).mp q))]
      by_cases z : n / 2 ^ (8 * c) = 0
      · rw [if_pos (ez.mpr z), if_neg (show ¬ (1 : Int32) = 0 by decide)]
        exact Or.inl ⟨⟨h, (behind hn (by omega)).mp z⟩, rfl⟩
      · rw [if_neg (fun q => z (ez.mp q)), if_pos rfl]
        exact Or.inr ⟨fun q => z ((behind hn (by omega)).mpr q.2), rfl⟩
  · have e : LX5_countSigns_2 (lN n) (some (-1)) (fun v2 => BX5_countSigns_42 (lN n) v2) 1000 0 = some (-1) := e
    exact Or.inr ⟨fun q => h q.1, e⟩
/-! the reference's count -/
/-! the line -/
theorem char_of {b : Nat} (h : b < 256) : vp_nar .char (ji2c (nI b)) = nI b := by
  show vp_nar .char ((nI b).toUInt32 % 65536).toInt32 = _
  rw [pk_vc, pk_char, pk_tn (by omega), Nat.mod_eq_of_lt (by omega)]
/-! ===== what is told of the inputs, on both sides ===== -/
def smallR (x : Int32) : Prop := -999 ≤ x.toInt ∧ x.toInt ≤ 999
/-! together -/
theorem c_together {i o : Nat} (hi : i < 6) (ho : o < 6) (v : Int32) (CV : Nat → Nat → Int32) : fX4_tellCovariance (nI i) (nI o) v CV = some (CV i o, upd2 (upd2 CV i o v) o i v) := by
  unfold fX4_tellCovariance
  simp only [gi_n hi (show 6 < 2 ^ 31 by omega), gi_n ho (show 6 < 2 ^ 31 by omega), clamp_n (show i < 2 ^ 31 by omega), clamp_n (show o < 2 ^ 31 by omega)]
theorem in_n {i : Nat} (hi : i < 6) : ¬ (nI i < 0 ∨ 5 < nI i) := fun q => by
  rcases q with q | q
  · exact nI_pos (by omega) q
  · have := (nI_ltI (a := 5) (by omega) (by omega)).mp q
    omega
/-! readings -/
def rsum (R : Nat → Int32) : Nat → Int32
  | 0 => 0
  | n + 1 => rsum R n + R n
def rsq (R : Nat → Int32) : Nat → Int32
  | 0 => 0
  | n + 1 => rsq R n + R n * R n
theorem rsum_congr {R Q : Nat → Int32} : ∀ {n : Nat}, (∀ k, k < n → R k = Q k) → rsum R n = rsum Q n
  | 0, _ => rfl
  | n + 1, h => by
    unfold rsum
    rw [rsum_congr (n := n) (fun k q => h k (by omega)), h n (by omega)]
theorem rsq_congr {R Q : Nat → Int32} : ∀ {n : Nat}, (∀ k, k < n → R k = Q k) → rsq R n = rsq Q n
  | 0, _ => rfl
  | n + 1, h => by
    unfold rsq
    rw [rsq_congr (n := n) (fun k q => h k (by omega)), h n (by omega)]
theorem rsum_small {R : Nat → Int32} : ∀ {n : Nat}, n ≤ 8 → (∀ k, k < n → smallR (R k)) → -(999 * (n : Int)) ≤ (rsum R n).toInt ∧ (rsum R n).toInt ≤ 999 * n
  | 0, _, _ => by
    show -(999 * ((0 : Nat) : Int)) ≤ (0 : Int32).toInt ∧ (0 : Int32).toInt ≤ 999 * ((0 : Nat) : Int)
    decide
  | n + 1, hn, h => by
    have ih := rsum_small (n := n) (by omega) (fun k q => h k (by omega))
    have s := h n (by omega)
    unfold smallR at s
    unfold rsum
    rw [Int32.toInt_add, Int.bmod_eq_of_le (by omega) (by omega)]
    omega
theorem c_read_loop (C : Nat → Int32) (RD : Nat → Nat → Int32) {i n : Nat} (hi : i < 6) (hn : n ≤ 8) (E : Int32 → Int32 → Int32 → (Nat → Int32) → (Nat → Int32) → Option ((Nat → Int32) × (Nat → Int32))) (e v : Nat → Int32) :
    ∀ (f k : Nat), k ≤ n → n - k < f → LX4_reckonReadings_15 C RD (nI i) E f (nI n) (rsum (RD i) k) (rsq (RD i) k) (nI k) e v = E (nI n) (rsum (RD i) n) (rsq (RD i) n) e v
  | 0, k, _, q => absurd q (Nat.not_lt_zero _)
  | f + 1, k, hk, q => by
    rw [LX4_reckonReadings_15]
    by_cases hc : n ≤ k
    · have : k = n := by omega
      subst this
      rw [if_pos ((nI_leI (by omega) (by omega)).mpr hc)]
    · rw [if_neg (fun q => hc ((nI_leI (by omega) (by omega)).mp q)), gi_n hi (by omega), gi_n (show k < 8 by omega) (by omega), clamp_n (by omega), clamp_n (by omega), nI_1]
      exact c_read_loop C RD hi hn E e v f (k + 1) (by omega) (by omega)
theorem xor_sign (s t : Int32) : (0 ≤ s ^^^ t) ↔ (s.toInt < 0 ↔ t.toInt < 0) := by
  have e : decide ((s ^^^ t).toInt < 0) = (decide (s.toInt < 0) ^^ decide (t.toInt < 0)) := by
    show decide ((s ^^^ t).toBitVec.toInt < 0) = (decide (s.toBitVec.toInt < 0) ^^ decide (t.toBitVec.toInt < 0))
    rw [← BitVec.msb_eq_toInt, ← BitVec.msb_eq_toInt, ← BitVec.msb_eq_toInt, Int32.toBitVec_xor, BitVec.msb_xor]
  rw [le_i, show (0 : Int32).toInt = 0 by decide]
  by_cases a : s.toInt < 0 <;> by_cases b : t.toInt < 0 <;> simp [a, b] at e ⊢ <;> omega
theorem ceil_of {n a : Nat} (h1 : 1 ≤ n) (h8 : n ≤ 8) : (a / n * n = a → (n - 1 + a) / n = a / n) ∧ (¬ a / n * n = a → (n - 1 + a) / n = a / n + 1) := by
  have : n = 1 ∨ n = 2 ∨ n = 3 ∨ n = 4 ∨ n = 5 ∨ n = 6 ∨ n = 7 ∨ n = 8 := by omega
  rcases this with rfl | rfl | rfl | rfl | rfl | rfl | rfl | rfl <;> constructor <;> intro h <;> omega
theorem c_read {i : Nat} (hi : i < 6) {v : Int32} {c : Nat} (hc : c ≤ 7) {C : Nat → Int32} (hC : C i = nI c) (E V S : Nat → Int32) (RD : Nat → Nat → Int32) {q : Int32}
    (hq : fJ9_floorDiv_7cf53 (rsum (upd2 RD i c v i) (c + 1)) (nI (c + 1)) = some q) :
    fX4_addReading (nI i) v E V S C RD = some (if c = 0 then 0 else (nI (c + 1) * rsq (upd2 RD i c v i) (c + 1) - rsum (upd2 RD i c v i) (c + 1) * rsum (upd2 RD i c v i) (c + 1)) / ((nI (c + 1) * nI (c + 1)) * (nI (c + 1) - 1)), upd E i q, upd V i (if c = 0 then 0 else (nI (c + 1) * rsq (upd2 RD i c v i) (c + 1) - rsum (upd2 RD i c v i) (c + 1) * rsum (upd2 RD i c v i) (c + 1)) / ((nI (c + 1) * nI (c + 1)) * (nI (c + 1) - 1))), upd S i 4, upd C i (nI (c + 1)), upd2 RD i c v) := by
  unfold fX4_addReading
  simp only [gi_n hi (show 6 < 2 ^ 31 by omega), clamp_n (show i < 2 ^ 31 by omega), hC, gi_n (show c < 8 by omega) (show 8 < 2 ^ 31 by omega), clamp_n (show c < 2 ^ 31 by omega), nI_1]
  rw [if_neg (show ¬ (8 : Int32) ≤ nI c from fun y => absurd ((nI_leI (a := 8) (by omega) (by omega)).mp y) (by omega))]
  unfold BX4_addReading_31 fX4_reckonReadings
  simp only [gi_n hi (show 6 < 2 ^ 31 by omega), clamp_n (show i < 2 ^ 31 by omega)]
  rw [show upd C i (nI (c + 1)) i = nI (c + 1) from if_pos rfl]
  erw [c_read_loop (upd C i (nI (c + 1))) (upd2 RD i c v) hi (show c + 1 ≤ 8 by omega) _ E V 1000 0 (by omega) (by omega)]
  rw [if_neg (nI_nle (by omega) (by omega)), hq, bnd1_s]
  unfold BX4_reckonReadings_71
  simp only [gi_n hi (show 6 < 2 ^ 31 by omega), clamp_n (show i < 2 ^ 31 by omega)]
  by_cases e : c = 0
  · subst e
    rw [if_pos (by decide), bnd2_s]
    simp [upd_at]
  · have h1 : ¬ nI (c + 1) ≤ 1 := fun q => e (by have := (nI_leI (b := 1) (by omega) (by omega)).mp q; omega)
    have h2 : ¬ nI (c + 1) * nI (c + 1) * (nI (c + 1) - 1) = 0 := by
      rw [nI_pred, pk_mul, pk_mul]
      have : 0 < (c + 1) * (c + 1) * c := Nat.mul_pos (Nat.mul_pos (by omega) (by omega)) (by omega)
      have l : (c + 1) * (c + 1) * c ≤ 8 * 8 * 7 := Nat.mul_le_mul (Nat.mul_le_mul (by omega) (by omega)) (by omega)
      exact nI_ne0 this (by omega)
    rw [if_neg h1, gz_ok h2, bnd2_s, if_neg e, upd_at, if_pos rfl]
/-! ===== draws ===== -/
def nxt (k : Nat) : Nat := (75 * k + 74) % 65537
theorem nxt_le (k : Nat) : nxt k ≤ 65536 := by
  have := Nat.mod_lt (75 * k + 74) (show 0 < 65537 by decide)
  unfold nxt
  omega
theorem nxt_rem {k : Nat} (hk : k ≤ 65536) : jrem ((75 * nI k) + 74) 65537 = nI (nxt k) := by
  have e : (75 * nI k) + 74 = nI (75 * k + 74) := by rw [show (75 : Int32) = nI 75 from rfl, pk_mul, show (74 : Int32) = nI 74 from rfl, nI_add]
  rw [e]
  exact pk_rem (d := 65537) (by omega) (by decide) (by decide)
theorem rem_n {a b : Nat} (ha : a ≤ 65536) (hb : 0 < b) (hb2 : b < 2 ^ 31) : jrem (nI a) (nI b) = nI (a % b) := pk_rem (by omega) hb hb2
theorem c_modulo {b k : Nat} (hb : 0 < b) (hb2 : b < 2 ^ 31) (hk : k ≤ 65536) : fX1_modulo (nI b) (nI k) = some (nI (nxt k % b), nI (nxt k)) := by
  unfold fX1_modulo
  simp only [nxt_rem hk]
  rw [if_neg (nI_nle hb hb2), gz_ok (nI_ne0 hb hb2), rem_n (nxt_le k) hb hb2]
/-- the same rows over the same inputs are worth the same -/
theorem valsTo_u {K L R u w : Nat → Int32} {V V2 : Nat → Int64} (hu : ∀ i, i < 6 → u i = w i) : ∀ {n : Nat}, n ≤ 60 → (∀ j, j < n → rowOK j (K j) (L j) (R j)) → ∀ j, j < n → valsTo K L R u n V j = valsTo K L R w n V2 j
  | 0, _, _, j, hj => absurd hj (Nat.not_lt_zero _)
  | n + 1, hn, h, j, hj => by
    have ih := valsTo_u (V := V) (V2 := V2) hu (n := n) (by omega) (fun j q => h j (by omega))
    show vp_updL _ n _ j = vp_updL _ n _ j
    rw [updL_at, updL_at]
    by_cases e : j = n
    · rw [if_pos e, if_pos e]
      rcases h n (by omega) with ⟨hk, hr⟩ | ⟨hk, hr, a, ha, hl⟩ | ⟨hk, hr, a, ha, hl⟩ | ⟨hk, a, b, ha, hb, hl, hr⟩ | ⟨hk, a, e, ha, he, hl, hr⟩
      · simp [valRow, hk]
      · simp [valRow, hk, hl, clamp_n (show a < 2 ^ 31 by omega), hu a ha]
      · simp [valRow, hk, hl, clamp_n (show a < 2 ^ 31 by omega), ih a ha]
      · rcases hk with hk | hk | hk <;> simp [valRow, hk, hl, hr, clamp_n (show a < 2 ^ 31 by omega), clamp_n (show b < 2 ^ 31 by omega), ih a ha, ih b hb]
      · simp [valRow, hk, hl, clamp_n (show a < 2 ^ 31 by omega), ih a ha]
    · rw [if_neg e, if_neg e]
      exact ih j (by omega)
/-! ===== what is asked of an input ===== -/
theorem c_widthOrCount {i : Nat} (hi : i < 6) (S W C : Nat → Int32) : fX4_widthOrCount (nI i) S W C = some (if S i = 4 then C i else W i) := by
  unfold fX4_widthOrCount
  simp only [gi_n hi (show 6 < 2 ^ 31 by omega), clamp_n (show i < 2 ^ 31 by omega)]
  by_cases h : S i = 4
  · rw [if_pos h, if_pos h]
  · rw [if_neg h, if_neg h]
/-- the answer of input -/
def inpAns (E V S W C : Nat → Int32) (i : Nat) (v : Int32) : Int32 := if v = 3 then degOf C i else if v = 0 then E i else if v = 1 then V i else if v = 2 then S i else if S i = 4 then C i else W i
