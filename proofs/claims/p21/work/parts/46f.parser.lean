/-! ===== reading the line: the rows' table on both sides ===== -/
abbrev TT := Nat → Nat → Int32
def isK (x : Int32) : Prop := x = 0 ∨ x = 1 ∨ x = 2 ∨ x = 3 ∨ x = 4 ∨ x = 5 ∨ x = 6
theorem rowOK_K {n : Nat} {k l r : Int32} (h : rowOK n k l r) : isK k := by
  unfold isK
  rcases h with ⟨hk, hr⟩ | ⟨hk, hr, j, hj, hl⟩ | ⟨hk, hr, a, ha, hl⟩ | ⟨hk, a, b, ha, hb, hl, hr⟩ | ⟨hk, a, e, ha, he, hl, hr⟩
  · exact Or.inl hk
  · exact Or.inr (Or.inl hk)
  · exact Or.inr (Or.inr (Or.inl hk))
  · rcases hk with hk | hk | hk
    · exact Or.inr (Or.inr (Or.inr (Or.inl hk)))
    · exact Or.inr (Or.inr (Or.inr (Or.inr (Or.inl hk))))
    · exact Or.inr (Or.inr (Or.inr (Or.inr (Or.inr (Or.inl hk)))))
  · exact Or.inr (Or.inr (Or.inr (Or.inr (Or.inr (Or.inr hk)))))
/-- the rows that there were stay -/
def Ext (n : Nat) (q q' : TT) : Prop := ∀ j, j < n → q' 0 j = q 0 j ∧ q' 1 j = q 1 j ∧ q' 2 j = q 2 j ∧ q' 3 j = q 3 j
theorem Ext_refl (n : Nat) (q : TT) : Ext n q q := fun _ _ => ⟨rfl, rfl, rfl, rfl⟩
theorem Ext_trans {n n' : Nat} {q q' q'' : TT} (h : Ext n q q') (hn : n ≤ n') (h' : Ext n' q' q'') : Ext n q q'' := fun j hj => by
  obtain ⟨a1, a2, a3, a4⟩ := h j hj
  obtain ⟨b1, b2, b3, b4⟩ := h' j (by omega)
  exact ⟨b1.trans a1, b2.trans a2, b3.trans a3, b4.trans a4⟩
/-! ===== the signs of the line ===== -/
/-- the sign that stands there; 0 behind the last -/
theorem gn_char {α : Type} {c : Nat} (hc : c < 65536) {x : Option α} : gn .char (nI c) x = x := by
  unfold gn
  rw [(pk_charN hc).1]
  exact if_pos rfl
def isD (c : Nat) : Prop := 48 ≤ c ∧ c ≤ 57
theorem c_isDigit {c : Nat} (hc : c ≤ 126) : fX5_isDigit (nI c) = some (if c < 48 ∨ 57 < c then 0 else 1) := by
  unfold fX5_isDigit
  by_cases h1 : c < 48
  · rw [if_pos (show nI c < 48 from (nI_ltI (b := 48) (by omega) (by omega)).mpr h1), if_pos (Or.inl h1)]
  · rw [if_neg (show ¬ nI c < 48 from fun y => h1 ((nI_ltI (b := 48) (by omega) (by omega)).mp y))]
    by_cases h2 : 57 < c
    · rw [if_pos (show (57 : Int32) < nI c from (nI_ltI (a := 57) (by omega) (by omega)).mpr h2), if_pos (Or.inr h2)]
    · rw [if_neg (show ¬ (57 : Int32) < nI c from fun y => h2 ((nI_ltI (a := 57) (by omega) (by omega)).mp y)), if_neg (by omega)]
/-! ===== reading the line: where the reference stands ===== -/
abbrev CY := Int32 × Int32 × (Nat → Int32) × (Nat → Int32) × (Nat → Int32) × (Nat → Int32) × Int32
def cFault (y : Option CY) (a : Nat) : Prop := ∃ (k l r p : Nat → Int32) (m : Int32), y = some ((-1), nI a, k, l, r, p, m)
/-- a row with an operand that is the last one is new -/
theorem row_left {n k2 : Nat} {k l r : Int32} (h : rowOK n k l r) (hk : ¬ k = 0 ∧ ¬ k = 1) {u : Nat} (hu : u < 2 ^ 31) (e : l = nI u) (_ : k2 = 0) (hn : n < 2 ^ 31) : u < n := by
  rcases h with ⟨hk1, hr⟩ | ⟨hk1, hr, j, hj, hl⟩ | ⟨hk1, hr, a, ha, hl⟩ | ⟨hk1, a, b, ha, hb, hl, hr⟩ | ⟨hk1, a, x, ha, he, hl, hr⟩
  · exact absurd hk1 hk.1
  · exact absurd hk1 hk.2
  · have := (nI_eq hu (by omega)).mp (e.symm.trans hl); omega
  · have := (nI_eq hu (by omega)).mp (e.symm.trans hl); omega
  · have := (nI_eq hu (by omega)).mp (e.symm.trans hl); omega
theorem row_right {n : Nat} {k l r : Int32} (h : rowOK n k l r) (hk : k = 3 ∨ k = 4 ∨ k = 5) {u : Nat} (hu : u < 2 ^ 31) (e : r = nI u) (hn : n < 2 ^ 31) : u < n := by
  rcases h with ⟨hk1, hr⟩ | ⟨hk1, hr, j, hj, hl⟩ | ⟨hk1, hr, a, ha, hl⟩ | ⟨hk1, a, b, ha, hb, hl, hr⟩ | ⟨hk1, a, x, ha, he, hl, hr⟩
  · rw [hk1] at hk; exact absurd hk (by decide)
  · rw [hk1] at hk; exact absurd hk (by decide)
  · rw [hk1] at hk; exact absurd hk (by decide)
  · have := (nI_eq hu (by omega)).mp (e.symm.trans hr); omega
  · rw [hk1] at hk; exact absurd hk (by decide)
