/-! ===== worlds of two lists, one of them a callee's ===== -/
theorem vs_l {D : va_G} {ws wr : va_W} {H : Heap} (h : va_P D vwCl (ws ++ wr) H) : va_P D vwCl ws H := fun k q hk => h k q (by rw [List.getElem?_append_left (List.getElem?_eq_some_iff.mp hk).1]; exact hk)
theorem vs_r {D : va_G} {ws wr : va_W} {H : Heap} (h : va_P D vwCl (ws ++ wr) H) : va_P D vwCl wr H := fun k q hk => h (ws.length + k) q (by rw [List.getElem?_append_right (Nat.le_add_right _ _), Nat.add_sub_cancel_left]; exact hk)
theorem vd_l {A : Nat → Prop} {ws wr : va_W} (h : va_D A (ws ++ wr)) : va_D A ws := ⟨fun i j p q hi hj e => h.1 i j p q (by rw [List.getElem?_append_left (List.getElem?_eq_some_iff.mp hi).1]; exact hi) (by rw [List.getElem?_append_left (List.getElem?_eq_some_iff.mp hj).1]; exact hj) e, fun k q hk => h.2 k q (by rw [List.getElem?_append_left (List.getElem?_eq_some_iff.mp hk).1]; exact hk)⟩
theorem vd_r {A : Nat → Prop} {ws wr : va_W} (h : va_D A (ws ++ wr)) : va_D A wr := by
  have e : ∀ (k : Nat) (q : Nat × va_E), wr[k]? = some q → (ws ++ wr)[ws.length + k]? = some q := fun k q hk => by rw [List.getElem?_append_right (Nat.le_add_right _ _), Nat.add_sub_cancel_left]; exact hk
  refine ⟨fun i j p q hi hj h0 => ?_, fun k q hk => h.2 _ q (e k q hk)⟩
  have := h.1 _ _ p q (e i p hi) (e j q hj) h0
  omega
theorem vd_x {A : Nat → Prop} {ws wr : va_W} (h : va_D A (ws ++ wr)) {i j : Nat} {p q : Nat × va_E} (hi : ws[i]? = some p) (hj : wr[j]? = some q) : p.1 ≠ q.1 := fun h0 => by
  have l := (List.getElem?_eq_some_iff.mp hi).1
  have := h.1 i (ws.length + j) p q (by rw [List.getElem?_append_left l]; exact hi) (by rw [List.getElem?_append_right (Nat.le_add_right _ _), Nat.add_sub_cancel_left]; exact hj) h0
  omega
theorem vs_free {A : Nat → Prop} {ws : va_W} {H0 H : Heap} {locs : List Loc} (hD : va_D A ws) (hS : va_S A H0 H locs) (hA : ∀ q : Nat, H0.size ≤ q → A q) : ∀ q, va_A ws H.size q → A q := fun q h => h.elim (fun ⟨k, e, hk⟩ => hD.2 k _ hk) (fun h => hA q (Nat.le_trans hS.1 h))
/-- the callee's cells at the end of the list -/
theorem vs_joinR {A0 : Nat → Prop} {D : va_G} {wc wr w1 : va_W} {H H1 : Heap} (hP : va_P D vwCl (wr ++ wc) H) (hD : va_D A0 (wr ++ wc)) (hF : ∀ q, va_A wc H.size q → A0 q) (hk : ∀ q : Nat, q < H.size → ¬ va_A wc H.size q → H1[q]? = H[q]?) (hP1 : va_P D vwCl w1 H1) (hD1 : va_D (va_A wc H.size) w1) : va_P D vwCl (wr ++ w1) H1 ∧ va_D A0 (wr ++ w1) := by
  have hr := vs_l hP
  have key : ∀ (j : Nat) (q : Nat × va_E), wr[j]? = some q → ¬ va_A wc H.size q.1 := fun j q hj h => by
    rcases h with ⟨i, e, hi⟩ | h
    · exact vd_x hD hj hi rfl
    · exact absurd (hr j q hj).lt (Nat.not_lt.mpr h)
  exact ⟨(hr.kept (fun j q hj => hk q.1 (hr j q hj).lt (key j q hj))).app hP1, (vd_l hD).app (hD1.weaken (fun _ q _ h => hF q.1 h)) (fun i j p q hi hj e => key i p hi (e.symm ▸ hD1.2 j q hj))⟩
/-- .. at its head -/
theorem vs_joinL {A0 : Nat → Prop} {D : va_G} {wc wr w1 : va_W} {H H1 : Heap} (hP : va_P D vwCl (wc ++ wr) H) (hD : va_D A0 (wc ++ wr)) (hF : ∀ q, va_A wc H.size q → A0 q) (hk : ∀ q : Nat, q < H.size → ¬ va_A wc H.size q → H1[q]? = H[q]?) (hP1 : va_P D vwCl w1 H1) (hD1 : va_D (va_A wc H.size) w1) : va_P D vwCl (w1 ++ wr) H1 ∧ va_D A0 (w1 ++ wr) := by
  have hr := vs_r hP
  have key : ∀ (j : Nat) (q : Nat × va_E), wr[j]? = some q → ¬ va_A wc H.size q.1 := fun j q hj h => by
    rcases h with ⟨i, e, hi⟩ | h
    · exact vd_x hD hi hj rfl
    · exact absurd (hr j q hj).lt (Nat.not_lt.mpr h)
  exact ⟨hP1.app (hr.kept (fun j q hj => hk q.1 (hr j q hj).lt (key j q hj))), (hD1.weaken (fun _ q _ h => hF q.1 h)).app (vd_r hD) (fun i j p q hi hj e => key j q hj (e ▸ hD1.2 i p hi))⟩
/-- a world in another order -/
theorem vs_perm {D : va_G} {ws ws' : va_W} {H : Heap} (h : va_P D vwCl ws H) (hp : ws'.Perm ws) : va_P D vwCl ws' H := fun k q hk => by
  obtain ⟨j, hj⟩ := List.mem_iff_getElem?.mp (hp.mem_iff.mp (List.mem_of_getElem? hk))
  exact h j q hj
theorem vd_iff {A : Nat → Prop} {ws : va_W} : va_D A ws ↔ (ws.map Prod.fst).Nodup ∧ ∀ q ∈ ws, A q.1 := by
  constructor
  · intro h
    refine ⟨List.pairwise_iff_getElem.mpr (fun i j hi hj hij e => ?_), fun q hq => (List.mem_iff_getElem?.mp hq).elim fun k hk => h.2 k q hk⟩
    have hi' : i < ws.length := by rw [List.length_map] at hi; exact hi
    have hj' : j < ws.length := by rw [List.length_map] at hj; exact hj
    simp only [List.getElem_map] at e
    have := h.1 i j _ _ (List.getElem?_eq_getElem hi') (List.getElem?_eq_getElem hj') e
    omega
  · intro h
    refine ⟨fun i j p q hi hj e => ?_, fun k q hk => h.2 q (List.mem_of_getElem? hk)⟩
    have hn := List.pairwise_iff_getElem.mp h.1
    obtain ⟨li, ei⟩ := List.getElem?_eq_some_iff.mp hi
    obtain ⟨lj, ej⟩ := List.getElem?_eq_some_iff.mp hj
    rcases Nat.lt_trichotomy i j with l | l | l
    · exact (hn i j (by rw [List.length_map]; exact li) (by rw [List.length_map]; exact lj) l (by simp only [List.getElem_map, ei, ej]; exact e)).elim
    · exact l
    · exact (hn j i (by rw [List.length_map]; exact lj) (by rw [List.length_map]; exact li) l (by simp only [List.getElem_map, ei, ej]; exact e.symm)).elim
theorem vd_perm {A : Nat → Prop} {ws ws' : va_W} (h : va_D A ws) (hp : ws'.Perm ws) : va_D A ws' := by
  rw [vd_iff] at h ⊢
  exact ⟨(hp.map Prod.fst).nodup_iff.mpr h.1, fun q hq => h.2 q (hp.mem_iff.mp hq)⟩
abbrev rmX6_unit : Room := { frames := 8, cells := 0, slots := 0, locals := 900 }
abbrev rmX6_model : Room := { frames := 59, cells := 8, slots := 429, locals := 1950 }
