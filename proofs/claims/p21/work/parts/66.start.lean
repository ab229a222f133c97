/-! ===== how the law begins ===== -/
theorem wsL_law_in : ∀ w ∈ wsL_law, w ∈ lw_tbl := fun w h => (List.mem_append.mp h).elim (fun h => (List.mem_append.mp h).elim (fun h => (List.mem_append.mp h).elim (fun h => wsL_law_in0 w h) (fun h => wsL_law_x0 w h)) (fun h => wsL_law_x1 w h)) (fun h => wsL_law_x2 w h)
theorem pm2 {B : va_W} {x y : Nat × va_E} : ([y, x] ++ B).Perm ((B ++ [x]) ++ [y]) := pmc (fun a => by simp only [List.count_append, List.count_cons, List.count_nil]; omega)
section XN2
variable {p : Program} {l : Launch} {e : Env} {R : Room} {s : State} {m : MethodId} {args : Array Value} {below : List Frame} {meth : Method} {c : Code} {H : Heap} {locs : List Loc} {cells slots : Nat} {Q : State → Prop}
variable {pc : Nat} {ls : Array Slot} {rest st0 : List Value} {a : Array Value} {A0 : Nat → Prop} {H0 : Heap} {mc ms : Nat} {D : va_G} {k : Nat → ClassId} {wc : va_W}
theorem xc_n2 {w1 : (Nat → Nat → Nat) → va_W} {h0 : Nat} (hr : va_Run p l e R s m args below meth c H locs cells slots mc ms (F0 m pc ls st0) rest (va_Qv (fun u : Nat → Nat → Nat => u 0 0 = h0) (fun u t => PostW D k (va_A wc H.size) (w1 u) t) (va_A wc H.size) a) (va_A wc H.size)) (hS : va_S A0 H0 H locs) (hF : ∀ q, va_A wc H.size q → A0 q)
    (kk : ∀ (u : Nat → Nat → Nat) (H1 : Heap) (locs1 : List Loc), u 0 0 = h0 → va_P D vwCl (w1 u) H1 → va_D (va_A wc H.size) (w1 u) → (∀ q : Nat, q < H.size → ¬ va_A wc H.size q → H1[q]? = H[q]?) → va_S A0 H0 H1 locs1 → W p l e R s m args below meth c H1 locs1 (cells + mc) (slots + ms) Q (F0 m (pc + 3) ls rest)) : W p l e R s m args below meth c H locs cells slots Q (F0 m pc ls st0) :=
  va_callv hr hS (fun q _ h => hF q h) hF (fun u t H1 locs1 ht hvm hw hB hz hk hS => by obtain ⟨a, b, c⟩ := hB; rw [ht] at a; exact kk u H1 locs1 hw a c hk hS)
end XN2
theorem BW_first {k : Nat → ClassId} {u : Nat → Nat → Nat} : (BW k u (fun _ _ => 0) 0 (fun _ _ => 0) (fun _ _ _ => 0) (fun _ => 0) 0 0 ((fun _ _ => 0, fun _ _ => 0, 0, 0) : FC) (fun _ => ((fun _ _ => 0, fun _ _ => 0, 0, 0) : FC)) (fun _ => 0) (fun _ => 0) 0 0 (upd (fun _ => 0) 0 1) (upd (fun _ => 0) 0 200) 1 1 (fun _ => 0)) = ((wU k (u 0) (u 1 0) (u 2 0) (u 3 0) (u 4 0) (u 5 0) (u 6 0) (fun _ => none) (fun _ => 0) 0) ++ (wI k (u 1) (fun _ => 0) (fun _ => 0) (fun _ => 0) (fun _ => 0) (fun _ => 0) (fun _ _ => 0) (fun _ => 0) (fun _ => 0) (fun _ _ => 0)) ++ (wL k (u 2) (fun _ => 0) 0 0) ++ (wF k (u 3) (fun _ => 0) (fun _ => 0) (fun _ => 0) (fun _ => 0) (fun _ => 0) (fun _ => 0) (fun _ => 0) 0 0) ++ (wB k (u 4) (fun _ => 0) (fun _ => 0) 0 0) ++ (wV k (u 5) (upd (fun _ => 0) 0 1) (upd (fun _ => 0) 0 200) 1) ++ (wC k (u 6) 1)) := by
  unfold BW
  rw [show fRow 0 (fun _ _ => 0) = (fun _ => none) from funext fun i => if_neg (Nat.not_lt_zero i), nI_0]
  rfl
theorem isBk_first {k : Nat → ClassId} {u : Nat → Nat → Nat} : isBk k (u 0 0) (mkO 0 (fun _ _ => 0) (fun _ _ => 0) 0 (fun _ => 0) (fun _ => 0) (fun _ _ => 0) (fun _ => 0) (fun _ => 0) 1 1) (BW k u (fun _ _ => 0) 0 (fun _ _ => 0) (fun _ _ _ => 0) (fun _ => 0) 0 0 ((fun _ _ => 0, fun _ _ => 0, 0, 0) : FC) (fun _ => ((fun _ _ => 0, fun _ _ => 0, 0, 0) : FC)) (fun _ => 0) (fun _ => 0) 0 0 (upd (fun _ => 0) 0 1) (upd (fun _ => 0) 0 200) 1 1 (fun _ => 0)) := by
  refine ⟨u, fun _ _ => 0, fun _ _ _ => 0, fun _ => 0, 0, ((fun _ _ => 0, fun _ _ => 0, 0, 0) : FC), fun _ => ((fun _ _ => 0, fun _ _ => 0, 0, 0) : FC), fun _ => 0, fun _ => 0, 0, 0, upd (fun _ => 0) 0 1, upd (fun _ => 0) 0 200, fun _ => 0, rfl, rfl, ?_⟩
  refine ⟨Nat.zero_le _, fun i _ => Or.inr ⟨0, 0, by omega, by omega, rfl, rfl, rfl⟩, ⟨fun i j _ _ => ⟨rfl, show (-9999 : Int32) ≤ 0 by decide, show (0 : Int32) ≤ 9999 by decide⟩, rfl⟩, ⟨by decide, fun j hj => ?_, fun i j hi hj _ => ?_⟩, by decide, ⟨by decide, fun a h => absurd h (Nat.not_lt_zero _), fun _ _ => rfl⟩, fun i h => absurd h (Nat.not_lt_zero _)⟩
  · have hj : j < 1 := hj
    have : j = 0 := by omega
    subst this
    exact ⟨by decide, by decide, by decide, by decide⟩
  · have hi : i < 1 := hi
    have hj : j < 1 := hj
    omega
theorem law_NW {s : State} {b : Nat} (hts : ∀ w ∈ lw_tbl, w.before #[Value.ref b] s = true) : NW s := ⟨va_Nw.of rfl (hts (.methodLinkNest RX6 9 yX4_init "UncertainBook") (by decide +kernel)), va_Nw.of rfl (hts (.methodLinkNest RX6 18 yX5_init "UncertainBook") (by decide +kernel)), va_Nw.of rfl (hts (.methodLinkNest RX6 33 yX3_init "UncertainBook") (by decide +kernel)), va_Nw.of rfl (hts (.methodLinkNest RX6 40 yX0_init "UncertainBook") (by decide +kernel)), va_Nw.of rfl (hts (.methodLinkNest RX6 54 yX1_init "UncertainBook") (by decide +kernel)), va_AO.of (hts (.arrayOver (.object RX3)) (by decide +kernel)), hts (.arrayOver (.array .int)) (by decide +kernel)⟩
theorem law_str {s : State} {b : Nat} (hts : ∀ w ∈ lw_tbl, w.before #[Value.ref b] s = true) (hg : ∀ w ∈ flatC (Jvm.Cond.and given_1 narrow_1), w.before #[Value.ref b] s = true) : ∀ q ∈ xpStr, ∃ a, vk_R RX6 q.1 q.2 a s := by
  have st9 : ∀ (i : Nat) (t : String), (Cond.stringRef RX6 i t).before #[Value.ref b] s = true → (Cond.exactly (.string RX6 i) "java/lang/String").before #[Value.ref b] s = true → ∃ a, vk_R RX6 i t a s := fun i t h1 h2 => by
    obtain ⟨a, -, -, -, ha, -⟩ := Cond.exactly_spec h2
    exact ⟨a, vk_R.of h1 ha⟩
  exact List.forall_mem_cons.mpr ⟨st9 80 "the input has all its readings" (hts (.stringRef RX6 80 "the input has all its readings") (by decide +kernel)) (hg (.exactly (.string RX6 80) "java/lang/String") (by decide +kernel)), List.forall_mem_cons.mpr ⟨st9 227 "the table is full" (hts (.stringRef RX6 227 "the table is full") (by decide +kernel)) (hg (.exactly (.string RX6 227) "java/lang/String") (by decide +kernel)), fun _ h => absurd h List.not_mem_nil⟩⟩
theorem law_XP {s : State} {b : Nat} (hts : ∀ w ∈ lw_tbl, w.before #[Value.ref b] s = true) (hg : ∀ w ∈ flatC (Jvm.Cond.and given_1 narrow_1), w.before #[Value.ref b] s = true) : XP (lwA s) s s.heap := by
  have hA : ∀ a : Nat, a < s.heap.size → ¬ lwA s a := fun a h => Nat.not_le.mpr h
  have hi : (Cond.initialized Bundle.tN).before #[Value.ref b] s = true := hts (.initialized Bundle.tN) (by decide +kernel)
  refine ⟨vx_Zqof (hts (.laysStatic Bundle.tN "UNASSIGNED_STACK" Bundle.steD) (by decide +kernel)) hi (hg (.isRef (.static Bundle.tN "UNASSIGNED_STACK" Bundle.steD)) (by decide +kernel)) hA, vx_Zqof (hts (.laysStatic Bundle.tN "SUPPRESSED_SENTINEL" Bundle.listD) (by decide +kernel)) hi (hg (.isRef (.static Bundle.tN "SUPPRESSED_SENTINEL" Bundle.listD)) (by decide +kernel)) hA, law_str hts hg, ?_, ?_⟩
  · exact List.forall_mem_cons.mpr ⟨va_Nw.of rfl (hts (.castable exS exS) (by decide +kernel)), fun _ h => absurd h List.not_mem_nil⟩
  · exact List.forall_mem_cons.mpr ⟨va_Nw.of rfl (hts (.declares (Bundle.initS "java/lang/RuntimeException")) (by decide +kernel)), List.forall_mem_cons.mpr ⟨va_Nw.of rfl (hts (.declares (Bundle.initS "java/lang/Exception")) (by decide +kernel)), List.forall_mem_cons.mpr ⟨va_Nw.of rfl (hts (.declares (Bundle.initS "java/lang/Throwable")) (by decide +kernel)), fun _ h => absurd h List.not_mem_nil⟩⟩⟩
theorem law_K {s : State} {b : Nat} (hts : ∀ w ∈ lw_tbl, w.before #[Value.ref b] s = true) : ∃ (D : va_G) (k : Nat → ClassId), va_K D vwCl (tyL k) s := by
  obtain ⟨c0, i0, h0⟩ := u_known (C := RX0) (T := TX0) (N := 4) (n := 4) hts wsL_law_X0 (hts (.instantiable RX0 4) (by decide +kernel))
  obtain ⟨c1, i1, h1⟩ := u_known (C := RX1) (T := TX1) (N := 1) (n := 1) hts wsL_law_X1 (hts (.instantiable RX1 1) (by decide +kernel))
  obtain ⟨c2, i2, h2⟩ := u_known (C := RX2) (T := TX2) (N := 3) (n := 3) hts wsL_law_X2 (hts (.instantiable RX2 3) (by decide +kernel))
  obtain ⟨c3, i3, h3⟩ := u_known (C := RX3) (T := TX3) (N := 9) (n := 9) hts wsL_law_X3 (hts (.instantiable RX3 9) (by decide +kernel))
  obtain ⟨c4, i4, h4⟩ := u_known (C := RX4) (T := TX4) (N := 9) (n := 9) hts wsL_law_X4 (hts (.instantiable RX4 9) (by decide +kernel))
  obtain ⟨c5, i5, h5⟩ := u_known (C := RX5) (T := TX5) (N := 3) (n := 3) hts wsL_law_X5 (hts (.instantiable RX5 3) (by decide +kernel))
  obtain ⟨c6, i6, h6⟩ := u_known (C := RX6) (T := TX6) (N := 9) (n := 9) hts wsL_law_X6 (hts (.instantiable RX6 9) (by decide +kernel))
  obtain ⟨a0, a1, a2, a3, a4, a5⟩ := Cond.arrayClass_spec (hts (.arrayClass .int) (by decide +kernel))
  obtain ⟨e0, e1, e2, e3, e4, e5⟩ := Cond.arrayClass_spec (hts (.arrayClass .long) (by decide +kernel))
  obtain ⟨f0, f1, f2, f3, f4, f5⟩ := Cond.arrayClass_spec (hts (.arrayClass .char) (by decide +kernel))
  obtain ⟨g0, g1, g2, g3, g4, g5, g6, g7⟩ := Cond.arrayOver_spec (hts (.arrayOver (.object RX3)) (by decide +kernel))
  obtain ⟨y0, y1, y2, y3, y4, y5, y6, y7⟩ := arrayOverA_spec (t := .int) (hts (.arrayOver (.array .int)) (by decide +kernel))
  refine ⟨(fun q => [c0, c1, c2, c3, c4, c5, c6].getD q c0, fun q => [i0, i1, i2, i3, i4, i5, i6].getD q i0), fun q => [a0, e0, f0, g1, y1].getD q a0, fun q r hq => ?_, fun q r hq => ?_⟩
  · match q, hq with
    | 0, hq => cases hq; exact h0
    | 1, hq => cases hq; exact h1
    | 2, hq => cases hq; exact h2
    | 3, hq => cases hq; exact h3
    | 4, hq => cases hq; exact h4
    | 5, hq => cases hq; exact h5
    | 6, hq => cases hq; exact h6
    | q + 7, hq => simp [vwCl] at hq
  · match q, hq with
    | 0, hq => cases hq; exact ⟨fun n z => ⟨(fun k h => by cases h), a1, a4, a2, a5⟩, a3⟩
    | 1, hq => cases hq; exact ⟨fun n z => ⟨(fun k h => by cases h), e1, e4, e2, e5⟩, e3⟩
    | 2, hq => cases hq; exact ⟨fun n z => ⟨(fun k h => by cases h), f1, f4, f2, f5⟩, f3⟩
    | 3, hq => cases hq; exact ⟨fun n z => ⟨(fun k h => by cases h), g2, g5, g0, g6⟩, g2, g0, g5, g6, g3, g7⟩
    | 4, hq => cases hq; exact ⟨fun n z => ⟨(fun k h => by cases h), y2, y5, y0, y6⟩, y7⟩
    | q + 5, hq => simp [tyL] at hq
set_option maxHeartbeats 4000000 in
set_option maxRecDepth 100000 in
/-- THE LAW, from its entry -/
theorem whole_start {p : Program} {e : Env} {s : State} {m : MethodId} {below : List Frame} {meth : Method} {c : Code} (l : Launch) (hflags : l.flags = flags0) {b L : Nat} {xs : Nat → Int32} (hL : L ≤ 260) (C0 : lw_At p s m meth c b L xs) : W p l e room_1 s m #[Value.ref b] below meth c s.heap [] 0 0 (lw_Z below #[Value.ref b] s) (entryFrame m ([Value.ref b] : List Value).toArray 7) := by
  obtain ⟨hx, hb, hr, hml, hown, hts1, hX, hbl, hlocks, hgv⟩ := C0
  have hts : ∀ w ∈ wsL_law, w.before #[Value.ref b] s = true := fun w hw => hts1 w (wsL_law_in w hw)
  have hg : ∀ w ∈ flatC (Jvm.Cond.and given_1 narrow_1), w.before #[Value.ref b] s = true := flat_of_before _ hgv
  have hst : l.stackTraces = false := by
    unfold Launch.stackTraces
    rw [hflags]
    decide +kernel
  have hNW := law_NW hts1
  have hXP := law_XP hts1 hg
  obtain ⟨D, k, hK⟩ := law_K hts1
  have hA : ∀ q : Nat, s.heap.size ≤ q → lwA s q := fun _ h => h
  have hbA : ¬ lwA s b := Nat.not_le.mpr hbl
  have hS : va_S (lwA s) s.heap s.heap [] := va_S.rf
  have hP : va_P D vwCl [] s.heap := fun k q h => by simp at h
  have hD : va_D (lwA s) [] := ⟨fun i j p q h => by simp at h, fun k q h => by simp at h⟩
  have hl := lv_entry ([.ref b]) (n := 7) (Nat.le_of_ble_eq_true rfl)
  rw [lg_entry_eq]
  generalize (lg_sl ([.ref b]) ++ List.replicate (7 - (lg_sl ([.ref b])).length) Slot.unset).toArray = ls at hl ⊢
  replace hl : lv_has ls 7 [(0, .ref b)] := hl
  show W p l e room_1 s m #[Value.ref b] below meth c s.heap [] 0 0 _ (F0 m 0 ls [])
  refine va_new (ci := 6) (fs := [.null, .null, .null, .int 0, .null, .null, .null, .null, .null]) (C := RX6) (T := TX6) (N := 9) hx hb hts1 wsL_law_X6 tyX6 tyX6_ok hown (hts (.classLink RL 11 RX6) (by decide +kernel)) (hts (.instantiable RX6 9) (by decide +kernel)) (hts (.initialized RX6) (by decide +kernel)) hK hP hD hS hA rfl (fun j hj => by rcases (show j = 0 ∨ j = 1 ∨ j = 2 ∨ j = 3 ∨ j = 4 ∨ j = 5 ∨ j = 6 ∨ j = 7 ∨ j = 8 by omega) with rfl | rfl | rfl | rfl | rfl | rfl | rfl | rfl | rfl <;> rfl) (Nat.le_of_ble_eq_true rfl) (Nat.le_of_ble_eq_true rfl) dL_law_0 (fun x0 H hP hD hS => ?_)
  replace hP : va_P D vwCl [(x0, .inr (6, [.null, .null, .null, .int 0, .null, .null, .null, .null, .null]))] H := hP
  replace hD : va_D (lwA s) [(x0, .inr (6, [.null, .null, .null, .int 0, .null, .null, .null, .null, .null]))] := hD
  refine W.widen (k := 1) (n := 9) (Nat.le_of_ble_eq_true rfl) (Nat.le_of_ble_eq_true rfl) ?_
  refine lv_dup hx hb dL_law_3 rfl ?_
  have hFc := vs_free hD hS hA
  refine xc_n2 (va_runI (As := []) (rest := [.ref x0]) ⟨hx, hb, hml, hown, hts⟩ (met_X6_init l D k x0 H.size) (cwI 0 hts gL_law_X6_init rfl rfl rfl (hts (.initialized RX6) (by decide +kernel)) (hts (.methodLink RL 124 yX6_init) (by decide +kernel)) (hts (.instanceMethod yX6_init) (by decide +kernel)) rfl (by decide +kernel) ⟨Nat.le_of_ble_eq_true rfl, Nat.le_of_ble_eq_true rfl⟩) ⟨pn_blind, pn_start hP hK hD hNW⟩ rfl rfl hl.1 rfl (lv_room (Nat.le_of_ble_eq_true rfl)) dL_law_4 ⟨Nat.le_of_ble_eq_true rfl, Nat.le_of_ble_eq_true rfl⟩) hS hFc (fun u H1 locs hu hP1 hD1 hk1 hS => ?_)
  obtain ⟨hP9, hD9⟩ := vj_all hFc hP1 hD1
  clear hP1 hD1 hk1 hFc hP hD
  subst hu
  have hP := hP9
  have hD := hD9
  clear hP9 hD9
  generalize H1 = H at hP hS ⊢
  rw [← BW_first] at hP hD
  refine W.widen (k := 60) (n := 1000) (Nat.le_of_ble_eq_true rfl) (Nat.le_of_ble_eq_true rfl) ?_
  refine lv_astore_n (lv' := [(1, .ref (u 0 0)), (0, .ref b)]) hx hb dL_law_7 rfl hl (by decide) rfl (fun ls hl => ?_)
  generalize hB : (BW k u (fun _ _ => 0) 0 (fun _ _ => 0) (fun _ _ _ => 0) (fun _ => 0) 0 0 ((fun _ _ => 0, fun _ _ => 0, 0, 0) : FC) (fun _ => ((fun _ _ => 0, fun _ _ => 0, 0, 0) : FC)) (fun _ => 0) (fun _ => 0) 0 0 (upd (fun _ => 0) 0 1) (upd (fun _ => 0) 0 200) 1 1 (fun _ => 0)) = B at hP hD
  have hBk : isBk k (u 0 0) (mkO 0 (fun _ _ => 0) (fun _ _ => 0) 0 (fun _ => 0) (fun _ => 0) (fun _ _ => 0) (fun _ => 0) (fun _ => 0) 1 1) B := by rw [← hB]; exact isBk_first
  clear hB
  refine lv_iconst (v := 3) hx hb dL_law_8 (by decide) ?_
  refine va_newaQ (atype := .int) (ty := .int) (t0 := 0) (a0 := (3, .inl (fun _ => 0))) hx hb (hts (.arrayClass .int) (by decide +kernel)) rfl hK rfl hP hD hS hA (fun _ => rfl) (by decide) (by decide) (Nat.le_of_ble_eq_true rfl) (Nat.le_of_ble_eq_true rfl) (Nat.le_of_ble_eq_true rfl) dL_law_9 (fun qd H hP hD hS => ?_)
  refine W.widen (k := 61) (n := 1003) (Nat.le_of_ble_eq_true rfl) (Nat.le_of_ble_eq_true rfl) ?_
  refine lv_astore_n (lv' := [(2, .ref qd), (1, .ref (u 0 0)), (0, .ref b)]) hx hb dL_law_11 rfl hl (by decide) rfl (fun ls hl => ?_)
  refine lv_bipush (v := 6) hx hb dL_law_12 (by decide) ?_
  refine va_newaQ (atype := .int) (ty := .int) (t0 := 0) (a0 := (6, .inl (fun _ => 0))) hx hb (hts (.arrayClass .int) (by decide +kernel)) rfl hK rfl hP hD hS hA (fun _ => rfl) (by decide) (by decide) (Nat.le_of_ble_eq_true rfl) (Nat.le_of_ble_eq_true rfl) (Nat.le_of_ble_eq_true rfl) dL_law_14 (fun qw H hP hD hS => ?_)
  refine W.widen (k := 70) (n := 1100) (Nat.le_of_ble_eq_true rfl) (Nat.le_of_ble_eq_true rfl) ?_
  refine lv_astore_n (lv' := [(3, .ref qw), (2, .ref qd), (1, .ref (u 0 0)), (0, .ref b)]) hx hb dL_law_16 rfl hl (by decide) rfl (fun ls hl => ?_)
  replace hP := vs_perm hP pm2
  replace hD := vd_perm hD pm2
  refine lv_aload_n hx hb dL_law_17 rfl (lv_at hl 1 rfl) ?_
  refine lv_iconst (v := 1) hx hb dL_law_18 (by decide) ?_
  refine lv_iconst (v := 1) hx hb dL_law_19 (by decide) ?_
  refine va_iast hx hb hK hP hD hS 1 0 rfl rfl vi1 dL_law_20 (fun H locs hP hD hS => ?_)
  replace hP : va_P D vwCl ([(qw, .inl (k 0, 6, .inl (fun _ => 0))), (qd, .inl (k 0, 3, .inl (upd (fun _ => 0) (1 : Int32).toNatClampNeg 1)))] ++ B) H := hP
  replace hD : va_D (lwA s) ([(qw, .inl (k 0, 6, .inl (fun _ => 0))), (qd, .inl (k 0, 3, .inl (upd (fun _ => 0) (1 : Int32).toNatClampNeg 1)))] ++ B) := hD
  refine lv_aload_n hx hb dL_law_21 rfl (lv_at hl 1 rfl) ?_
  refine lv_iconst (v := 2) hx hb dL_law_22 (by decide) ?_
  refine lv_iconst (v := 1) hx hb dL_law_23 (by decide) ?_
  refine va_iast hx hb hK hP hD hS 1 0 rfl rfl vi2 dL_law_24 (fun H locs hP hD hS => ?_)
  replace hP : va_P D vwCl ([(qw, .inl (k 0, 6, .inl (fun _ => 0))), (qd, .inl (k 0, 3, .inl (upd (upd (fun _ => 0) (1 : Int32).toNatClampNeg 1) (2 : Int32).toNatClampNeg 1)))] ++ B) H := hP
  replace hD : va_D (lwA s) ([(qw, .inl (k 0, 6, .inl (fun _ => 0))), (qd, .inl (k 0, 3, .inl (upd (upd (fun _ => 0) (1 : Int32).toNatClampNeg 1) (2 : Int32).toNatClampNeg 1)))] ++ B) := hD
  have hI : IV (mkO 0 (fun _ _ => 0) (fun _ _ => 0) 0 (fun _ => 0) (fun _ => 0) (fun _ _ => 0) (fun _ => 0) (fun _ => 0) 1 1) (upd (upd (fun _ => 0) (1 : Int32).toNatClampNeg 1) (2 : Int32).toNatClampNeg 1) (fun _ => 0) := ⟨isBk_OF hBk, rfl, rfl, Or.inr rfl, fun _ _ => rfl, rfl⟩
  have h050 : oI (mkO 0 (fun _ _ => 0) (fun _ _ => 0) 0 (fun _ => 0) (fun _ => 0) (fun _ _ => 0) (fun _ => 0) (fun _ => 0) 1 1) 0 5 = 0 := rfl
  generalize (mkO 0 (fun _ _ => 0) (fun _ _ => 0) 0 (fun _ => 0) (fun _ => 0) (fun _ _ => 0) (fun _ => 0) (fun _ => 0) 1 1) = o at hBk hI h050
  generalize (upd (upd (fun _ => 0) (1 : Int32).toNatClampNeg 1) (2 : Int32).toNatClampNeg 1) = d at hP hD hI
  generalize (fun _ => 0 : Nat → Int32) = w at hP hD hI
  refine lv_aload_n hx hb dL_law_25 rfl (lv_at hl 2 rfl) ?_
  refine lv_lconst (v := 0) hx hb dL_law_26 (by decide) ?_
  have hPc := vs_r hP
  have hDc := vd_r hD
  have hFc := vs_free hDc hS hA
  refine xc_iB (vx_runSW (mc := 0) (ms := 0) (As := [.ref (u 0 0), .long 0]) (rest := []) ⟨hx, hb, hml, hown, hts⟩ (met_L_types l hst D k hBk (v1 := 0) (K := fun r o' => r = 0 ∧ IV o' d w ∧ oI o' 0 5 = 0) ⟨0, 0, by decide, rfl, z_ok.1, z_ok.2, by rw [hI.2.2.2.2.2]; decide, fun hO => ⟨by rw [hI.2.2.2.2.2]; rfl, ⟨hO, hI.2.1, hI.2.2.1, hI.2.2.2.1, hI.2.2.2.2.1, hI.2.2.2.2.2⟩, h050⟩⟩ H.size) (vx_cwSW 2 hts gL_law_L_types rfl rfl rfl (by decide +kernel) ⟨Nat.le_of_ble_eq_true rfl, Nat.le_of_ble_eq_true rfl⟩) ⟨pz_blind, pz_start hPc hK hDc (hXP.keep hS.2.1) hNW hFc⟩ rfl rfl hl.1 rfl (lv_room (Nat.le_of_ble_eq_true rfl)) dL_law_27 ⟨Nat.le_of_ble_eq_true rfl, Nat.le_of_ble_eq_true rfl⟩) hS hFc (fun r9 o9 wb9 H1 locs hk9 hBk9 hP1 hD1 hk1 hS => ?_)
  obtain ⟨er, hI9, h05⟩ := hk9
  rw [er]
  clear er r9
  obtain ⟨hP2, hD2⟩ := vs_joinR hP hD hFc hk1 hP1 hD1
  clear hP1 hD1 hk1 hFc hPc hDc hP hD hI hBk
  refine lv_if_ne (tgt := 46) hx hb dL_law_30 (by decide) (fun q => absurd rfl q) (fun _ => ?_)
  refine lv_aload_n hx hb dL_law_33 rfl (lv_at hl 2 rfl) ?_
  refine lv_iconst (v := 5) hx hb dL_law_34 (by decide) ?_
  refine lv_iconst (v := 0) hx hb dL_law_35 (by decide) ?_
  have hPc := vs_r hP2
  have hDc := vd_r hD2
  have hFc := vs_free hDc hS hA
  obtain ⟨fs, hb0⟩ := isBk_head hBk9
  refine xc_iB (va_runV (mc := 0) (ms := 0) (As := [.int 5, .int 0]) (rest := []) ⟨hx, hb, hml, hown, hts⟩ (bk_input l D k hBk9 (v1 := 5) (v2 := 0) (K := fun r o' => r = 0 ∧ IV o' d w) ⟨5, by decide, rfl, by decide, by rw [inp_0]; exact ⟨h05, hI9⟩⟩ H1.size) (cwV 2 hts gL_law_X6_input rfl rfl rfl (by decide +kernel) ⟨Nat.le_of_ble_eq_true rfl, Nat.le_of_ble_eq_true rfl⟩) ⟨pn_blind, va_recv hK hPc (ci := 6) (q0 := 0) rfl hb0, pn_start hPc hK hDc hNW⟩ rfl rfl hl.1 rfl (lv_room (Nat.le_of_ble_eq_true rfl)) dL_law_36 ⟨Nat.le_of_ble_eq_true rfl, Nat.le_of_ble_eq_true rfl⟩) hS hFc (fun r8 o8 wb8 H2 locs hk8 hBk8 hP1 hD1 hk1 hS => ?_)
  obtain ⟨er, hI8⟩ := hk8
  rw [er]
  clear er r8
  obtain ⟨hP3, hD3⟩ := vs_joinR hP2 hD2 hFc hk1 hP1 hD1
  clear hP1 hD1 hk1 hFc hPc hDc hP2 hD2
  refine lv_if_ne (tgt := 46) hx hb dL_law_39 (by decide) (fun q => absurd rfl q) (fun _ => ?_)
  refine lv_iconst (v := 1) hx hb dL_law_42 (by decide) ?_
  refine lv_goto (tgt := 47) hx hb dL_law_43 (by decide) ?_
  refine lv_istore (lv' := [(4, .int 1), (3, .ref qw), (2, .ref qd), (1, .ref (u 0 0)), (0, .ref b)]) hx hb dL_law_47 hl (by decide) rfl (fun ls hl => ?_)
  have go : ∀ T : Nat, T ≤ 40 → 3 * T ≤ L → W p l e room_1 s m #[Value.ref b] below meth c H2 locs 70 1100 (lw_Z below #[Value.ref b] s) (F0 m 67 ls [.int (nI T)]) := fun T hT hTL => by
    refine lv_istore (lv' := [(5, .int (nI T)), (4, .int 1), (3, .ref qw), (2, .ref qd), (1, .ref (u 0 0)), (0, .ref b)]) hx hb dL_law_67 hl (by decide) rfl (fun ls hl => ?_)
    refine lv_iconst (v := 0) hx hb dL_law_69 (by decide) ?_
    refine lv_istore (lv' := [(6, .int (nI 0)), (5, .int (nI T)), (4, .int 1), (3, .ref qw), (2, .ref qd), (1, .ref (u 0 0)), (0, .ref b)]) hx hb dL_law_70 hl (by decide) rfl (fun ls hl => ?_)
    refine W.widen (k := 100 + 24 * 0) (n := 2000 + 1287 * 0) (Nat.le_of_ble_eq_true rfl) (Nat.le_of_ble_eq_true rfl) ?_
    exact law_loop hr hlocks ⟨hx, hb, hml, hown, hts, hX, hbl, hK, hXP, hNW, hL, hst⟩ hT hTL (T + 1) 0 (by omega) (Nat.zero_le _) o8 d w wb8 H2 locs ls hI8 hBk8 hP3 hD3 hS (lv_sub hl [6, 5, 4, 3, 2, 1, 0] rfl)
  have e3 : Int32.ofNat L / 3 = nI (L / 3) := dv_n (a := L) (by omega) 3 (by omega) (by omega)
  refine lv_aload_n hx hb dL_law_49 rfl (lv_at hl 4 rfl) ?_
  refine va_slen hx hb hX hbl hbA hS dL_law_50 ?_
  refine lv_iconst (v := 3) hx hb dL_law_51 (by decide) ?_
  refine lv_idiv hx hb dL_law_52 (by decide) ?_
  rw [e3]
  refine lv_bipush (v := 40) hx hb dL_law_53 (by decide) ?_
  refine lv_icmp_le (tgt := 63) hx hb dL_law_55 (by decide) (fun q => ?_) (fun q => ?_)
  · have q2 : L / 3 ≤ 40 := (nI_leI (b := 40) (by omega) (by omega)).mp q
    refine lv_aload_n hx hb dL_law_63 rfl (lv_at hl 4 rfl) ?_
    refine va_slen hx hb hX hbl hbA hS dL_law_64 ?_
    refine lv_iconst (v := 3) hx hb dL_law_65 (by decide) ?_
    refine lv_idiv hx hb dL_law_66 (by decide) ?_
    rw [e3]
    exact go (L / 3) q2 (by omega)
  · have q2 : ¬ L / 3 ≤ 40 := fun z => q ((nI_leI (b := 40) (by omega) (by omega)).mpr z)
    refine lv_bipush (v := 40) hx hb dL_law_58 (by decide) ?_
    refine lv_goto (tgt := 67) hx hb dL_law_60 (by decide) ?_
    exact go 40 (Nat.le_refl _) (by omega)
