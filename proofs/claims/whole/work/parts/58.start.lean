/-! ===== how the law begins ===== -/
theorem wsL_law_in : ∀ w ∈ wsL_law, w ∈ lw_tbl := fun w h => (List.mem_append.mp h).elim (fun h => (List.mem_append.mp h).elim (fun h => (List.mem_append.mp h).elim (fun h => wsL_law_in0 w h) (fun h => wsL_law_x0 w h)) (fun h => wsL_law_x1 w h)) (fun h => wsL_law_x2 w h)
theorem pm3 {O B M : va_W} : ((O ++ B) ++ M).Perm ((B ++ M) ++ O) := pmc (fun a => by simp only [List.count_append]; omega)
section XN2
variable {p : Program} {l : Launch} {e : Env} {R : Room} {s : State} {m : MethodId} {args : Array Value} {below : List Frame} {meth : Method} {c : Code} {H : Heap} {locs : List Loc} {cells slots : Nat} {Q : State → Prop}
variable {pc : Nat} {ls : Array Slot} {rest st0 : List Value} {a : Array Value} {A0 : Nat → Prop} {H0 : Heap} {mc ms : Nat} {D : va_G} {k : Nat → ClassId} {wc : va_W}
theorem xc_n2 {w1 : (Nat → Nat → Nat) → va_W} {h0 : Nat} (hr : va_Run p l e R s m args below meth c H locs cells slots mc ms (F0 m pc ls st0) rest (va_Qv (fun u : Nat → Nat → Nat => u 0 0 = h0) (fun u t => PostW D k (va_A wc H.size) (w1 u) t) (va_A wc H.size) a) (va_A wc H.size)) (hS : va_S A0 H0 H locs) (hF : ∀ q, va_A wc H.size q → A0 q)
    (kk : ∀ (u : Nat → Nat → Nat) (H1 : Heap) (locs1 : List Loc), u 0 0 = h0 → va_P D vwCl (w1 u) H1 → va_D (va_A wc H.size) (w1 u) → (∀ q : Nat, q < H.size → ¬ va_A wc H.size q → H1[q]? = H[q]?) → va_S A0 H0 H1 locs1 → W p l e R s m args below meth c H1 locs1 (cells + mc) (slots + ms) Q (F0 m (pc + 3) ls rest)) : W p l e R s m args below meth c H locs cells slots Q (F0 m pc ls st0) :=
  va_callv hr hS (fun q _ h => hF q h) hF (fun u t H1 locs1 ht hvm hw hB hz hk hS => by obtain ⟨a, b, c⟩ := hB; rw [ht] at a; exact kk u H1 locs1 hw a c hk hS)
end XN2
theorem BW_first {k : Nat → ClassId} {u : Nat → Nat → Nat} : (BW k u (fun _ _ => 0) 0 (fun _ _ => 0) (fun _ _ _ => 0) (fun _ => 0) 0 0 ((fun _ _ => 0, fun _ _ => 0, 0, 0) : FC) (fun _ => ((fun _ _ => 0, fun _ _ => 0, 0, 0) : FC)) (fun _ => 0) (fun _ => 0) 0 0 (upd (fun _ => 0) 0 1) (upd (fun _ => 0) 0 200) 1 1 (fun _ => 0)) = ((wU k (u 0) (u 1 0) (u 2 0) (u 3 0) (u 4 0) (u 5 0) (u 6 0) (fun _ => none) (fun _ => 0) 0) ++ (wI k (u 1) (fun _ => 0) (fun _ => 0) (fun _ => 0) (fun _ => 0) (fun _ => 0) (fun _ _ => 0) (fun _ => 0) (fun _ => 0) (fun _ _ => 0)) ++ (wL k (u 2) (fun _ => 0) 0 0) ++ (wF k (u 3) (fun _ => 0) (fun _ => 0) (fun _ => 0) (fun _ => 0) (fun _ => 0) (fun _ => 0) (fun _ => 0) 0 0) ++ (wB k (u 4) (fun _ => 0) (fun _ => 0) 0 0) ++ (wV k (u 5) (upd (fun _ => 0) 0 1) (upd (fun _ => 0) 0 200) 1) ++ (wC k (u 6) 1)) := by
  unfold BW
  rw [show fRow 0 (fun _ _ => 0) = (fun _ => none) from funext fun i => if_neg (Nat.not_lt_zero i), nI_0]
  rfl
theorem MW_first {k : Nat → ClassId} {v : Nat → Nat} : (MW k v (st (st (fun _ _ => 0) 25 (upd (fun _ => 0) 0 1)) 26 (upd (fun _ => 0) 0 200)) (fun _ _ => 0) (st (st (fun _ => 0) 5 1) 6 1)) = (wM k v (fun _ => 0) (fun _ => 0) (fun _ => 0) (fun _ => 0) (fun _ => 0) (fun _ => 0) (fun _ => 0) (fun _ => 0) (fun _ => 0) (fun _ => 0) (fun _ => 0) (fun _ => 0) (fun _ => 0) (fun _ => 0) (fun _ => 0) (fun _ => 0) (fun _ => 0) (fun _ => 0) (fun _ => 0) (fun _ => 0) (fun _ => 0) (fun _ => 0) (fun _ => 0) (fun _ => 0) (fun _ => 0) (fun _ => 0) (fun _ => 0) (fun _ => 0) (upd (fun _ => 0) 0 1) (upd (fun _ => 0) 0 200) 0 0 0 0 0 1 1) := rfl
theorem INV_first {k : Nat → ClassId} {u : Nat → Nat → Nat} {v : Nat → Nat} : INV k (u 0 0) (v 0) 0 (BW k u (fun _ _ => 0) 0 (fun _ _ => 0) (fun _ _ _ => 0) (fun _ => 0) 0 0 ((fun _ _ => 0, fun _ _ => 0, 0, 0) : FC) (fun _ => ((fun _ _ => 0, fun _ _ => 0, 0, 0) : FC)) (fun _ => 0) (fun _ => 0) 0 0 (upd (fun _ => 0) 0 1) (upd (fun _ => 0) 0 200) 1 1 (fun _ => 0)) (MW k v (st (st (fun _ _ => 0) 25 (upd (fun _ => 0) 0 1)) 26 (upd (fun _ => 0) 0 200)) (fun _ _ => 0) (st (st (fun _ => 0) 5 1) 6 1)) := by
  refine ⟨_, _, _, _, _, _, _, _, _, _, _, _, _, _, _, _, _, _, _, _, _, _, _, rfl, rfl, rfl, rfl, rfl, ?_⟩
  refine ⟨⟨fun i _ => ⟨rfl, rfl, rfl, rfl⟩, fun i _ => Or.inr ⟨0, 0, by omega, by omega, nI_0.symm, rfl, nI_0.symm, nI_0.symm⟩, fun j _ => ⟨rfl, rfl⟩, fun i o _ _ => ⟨rfl, rfl⟩⟩, ⟨0, by omega, nI_0.symm, nI_0.symm, fun _ h => absurd h (Nat.not_lt_zero _)⟩, ⟨by omega, nI_0.symm⟩, fun i h => absurd h (Nat.not_lt_zero _), ⟨1, rfl, rfl, by omega, fun j hj => ?_, fun i j hi hj _ => by omega⟩, ⟨1, by omega, rfl, rfl⟩⟩
  have : j = 0 := by omega
  subst this
  exact ⟨rfl, rfl, by decide, by decide⟩
theorem law_XN {s : State} {b : Nat} (hg : ∀ w ∈ flatC (Jvm.Cond.and given_1 narrow_1), w.before #[Value.ref b] s = true) : XN s := ⟨va_Nc.of (hg (.not (.castable exA exI)) (by decide +kernel)), va_Nc.of (hg (.not (.castable exS exI)) (by decide +kernel)), va_Nc.of (hg (.not (.castable exS exA)) (by decide +kernel))⟩
theorem law_NW {s : State} {b : Nat} (hts : ∀ w ∈ lw_tbl, w.before #[Value.ref b] s = true) : NW s := ⟨va_Nw.of rfl (hts (.methodLinkNest RX6 9 yX4_init "UncertainBook") (by decide +kernel)), va_Nw.of rfl (hts (.methodLinkNest RX6 18 yX5_init "UncertainBook") (by decide +kernel)), va_Nw.of rfl (hts (.methodLinkNest RX6 33 yX3_init "UncertainBook") (by decide +kernel)), va_Nw.of rfl (hts (.methodLinkNest RX6 40 yX0_init "UncertainBook") (by decide +kernel)), va_Nw.of rfl (hts (.methodLinkNest RX6 54 yX1_init "UncertainBook") (by decide +kernel)), va_AO.of (hts (.arrayOver (.object RX3)) (by decide +kernel)), hts (.arrayOver (.array .int)) (by decide +kernel)⟩
theorem law_str {s : State} {b : Nat} (hts : ∀ w ∈ lw_tbl, w.before #[Value.ref b] s = true) (hg : ∀ w ∈ flatC (Jvm.Cond.and given_1 narrow_1), w.before #[Value.ref b] s = true) : ∀ q ∈ xpStr, ∃ a, vk_R RX6 q.1 q.2 a s := by
  have st9 : ∀ (i : Nat) (t : String), (Cond.stringRef RX6 i t).before #[Value.ref b] s = true → (Cond.exactly (.string RX6 i) "java/lang/String").before #[Value.ref b] s = true → ∃ a, vk_R RX6 i t a s := fun i t h1 h2 => by
    obtain ⟨a, -, -, -, ha, -⟩ := Cond.exactly_spec h2
    exact ⟨a, vk_R.of h1 ha⟩
  exact List.forall_mem_cons.mpr ⟨st9 80 "the input has all its readings" (hts (.stringRef RX6 80 "the input has all its readings") (by decide +kernel)) (hg (.exactly (.string RX6 80) "java/lang/String") (by decide +kernel)), List.forall_mem_cons.mpr ⟨st9 101 "a covariance is of two inputs" (hts (.stringRef RX6 101 "a covariance is of two inputs") (by decide +kernel)) (hg (.exactly (.string RX6 101) "java/lang/String") (by decide +kernel)), List.forall_mem_cons.mpr ⟨st9 128 "a sign is out of range" (hts (.stringRef RX6 128 "a sign is out of range") (by decide +kernel)) (hg (.exactly (.string RX6 128) "java/lang/String") (by decide +kernel)), List.forall_mem_cons.mpr ⟨st9 133 "the line would be too long" (hts (.stringRef RX6 133 "the line would be too long") (by decide +kernel)) (hg (.exactly (.string RX6 133) "java/lang/String") (by decide +kernel)), List.forall_mem_cons.mpr ⟨st9 141 "no such model" (hts (.stringRef RX6 141 "no such model") (by decide +kernel)) (hg (.exactly (.string RX6 141) "java/lang/String") (by decide +kernel)), List.forall_mem_cons.mpr ⟨st9 144 "there are all the models" (hts (.stringRef RX6 144 "there are all the models") (by decide +kernel)) (hg (.exactly (.string RX6 144) "java/lang/String") (by decide +kernel)), List.forall_mem_cons.mpr ⟨st9 211 "no such place" (hts (.stringRef RX6 211 "no such place") (by decide +kernel)) (hg (.exactly (.string RX6 211) "java/lang/String") (by decide +kernel)), List.forall_mem_cons.mpr ⟨st9 227 "the table is full" (hts (.stringRef RX6 227 "the table is full") (by decide +kernel)) (hg (.exactly (.string RX6 227) "java/lang/String") (by decide +kernel)), List.forall_mem_cons.mpr ⟨st9 242 "no such input" (hts (.stringRef RX6 242 "no such input") (by decide +kernel)) (hg (.exactly (.string RX6 242) "java/lang/String") (by decide +kernel)), List.forall_mem_cons.mpr ⟨st9 244 "out of range" (hts (.stringRef RX6 244 "out of range") (by decide +kernel)) (hg (.exactly (.string RX6 244) "java/lang/String") (by decide +kernel)), fun _ h => absurd h List.not_mem_nil⟩⟩⟩⟩⟩⟩⟩⟩⟩⟩
theorem law_XP {s : State} {b : Nat} (hts : ∀ w ∈ lw_tbl, w.before #[Value.ref b] s = true) (hg : ∀ w ∈ flatC (Jvm.Cond.and given_1 narrow_1), w.before #[Value.ref b] s = true) : XP (lwA s) s s.heap := by
  have hA : ∀ a : Nat, a < s.heap.size → ¬ lwA s a := fun a h => Nat.not_le.mpr h
  have hi : (Cond.initialized Bundle.tN).before #[Value.ref b] s = true := hts (.initialized Bundle.tN) (by decide +kernel)
  refine ⟨vx_Zqof (hts (.laysStatic Bundle.tN "UNASSIGNED_STACK" Bundle.steD) (by decide +kernel)) hi (hg (.isRef (.static Bundle.tN "UNASSIGNED_STACK" Bundle.steD)) (by decide +kernel)) hA, vx_Zqof (hts (.laysStatic Bundle.tN "SUPPRESSED_SENTINEL" Bundle.listD) (by decide +kernel)) hi (hg (.isRef (.static Bundle.tN "SUPPRESSED_SENTINEL" Bundle.listD)) (by decide +kernel)) hA, law_str hts hg, ?_, ?_⟩
  · exact List.forall_mem_cons.mpr ⟨va_Nw.of rfl (hts (.castable exI exI) (by decide +kernel)), List.forall_mem_cons.mpr ⟨va_Nw.of rfl (hts (.castable exA exA) (by decide +kernel)), List.forall_mem_cons.mpr ⟨va_Nw.of rfl (hts (.castable exS exS) (by decide +kernel)), fun _ h => absurd h List.not_mem_nil⟩⟩⟩
  · exact List.forall_mem_cons.mpr ⟨va_Nw.of rfl (hts (.declares (Bundle.initS "java/lang/RuntimeException")) (by decide +kernel)), List.forall_mem_cons.mpr ⟨va_Nw.of rfl (hts (.declares (Bundle.initS "java/lang/Exception")) (by decide +kernel)), List.forall_mem_cons.mpr ⟨va_Nw.of rfl (hts (.declares (Bundle.initS "java/lang/Throwable")) (by decide +kernel)), fun _ h => absurd h List.not_mem_nil⟩⟩⟩
theorem law_K {s : State} {b : Nat} (hts : ∀ w ∈ lw_tbl, w.before #[Value.ref b] s = true) : ∃ (D : va_G) (k : Nat → ClassId), va_K D vwCl (tyL k) s := by
  obtain ⟨c0, i0, h0⟩ := u_known (C := RX0) (T := TX0) (N := 4) (n := 4) hts wsL_law_X0 (hts (.instantiable RX0 4) (by decide +kernel))
  obtain ⟨c1, i1, h1⟩ := u_known (C := RX1) (T := TX1) (N := 1) (n := 1) hts wsL_law_X1 (hts (.instantiable RX1 1) (by decide +kernel))
  obtain ⟨c2, i2, h2⟩ := u_known (C := RX2) (T := TX2) (N := 3) (n := 3) hts wsL_law_X2 (hts (.instantiable RX2 3) (by decide +kernel))
  obtain ⟨c3, i3, h3⟩ := u_known (C := RX3) (T := TX3) (N := 9) (n := 9) hts wsL_law_X3 (hts (.instantiable RX3 9) (by decide +kernel))
  obtain ⟨c4, i4, h4⟩ := u_known (C := RX4) (T := TX4) (N := 9) (n := 9) hts wsL_law_X4 (hts (.instantiable RX4 9) (by decide +kernel))
  obtain ⟨c5, i5, h5⟩ := u_known (C := RX5) (T := TX5) (N := 3) (n := 3) hts wsL_law_X5 (hts (.instantiable RX5 3) (by decide +kernel))
  obtain ⟨c6, i6, h6⟩ := u_known (C := RX6) (T := TX6) (N := 9) (n := 9) hts wsL_law_X6 (hts (.instantiable RX6 9) (by decide +kernel))
  obtain ⟨c7, i7, h7⟩ := u_known (C := RX7) (T := TX7) (N := 37) (n := 37) hts wsL_law_X7 (hts (.instantiable RX7 37) (by decide +kernel))
  obtain ⟨a0, a1, a2, a3, a4, a5⟩ := Cond.arrayClass_spec (hts (.arrayClass .int) (by decide +kernel))
  obtain ⟨e0, e1, e2, e3, e4, e5⟩ := Cond.arrayClass_spec (hts (.arrayClass .long) (by decide +kernel))
  obtain ⟨f0, f1, f2, f3, f4, f5⟩ := Cond.arrayClass_spec (hts (.arrayClass .char) (by decide +kernel))
  obtain ⟨g0, g1, g2, g3, g4, g5, g6, g7⟩ := Cond.arrayOver_spec (hts (.arrayOver (.object RX3)) (by decide +kernel))
  obtain ⟨y0, y1, y2, y3, y4, y5, y6, y7⟩ := arrayOverA_spec (t := .int) (hts (.arrayOver (.array .int)) (by decide +kernel))
  refine ⟨(fun q => [c0, c1, c2, c3, c4, c5, c6, c7].getD q c0, fun q => [i0, i1, i2, i3, i4, i5, i6, i7].getD q i0), fun q => [a0, e0, f0, g1, y1].getD q a0, fun q r hq => ?_, fun q r hq => ?_⟩
  · match q, hq with
    | 0, hq => cases hq; exact h0
    | 1, hq => cases hq; exact h1
    | 2, hq => cases hq; exact h2
    | 3, hq => cases hq; exact h3
    | 4, hq => cases hq; exact h4
    | 5, hq => cases hq; exact h5
    | 6, hq => cases hq; exact h6
    | 7, hq => cases hq; exact h7
    | q + 8, hq => simp [vwCl] at hq
  · match q, hq with
    | 0, hq => cases hq; exact ⟨fun n z => ⟨(fun k h => by cases h), a1, a4, a2, a5⟩, a3⟩
    | 1, hq => cases hq; exact ⟨fun n z => ⟨(fun k h => by cases h), e1, e4, e2, e5⟩, e3⟩
    | 2, hq => cases hq; exact ⟨fun n z => ⟨(fun k h => by cases h), f1, f4, f2, f5⟩, f3⟩
    | 3, hq => cases hq; exact ⟨fun n z => ⟨(fun k h => by cases h), g2, g5, g0, g6⟩, g2, g0, g5, g6, g3, g7⟩
    | 4, hq => cases hq; exact ⟨fun n z => ⟨(fun k h => by cases h), y2, y5, y0, y6⟩, y7⟩
    | q + 5, hq => simp [tyL] at hq
set_option maxHeartbeats 4000000 in
set_option maxRecDepth 100000 in
/-- THE LAW, from its entry -/
theorem whole_start {p : Program} {e : Env} {s : State} {m : MethodId} {below : List Frame} {meth : Method} {c : Code} (l : Launch) (hflags : l.flags = flags0) {b L : Nat} {xs : Nat → Int32} (hL : L ≤ 2560) (C0 : lw_At p s m meth c b L xs) : W p l e room_1 s m #[Value.ref b] below meth c s.heap [] 0 0 (lw_Z below #[Value.ref b] s) (entryFrame m ([Value.ref b] : List Value).toArray 8) := by
  obtain ⟨hx, hb, hr, hml, hown, hts1, hX, hbl, hlocks, hgv⟩ := C0
  have hts : ∀ w ∈ wsL_law, w.before #[Value.ref b] s = true := fun w hw => hts1 w (wsL_law_in w hw)
  have hg : ∀ w ∈ flatC (Jvm.Cond.and given_1 narrow_1), w.before #[Value.ref b] s = true := flat_of_before _ hgv
  have hst : l.stackTraces = false := by
    unfold Launch.stackTraces
    rw [hflags]
    decide +kernel
  have hXN := law_XN hg
  have hNW := law_NW hts1
  have hXP := law_XP hts1 hg
  obtain ⟨D, k, hK⟩ := law_K hts1
  have hA : ∀ q : Nat, s.heap.size ≤ q → lwA s q := fun _ h => h
  have hS : va_S (lwA s) s.heap s.heap [] := va_S.rf
  have hP : va_P D vwCl [] s.heap := fun k q h => by simp at h
  have hD : va_D (lwA s) [] := ⟨fun i j p q h => by simp at h, fun k q h => by simp at h⟩
  have hl := lv_entry ([.ref b]) (n := 8) (Nat.le_of_ble_eq_true rfl)
  rw [lg_entry_eq]
  generalize (lg_sl ([.ref b]) ++ List.replicate (8 - (lg_sl ([.ref b])).length) Slot.unset).toArray = ls at hl ⊢
  replace hl : lv_has ls 8 [(0, .ref b)] := hl
  show W p l e room_1 s m #[Value.ref b] below meth c s.heap [] 0 0 _ (F0 m 0 ls [])
  refine va_new (ci := 6) (fs := [.null, .null, .null, .int 0, .null, .null, .null, .null, .null]) (C := RX6) (T := TX6) (N := 9) hx hb hts1 wsL_law_X6 tyX6 tyX6_ok hown (hts (.classLink RL 8 RX6) (by decide +kernel)) (hts (.instantiable RX6 9) (by decide +kernel)) (hts (.initialized RX6) (by decide +kernel)) hK hP hD hS hA rfl (fun j hj => by rcases (show j = 0 ∨ j = 1 ∨ j = 2 ∨ j = 3 ∨ j = 4 ∨ j = 5 ∨ j = 6 ∨ j = 7 ∨ j = 8 by omega) with rfl | rfl | rfl | rfl | rfl | rfl | rfl | rfl | rfl <;> rfl) (Nat.le_of_ble_eq_true rfl) (Nat.le_of_ble_eq_true rfl) dL_law_0 (fun x0 H hP hD hS => ?_)
  replace hP : va_P D vwCl [(x0, .inr (6, [.null, .null, .null, .int 0, .null, .null, .null, .null, .null]))] H := hP
  replace hD : va_D (lwA s) [(x0, .inr (6, [.null, .null, .null, .int 0, .null, .null, .null, .null, .null]))] := hD
  refine W.widen (k := 1) (n := 9) (Nat.le_of_ble_eq_true rfl) (Nat.le_of_ble_eq_true rfl) ?_
  refine lv_dup hx hb dL_law_3 rfl ?_
  have hFc := vs_free hD hS hA
  refine xc_n2 (va_runI (As := []) (rest := [.ref x0]) ⟨hx, hb, hml, hown, hts⟩ (met_X6_init l D k x0 H.size) (cwI 0 hts gL_law_X6_init rfl rfl rfl (hts (.initialized RX6) (by decide +kernel)) (hts (.methodLink RL 78 yX6_init) (by decide +kernel)) (hts (.instanceMethod yX6_init) (by decide +kernel)) rfl (by decide +kernel) ⟨Nat.le_of_ble_eq_true rfl, Nat.le_of_ble_eq_true rfl⟩) ⟨pn_blind, pn_start hP hK hD hNW⟩ rfl rfl hl.1 rfl (lv_room (Nat.le_of_ble_eq_true rfl)) dL_law_4 ⟨Nat.le_of_ble_eq_true rfl, Nat.le_of_ble_eq_true rfl⟩) hS hFc (fun u H1 locs hu hP1 hD1 hk1 hS => ?_)
  obtain ⟨hP9, hD9⟩ := vj_all hFc hP1 hD1
  clear hP1 hD1 hk1 hFc hP hD
  subst hu
  have hP := hP9
  have hD := hD9
  clear hP9 hD9
  generalize H1 = H at hP hS ⊢
  refine W.widen (k := 60) (n := 1000) (Nat.le_of_ble_eq_true rfl) (Nat.le_of_ble_eq_true rfl) ?_
  refine lv_astore_n (lv' := [(1, .ref (u 0 0)), (0, .ref b)]) hx hb dL_law_7 rfl hl (by decide) rfl (fun ls hl => ?_)
  refine va_new (ci := 7) (fs := [.int 0, .null, .null, .null, .null, .null, .null, .null, .null, .null, .int 0, .int 0, .null, .null, .null, .null, .null, .null, .null, .null, .null, .int 0, .null, .null, .null, .null, .null, .int 0, .null, .null, .null, .null, .null, .int 0, .null, .null, .int 0]) (C := RX7) (T := TX7) (N := 37) hx hb hts1 wsL_law_X7 tyX7 tyX7_ok hown (hts (.classLink RL 79 RX7) (by decide +kernel)) (hts (.instantiable RX7 37) (by decide +kernel)) (hts (.initialized RX7) (by decide +kernel)) hK hP hD hS hA rfl (fun j hj => by rcases (show j = 0 ∨ j = 1 ∨ j = 2 ∨ j = 3 ∨ j = 4 ∨ j = 5 ∨ j = 6 ∨ j = 7 ∨ j = 8 ∨ j = 9 ∨ j = 10 ∨ j = 11 ∨ j = 12 ∨ j = 13 ∨ j = 14 ∨ j = 15 ∨ j = 16 ∨ j = 17 ∨ j = 18 ∨ j = 19 ∨ j = 20 ∨ j = 21 ∨ j = 22 ∨ j = 23 ∨ j = 24 ∨ j = 25 ∨ j = 26 ∨ j = 27 ∨ j = 28 ∨ j = 29 ∨ j = 30 ∨ j = 31 ∨ j = 32 ∨ j = 33 ∨ j = 34 ∨ j = 35 ∨ j = 36 by omega) with rfl | rfl | rfl | rfl | rfl | rfl | rfl | rfl | rfl | rfl | rfl | rfl | rfl | rfl | rfl | rfl | rfl | rfl | rfl | rfl | rfl | rfl | rfl | rfl | rfl | rfl | rfl | rfl | rfl | rfl | rfl | rfl | rfl | rfl | rfl | rfl | rfl <;> rfl) (Nat.le_of_ble_eq_true rfl) (Nat.le_of_ble_eq_true rfl) dL_law_8 (fun y0 H hP hD hS => ?_)
  refine W.widen (k := 61) (n := 1037) (Nat.le_of_ble_eq_true rfl) (Nat.le_of_ble_eq_true rfl) ?_
  refine lv_dup hx hb dL_law_11 rfl ?_
  have hPc := vs_r hP
  have hDc := vd_r hD
  have hFc := vs_free hDc hS hA
  refine xc_n (va_runI (As := []) (rest := [.ref y0]) ⟨hx, hb, hml, hown, hts⟩ (met_X7_init l D k y0 H.size) (cwI 0 hts gL_law_X7_init rfl rfl rfl (hts (.initialized RX7) (by decide +kernel)) (hts (.methodLink RL 81 yX7_init) (by decide +kernel)) (hts (.instanceMethod yX7_init) (by decide +kernel)) rfl (by decide +kernel) ⟨Nat.le_of_ble_eq_true rfl, Nat.le_of_ble_eq_true rfl⟩) ⟨pw_blind, pw_start hPc hK hDc⟩ rfl rfl hl.1 rfl (lv_room (Nat.le_of_ble_eq_true rfl)) dL_law_12 ⟨Nat.le_of_ble_eq_true rfl, Nat.le_of_ble_eq_true rfl⟩) hS hFc (fun v H1 locs hv hP1 hD1 hk1 hS => ?_)
  obtain ⟨hP9, hD9⟩ := vs_joinR hP hD hFc hk1 hP1 hD1
  clear hP1 hD1 hk1 hFc hPc hDc hP hD
  subst hv
  have hP := hP9
  have hD := hD9
  clear hP9 hD9
  generalize H1 = H at hP hS ⊢
  refine W.widen (k := 199) (n := 19999) (Nat.le_of_ble_eq_true rfl) (Nat.le_of_ble_eq_true rfl) ?_
  refine lv_astore_n (lv' := [(2, .ref (v 0)), (1, .ref (u 0 0)), (0, .ref b)]) hx hb dL_law_15 rfl hl (by decide) rfl (fun ls hl => ?_)
  refine lv_iconst (v := 1) hx hb dL_law_16 (by decide) ?_
  refine va_newaQ (atype := .long) (ty := .long) (t0 := 1) (a0 := (1, .inr (.inl (fun _ => 0)))) hx hb (hts (.arrayClass .long) (by decide +kernel)) rfl hK rfl hP hD hS hA (fun _ => rfl) (by decide) (by decide) (Nat.le_of_ble_eq_true rfl) (Nat.le_of_ble_eq_true rfl) (Nat.le_of_ble_eq_true rfl) dL_law_17 (fun qo H hP hD hS => ?_)
  refine W.widen (k := 200 + 8 * 0) (n := 20000 + 429 * 0) (Nat.le_of_ble_eq_true rfl) (Nat.le_of_ble_eq_true rfl) ?_
  refine lv_astore_n (lv' := [(3, .ref qo), (2, .ref (v 0)), (1, .ref (u 0 0)), (0, .ref b)]) hx hb dL_law_19 rfl hl (by decide) rfl (fun ls hl => ?_)
  refine lv_iconst (v := 0) hx hb dL_law_20 (by decide) ?_
  refine lv_istore (lv' := [(4, .int (nI (5 * 0))), (3, .ref qo), (2, .ref (v 0)), (1, .ref (u 0 0)), (0, .ref b)]) hx hb dL_law_21 hl (by decide) rfl (fun ls hl => ?_)
  rw [← BW_first, ← MW_first] at hP hD
  have hPf : va_P D vwCl ((wo k qo (fun _ => 0) ++ (BW k u (fun _ _ => 0) 0 (fun _ _ => 0) (fun _ _ _ => 0) (fun _ => 0) 0 0 ((fun _ _ => 0, fun _ _ => 0, 0, 0) : FC) (fun _ => ((fun _ _ => 0, fun _ _ => 0, 0, 0) : FC)) (fun _ => 0) (fun _ => 0) 0 0 (upd (fun _ => 0) 0 1) (upd (fun _ => 0) 0 200) 1 1 (fun _ => 0))) ++ (MW k v (st (st (fun _ _ => 0) 25 (upd (fun _ => 0) 0 1)) 26 (upd (fun _ => 0) 0 200)) (fun _ _ => 0) (st (st (fun _ => 0) 5 1) 6 1))) H := vs_perm hP pm3
  have hDf : va_D (lwA s) ((wo k qo (fun _ => 0) ++ (BW k u (fun _ _ => 0) 0 (fun _ _ => 0) (fun _ _ _ => 0) (fun _ => 0) 0 0 ((fun _ _ => 0, fun _ _ => 0, 0, 0) : FC) (fun _ => ((fun _ _ => 0, fun _ _ => 0, 0, 0) : FC)) (fun _ => 0) (fun _ => 0) 0 0 (upd (fun _ => 0) 0 1) (upd (fun _ => 0) 0 200) 1 1 (fun _ => 0))) ++ (MW k v (st (st (fun _ _ => 0) 25 (upd (fun _ => 0) 0 1)) 26 (upd (fun _ => 0) 0 200)) (fun _ _ => 0) (st (st (fun _ => 0) 5 1) 6 1))) := vd_perm hD pm3
  exact law_loop hr hlocks ⟨hx, hb, hml, hown, hts, hX, hbl, hK, hXP, hXN, hNW, hL, hst⟩ (L + 1) 0 (by omega) (by omega) 0 _ _ _ _ _ _ INV_first hPf hDf hS (lv_sub hl [4, 3, 2, 1, 0] rfl)
