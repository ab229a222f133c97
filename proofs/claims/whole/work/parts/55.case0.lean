/-! ===== the law: what stands, and its head ===== -/
abbrev lwA (s : State) : Nat → Prop := fun q => s.heap.size ≤ q
def lwCtx (p : Program) (l : Launch) (e : Env) (s : State) (m : MethodId) (below : List Frame) (meth : Method) (c : Code) (D : va_G) (k : Nat → ClassId) (b L : Nat) (xs : Nat → Int32) : Prop :=
  p.tables.exec = Jvm.exec ∧ c.code = code ∧ c.maxLocals = 8 ∧ s.vm.findClass RL = some m.cls ∧ (∀ w ∈ wsL_law, w.before #[Value.ref b] s = true) ∧ va_X b L xs s s.heap ∧ b < s.heap.size ∧ va_K D vwCl (tyL k) s ∧ XP (lwA s) s s.heap ∧ XN s ∧ NW s ∧ L ≤ 2560 ∧ l.stackTraces = false
/-- the law at pc, with j calls made: i is 5 times j; jc counts the room -/
def lwAt (p : Program) (l : Launch) (e : Env) (s : State) (m : MethodId) (below : List Frame) (meth : Method) (c : Code) (D : va_G) (k : Nat → ClassId) (b a0 m0 qo : Nat) (Q : State → Prop) (pc j jc : Nat) : Prop :=
  ∀ (th : Int32) (wb wm : va_W) (f : Nat → Int64) (H : Heap) (locs : List Loc) (ls : Array Slot), INV k a0 m0 th wb wm → va_P D vwCl ((wo k qo f ++ wb) ++ wm) H → va_D (lwA s) ((wo k qo f ++ wb) ++ wm) → va_S (lwA s) s.heap H locs → lv_has ls 8 [(0, .ref b), (1, .ref a0), (2, .ref m0), (3, .ref qo), (4, .int (nI (5 * j)))] → W p l e room_1 s m #[Value.ref b] below meth c H locs (200 + 8 * jc) (20000 + 429 * jc) Q (F0 m pc ls [])
theorem INV_m {k : Nat → ClassId} {a0 m0 : Nat} {th : Int32} {wb wm : va_W} (h : INV k a0 m0 th wb wm) : ∃ gs, wm[0]? = some (m0, .inr (7, gs)) := by
  obtain ⟨ad, aF, c, Y, G, Ls, len, lat, S, X, bs, bc, bv, bd, Vd, Vf, Vc, x, dr, aM, mi, ml, mz, rfl, rfl, rfl, rfl, rfl, -⟩ := h
  exact ⟨_, rfl⟩
theorem INV_thrown (l : Launch) (D : va_G) {k : Nat → ClassId} {a0 m0 : Nat} {th : Int32} {wb wm : va_W} (h : INV k a0 m0 th wb wm) (sz : Nat) : Met l yX7_thrown wsX7_thrown rmX7_thrown (va_Pc [.ref m0] (PreW D k wm sz)) (va_Qi (fun r9 (_ : Unit) => r9 = th) (fun _ t => PostW D k (va_A wm sz) wm t) (va_A wm sz)) 0 0 (va_A wm sz) := by
  obtain ⟨ad, aF, c, Y, G, Ls, len, lat, S, X, bs, bc, bv, bd, Vd, Vf, Vc, x, dr, aM, mi, ml, mz, rfl, rfl, rfl, rfl, rfl, -⟩ := h
  exact met_X7_thrown l D k aM sz (mi 0) (mi 1) (mi 2) (mi 3) (mi 4) (mi 5) (mi 6) (mi 7) (mi 8) (mi 9) (mi 10) (mi 11) (mi 12) (mi 13) (mi 14) (mi 15) (mi 16) (mi 17) (mi 18) (mi 19) (mi 20) (mi 21) (mi 22) (ml 0) (ml 1) (mi 23) (mi 24) (ml 2) (mi 25) (mi 26) (mz 0) (mz 1) (mz 2) (mz 3) (mz 4) (mz 5) (mz 6) (mz 0) rfl
theorem lg_self (x : Int64) : lg_cmp x x = 0 := by
  unfold lg_cmp
  rw [if_neg (fun q => Int64.lt_irrefl q), if_pos rfl]
theorem out0 (f : Nat → Int64) (r : Int64) (i : Int32) (h : i = 0) : (vp_updL f 0 r) i.toNatClampNeg = r := by
  subst h
  exact if_pos (by decide)
set_option maxHeartbeats 4000000 in
set_option maxRecDepth 100000 in
theorem case_shape {p : Program} {l : Launch} {e : Env} {s : State} {m : MethodId} {below : List Frame} {meth : Method} {c : Code} {D : va_G} {k : Nat → ClassId} {b L : Nat} {xs : Nat → Int32} {a0 m0 qo : Nat} (C : lwCtx p l e s m below meth c D k b L xs) {Q : State → Prop} {j : Nat} (hj : 5 * j + 5 ≤ L) (hn : lwAt p l e s m below meth c D k b a0 m0 qo Q 1407 j (j + 1)) : lwAt p l e s m below meth c D k b a0 m0 qo Q 124 j j := by
  obtain ⟨hx, hb, hml, hown, hts, hX, hbl, hK, hXP, hXN, hNW, hL, hst⟩ := C
  intro th wb wm f H locs ls hI0 hP hD hS hl
  have hA : ∀ q : Nat, s.heap.size ≤ q → lwA s q := fun _ h => h
  have hbA : ¬ lwA s b := Nat.not_le.mpr hbl
  have in1 : vp_in (nI (5 * j) + 1) L := by
    rw [nI_1]
    exact vp_in_nI (by omega) (by omega)
  have in2 : vp_in (nI (5 * j) + 2) L := by
    rw [show (2 : Int32) = nI 2 from rfl, nI_add]
    exact vp_in_nI (by omega) (by omega)
  have in3 : vp_in (nI (5 * j) + 3) L := by
    rw [show (3 : Int32) = nI 3 from rfl, nI_add]
    exact vp_in_nI (by omega) (by omega)
  have in4 : vp_in (nI (5 * j) + 4) L := by
    rw [show (4 : Int32) = nI 4 from rfl, nI_add]
    exact vp_in_nI (by omega) (by omega)
  refine lv_aload_n hx hb dL_law_124 rfl (lv_at hl 1 rfl) ?_
  refine lv_aload_n hx hb dL_law_125 rfl (lv_at hl 0 rfl) ?_
  refine lv_iload hx hb dL_law_126 (lv_at hl 4 rfl) ?_
  refine lv_iconst (v := 1) hx hb dL_law_128 (by decide) ?_
  refine lv_iadd hx hb dL_law_129 ?_
  refine va_sld hx hb hX hbl hbA hS in1 dL_law_130 ?_
  refine lv_aload_n hx hb dL_law_131 rfl (lv_at hl 0 rfl) ?_
  refine lv_iload hx hb dL_law_132 (lv_at hl 4 rfl) ?_
  refine lv_iconst (v := 2) hx hb dL_law_134 (by decide) ?_
  refine lv_iadd hx hb dL_law_135 ?_
  refine va_sld hx hb hX hbl hbA hS in2 dL_law_136 ?_
  refine lv_aload_n hx hb dL_law_137 rfl (lv_at hl 0 rfl) ?_
  refine lv_iload hx hb dL_law_138 (lv_at hl 4 rfl) ?_
  refine lv_iconst (v := 3) hx hb dL_law_140 (by decide) ?_
  refine lv_iadd hx hb dL_law_141 ?_
  refine va_sld hx hb hX hbl hbA hS in3 dL_law_142 ?_
  refine lv_aload_n hx hb dL_law_143 rfl (lv_at hl 0 rfl) ?_
  refine lv_iload hx hb dL_law_144 (lv_at hl 4 rfl) ?_
  refine lv_iconst (v := 4) hx hb dL_law_146 (by decide) ?_
  refine lv_iadd hx hb dL_law_147 ?_
  refine va_sld hx hb hX hbl hbA hS in4 dL_law_148 ?_
  refine lv_aload_n hx hb dL_law_149 rfl (lv_at hl 3 rfl) ?_
  obtain ⟨kk, bb, r, wb', wm', hI, ⟨rm, mc, ms, ⟨hrc, hrs, hmc, hms, hfr, hlo⟩, hBM⟩, ⟨rm2, ⟨h2c, h2s, h2f, h2l⟩, hMM⟩, hrb⟩ := step_shape l hst D k (xs (nI (5 * j) + 1).toNatClampNeg) (xs (nI (5 * j) + 2).toNatClampNeg) (xs (nI (5 * j) + 3).toNatClampNeg) (xs (nI (5 * j) + 4).toNatClampNeg) a0 m0 th wb wm hI0
  have hXPH := hXP.keep (H1 := H) (fun a h1 h2 => hS.2.1 a h1 h2)
  have hPc := vs_l hP
  have hDc := vd_l hD
  have hFc := vs_free hDc hS hA
  refine xc_iG (vx_runSW (As := [.ref a0, .int (xs (nI (5 * j) + 1).toNatClampNeg), .int (xs (nI (5 * j) + 2).toNatClampNeg), .int (xs (nI (5 * j) + 3).toNatClampNeg), .int (xs (nI (5 * j) + 4).toNatClampNeg), .ref qo]) (rest := []) ⟨hx, hb, hml, hown, hts⟩ (hBM qo f H.size) (vx_cwSW 6 hts gL_law_L_shape rfl hrc hrs (by decide +kernel) ⟨by show rm.frames + 1 ≤ 2048; omega, by show 8 + (7 + 11) + rm.locals ≤ 84000; omega⟩) ⟨pz_blind, pz_start hPc hK hDc hXPH hXN hNW hFc⟩ rfl rfl hl.1 rfl (lv_room (Nat.le_of_ble_eq_true rfl)) dL_law_150 ⟨by show 200 + 8 * j + mc ≤ 601024; omega, by show 20000 + 429 * j + ms ≤ 7293034; omega⟩) hS hFc (fun u H1 locs hP1 hD1 hk1 hS => ?_)
  obtain ⟨hP, hD⟩ := vs_joinL hP hD hFc hk1 hP1 hD1
  clear hP1 hD1 hk1 hFc hPc hDc hXPH
  generalize H1 = H at hP hS ⊢
  refine lv_istore (lv' := [(5, .int kk), (0, .ref b), (1, .ref a0), (2, .ref m0), (3, .ref qo), (4, .int (nI (5 * j)))]) hx hb dL_law_153 hl (by decide) rfl (fun ls hl => ?_)
  refine lv_aload_n hx hb dL_law_155 rfl (lv_at hl 3 rfl) ?_
  refine lv_aload_n hx hb dL_law_156 rfl (lv_at hl 1 rfl) ?_
  refine lv_iload hx hb dL_law_157 (lv_at hl 5 rfl) ?_
  refine lv_iconst (v := 1) hx hb dL_law_159 (by decide) ?_
  refine lv_iadd hx hb dL_law_160 ?_
  refine va_sld hx hb hX hbl hbA hS in1 dL_law_161 ?_
  refine lv_aload_n hx hb dL_law_162 rfl (lv_at hl 1 rfl) ?_
  refine lv_iload hx hb dL_law_163 (lv_at hl 5 rfl) ?_
  refine lv_iconst (v := 2) hx hb dL_law_165 (by decide) ?_
  refine lv_iadd hx hb dL_law_166 ?_
  refine va_sld hx hb hX hbl hbA hS in2 dL_law_167 ?_
  refine lv_aload_n hx hb dL_law_168 rfl (lv_at hl 1 rfl) ?_
  refine lv_iload hx hb dL_law_169 (lv_at hl 5 rfl) ?_
  refine lv_iconst (v := 3) hx hb dL_law_171 (by decide) ?_
  refine lv_iadd hx hb dL_law_172 ?_
  refine va_sld hx hb hX hbl hbA hS in3 dL_law_173 ?_
  refine lv_aload_n hx hb dL_law_174 rfl (lv_at hl 1 rfl) ?_
  refine lv_iload hx hb dL_law_175 (lv_at hl 5 rfl) ?_
  refine lv_iconst (v := 4) hx hb dL_law_177 (by decide) ?_
  refine lv_iadd hx hb dL_law_178 ?_
  refine va_sld hx hb hX hbl hbA hS in4 dL_law_179 ?_
  obtain ⟨gs, hm0⟩ := INV_m hI0
  have hPc := vs_r hP
  have hDc := vd_r hD
  have hFc := vs_free hDc hS hA
  refine xc_i (va_runV (As := [.int (xs (nI (5 * j) + 1).toNatClampNeg), .int (xs (nI (5 * j) + 2).toNatClampNeg), .int (xs (nI (5 * j) + 3).toNatClampNeg), .int (xs (nI (5 * j) + 4).toNatClampNeg)]) (rest := []) ⟨hx, hb, hml, hown, hts⟩ (hMM H.size) (cwV 4 hts gL_law_X7_shape rfl h2c h2s (by decide +kernel) ⟨by show rm2.frames + 1 ≤ 2048; omega, by show 8 + (6 + 11) + rm2.locals ≤ 84000; omega⟩) ⟨pw_blind, va_recv hK hPc (ci := 7) (q0 := 0) rfl hm0, pw_start hPc hK hDc⟩ rfl rfl hl.1 rfl (lv_room (Nat.le_of_ble_eq_true rfl)) dL_law_180 ⟨by show 200 + 8 * j + mc + 0 ≤ 601024; omega, by show 20000 + 429 * j + ms + 0 ≤ 7293034; omega⟩) hS hFc (fun H1 locs hP1 hD1 hk1 hS => ?_)
  obtain ⟨hP, hD⟩ := vs_joinR hP hD hFc hk1 hP1 hD1
  clear hP1 hD1 hk1 hFc hPc hDc hm0
  generalize H1 = H at hP hS ⊢
  refine lv_istore (lv' := [(6, .int bb), (5, .int kk), (0, .ref b), (1, .ref a0), (2, .ref m0), (3, .ref qo), (4, .int (nI (5 * j)))]) hx hb dL_law_183 hl (by decide) rfl (fun ls hl => ?_)
  refine lv_aload_n hx hb dL_law_185 rfl (lv_at hl 4 rfl) ?_
  obtain ⟨gs2, hm2⟩ := INV_m (hI u)
  have hPc := vs_r hP
  have hDc := vd_r hD
  have hFc := vs_free hDc hS hA
  refine xc_i (va_runV (As := []) (rest := []) ⟨hx, hb, hml, hown, hts⟩ (INV_thrown l D (hI u) H.size) (cwV 0 hts gL_law_X7_thrown rfl rfl rfl (by decide +kernel) ⟨Nat.le_of_ble_eq_true rfl, Nat.le_of_ble_eq_true rfl⟩) ⟨pw_blind, va_recv hK hPc (ci := 7) (q0 := 0) rfl hm2, pw_start hPc hK hDc⟩ rfl rfl hl.1 rfl (lv_room (Nat.le_of_ble_eq_true rfl)) dL_law_186 ⟨by show 200 + 8 * j + mc + 0 + 0 ≤ 601024; omega, by show 20000 + 429 * j + ms + 0 + 0 ≤ 7293034; omega⟩) hS hFc (fun H1 locs hP1 hD1 hk1 hS => ?_)
  obtain ⟨hP, hD⟩ := vs_joinR hP hD hFc hk1 hP1 hD1
  clear hP1 hD1 hk1 hFc hPc hDc hm2
  generalize H1 = H at hP hS ⊢
  refine lv_iload hx hb dL_law_189 (lv_at hl 1 rfl) ?_
  refine lv_icmp_eq (tgt := 196) hx hb dL_law_191 (by decide) (fun _ => ?_) (fun q => absurd rfl q)
  have fin : W p l e room_1 s m #[Value.ref b] below meth c H locs (200 + 8 * j + mc + 0 + 0) (20000 + 429 * j + ms + 0 + 0) Q (F0 m 213 ls []) := by
    refine lv_goto (tgt := 1407) hx hb dL_law_213 (by decide) ?_
    refine W.widen (k := 200 + 8 * (j + 1)) (n := 20000 + 429 * (j + 1)) (by omega) (by omega) ?_
    exact hn kk (wb' u) wm' _ H locs ls (hI u) hP hD hS (lv_sub hl [2, 3, 4, 5, 6] rfl)
  refine lv_iload hx hb dL_law_196 (lv_at hl 1 rfl) ?_
  refine lv_if_ne (tgt := 213) hx hb dL_law_198 (by decide) (fun _ => fin) (fun q => ?_)
  refine lv_aload_n hx hb dL_law_201 rfl (lv_at hl 5 rfl) ?_
  refine lv_iconst (v := 0) hx hb dL_law_202 (by decide) ?_
  refine va_lald hx hb hK hP 0 1 rfl rfl (vp_in_nI (n := 0) (N := 1) (by decide) (by decide)) dL_law_203 ?_
  refine lv_topl (fun y ey => ?_)
  have ey2 : y = bb.toInt64 := by
    rw [ey, if_pos q]
    exact (out0 f r _ (by decide)).trans (hrb q)
  subst ey2
  clear ey
  refine lv_iload hx hb dL_law_204 (lv_at hl 0 rfl) ?_
  refine lv_i2l hx hb dL_law_206 rfl ?_
  refine W.lcmp hx hb dL_law_207 ?_
  exact lv_if_eq (tgt := 213) hx hb dL_law_208 (by decide) (fun _ => fin) (fun q => absurd (lg_self _) q)
