def fL_part (v0 : Int32) (v1 : Int32) : Option (Int64) := (if (jrem (v0 / 6) 6 : Int32) = 0 then some ((97 + (jrem v0 6) : Int32).toInt64) else if (jrem (v0 / 6) 6 : Int32) = 1 then some (((48 + (jrem v1 10)) ||| ((48 + (jrem (v1 / 10) 10) : Int32) <<< ((8 : Int32) &&& 31)) : Int32).toInt64) else if (jrem (v0 / 6) 6 : Int32) = 2 then some ((((40 ||| (jlshl ((97 + (jrem v0 6) : Int32).toInt64) 8)) ||| 2818048) ||| (jlshl ((97 + (jrem v1 6) : Int32).toInt64) 24)) ||| 176093659136) else if (jrem (v0 / 6) 6 : Int32) = 3 then some ((((((40 ||| (jlshl ((97 + (jrem v0 6) : Int32).toInt64) 8)) ||| 2949120) ||| (jlshl ((97 + (jrem v1 6) : Int32).toInt64) 24)) ||| 176093659136) ||| 103354093010944) ||| (jlshl ((48 + (jrem (v1 / 6) 5) : Int32).toInt64) 48)) else if (jrem (v0 / 6) 6 : Int32) = 4 then some (((45 ||| (jlshl ((97 + (jrem v0 6) : Int32).toInt64) 8)) ||| 6160384) ||| (jlshl ((48 + (jrem (v1 / 6) 5) : Int32).toInt64) 24)) else some ((((97 + (jrem v0 6) : Int32).toInt64) ||| 24064) ||| (jlshl ((48 + (jrem (v1 / 6) 5) : Int32).toInt64) 16)))
abbrev rmL_part : Room := { frames := 0, cells := 0, slots := 0, locals := 0 }
set_option maxHeartbeats 4000000 in
set_option maxRecDepth 100000 in
theorem met_L_part (l : Launch) (D : va_G) (k : Nat → ClassId)   (sz : Nat)  (v0 : Int32) (v1 : Int32) (r : Int64) (h : fL_part v0 v1 = some r) : Met l yL_part wsL_part rmL_part (va_Pc [.int v0, .int v1] (PreW D k ([] : va_W) sz)) (va_Ql (fun r9 (_ : Unit) => r9 = r) (fun _ t => PostW D k (va_A ([] : va_W) sz) ([] : va_W) t) (va_A ([] : va_W) sz)) 0 0 (va_A ([] : va_W) sz) := by
  refine Met.ofW (cc := cL_part) (maxL := 8) (ret := (some .long)) (by decide) rfl ?_
  intro p e s m args below meth c s₁ B hml hv
  obtain ⟨hav, hsz, hP, hK, hD0⟩ := hv
  have hx := B.exec
  have hb := B.bytes
  have hr := B.returns
  have hts := atoms_spec (ws := wsL_part) B.pre
  have hown : s.vm.findClass RL = some m.cls := findClass_of_methodNamed B.named
  have hlocks := B.notSynchronized
  subst hsz
  have hD := hD0.self (sz := s.heap.size)
  clear hD0
  generalize hAe : va_A ([] : va_W) s.heap.size = A at hD ⊢
  have hA : ∀ q : Nat, s.heap.size ≤ q → A q := fun q h => by rw [← hAe]; exact Or.inr h
  have hS : va_S A s.heap s.heap [] := va_S.rf
  have hl := lv_entry ([.int v0, .int v1]) (n := 8) (Nat.le_of_ble_eq_true rfl)
  rw [show entryFrame m args 8 = entryFrame m ([.int v0, .int v1] : List Value).toArray 8 from by rw [hav], lg_entry_eq]
  generalize (lg_sl ([.int v0, .int v1]) ++ List.replicate (8 - (lg_sl ([.int v0, .int v1])).length) Slot.unset).toArray = ls at hl ⊢
  replace hl : lv_has ls 8 [(0, .int v0), (1, .int v1)] := hl
  have kc25 := hts (.constantLong RL 25 (40)) (by decide +kernel)
  have kc27 := hts (.constantLong RL 27 (2818048)) (by decide +kernel)
  have kc29 := hts (.constantLong RL 29 (176093659136)) (by decide +kernel)
  have kc31 := hts (.constantLong RL 31 (2949120)) (by decide +kernel)
  have kc33 := hts (.constantLong RL 33 (103354093010944)) (by decide +kernel)
  have kc35 := hts (.constantLong RL 35 (45)) (by decide +kernel)
  have kc37 := hts (.constantLong RL 37 (6160384)) (by decide +kernel)
  have kc39 := hts (.constantLong RL 39 (24064)) (by decide +kernel)
  refine w_q (fun Q hQ => ?_)
  unfold fL_part at h
  show W p l e rmL_part s m args below meth c s.heap [] 0 0 Q (F0 m 0 ls [])
  suffices main : ∀ (H : Heap) (locs : List Loc) (ls : Array Slot), va_P D vwCl ([] : va_W) H → va_D A ([] : va_W) → va_S A s.heap H locs → lv_has ls 8 [(0, .int v0), (1, .int v1)] → W p l e rmL_part s m args below meth c H locs 0 0 Q (F0 m 0 ls []) from main _ _ _ hP hD hS hl
  clear hP hD hS hl ls hAe
  intro H locs ls hP hD hS hl
  refine lv_bipush (v := 97) hx hb dL_part_0 (by decide) ?_
  refine lv_iload_n hx hb dL_part_2 rfl (lv_at hl 0 rfl) ?_
  refine lv_bipush (v := 6) hx hb dL_part_3 (by decide) ?_
  refine lv_irem hx hb dL_part_5 (by decide) ?_
  refine lv_iadd hx hb dL_part_6 ?_
  refine lv_i2l hx hb dL_part_7 rfl ?_
  refine lv_lstore_n (lv' := [(2, .long ((97 + (jrem v0 6) : Int32).toInt64)), (0, .int v0), (1, .int v1)]) hx hb dL_part_8 rfl hl (by decide) rfl (fun ls hl => ?_)
  refine lv_bipush (v := 97) hx hb dL_part_9 (by decide) ?_
  refine lv_iload_n hx hb dL_part_11 rfl (lv_at hl 2 rfl) ?_
  refine lv_bipush (v := 6) hx hb dL_part_12 (by decide) ?_
  refine lv_irem hx hb dL_part_14 (by decide) ?_
  refine lv_iadd hx hb dL_part_15 ?_
  refine lv_i2l hx hb dL_part_16 rfl ?_
  refine lv_lstore (lv' := [(4, .long ((97 + (jrem v1 6) : Int32).toInt64)), (2, .long ((97 + (jrem v0 6) : Int32).toInt64)), (0, .int v0), (1, .int v1)]) hx hb dL_part_17 hl (by decide) rfl (fun ls hl => ?_)
  refine lv_bipush (v := 48) hx hb dL_part_19 (by decide) ?_
  refine lv_iload_n hx hb dL_part_21 rfl (lv_at hl 3 rfl) ?_
  refine lv_bipush (v := 6) hx hb dL_part_22 (by decide) ?_
  refine lv_idiv hx hb dL_part_24 (by decide) ?_
  refine lv_iconst (v := 5) hx hb dL_part_25 (by decide) ?_
  refine lv_irem hx hb dL_part_26 (by decide) ?_
  refine lv_iadd hx hb dL_part_27 ?_
  refine lv_i2l hx hb dL_part_28 rfl ?_
  refine lv_lstore (lv' := [(6, .long ((48 + (jrem (v1 / 6) 5) : Int32).toInt64)), (4, .long ((97 + (jrem v1 6) : Int32).toInt64)), (2, .long ((97 + (jrem v0 6) : Int32).toInt64)), (0, .int v0), (1, .int v1)]) hx hb dL_part_29 hl (by decide) rfl (fun ls hl => ?_)
  refine lv_iload_n hx hb dL_part_31 rfl (lv_at hl 3 rfl) ?_
  refine lv_bipush (v := 6) hx hb dL_part_32 (by decide) ?_
  refine lv_idiv hx hb dL_part_34 (by decide) ?_
  refine lv_bipush (v := 6) hx hb dL_part_35 (by decide) ?_
  refine lv_irem hx hb dL_part_37 (by decide) ?_
  refine lv_topi (fun w1 ew1 => ?_)
  rcases Decidable.em ((jrem (v0 / 6) 6 : Int32) = 0) with c2 | c2
  · replace h := sf_t c2 h
    have ec2 : w1 = 0 := ew1.trans c2
    refine lv_tableIn (off := 34) (tgt := 72) hx hb dL_part_38 (by rw [ec2]; decide) (by rw [ec2]; decide) (by rw [ec2]; rfl) (by decide) ?_
    refine lv_lload_n hx hb dL_part_72 rfl (lv_at hl 2 rfl) ?_
    have hP9 := hP
    have hD9 := hD
    have hS9 := hS
    subst hQ
    cases h
    exact W.lret hx hb hr (fun t ht hW => ⟨⟨_, (), rfl, rfl, by rw [ht]; exact hP9, va_K.moved hW.alike hK, hD9⟩, hS9.F ht⟩) hS9.2.2 dL_part_73
  replace h := sf_f c2 h
  rcases Decidable.em ((jrem (v0 / 6) 6 : Int32) = 1) with c3 | c3
  · replace h := sf_t c3 h
    have ec3 : w1 = 1 := ew1.trans c3
    refine lv_tableIn (off := 36) (tgt := 74) hx hb dL_part_38 (by rw [ec3]; decide) (by rw [ec3]; decide) (by rw [ec3]; rfl) (by decide) ?_
    refine lv_bipush (v := 48) hx hb dL_part_74 (by decide) ?_
    refine lv_iload_n hx hb dL_part_76 rfl (lv_at hl 4 rfl) ?_
    refine lv_bipush (v := 10) hx hb dL_part_77 (by decide) ?_
    refine lv_irem hx hb dL_part_79 (by decide) ?_
    refine lv_iadd hx hb dL_part_80 ?_
    refine lv_bipush (v := 48) hx hb dL_part_81 (by decide) ?_
    refine lv_iload_n hx hb dL_part_83 rfl (lv_at hl 4 rfl) ?_
    refine lv_bipush (v := 10) hx hb dL_part_84 (by decide) ?_
    refine lv_idiv hx hb dL_part_86 (by decide) ?_
    refine lv_bipush (v := 10) hx hb dL_part_87 (by decide) ?_
    refine lv_irem hx hb dL_part_89 (by decide) ?_
    refine lv_iadd hx hb dL_part_90 ?_
    refine lv_bipush (v := 8) hx hb dL_part_91 (by decide) ?_
    refine lv_ishl hx hb dL_part_93 ?_
    refine lv_ior hx hb dL_part_94 ?_
    refine lv_i2l hx hb dL_part_95 rfl ?_
    have hP9 := hP
    have hD9 := hD
    have hS9 := hS
    subst hQ
    cases h
    exact W.lret hx hb hr (fun t ht hW => ⟨⟨_, (), rfl, rfl, by rw [ht]; exact hP9, va_K.moved hW.alike hK, hD9⟩, hS9.F ht⟩) hS9.2.2 dL_part_96
  replace h := sf_f c3 h
  rcases Decidable.em ((jrem (v0 / 6) 6 : Int32) = 2) with c4 | c4
  · replace h := sf_t c4 h
    have ec4 : w1 = 2 := ew1.trans c4
    refine lv_tableIn (off := 59) (tgt := 97) hx hb dL_part_38 (by rw [ec4]; decide) (by rw [ec4]; decide) (by rw [ec4]; rfl) (by decide) ?_
    refine lv_ldc2 (v := 40) hx hb hown kc25 dL_part_97 ?_
    refine lv_lload_n hx hb dL_part_100 rfl (lv_at hl 2 rfl) ?_
    refine lv_bipush (v := 8) hx hb dL_part_101 (by decide) ?_
    refine lv_lshl (v := jlshl ((97 + (jrem v0 6) : Int32).toInt64) 8) hx hb dL_part_103 rfl ?_
    refine lv_lor hx hb dL_part_104 ?_
    refine lv_ldc2 (v := 2818048) hx hb hown kc27 dL_part_105 ?_
    refine lv_lor hx hb dL_part_108 ?_
    refine lv_lload hx hb dL_part_109 (lv_at hl 1 rfl) ?_
    refine lv_bipush (v := 24) hx hb dL_part_111 (by decide) ?_
    refine lv_lshl (v := jlshl ((97 + (jrem v1 6) : Int32).toInt64) 24) hx hb dL_part_113 rfl ?_
    refine lv_lor hx hb dL_part_114 ?_
    refine lv_ldc2 (v := 176093659136) hx hb hown kc29 dL_part_115 ?_
    refine lv_lor hx hb dL_part_118 ?_
    have hP9 := hP
    have hD9 := hD
    have hS9 := hS
    subst hQ
    cases h
    exact W.lret hx hb hr (fun t ht hW => ⟨⟨_, (), rfl, rfl, by rw [ht]; exact hP9, va_K.moved hW.alike hK, hD9⟩, hS9.F ht⟩) hS9.2.2 dL_part_119
  replace h := sf_f c4 h
  rcases Decidable.em ((jrem (v0 / 6) 6 : Int32) = 3) with c5 | c5
  · replace h := sf_t c5 h
    have ec5 : w1 = 3 := ew1.trans c5
    refine lv_tableIn (off := 82) (tgt := 120) hx hb dL_part_38 (by rw [ec5]; decide) (by rw [ec5]; decide) (by rw [ec5]; rfl) (by decide) ?_
    refine lv_ldc2 (v := 40) hx hb hown kc25 dL_part_120 ?_
    refine lv_lload_n hx hb dL_part_123 rfl (lv_at hl 2 rfl) ?_
    refine lv_bipush (v := 8) hx hb dL_part_124 (by decide) ?_
    refine lv_lshl (v := jlshl ((97 + (jrem v0 6) : Int32).toInt64) 8) hx hb dL_part_126 rfl ?_
    refine lv_lor hx hb dL_part_127 ?_
    refine lv_ldc2 (v := 2949120) hx hb hown kc31 dL_part_128 ?_
    refine lv_lor hx hb dL_part_131 ?_
    refine lv_lload hx hb dL_part_132 (lv_at hl 1 rfl) ?_
    refine lv_bipush (v := 24) hx hb dL_part_134 (by decide) ?_
    refine lv_lshl (v := jlshl ((97 + (jrem v1 6) : Int32).toInt64) 24) hx hb dL_part_136 rfl ?_
    refine lv_lor hx hb dL_part_137 ?_
    refine lv_ldc2 (v := 176093659136) hx hb hown kc29 dL_part_138 ?_
    refine lv_lor hx hb dL_part_141 ?_
    refine lv_ldc2 (v := 103354093010944) hx hb hown kc33 dL_part_142 ?_
    refine lv_lor hx hb dL_part_145 ?_
    refine lv_lload hx hb dL_part_146 (lv_at hl 0 rfl) ?_
    refine lv_bipush (v := 48) hx hb dL_part_148 (by decide) ?_
    refine lv_lshl (v := jlshl ((48 + (jrem (v1 / 6) 5) : Int32).toInt64) 48) hx hb dL_part_150 rfl ?_
    refine lv_lor hx hb dL_part_151 ?_
    have hP9 := hP
    have hD9 := hD
    have hS9 := hS
    subst hQ
    cases h
    exact W.lret hx hb hr (fun t ht hW => ⟨⟨_, (), rfl, rfl, by rw [ht]; exact hP9, va_K.moved hW.alike hK, hD9⟩, hS9.F ht⟩) hS9.2.2 dL_part_152
  replace h := sf_f c5 h
  rcases Decidable.em ((jrem (v0 / 6) 6 : Int32) = 4) with c6 | c6
  · replace h := sf_t c6 h
    have ec6 : w1 = 4 := ew1.trans c6
    refine lv_tableIn (off := 115) (tgt := 153) hx hb dL_part_38 (by rw [ec6]; decide) (by rw [ec6]; decide) (by rw [ec6]; rfl) (by decide) ?_
    refine lv_ldc2 (v := 45) hx hb hown kc35 dL_part_153 ?_
    refine lv_lload_n hx hb dL_part_156 rfl (lv_at hl 2 rfl) ?_
    refine lv_bipush (v := 8) hx hb dL_part_157 (by decide) ?_
    refine lv_lshl (v := jlshl ((97 + (jrem v0 6) : Int32).toInt64) 8) hx hb dL_part_159 rfl ?_
    refine lv_lor hx hb dL_part_160 ?_
    refine lv_ldc2 (v := 6160384) hx hb hown kc37 dL_part_161 ?_
    refine lv_lor hx hb dL_part_164 ?_
    refine lv_lload hx hb dL_part_165 (lv_at hl 0 rfl) ?_
    refine lv_bipush (v := 24) hx hb dL_part_167 (by decide) ?_
    refine lv_lshl (v := jlshl ((48 + (jrem (v1 / 6) 5) : Int32).toInt64) 24) hx hb dL_part_169 rfl ?_
    refine lv_lor hx hb dL_part_170 ?_
    have hP9 := hP
    have hD9 := hD
    have hS9 := hS
    subst hQ
    cases h
    exact W.lret hx hb hr (fun t ht hW => ⟨⟨_, (), rfl, rfl, by rw [ht]; exact hP9, va_K.moved hW.alike hK, hD9⟩, hS9.F ht⟩) hS9.2.2 dL_part_171
  replace h := sf_f c6 h
  refine lv_tableOut (tgt := 172) hx hb dL_part_38 (by have z0 := lv_neT (a := 0) (fun q => c2 (ew1.symm.trans q)) rfl; have z1 := lv_neT (a := 1) (fun q => c3 (ew1.symm.trans q)) rfl; have z2 := lv_neT (a := 2) (fun q => c4 (ew1.symm.trans q)) rfl; have z3 := lv_neT (a := 3) (fun q => c5 (ew1.symm.trans q)) rfl; have z4 := lv_neT (a := 4) (fun q => c6 (ew1.symm.trans q)) rfl; omega) (by decide) ?_
  refine lv_lload_n hx hb dL_part_172 rfl (lv_at hl 2 rfl) ?_
  refine lv_ldc2 (v := 24064) hx hb hown kc39 dL_part_173 ?_
  refine lv_lor hx hb dL_part_176 ?_
  refine lv_lload hx hb dL_part_177 (lv_at hl 0 rfl) ?_
  refine lv_bipush (v := 16) hx hb dL_part_179 (by decide) ?_
  refine lv_lshl (v := jlshl ((48 + (jrem (v1 / 6) 5) : Int32).toInt64) 16) hx hb dL_part_181 rfl ?_
  refine lv_lor hx hb dL_part_182 ?_
  have hP9 := hP
  have hD9 := hD
  have hS9 := hS
  subst hQ
  cases h
  exact W.lret hx hb hr (fun t ht hW => ⟨⟨_, (), rfl, rfl, by rw [ht]; exact hP9, va_K.moved hW.alike hK, hD9⟩, hS9.F ht⟩) hS9.2.2 dL_part_183
