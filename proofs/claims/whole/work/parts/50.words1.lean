set_option maxRecDepth 20000 in
theorem wsL_law_c17 : ∀ w ∈ wsL_law0_r17, w ∈ lw_tbl := fun w h => (goodIn_p wsL_law0_r17 [916, 920, 924, 927, 931, 935] rfl (by decide +kernel) w h).1
set_option maxRecDepth 20000 in
theorem wsL_law_c18 : ∀ w ∈ wsL_law0_r18, w ∈ lw_tbl := fun w h => (goodIn_p wsL_law0_r18 [939, 943, 947, 951, 537] rfl (by decide +kernel) w h).1
set_option maxRecDepth 20000 in
theorem wsL_law_c19 : ∀ w ∈ wsL_law0_r19, w ∈ lw_tbl := fun w h => (goodIn_p wsL_law0_r19 [541, 955, 959, 548, 963] rfl (by decide +kernel) w h).1
set_option maxRecDepth 20000 in
theorem wsL_law_c20 : ∀ w ∈ wsL_law0_r20, w ∈ lw_tbl := fun w h => (goodIn_p wsL_law0_r20 [556, 560, 564, 567, 967, 971] rfl (by decide +kernel) w h).1
set_option maxRecDepth 20000 in
theorem wsL_law_c21 : ∀ w ∈ wsL_law0_r21, w ∈ lw_tbl := fun w h => (goodIn_p wsL_law0_r21 [974, 574, 578, 583, 587] rfl (by decide +kernel) w h).1
set_option maxRecDepth 20000 in
theorem wsL_law_c22 : ∀ w ∈ wsL_law0_r22, w ∈ lw_tbl := fun w h => (goodIn_p wsL_law0_r22 [978, 982, 594, 598, 601] rfl (by decide +kernel) w h).1
set_option maxRecDepth 20000 in
theorem wsL_law_c23 : ∀ w ∈ wsL_law0_r23, w ∈ lw_tbl := fun w h => (goodIn_p wsL_law0_r23 [605, 986, 612, 616] rfl (by decide +kernel) w h).1
set_option maxRecDepth 20000 in
theorem wsL_law_c24 : ∀ w ∈ wsL_law0_r24, w ∈ lw_tbl := fun w h => (goodIn_p wsL_law0_r24 [622, 627, 632, 638] rfl (by decide +kernel) w h).1
set_option maxRecDepth 20000 in
theorem wsL_law_c25 : ∀ w ∈ wsL_law0_r25, w ∈ lw_tbl := fun w h => (goodIn_p wsL_law0_r25 [643, 649, 653, 991, 995] rfl (by decide +kernel) w h).1
set_option maxRecDepth 20000 in
theorem wsL_law_c26 : ∀ w ∈ wsL_law0_r26, w ∈ lw_tbl := fun w h => (goodIn_p wsL_law0_r26 [999, 1003, 1007, 1012, 1016, 1020] rfl (by decide +kernel) w h).1
set_option maxRecDepth 20000 in
theorem wsL_law_c27 : ∀ w ∈ wsL_law0_r27, w ∈ lw_tbl := fun w h => (goodIn_p wsL_law0_r27 [1026, 1030, 1034, 662] rfl (by decide +kernel) w h).1
set_option maxRecDepth 20000 in
theorem wsL_law_c28 : ∀ w ∈ wsL_law0_r28, w ∈ lw_tbl := fun w h => (goodIn_p wsL_law0_r28 [1038, 670, 675, 679, 1042] rfl (by decide +kernel) w h).1
set_option maxRecDepth 20000 in
theorem wsL_law_c29 : ∀ w ∈ wsL_law0_r29, w ∈ lw_tbl := fun w h => (goodIn_p wsL_law0_r29 [686, 690, 694, 698, 702] rfl (by decide +kernel) w h).1
set_option maxRecDepth 20000 in
theorem wsL_law_c30 : ∀ w ∈ wsL_law0_r30, w ∈ lw_tbl := fun w h => (goodIn_p wsL_law0_r30 [1046, 711, 1050, 719] rfl (by decide +kernel) w h).1
set_option maxRecDepth 20000 in
theorem wsL_law_c31 : ∀ w ∈ wsL_law0_r31, w ∈ lw_tbl := fun w h => (goodIn_p wsL_law0_r31 [723, 727, 731, 1055, 1059, 1063] rfl (by decide +kernel) w h).1
set_option maxRecDepth 20000 in
theorem wsL_law_c32 : ∀ w ∈ wsL_law0_r32, w ∈ lw_tbl := fun w h => (goodIn_p wsL_law0_r32 [] rfl (by decide +kernel) w h).1
