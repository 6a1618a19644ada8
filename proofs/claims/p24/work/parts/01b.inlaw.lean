theorem mwsL_law0_r1_0 : Cond.classLink RL 9 RX4 ∈ lw_tbl := List.mem_of_getElem? (i := 22) (by decide +kernel)
theorem mwsL_law0_r1_1 : Cond.instantiable RX4 5 ∈ lw_tbl := List.mem_of_getElem? (i := 23) (by decide +kernel)
theorem mwsL_law0_r1_2 : Cond.initialized RX4 ∈ lw_tbl := List.mem_of_getElem? (i := 9) (by decide +kernel)
theorem mwsL_law0_r1_3 : Cond.arrayClass .int ∈ lw_tbl := List.mem_of_getElem? (i := 65) (by decide +kernel)
theorem mwsL_law0_r1_4 : Cond.methodLink RL 127 yX4_init ∈ lw_tbl := List.mem_of_getElem? (i := 24) (by decide +kernel)
theorem mwsL_law0_r1_5 : Cond.instanceMethod yX4_init ∈ lw_tbl := List.mem_of_getElem? (i := 25) (by decide +kernel)
set_option maxRecDepth 20000 in
theorem mwsL_law0_r1_6 : Cond.code yX4_init cX4_init 2 none ∈ lw_tbl := List.mem_of_getElem? (i := 26) rfl
theorem mwsL_law0_r1_7 : Cond.methodLink RX4 3 objectInit ∈ lw_tbl := List.mem_of_getElem? (i := 27) (by decide +kernel)
theorem mwsL_law0_r1_8 : Cond.instanceMethod objectInit ∈ lw_tbl := List.mem_of_getElem? (i := 28) (by decide +kernel)
set_option maxRecDepth 20000 in
theorem mwsL_law0_r1_9 : Cond.code objectInit ⟨#[0xb1]⟩ 1 none ∈ lw_tbl := List.mem_of_getElem? (i := 29) rfl
theorem mwsL_law0_r1_10 : Cond.classLink RX4 9 RX1 ∈ lw_tbl := List.mem_of_getElem? (i := 30) (by decide +kernel)
theorem mwsL_law0_r1_11 : Cond.instantiable RX1 7 ∈ lw_tbl := List.mem_of_getElem? (i := 31) (by decide +kernel)
theorem mwsL_law0_r1_12 : Cond.initialized RX1 ∈ lw_tbl := List.mem_of_getElem? (i := 10) (by decide +kernel)
theorem mwsL_law0_r1_13 : Cond.fieldLink RX4 12 "RowReplicator" "publisher" "LRowReplicator$Publisher;" ∈ lw_tbl := List.mem_of_getElem? (i := 135) (by decide +kernel)
theorem mwsL_law0_r1_14 : Cond.classLink RX4 16 RX0 ∈ lw_tbl := List.mem_of_getElem? (i := 66) (by decide +kernel)
theorem mwsL_law0_r1_15 : Cond.fieldLink RX4 18 "RowReplicator" "publications" "[LRowReplicator$Publication;" ∈ lw_tbl := List.mem_of_getElem? (i := 136) (by decide +kernel)
theorem mwsL_law0_r1_16 : Cond.classLink RX4 22 RX2 ∈ lw_tbl := List.mem_of_getElem? (i := 68) (by decide +kernel)
theorem mwsL_law0_r1_17 : Cond.fieldLink RX4 24 "RowReplicator" "subscribers" "[LRowReplicator$Subscriber;" ∈ lw_tbl := List.mem_of_getElem? (i := 137) (by decide +kernel)
theorem mwsL_law0_r1_18 : Cond.classLink RX4 28 RX3 ∈ lw_tbl := List.mem_of_getElem? (i := 70) (by decide +kernel)
theorem mwsL_law0_r1_19 : Cond.instantiable RX3 2 ∈ lw_tbl := List.mem_of_getElem? (i := 71) (by decide +kernel)
theorem mwsL_law0_r1_20 : Cond.initialized RX3 ∈ lw_tbl := List.mem_of_getElem? (i := 11) (by decide +kernel)
theorem mwsL_law0_r1_21 : Cond.fieldLink RX4 31 "RowReplicator" "trial" "LRowReplicator$Trial;" ∈ lw_tbl := List.mem_of_getElem? (i := 138) (by decide +kernel)
theorem mwsL_law0_r1_22 : Cond.fieldLink RX4 35 "RowReplicator" "limit" "I" ∈ lw_tbl := List.mem_of_getElem? (i := 139) (by decide +kernel)
theorem mwsL_law0_r1_23 : Cond.instantiable RX0 4 ∈ lw_tbl := List.mem_of_getElem? (i := 84) (by decide +kernel)
theorem in_wsL_law0_r1 : ∀ w ∈ wsL_law0_r1, w ∈ lw_tbl := (List.forall_mem_cons.mpr ⟨mwsL_law0_r1_0, (List.forall_mem_cons.mpr ⟨mwsL_law0_r1_1, (List.forall_mem_cons.mpr ⟨mwsL_law0_r1_2, (List.forall_mem_cons.mpr ⟨mwsL_law0_r1_3, (List.forall_mem_cons.mpr ⟨mwsL_law0_r1_4, (List.forall_mem_cons.mpr ⟨mwsL_law0_r1_5, (List.forall_mem_cons.mpr ⟨mwsL_law0_r1_6, (List.forall_mem_cons.mpr ⟨mwsL_law0_r1_7, (List.forall_mem_cons.mpr ⟨mwsL_law0_r1_8, (List.forall_mem_cons.mpr ⟨mwsL_law0_r1_9, (List.forall_mem_cons.mpr ⟨mwsL_law0_r1_10, (List.forall_mem_cons.mpr ⟨mwsL_law0_r1_11, (List.forall_mem_cons.mpr ⟨mwsL_law0_r1_12, (List.forall_mem_cons.mpr ⟨mwsL_law0_r1_13, (List.forall_mem_cons.mpr ⟨mwsL_law0_r1_14, (List.forall_mem_cons.mpr ⟨mwsL_law0_r1_15, (List.forall_mem_cons.mpr ⟨mwsL_law0_r1_16, (List.forall_mem_cons.mpr ⟨mwsL_law0_r1_17, (List.forall_mem_cons.mpr ⟨mwsL_law0_r1_18, (List.forall_mem_cons.mpr ⟨mwsL_law0_r1_19, (List.forall_mem_cons.mpr ⟨mwsL_law0_r1_20, (List.forall_mem_cons.mpr ⟨mwsL_law0_r1_21, (List.forall_mem_cons.mpr ⟨mwsL_law0_r1_22, (List.forall_mem_cons.mpr ⟨mwsL_law0_r1_23, (fun _ h => nomatch h)⟩)⟩)⟩)⟩)⟩)⟩)⟩)⟩)⟩)⟩)⟩)⟩)⟩)⟩)⟩)⟩)⟩)⟩)⟩)⟩)⟩)⟩)⟩)⟩)
theorem mwsL_law0_r2_0 : Cond.initialized RX0 ∈ lw_tbl := List.mem_of_getElem? (i := 12) (by decide +kernel)
theorem mwsL_law0_r2_1 : Cond.instantiable RX2 5 ∈ lw_tbl := List.mem_of_getElem? (i := 107) (by decide +kernel)
theorem mwsL_law0_r2_2 : Cond.initialized RX2 ∈ lw_tbl := List.mem_of_getElem? (i := 13) (by decide +kernel)
theorem mwsL_law0_r2_3 : Cond.methodLink RX4 11 yX1_init ∈ lw_tbl := List.mem_of_getElem? (i := 32) (by decide +kernel)
theorem mwsL_law0_r2_4 : Cond.instanceMethod yX1_init ∈ lw_tbl := List.mem_of_getElem? (i := 33) (by decide +kernel)
set_option maxRecDepth 20000 in
theorem mwsL_law0_r2_5 : Cond.code yX1_init cX1_init 2 none ∈ lw_tbl := List.mem_of_getElem? (i := 34) rfl
theorem mwsL_law0_r2_6 : Cond.methodLink RX1 3 objectInit ∈ lw_tbl := List.mem_of_getElem? (i := 35) (by decide +kernel)
theorem mwsL_law0_r2_7 : Cond.fieldLink RX1 9 "RowReplicator$Publisher" "rows" "[I" ∈ lw_tbl := List.mem_of_getElem? (i := 36) (by decide +kernel)
theorem mwsL_law0_r2_8 : Cond.fieldLink RX1 15 "RowReplicator$Publisher" "commitCount" "I" ∈ lw_tbl := List.mem_of_getElem? (i := 38) (by decide +kernel)
theorem mwsL_law0_r2_9 : Cond.fieldLink RX1 19 "RowReplicator$Publisher" "changeCounts" "[I" ∈ lw_tbl := List.mem_of_getElem? (i := 40) (by decide +kernel)
theorem mwsL_law0_r2_10 : Cond.fieldLink RX1 22 "RowReplicator$Publisher" "changedTables" "[I" ∈ lw_tbl := List.mem_of_getElem? (i := 42) (by decide +kernel)
theorem mwsL_law0_r2_11 : Cond.fieldLink RX1 25 "RowReplicator$Publisher" "changedKeys" "[I" ∈ lw_tbl := List.mem_of_getElem? (i := 44) (by decide +kernel)
theorem mwsL_law0_r2_12 : Cond.fieldLink RX1 28 "RowReplicator$Publisher" "newRows" "[I" ∈ lw_tbl := List.mem_of_getElem? (i := 46) (by decide +kernel)
theorem mwsL_law0_r2_13 : Cond.fieldLink RX1 31 "RowReplicator$Publisher" "committedRows" "[I" ∈ lw_tbl := List.mem_of_getElem? (i := 48) (by decide +kernel)
theorem mwsL_law0_r2_14 : Cond.instanceMethod yX3_init ∈ lw_tbl := List.mem_of_getElem? (i := 73) (by decide +kernel)
set_option maxRecDepth 20000 in
theorem mwsL_law0_r2_15 : Cond.code yX3_init cX3_init 1 none ∈ lw_tbl := List.mem_of_getElem? (i := 74) rfl
theorem mwsL_law0_r2_16 : Cond.methodLink RX3 3 objectInit ∈ lw_tbl := List.mem_of_getElem? (i := 75) (by decide +kernel)
theorem mwsL_law0_r2_17 : Cond.fieldLink RX3 9 "RowReplicator$Trial" "oldRows" "[I" ∈ lw_tbl := List.mem_of_getElem? (i := 76) (by decide +kernel)
theorem mwsL_law0_r2_18 : Cond.fieldLink RX3 15 "RowReplicator$Trial" "rows" "[I" ∈ lw_tbl := List.mem_of_getElem? (i := 77) (by decide +kernel)
theorem mwsL_law0_r2_19 : Cond.methodLink RX4 39 yX0_init ∈ lw_tbl := List.mem_of_getElem? (i := 85) (by decide +kernel)
theorem mwsL_law0_r2_20 : Cond.instanceMethod yX0_init ∈ lw_tbl := List.mem_of_getElem? (i := 86) (by decide +kernel)
set_option maxRecDepth 20000 in
theorem mwsL_law0_r2_21 : Cond.code yX0_init cX0_init 2 none ∈ lw_tbl := List.mem_of_getElem? (i := 87) rfl
theorem mwsL_law0_r2_22 : Cond.methodLink RX0 3 objectInit ∈ lw_tbl := List.mem_of_getElem? (i := 88) (by decide +kernel)
theorem mwsL_law0_r2_23 : Cond.fieldLink RX0 9 "RowReplicator$Publication" "columns" "[I" ∈ lw_tbl := List.mem_of_getElem? (i := 90) (by decide +kernel)
theorem in_wsL_law0_r2 : ∀ w ∈ wsL_law0_r2, w ∈ lw_tbl := (List.forall_mem_cons.mpr ⟨mwsL_law0_r2_0, (List.forall_mem_cons.mpr ⟨mwsL_law0_r2_1, (List.forall_mem_cons.mpr ⟨mwsL_law0_r2_2, (List.forall_mem_cons.mpr ⟨mwsL_law0_r2_3, (List.forall_mem_cons.mpr ⟨mwsL_law0_r2_4, (List.forall_mem_cons.mpr ⟨mwsL_law0_r2_5, (List.forall_mem_cons.mpr ⟨mwsL_law0_r2_6, (List.forall_mem_cons.mpr ⟨mwsL_law0_r2_7, (List.forall_mem_cons.mpr ⟨mwsL_law0_r2_8, (List.forall_mem_cons.mpr ⟨mwsL_law0_r2_9, (List.forall_mem_cons.mpr ⟨mwsL_law0_r2_10, (List.forall_mem_cons.mpr ⟨mwsL_law0_r2_11, (List.forall_mem_cons.mpr ⟨mwsL_law0_r2_12, (List.forall_mem_cons.mpr ⟨mwsL_law0_r2_13, (List.forall_mem_cons.mpr ⟨mwsL_law0_r2_14, (List.forall_mem_cons.mpr ⟨mwsL_law0_r2_15, (List.forall_mem_cons.mpr ⟨mwsL_law0_r2_16, (List.forall_mem_cons.mpr ⟨mwsL_law0_r2_17, (List.forall_mem_cons.mpr ⟨mwsL_law0_r2_18, (List.forall_mem_cons.mpr ⟨mwsL_law0_r2_19, (List.forall_mem_cons.mpr ⟨mwsL_law0_r2_20, (List.forall_mem_cons.mpr ⟨mwsL_law0_r2_21, (List.forall_mem_cons.mpr ⟨mwsL_law0_r2_22, (List.forall_mem_cons.mpr ⟨mwsL_law0_r2_23, (fun _ h => nomatch h)⟩)⟩)⟩)⟩)⟩)⟩)⟩)⟩)⟩)⟩)⟩)⟩)⟩)⟩)⟩)⟩)⟩)⟩)⟩)⟩)⟩)⟩)⟩)⟩)
theorem mwsL_law0_r3_0 : Cond.fieldLink RX0 15 "RowReplicator$Publication" "relations" "[I" ∈ lw_tbl := List.mem_of_getElem? (i := 92) (by decide +kernel)
theorem mwsL_law0_r3_1 : Cond.fieldLink RX0 18 "RowReplicator$Publication" "numbers" "[I" ∈ lw_tbl := List.mem_of_getElem? (i := 94) (by decide +kernel)
theorem mwsL_law0_r3_2 : Cond.fieldLink RX0 21 "RowReplicator$Publication" "masks" "[I" ∈ lw_tbl := List.mem_of_getElem? (i := 96) (by decide +kernel)
theorem mwsL_law0_r3_3 : Cond.constant RX0 24 (2097151) ∈ lw_tbl := List.mem_of_getElem? (i := 89) (by decide +kernel)
theorem mwsL_law0_r3_4 : Cond.methodLink RX4 40 yX2_init ∈ lw_tbl := List.mem_of_getElem? (i := 108) (by decide +kernel)
theorem mwsL_law0_r3_5 : Cond.instanceMethod yX2_init ∈ lw_tbl := List.mem_of_getElem? (i := 109) (by decide +kernel)
set_option maxRecDepth 20000 in
theorem mwsL_law0_r3_6 : Cond.code yX2_init cX2_init 2 none ∈ lw_tbl := List.mem_of_getElem? (i := 110) rfl
theorem mwsL_law0_r3_7 : Cond.methodLink RX2 3 objectInit ∈ lw_tbl := List.mem_of_getElem? (i := 111) (by decide +kernel)
theorem mwsL_law0_r3_8 : Cond.fieldLink RX2 9 "RowReplicator$Subscriber" "rows" "[I" ∈ lw_tbl := List.mem_of_getElem? (i := 112) (by decide +kernel)
theorem mwsL_law0_r3_9 : Cond.fieldLink RX2 15 "RowReplicator$Subscriber" "copies" "[I" ∈ lw_tbl := List.mem_of_getElem? (i := 115) (by decide +kernel)
theorem mwsL_law0_r3_10 : Cond.fieldLink RX2 18 "RowReplicator$Subscriber" "publication" "LRowReplicator$Publication;" ∈ lw_tbl := List.mem_of_getElem? (i := 117) (by decide +kernel)
theorem mwsL_law0_r3_11 : Cond.fieldLink RX2 22 "RowReplicator$Subscriber" "state" "I" ∈ lw_tbl := List.mem_of_getElem? (i := 119) (by decide +kernel)
theorem mwsL_law0_r3_12 : Cond.fieldLink RX2 26 "RowReplicator$Subscriber" "slot" "I" ∈ lw_tbl := List.mem_of_getElem? (i := 121) (by decide +kernel)
theorem mwsL_law0_r3_13 : Cond.methodLink RL 128 yL_isPublisher ∈ lw_tbl := List.mem_of_getElem? (i := 435) (by decide +kernel)
theorem mwsL_law0_r3_14 : Cond.static yL_isPublisher ∈ lw_tbl := List.mem_of_getElem? (i := 436) (by decide +kernel)
theorem mwsL_law0_r3_15 : Cond.initialized RL ∈ lw_tbl := List.mem_of_getElem? (i := 8) (by decide +kernel)
set_option maxRecDepth 20000 in
theorem mwsL_law0_r3_16 : Cond.code yL_isPublisher cL_isPublisher 6 (some .boolean) ∈ lw_tbl := List.mem_of_getElem? (i := 437) rfl
theorem mwsL_law0_r3_17 : Cond.methodLink RL 90 yX4_commits ∈ lw_tbl := List.mem_of_getElem? (i := 438) (by decide +kernel)
theorem mwsL_law0_r3_18 : Cond.instanceMethod yX4_commits ∈ lw_tbl := List.mem_of_getElem? (i := 439) (by decide +kernel)
theorem mwsL_law0_r3_19 : Cond.selects RX4 yX4_commits yX4_commits ∈ lw_tbl := List.mem_of_getElem? (i := 440) (by decide +kernel)
set_option maxRecDepth 20000 in
theorem mwsL_law0_r3_20 : Cond.code yX4_commits cX4_commits 1 (some .int) ∈ lw_tbl := List.mem_of_getElem? (i := 441) rfl
theorem mwsL_law0_r3_21 : Cond.methodLink RL 93 yL_asks ∈ lw_tbl := List.mem_of_getElem? (i := 442) (by decide +kernel)
theorem mwsL_law0_r3_22 : Cond.static yL_asks ∈ lw_tbl := List.mem_of_getElem? (i := 443) (by decide +kernel)
set_option maxRecDepth 20000 in
theorem mwsL_law0_r3_23 : Cond.codeWith yL_asks cL_asks 7 (some .int) [(0, 87, 88, 64), (0, 87, 93, 68)] ∈ lw_tbl := List.mem_of_getElem? (i := 444) rfl
theorem in_wsL_law0_r3 : ∀ w ∈ wsL_law0_r3, w ∈ lw_tbl := (List.forall_mem_cons.mpr ⟨mwsL_law0_r3_0, (List.forall_mem_cons.mpr ⟨mwsL_law0_r3_1, (List.forall_mem_cons.mpr ⟨mwsL_law0_r3_2, (List.forall_mem_cons.mpr ⟨mwsL_law0_r3_3, (List.forall_mem_cons.mpr ⟨mwsL_law0_r3_4, (List.forall_mem_cons.mpr ⟨mwsL_law0_r3_5, (List.forall_mem_cons.mpr ⟨mwsL_law0_r3_6, (List.forall_mem_cons.mpr ⟨mwsL_law0_r3_7, (List.forall_mem_cons.mpr ⟨mwsL_law0_r3_8, (List.forall_mem_cons.mpr ⟨mwsL_law0_r3_9, (List.forall_mem_cons.mpr ⟨mwsL_law0_r3_10, (List.forall_mem_cons.mpr ⟨mwsL_law0_r3_11, (List.forall_mem_cons.mpr ⟨mwsL_law0_r3_12, (List.forall_mem_cons.mpr ⟨mwsL_law0_r3_13, (List.forall_mem_cons.mpr ⟨mwsL_law0_r3_14, (List.forall_mem_cons.mpr ⟨mwsL_law0_r3_15, (List.forall_mem_cons.mpr ⟨mwsL_law0_r3_16, (List.forall_mem_cons.mpr ⟨mwsL_law0_r3_17, (List.forall_mem_cons.mpr ⟨mwsL_law0_r3_18, (List.forall_mem_cons.mpr ⟨mwsL_law0_r3_19, (List.forall_mem_cons.mpr ⟨mwsL_law0_r3_20, (List.forall_mem_cons.mpr ⟨mwsL_law0_r3_21, (List.forall_mem_cons.mpr ⟨mwsL_law0_r3_22, (List.forall_mem_cons.mpr ⟨mwsL_law0_r3_23, (fun _ h => nomatch h)⟩)⟩)⟩)⟩)⟩)⟩)⟩)⟩)⟩)⟩)⟩)⟩)⟩)⟩)⟩)⟩)⟩)⟩)⟩)⟩)⟩)⟩)⟩)⟩)
theorem mwsL_law0_r4_0 : Cond.classLink RL 64 "java/lang/IndexOutOfBoundsException" ∈ lw_tbl := List.mem_of_getElem? (i := 154) (by decide +kernel)
theorem mwsL_law0_r4_1 : Cond.classLink RL 68 "java/lang/IllegalStateException" ∈ lw_tbl := List.mem_of_getElem? (i := 156) (by decide +kernel)
theorem mwsL_law0_r4_2 : Cond.methodLink RL 70 yX4_at ∈ lw_tbl := List.mem_of_getElem? (i := 445) (by decide +kernel)
theorem mwsL_law0_r4_3 : Cond.instanceMethod yX4_at ∈ lw_tbl := List.mem_of_getElem? (i := 446) (by decide +kernel)
theorem mwsL_law0_r4_4 : Cond.selects RX4 yX4_at yX4_at ∈ lw_tbl := List.mem_of_getElem? (i := 447) (by decide +kernel)
set_option maxRecDepth 20000 in
theorem mwsL_law0_r4_5 : Cond.code yX4_at cX4_at 4 (some .int) ∈ lw_tbl := List.mem_of_getElem? (i := 448) rfl
theorem mwsL_law0_r4_6 : Cond.methodLink RX4 41 yX4_checkKey ∈ lw_tbl := List.mem_of_getElem? (i := 161) (by decide +kernel)
theorem mwsL_law0_r4_7 : Cond.static yX4_checkKey ∈ lw_tbl := List.mem_of_getElem? (i := 162) (by decide +kernel)
set_option maxRecDepth 20000 in
theorem mwsL_law0_r4_8 : Cond.code yX4_checkKey cX4_checkKey 2 none ∈ lw_tbl := List.mem_of_getElem? (i := 163) rfl
theorem mwsL_law0_r4_9 : Cond.classLink RX4 199 "java/lang/IndexOutOfBoundsException" ∈ lw_tbl := List.mem_of_getElem? (i := 167) (by decide +kernel)
theorem mwsL_law0_r4_10 : Cond.initialized "java/lang/IndexOutOfBoundsException" ∈ lw_tbl := List.mem_of_getElem? (i := 17) (by decide +kernel)
theorem mwsL_law0_r4_11 : Cond.methodLink RX4 75 yX4_checkTable ∈ lw_tbl := List.mem_of_getElem? (i := 164) (by decide +kernel)
theorem mwsL_law0_r4_12 : Cond.static yX4_checkTable ∈ lw_tbl := List.mem_of_getElem? (i := 165) (by decide +kernel)
set_option maxRecDepth 20000 in
theorem mwsL_law0_r4_13 : Cond.code yX4_checkTable cX4_checkTable 1 none ∈ lw_tbl := List.mem_of_getElem? (i := 166) rfl
theorem mwsL_law0_r4_14 : Cond.methodLink RX4 96 yX4_checkColumn ∈ lw_tbl := List.mem_of_getElem? (i := 339) (by decide +kernel)
theorem mwsL_law0_r4_15 : Cond.static yX4_checkColumn ∈ lw_tbl := List.mem_of_getElem? (i := 340) (by decide +kernel)
set_option maxRecDepth 20000 in
theorem mwsL_law0_r4_16 : Cond.code yX4_checkColumn cX4_checkColumn 1 none ∈ lw_tbl := List.mem_of_getElem? (i := 341) rfl
theorem mwsL_law0_r4_17 : Cond.methodLink RX4 56 yX4_placeOf ∈ lw_tbl := List.mem_of_getElem? (i := 279) (by decide +kernel)
theorem mwsL_law0_r4_18 : Cond.static yX4_placeOf ∈ lw_tbl := List.mem_of_getElem? (i := 280) (by decide +kernel)
set_option maxRecDepth 20000 in
theorem mwsL_law0_r4_19 : Cond.code yX4_placeOf cX4_placeOf 2 (some .int) ∈ lw_tbl := List.mem_of_getElem? (i := 281) rfl
theorem mwsL_law0_r4_20 : Cond.methodLink RX4 99 yX4_numberIn ∈ lw_tbl := List.mem_of_getElem? (i := 449) (by decide +kernel)
theorem mwsL_law0_r4_21 : Cond.static yX4_numberIn ∈ lw_tbl := List.mem_of_getElem? (i := 391) (by decide +kernel)
set_option maxRecDepth 20000 in
theorem mwsL_law0_r4_22 : Cond.code yX4_numberIn cX4_numberIn 2 (some .int) ∈ lw_tbl := List.mem_of_getElem? (i := 392) rfl
theorem mwsL_law0_r4_23 : Cond.methodLink RL 73 yX4_state ∈ lw_tbl := List.mem_of_getElem? (i := 450) (by decide +kernel)
theorem in_wsL_law0_r4 : ∀ w ∈ wsL_law0_r4, w ∈ lw_tbl := (List.forall_mem_cons.mpr ⟨mwsL_law0_r4_0, (List.forall_mem_cons.mpr ⟨mwsL_law0_r4_1, (List.forall_mem_cons.mpr ⟨mwsL_law0_r4_2, (List.forall_mem_cons.mpr ⟨mwsL_law0_r4_3, (List.forall_mem_cons.mpr ⟨mwsL_law0_r4_4, (List.forall_mem_cons.mpr ⟨mwsL_law0_r4_5, (List.forall_mem_cons.mpr ⟨mwsL_law0_r4_6, (List.forall_mem_cons.mpr ⟨mwsL_law0_r4_7, (List.forall_mem_cons.mpr ⟨mwsL_law0_r4_8, (List.forall_mem_cons.mpr ⟨mwsL_law0_r4_9, (List.forall_mem_cons.mpr ⟨mwsL_law0_r4_10, (List.forall_mem_cons.mpr ⟨mwsL_law0_r4_11, (List.forall_mem_cons.mpr ⟨mwsL_law0_r4_12, (List.forall_mem_cons.mpr ⟨mwsL_law0_r4_13, (List.forall_mem_cons.mpr ⟨mwsL_law0_r4_14, (List.forall_mem_cons.mpr ⟨mwsL_law0_r4_15, (List.forall_mem_cons.mpr ⟨mwsL_law0_r4_16, (List.forall_mem_cons.mpr ⟨mwsL_law0_r4_17, (List.forall_mem_cons.mpr ⟨mwsL_law0_r4_18, (List.forall_mem_cons.mpr ⟨mwsL_law0_r4_19, (List.forall_mem_cons.mpr ⟨mwsL_law0_r4_20, (List.forall_mem_cons.mpr ⟨mwsL_law0_r4_21, (List.forall_mem_cons.mpr ⟨mwsL_law0_r4_22, (List.forall_mem_cons.mpr ⟨mwsL_law0_r4_23, (fun _ h => nomatch h)⟩)⟩)⟩)⟩)⟩)⟩)⟩)⟩)⟩)⟩)⟩)⟩)⟩)⟩)⟩)⟩)⟩)⟩)⟩)⟩)⟩)⟩)⟩)⟩)
theorem mwsL_law0_r5_0 : Cond.instanceMethod yX4_state ∈ lw_tbl := List.mem_of_getElem? (i := 451) (by decide +kernel)
theorem mwsL_law0_r5_1 : Cond.selects RX4 yX4_state yX4_state ∈ lw_tbl := List.mem_of_getElem? (i := 452) (by decide +kernel)
set_option maxRecDepth 20000 in
theorem mwsL_law0_r5_2 : Cond.code yX4_state cX4_state 2 (some .int) ∈ lw_tbl := List.mem_of_getElem? (i := 453) rfl
theorem mwsL_law0_r5_3 : Cond.methodLink RX4 134 yX4_checkSubscriber ∈ lw_tbl := List.mem_of_getElem? (i := 360) (by decide +kernel)
theorem mwsL_law0_r5_4 : Cond.static yX4_checkSubscriber ∈ lw_tbl := List.mem_of_getElem? (i := 361) (by decide +kernel)
set_option maxRecDepth 20000 in
theorem mwsL_law0_r5_5 : Cond.code yX4_checkSubscriber cX4_checkSubscriber 1 none ∈ lw_tbl := List.mem_of_getElem? (i := 362) rfl
theorem mwsL_law0_r5_6 : Cond.methodLink RL 76 yX4_lag ∈ lw_tbl := List.mem_of_getElem? (i := 454) (by decide +kernel)
theorem mwsL_law0_r5_7 : Cond.instanceMethod yX4_lag ∈ lw_tbl := List.mem_of_getElem? (i := 455) (by decide +kernel)
theorem mwsL_law0_r5_8 : Cond.selects RX4 yX4_lag yX4_lag ∈ lw_tbl := List.mem_of_getElem? (i := 456) (by decide +kernel)
set_option maxRecDepth 20000 in
theorem mwsL_law0_r5_9 : Cond.code yX4_lag cX4_lag 2 (some .int) ∈ lw_tbl := List.mem_of_getElem? (i := 457) rfl
theorem mwsL_law0_r5_10 : Cond.methodLink RX4 178 yX2_commitsBehind ∈ lw_tbl := List.mem_of_getElem? (i := 318) (by decide +kernel)
theorem mwsL_law0_r5_11 : Cond.instanceMethod yX2_commitsBehind ∈ lw_tbl := List.mem_of_getElem? (i := 319) (by decide +kernel)
theorem mwsL_law0_r5_12 : Cond.selects RX2 yX2_commitsBehind yX2_commitsBehind ∈ lw_tbl := List.mem_of_getElem? (i := 320) (by decide +kernel)
set_option maxRecDepth 20000 in
theorem mwsL_law0_r5_13 : Cond.code yX2_commitsBehind cX2_commitsBehind 2 (some .int) ∈ lw_tbl := List.mem_of_getElem? (i := 321) rfl
theorem mwsL_law0_r5_14 : Cond.methodLink RX2 32 yX2_holdsLog ∈ lw_tbl := List.mem_of_getElem? (i := 322) (by decide +kernel)
theorem mwsL_law0_r5_15 : Cond.instanceMethod yX2_holdsLog ∈ lw_tbl := List.mem_of_getElem? (i := 323) (by decide +kernel)
theorem mwsL_law0_r5_16 : Cond.selects RX2 yX2_holdsLog yX2_holdsLog ∈ lw_tbl := List.mem_of_getElem? (i := 324) (by decide +kernel)
set_option maxRecDepth 20000 in
theorem mwsL_law0_r5_17 : Cond.code yX2_holdsLog cX2_holdsLog 1 (some .boolean) ∈ lw_tbl := List.mem_of_getElem? (i := 325) rfl
theorem mwsL_law0_r5_18 : Cond.methodLink RL 79 yX4_copiedAt ∈ lw_tbl := List.mem_of_getElem? (i := 458) (by decide +kernel)
theorem mwsL_law0_r5_19 : Cond.instanceMethod yX4_copiedAt ∈ lw_tbl := List.mem_of_getElem? (i := 459) (by decide +kernel)
theorem mwsL_law0_r5_20 : Cond.selects RX4 yX4_copiedAt yX4_copiedAt ∈ lw_tbl := List.mem_of_getElem? (i := 460) (by decide +kernel)
set_option maxRecDepth 20000 in
theorem mwsL_law0_r5_21 : Cond.code yX4_copiedAt cX4_copiedAt 3 (some .int) ∈ lw_tbl := List.mem_of_getElem? (i := 461) rfl
theorem mwsL_law0_r5_22 : Cond.methodLink RL 82 yX4_seen ∈ lw_tbl := List.mem_of_getElem? (i := 462) (by decide +kernel)
theorem mwsL_law0_r5_23 : Cond.instanceMethod yX4_seen ∈ lw_tbl := List.mem_of_getElem? (i := 463) (by decide +kernel)
theorem in_wsL_law0_r5 : ∀ w ∈ wsL_law0_r5, w ∈ lw_tbl := (List.forall_mem_cons.mpr ⟨mwsL_law0_r5_0, (List.forall_mem_cons.mpr ⟨mwsL_law0_r5_1, (List.forall_mem_cons.mpr ⟨mwsL_law0_r5_2, (List.forall_mem_cons.mpr ⟨mwsL_law0_r5_3, (List.forall_mem_cons.mpr ⟨mwsL_law0_r5_4, (List.forall_mem_cons.mpr ⟨mwsL_law0_r5_5, (List.forall_mem_cons.mpr ⟨mwsL_law0_r5_6, (List.forall_mem_cons.mpr ⟨mwsL_law0_r5_7, (List.forall_mem_cons.mpr ⟨mwsL_law0_r5_8, (List.forall_mem_cons.mpr ⟨mwsL_law0_r5_9, (List.forall_mem_cons.mpr ⟨mwsL_law0_r5_10, (List.forall_mem_cons.mpr ⟨mwsL_law0_r5_11, (List.forall_mem_cons.mpr ⟨mwsL_law0_r5_12, (List.forall_mem_cons.mpr ⟨mwsL_law0_r5_13, (List.forall_mem_cons.mpr ⟨mwsL_law0_r5_14, (List.forall_mem_cons.mpr ⟨mwsL_law0_r5_15, (List.forall_mem_cons.mpr ⟨mwsL_law0_r5_16, (List.forall_mem_cons.mpr ⟨mwsL_law0_r5_17, (List.forall_mem_cons.mpr ⟨mwsL_law0_r5_18, (List.forall_mem_cons.mpr ⟨mwsL_law0_r5_19, (List.forall_mem_cons.mpr ⟨mwsL_law0_r5_20, (List.forall_mem_cons.mpr ⟨mwsL_law0_r5_21, (List.forall_mem_cons.mpr ⟨mwsL_law0_r5_22, (List.forall_mem_cons.mpr ⟨mwsL_law0_r5_23, (fun _ h => nomatch h)⟩)⟩)⟩)⟩)⟩)⟩)⟩)⟩)⟩)⟩)⟩)⟩)⟩)⟩)⟩)⟩)⟩)⟩)⟩)⟩)⟩)⟩)⟩)⟩)
theorem mwsL_law0_r6_0 : Cond.selects RX4 yX4_seen yX4_seen ∈ lw_tbl := List.mem_of_getElem? (i := 464) (by decide +kernel)
set_option maxRecDepth 20000 in
theorem mwsL_law0_r6_1 : Cond.code yX4_seen cX4_seen 5 (some .int) ∈ lw_tbl := List.mem_of_getElem? (i := 465) rfl
theorem mwsL_law0_r6_2 : Cond.methodLink RL 86 yX4_isFaithful ∈ lw_tbl := List.mem_of_getElem? (i := 466) (by decide +kernel)
theorem mwsL_law0_r6_3 : Cond.instanceMethod yX4_isFaithful ∈ lw_tbl := List.mem_of_getElem? (i := 467) (by decide +kernel)
theorem mwsL_law0_r6_4 : Cond.selects RX4 yX4_isFaithful yX4_isFaithful ∈ lw_tbl := List.mem_of_getElem? (i := 468) (by decide +kernel)
set_option maxRecDepth 20000 in
theorem mwsL_law0_r6_5 : Cond.code yX4_isFaithful cX4_isFaithful 9 (some .boolean) ∈ lw_tbl := List.mem_of_getElem? (i := 469) rfl
theorem mwsL_law0_r6_6 : Cond.classLink RX4 68 "java/lang/IllegalStateException" ∈ lw_tbl := List.mem_of_getElem? (i := 263) (by decide +kernel)
theorem mwsL_law0_r6_7 : Cond.initialized "java/lang/IllegalStateException" ∈ lw_tbl := List.mem_of_getElem? (i := 18) (by decide +kernel)
theorem mwsL_law0_r6_8 : Cond.methodLink RX4 189 Lib.Math.max.name ∈ lw_tbl := List.mem_of_getElem? (i := 473) (by decide +kernel)
theorem mwsL_law0_r6_9 : Cond.static Lib.Math.max.name ∈ lw_tbl := List.mem_of_getElem? (i := 474) (by decide +kernel)
theorem mwsL_law0_r6_10 : Cond.initialized "java/lang/Math" ∈ lw_tbl := List.mem_of_getElem? (i := 19) (by decide +kernel)
set_option maxRecDepth 20000 in
theorem mwsL_law0_r6_11 : Cond.code Lib.Math.max.name Lib.Math.max.code 2 (some .int) ∈ lw_tbl := List.mem_of_getElem? (i := 475) rfl
theorem mwsL_law0_r6_12 : Cond.methodLink RX4 181 yX2_holdsLog ∈ lw_tbl := List.mem_of_getElem? (i := 470) (by decide +kernel)
theorem mwsL_law0_r6_13 : Cond.methodLink RX4 194 yX1_rowAsOf ∈ lw_tbl := List.mem_of_getElem? (i := 476) (by decide +kernel)
theorem mwsL_law0_r6_14 : Cond.instanceMethod yX1_rowAsOf ∈ lw_tbl := List.mem_of_getElem? (i := 477) (by decide +kernel)
theorem mwsL_law0_r6_15 : Cond.selects RX1 yX1_rowAsOf yX1_rowAsOf ∈ lw_tbl := List.mem_of_getElem? (i := 478) (by decide +kernel)
set_option maxRecDepth 20000 in
theorem mwsL_law0_r6_16 : Cond.code yX1_rowAsOf cX1_rowAsOf 3 (some .int) ∈ lw_tbl := List.mem_of_getElem? (i := 479) rfl
theorem mwsL_law0_r6_17 : Cond.methodLink RX4 155 yX0_choose ∈ lw_tbl := List.mem_of_getElem? (i := 386) (by decide +kernel)
theorem mwsL_law0_r6_18 : Cond.instanceMethod yX0_choose ∈ lw_tbl := List.mem_of_getElem? (i := 387) (by decide +kernel)
theorem mwsL_law0_r6_19 : Cond.selects RX0 yX0_choose yX0_choose ∈ lw_tbl := List.mem_of_getElem? (i := 388) (by decide +kernel)
set_option maxRecDepth 20000 in
theorem mwsL_law0_r6_20 : Cond.code yX0_choose cX0_choose 3 (some .int) ∈ lw_tbl := List.mem_of_getElem? (i := 389) rfl
theorem mwsL_law0_r6_21 : Cond.methodLink RX0 29 yX0_lets ∈ lw_tbl := List.mem_of_getElem? (i := 393) (by decide +kernel)
theorem mwsL_law0_r6_22 : Cond.instanceMethod yX0_lets ∈ lw_tbl := List.mem_of_getElem? (i := 395) (by decide +kernel)
theorem mwsL_law0_r6_23 : Cond.selects RX0 yX0_lets yX0_lets ∈ lw_tbl := List.mem_of_getElem? (i := 5) (by decide +kernel)
theorem in_wsL_law0_r6 : ∀ w ∈ wsL_law0_r6, w ∈ lw_tbl := (List.forall_mem_cons.mpr ⟨mwsL_law0_r6_0, (List.forall_mem_cons.mpr ⟨mwsL_law0_r6_1, (List.forall_mem_cons.mpr ⟨mwsL_law0_r6_2, (List.forall_mem_cons.mpr ⟨mwsL_law0_r6_3, (List.forall_mem_cons.mpr ⟨mwsL_law0_r6_4, (List.forall_mem_cons.mpr ⟨mwsL_law0_r6_5, (List.forall_mem_cons.mpr ⟨mwsL_law0_r6_6, (List.forall_mem_cons.mpr ⟨mwsL_law0_r6_7, (List.forall_mem_cons.mpr ⟨mwsL_law0_r6_8, (List.forall_mem_cons.mpr ⟨mwsL_law0_r6_9, (List.forall_mem_cons.mpr ⟨mwsL_law0_r6_10, (List.forall_mem_cons.mpr ⟨mwsL_law0_r6_11, (List.forall_mem_cons.mpr ⟨mwsL_law0_r6_12, (List.forall_mem_cons.mpr ⟨mwsL_law0_r6_13, (List.forall_mem_cons.mpr ⟨mwsL_law0_r6_14, (List.forall_mem_cons.mpr ⟨mwsL_law0_r6_15, (List.forall_mem_cons.mpr ⟨mwsL_law0_r6_16, (List.forall_mem_cons.mpr ⟨mwsL_law0_r6_17, (List.forall_mem_cons.mpr ⟨mwsL_law0_r6_18, (List.forall_mem_cons.mpr ⟨mwsL_law0_r6_19, (List.forall_mem_cons.mpr ⟨mwsL_law0_r6_20, (List.forall_mem_cons.mpr ⟨mwsL_law0_r6_21, (List.forall_mem_cons.mpr ⟨mwsL_law0_r6_22, (List.forall_mem_cons.mpr ⟨mwsL_law0_r6_23, (fun _ h => nomatch h)⟩)⟩)⟩)⟩)⟩)⟩)⟩)⟩)⟩)⟩)⟩)⟩)⟩)⟩)⟩)⟩)⟩)⟩)⟩)⟩)⟩)⟩)⟩)⟩)
set_option maxRecDepth 20000 in
theorem mwsL_law0_r7_0 : Cond.code yX0_lets cX0_lets 3 (some .boolean) ∈ lw_tbl := List.mem_of_getElem? (i := 396) rfl
theorem mwsL_law0_r7_1 : Cond.methodLink RL 132 yL_areSubscribers ∈ lw_tbl := List.mem_of_getElem? (i := 480) (by decide +kernel)
theorem mwsL_law0_r7_2 : Cond.static yL_areSubscribers ∈ lw_tbl := List.mem_of_getElem? (i := 481) (by decide +kernel)
set_option maxRecDepth 20000 in
theorem mwsL_law0_r7_3 : Cond.code yL_areSubscribers cL_areSubscribers 14 (some .boolean) ∈ lw_tbl := List.mem_of_getElem? (i := 482) rfl
theorem mwsL_law0_r7_4 : Cond.methodLink RL 136 yL_isDone ∈ lw_tbl := List.mem_of_getElem? (i := 483) (by decide +kernel)
theorem mwsL_law0_r7_5 : Cond.static yL_isDone ∈ lw_tbl := List.mem_of_getElem? (i := 484) (by decide +kernel)
set_option maxRecDepth 20000 in
theorem mwsL_law0_r7_6 : Cond.code yL_isDone cL_isDone 18 (some .boolean) ∈ lw_tbl := List.mem_of_getElem? (i := 485) rfl
theorem mwsL_law0_r7_7 : Cond.methodLink RL 101 yL_part ∈ lw_tbl := List.mem_of_getElem? (i := 486) (by decide +kernel)
theorem mwsL_law0_r7_8 : Cond.static yL_part ∈ lw_tbl := List.mem_of_getElem? (i := 487) (by decide +kernel)
set_option maxRecDepth 20000 in
theorem mwsL_law0_r7_9 : Cond.code yL_part cL_part 4 (some .int) ∈ lw_tbl := List.mem_of_getElem? (i := 488) rfl
theorem mwsL_law0_r7_10 : Cond.constant RL 7 (2147483647) ∈ lw_tbl := List.mem_of_getElem? (i := 489) (by decide +kernel)
theorem mwsL_law0_r7_11 : Cond.methodLink RL 105 yL_isChange ∈ lw_tbl := List.mem_of_getElem? (i := 490) (by decide +kernel)
theorem mwsL_law0_r7_12 : Cond.static yL_isChange ∈ lw_tbl := List.mem_of_getElem? (i := 491) (by decide +kernel)
set_option maxRecDepth 20000 in
theorem mwsL_law0_r7_13 : Cond.code yL_isChange cL_isChange 16 (some .boolean) ∈ lw_tbl := List.mem_of_getElem? (i := 492) rfl
theorem mwsL_law0_r7_14 : Cond.methodLink RL 97 yL_does ∈ lw_tbl := List.mem_of_getElem? (i := 151) (by decide +kernel)
theorem mwsL_law0_r7_15 : Cond.static yL_does ∈ lw_tbl := List.mem_of_getElem? (i := 152) (by decide +kernel)
set_option maxRecDepth 20000 in
theorem mwsL_law0_r7_16 : Cond.codeWith yL_does cL_does 8 (some .int) [(0, 217, 218, 64), (0, 217, 223, 66), (0, 217, 228, 68)] ∈ lw_tbl := List.mem_of_getElem? (i := 153) rfl
theorem mwsL_law0_r7_17 : Cond.classLink RL 66 "java/lang/IllegalArgumentException" ∈ lw_tbl := List.mem_of_getElem? (i := 155) (by decide +kernel)
theorem mwsL_law0_r7_18 : Cond.methodLink RL 14 yX4_put ∈ lw_tbl := List.mem_of_getElem? (i := 157) (by decide +kernel)
theorem mwsL_law0_r7_19 : Cond.instanceMethod yX4_put ∈ lw_tbl := List.mem_of_getElem? (i := 158) (by decide +kernel)
theorem mwsL_law0_r7_20 : Cond.selects RX4 yX4_put yX4_put ∈ lw_tbl := List.mem_of_getElem? (i := 159) (by decide +kernel)
set_option maxRecDepth 20000 in
theorem mwsL_law0_r7_21 : Cond.code yX4_put cX4_put 7 (some .boolean) ∈ lw_tbl := List.mem_of_getElem? (i := 160) rfl
theorem mwsL_law0_r7_22 : Cond.methodLink RX4 45 yX4_checkNumber ∈ lw_tbl := List.mem_of_getElem? (i := 236) (by decide +kernel)
theorem mwsL_law0_r7_23 : Cond.static yX4_checkNumber ∈ lw_tbl := List.mem_of_getElem? (i := 237) (by decide +kernel)
theorem in_wsL_law0_r7 : ∀ w ∈ wsL_law0_r7, w ∈ lw_tbl := (List.forall_mem_cons.mpr ⟨mwsL_law0_r7_0, (List.forall_mem_cons.mpr ⟨mwsL_law0_r7_1, (List.forall_mem_cons.mpr ⟨mwsL_law0_r7_2, (List.forall_mem_cons.mpr ⟨mwsL_law0_r7_3, (List.forall_mem_cons.mpr ⟨mwsL_law0_r7_4, (List.forall_mem_cons.mpr ⟨mwsL_law0_r7_5, (List.forall_mem_cons.mpr ⟨mwsL_law0_r7_6, (List.forall_mem_cons.mpr ⟨mwsL_law0_r7_7, (List.forall_mem_cons.mpr ⟨mwsL_law0_r7_8, (List.forall_mem_cons.mpr ⟨mwsL_law0_r7_9, (List.forall_mem_cons.mpr ⟨mwsL_law0_r7_10, (List.forall_mem_cons.mpr ⟨mwsL_law0_r7_11, (List.forall_mem_cons.mpr ⟨mwsL_law0_r7_12, (List.forall_mem_cons.mpr ⟨mwsL_law0_r7_13, (List.forall_mem_cons.mpr ⟨mwsL_law0_r7_14, (List.forall_mem_cons.mpr ⟨mwsL_law0_r7_15, (List.forall_mem_cons.mpr ⟨mwsL_law0_r7_16, (List.forall_mem_cons.mpr ⟨mwsL_law0_r7_17, (List.forall_mem_cons.mpr ⟨mwsL_law0_r7_18, (List.forall_mem_cons.mpr ⟨mwsL_law0_r7_19, (List.forall_mem_cons.mpr ⟨mwsL_law0_r7_20, (List.forall_mem_cons.mpr ⟨mwsL_law0_r7_21, (List.forall_mem_cons.mpr ⟨mwsL_law0_r7_22, (List.forall_mem_cons.mpr ⟨mwsL_law0_r7_23, (fun _ h => nomatch h)⟩)⟩)⟩)⟩)⟩)⟩)⟩)⟩)⟩)⟩)⟩)⟩)⟩)⟩)⟩)⟩)⟩)⟩)⟩)⟩)⟩)⟩)⟩)⟩)
set_option maxRecDepth 20000 in
theorem mwsL_law0_r8_0 : Cond.code yX4_checkNumber cX4_checkNumber 1 none ∈ lw_tbl := List.mem_of_getElem? (i := 238) rfl
theorem mwsL_law0_r8_1 : Cond.classLink RX4 102 "java/lang/IllegalArgumentException" ∈ lw_tbl := List.mem_of_getElem? (i := 239) (by decide +kernel)
theorem mwsL_law0_r8_2 : Cond.initialized "java/lang/IllegalArgumentException" ∈ lw_tbl := List.mem_of_getElem? (i := 20) (by decide +kernel)
theorem mwsL_law0_r8_3 : Cond.methodLink RX4 49 yX4_checkRoomForChange ∈ lw_tbl := List.mem_of_getElem? (i := 255) (by decide +kernel)
theorem mwsL_law0_r8_4 : Cond.instanceMethod yX4_checkRoomForChange ∈ lw_tbl := List.mem_of_getElem? (i := 257) (by decide +kernel)
theorem mwsL_law0_r8_5 : Cond.selects RX4 yX4_checkRoomForChange yX4_checkRoomForChange ∈ lw_tbl := List.mem_of_getElem? (i := 1) (by decide +kernel)
set_option maxRecDepth 20000 in
theorem mwsL_law0_r8_6 : Cond.code yX4_checkRoomForChange cX4_checkRoomForChange 1 none ∈ lw_tbl := List.mem_of_getElem? (i := 258) rfl
theorem mwsL_law0_r8_7 : Cond.methodLink RX4 90 yX1_openChanges ∈ lw_tbl := List.mem_of_getElem? (i := 259) (by decide +kernel)
theorem mwsL_law0_r8_8 : Cond.instanceMethod yX1_openChanges ∈ lw_tbl := List.mem_of_getElem? (i := 260) (by decide +kernel)
theorem mwsL_law0_r8_9 : Cond.selects RX1 yX1_openChanges yX1_openChanges ∈ lw_tbl := List.mem_of_getElem? (i := 261) (by decide +kernel)
set_option maxRecDepth 20000 in
theorem mwsL_law0_r8_10 : Cond.code yX1_openChanges cX1_openChanges 1 (some .int) ∈ lw_tbl := List.mem_of_getElem? (i := 262) rfl
theorem mwsL_law0_r8_11 : Cond.methodLink RX4 60 yX4_rowOf ∈ lw_tbl := List.mem_of_getElem? (i := 282) (by decide +kernel)
theorem mwsL_law0_r8_12 : Cond.static yX4_rowOf ∈ lw_tbl := List.mem_of_getElem? (i := 283) (by decide +kernel)
set_option maxRecDepth 20000 in
theorem mwsL_law0_r8_13 : Cond.code yX4_rowOf cX4_rowOf 3 (some .int) ∈ lw_tbl := List.mem_of_getElem? (i := 284) rfl
theorem mwsL_law0_r8_14 : Cond.methodLink RX4 64 yX1_change ∈ lw_tbl := List.mem_of_getElem? (i := 285) (by decide +kernel)
theorem mwsL_law0_r8_15 : Cond.instanceMethod yX1_change ∈ lw_tbl := List.mem_of_getElem? (i := 286) (by decide +kernel)
theorem mwsL_law0_r8_16 : Cond.selects RX1 yX1_change yX1_change ∈ lw_tbl := List.mem_of_getElem? (i := 287) (by decide +kernel)
set_option maxRecDepth 20000 in
theorem mwsL_law0_r8_17 : Cond.code yX1_change cX1_change 8 none ∈ lw_tbl := List.mem_of_getElem? (i := 288) rfl
theorem mwsL_law0_r8_18 : Cond.methodLink RL 18 yL_takes ∈ lw_tbl := List.mem_of_getElem? (i := 290) (by decide +kernel)
theorem mwsL_law0_r8_19 : Cond.static yL_takes ∈ lw_tbl := List.mem_of_getElem? (i := 291) (by decide +kernel)
set_option maxRecDepth 20000 in
theorem mwsL_law0_r8_20 : Cond.code yL_takes cL_takes 3 (some .int) ∈ lw_tbl := List.mem_of_getElem? (i := 292) rfl
theorem mwsL_law0_r8_21 : Cond.methodLink RL 8 yX4_take ∈ lw_tbl := List.mem_of_getElem? (i := 293) (by decide +kernel)
theorem mwsL_law0_r8_22 : Cond.instanceMethod yX4_take ∈ lw_tbl := List.mem_of_getElem? (i := 294) (by decide +kernel)
theorem mwsL_law0_r8_23 : Cond.selects RX4 yX4_take yX4_take ∈ lw_tbl := List.mem_of_getElem? (i := 295) (by decide +kernel)
theorem in_wsL_law0_r8 : ∀ w ∈ wsL_law0_r8, w ∈ lw_tbl := (List.forall_mem_cons.mpr ⟨mwsL_law0_r8_0, (List.forall_mem_cons.mpr ⟨mwsL_law0_r8_1, (List.forall_mem_cons.mpr ⟨mwsL_law0_r8_2, (List.forall_mem_cons.mpr ⟨mwsL_law0_r8_3, (List.forall_mem_cons.mpr ⟨mwsL_law0_r8_4, (List.forall_mem_cons.mpr ⟨mwsL_law0_r8_5, (List.forall_mem_cons.mpr ⟨mwsL_law0_r8_6, (List.forall_mem_cons.mpr ⟨mwsL_law0_r8_7, (List.forall_mem_cons.mpr ⟨mwsL_law0_r8_8, (List.forall_mem_cons.mpr ⟨mwsL_law0_r8_9, (List.forall_mem_cons.mpr ⟨mwsL_law0_r8_10, (List.forall_mem_cons.mpr ⟨mwsL_law0_r8_11, (List.forall_mem_cons.mpr ⟨mwsL_law0_r8_12, (List.forall_mem_cons.mpr ⟨mwsL_law0_r8_13, (List.forall_mem_cons.mpr ⟨mwsL_law0_r8_14, (List.forall_mem_cons.mpr ⟨mwsL_law0_r8_15, (List.forall_mem_cons.mpr ⟨mwsL_law0_r8_16, (List.forall_mem_cons.mpr ⟨mwsL_law0_r8_17, (List.forall_mem_cons.mpr ⟨mwsL_law0_r8_18, (List.forall_mem_cons.mpr ⟨mwsL_law0_r8_19, (List.forall_mem_cons.mpr ⟨mwsL_law0_r8_20, (List.forall_mem_cons.mpr ⟨mwsL_law0_r8_21, (List.forall_mem_cons.mpr ⟨mwsL_law0_r8_22, (List.forall_mem_cons.mpr ⟨mwsL_law0_r8_23, (fun _ h => nomatch h)⟩)⟩)⟩)⟩)⟩)⟩)⟩)⟩)⟩)⟩)⟩)⟩)⟩)⟩)⟩)⟩)⟩)⟩)⟩)⟩)⟩)⟩)⟩)⟩)
set_option maxRecDepth 20000 in
theorem mwsL_law0_r9_0 : Cond.code yX4_take cX4_take 3 none ∈ lw_tbl := List.mem_of_getElem? (i := 296) rfl
theorem mwsL_law0_r9_1 : Cond.methodLink RL 24 yX4_truncate ∈ lw_tbl := List.mem_of_getElem? (i := 298) (by decide +kernel)
theorem mwsL_law0_r9_2 : Cond.instanceMethod yX4_truncate ∈ lw_tbl := List.mem_of_getElem? (i := 299) (by decide +kernel)
theorem mwsL_law0_r9_3 : Cond.selects RX4 yX4_truncate yX4_truncate ∈ lw_tbl := List.mem_of_getElem? (i := 300) (by decide +kernel)
set_option maxRecDepth 20000 in
theorem mwsL_law0_r9_4 : Cond.code yX4_truncate cX4_truncate 4 (some .int) ∈ lw_tbl := List.mem_of_getElem? (i := 301) rfl
theorem mwsL_law0_r9_5 : Cond.methodLink RL 28 yX4_commit ∈ lw_tbl := List.mem_of_getElem? (i := 302) (by decide +kernel)
theorem mwsL_law0_r9_6 : Cond.instanceMethod yX4_commit ∈ lw_tbl := List.mem_of_getElem? (i := 303) (by decide +kernel)
theorem mwsL_law0_r9_7 : Cond.selects RX4 yX4_commit yX4_commit ∈ lw_tbl := List.mem_of_getElem? (i := 304) (by decide +kernel)
set_option maxRecDepth 20000 in
theorem mwsL_law0_r9_8 : Cond.code yX4_commit cX4_commit 1 (some .int) ∈ lw_tbl := List.mem_of_getElem? (i := 305) rfl
theorem mwsL_law0_r9_9 : Cond.methodLink RX4 83 yX1_close ∈ lw_tbl := List.mem_of_getElem? (i := 307) (by decide +kernel)
theorem mwsL_law0_r9_10 : Cond.instanceMethod yX1_close ∈ lw_tbl := List.mem_of_getElem? (i := 308) (by decide +kernel)
theorem mwsL_law0_r9_11 : Cond.selects RX1 yX1_close yX1_close ∈ lw_tbl := List.mem_of_getElem? (i := 309) (by decide +kernel)
set_option maxRecDepth 20000 in
theorem mwsL_law0_r9_12 : Cond.code yX1_close cX1_close 1 none ∈ lw_tbl := List.mem_of_getElem? (i := 310) rfl
theorem mwsL_law0_r9_13 : Cond.methodLink RX1 38 arraycopyName ∈ lw_tbl := List.mem_of_getElem? (i := 311) (by decide +kernel)
theorem mwsL_law0_r9_14 : Cond.native arraycopyName ∈ lw_tbl := List.mem_of_getElem? (i := 313) (by decide +kernel)
theorem mwsL_law0_r9_15 : Cond.static arraycopyName ∈ lw_tbl := List.mem_of_getElem? (i := 312) (by decide +kernel)
theorem mwsL_law0_r9_16 : Cond.initialized "java/lang/System" ∈ lw_tbl := List.mem_of_getElem? (i := 21) (by decide +kernel)
theorem mwsL_law0_r9_17 : Cond.methodLink RX4 86 yX4_cutLaggards ∈ lw_tbl := List.mem_of_getElem? (i := 314) (by decide +kernel)
theorem mwsL_law0_r9_18 : Cond.instanceMethod yX4_cutLaggards ∈ lw_tbl := List.mem_of_getElem? (i := 316) (by decide +kernel)
theorem mwsL_law0_r9_19 : Cond.selects RX4 yX4_cutLaggards yX4_cutLaggards ∈ lw_tbl := List.mem_of_getElem? (i := 2) (by decide +kernel)
set_option maxRecDepth 20000 in
theorem mwsL_law0_r9_20 : Cond.code yX4_cutLaggards cX4_cutLaggards 3 (some .int) ∈ lw_tbl := List.mem_of_getElem? (i := 317) rfl
theorem mwsL_law0_r9_21 : Cond.methodLink RL 32 yX4_setLimit ∈ lw_tbl := List.mem_of_getElem? (i := 326) (by decide +kernel)
theorem mwsL_law0_r9_22 : Cond.instanceMethod yX4_setLimit ∈ lw_tbl := List.mem_of_getElem? (i := 327) (by decide +kernel)
theorem mwsL_law0_r9_23 : Cond.selects RX4 yX4_setLimit yX4_setLimit ∈ lw_tbl := List.mem_of_getElem? (i := 328) (by decide +kernel)
theorem in_wsL_law0_r9 : ∀ w ∈ wsL_law0_r9, w ∈ lw_tbl := (List.forall_mem_cons.mpr ⟨mwsL_law0_r9_0, (List.forall_mem_cons.mpr ⟨mwsL_law0_r9_1, (List.forall_mem_cons.mpr ⟨mwsL_law0_r9_2, (List.forall_mem_cons.mpr ⟨mwsL_law0_r9_3, (List.forall_mem_cons.mpr ⟨mwsL_law0_r9_4, (List.forall_mem_cons.mpr ⟨mwsL_law0_r9_5, (List.forall_mem_cons.mpr ⟨mwsL_law0_r9_6, (List.forall_mem_cons.mpr ⟨mwsL_law0_r9_7, (List.forall_mem_cons.mpr ⟨mwsL_law0_r9_8, (List.forall_mem_cons.mpr ⟨mwsL_law0_r9_9, (List.forall_mem_cons.mpr ⟨mwsL_law0_r9_10, (List.forall_mem_cons.mpr ⟨mwsL_law0_r9_11, (List.forall_mem_cons.mpr ⟨mwsL_law0_r9_12, (List.forall_mem_cons.mpr ⟨mwsL_law0_r9_13, (List.forall_mem_cons.mpr ⟨mwsL_law0_r9_14, (List.forall_mem_cons.mpr ⟨mwsL_law0_r9_15, (List.forall_mem_cons.mpr ⟨mwsL_law0_r9_16, (List.forall_mem_cons.mpr ⟨mwsL_law0_r9_17, (List.forall_mem_cons.mpr ⟨mwsL_law0_r9_18, (List.forall_mem_cons.mpr ⟨mwsL_law0_r9_19, (List.forall_mem_cons.mpr ⟨mwsL_law0_r9_20, (List.forall_mem_cons.mpr ⟨mwsL_law0_r9_21, (List.forall_mem_cons.mpr ⟨mwsL_law0_r9_22, (List.forall_mem_cons.mpr ⟨mwsL_law0_r9_23, (fun _ h => nomatch h)⟩)⟩)⟩)⟩)⟩)⟩)⟩)⟩)⟩)⟩)⟩)⟩)⟩)⟩)⟩)⟩)⟩)⟩)⟩)⟩)⟩)⟩)⟩)⟩)
set_option maxRecDepth 20000 in
theorem mwsL_law0_r10_0 : Cond.code yX4_setLimit cX4_setLimit 2 (some .int) ∈ lw_tbl := List.mem_of_getElem? (i := 329) rfl
theorem mwsL_law0_r10_1 : Cond.methodLink RL 35 yX4_setCondition ∈ lw_tbl := List.mem_of_getElem? (i := 331) (by decide +kernel)
theorem mwsL_law0_r10_2 : Cond.instanceMethod yX4_setCondition ∈ lw_tbl := List.mem_of_getElem? (i := 332) (by decide +kernel)
theorem mwsL_law0_r10_3 : Cond.selects RX4 yX4_setCondition yX4_setCondition ∈ lw_tbl := List.mem_of_getElem? (i := 333) (by decide +kernel)
set_option maxRecDepth 20000 in
theorem mwsL_law0_r10_4 : Cond.code yX4_setCondition cX4_setCondition 7 (some .int) ∈ lw_tbl := List.mem_of_getElem? (i := 334) rfl
theorem mwsL_law0_r10_5 : Cond.methodLink RX4 107 yX4_checkPublication ∈ lw_tbl := List.mem_of_getElem? (i := 335) (by decide +kernel)
theorem mwsL_law0_r10_6 : Cond.static yX4_checkPublication ∈ lw_tbl := List.mem_of_getElem? (i := 336) (by decide +kernel)
set_option maxRecDepth 20000 in
theorem mwsL_law0_r10_7 : Cond.code yX4_checkPublication cX4_checkPublication 1 none ∈ lw_tbl := List.mem_of_getElem? (i := 337) rfl
theorem mwsL_law0_r10_8 : Cond.methodLink RX4 121 yX4_forgetCopies ∈ lw_tbl := List.mem_of_getElem? (i := 344) (by decide +kernel)
theorem mwsL_law0_r10_9 : Cond.instanceMethod yX4_forgetCopies ∈ lw_tbl := List.mem_of_getElem? (i := 346) (by decide +kernel)
theorem mwsL_law0_r10_10 : Cond.selects RX4 yX4_forgetCopies yX4_forgetCopies ∈ lw_tbl := List.mem_of_getElem? (i := 3) (by decide +kernel)
set_option maxRecDepth 20000 in
theorem mwsL_law0_r10_11 : Cond.code yX4_forgetCopies cX4_forgetCopies 6 (some .int) ∈ lw_tbl := List.mem_of_getElem? (i := 347) rfl
theorem mwsL_law0_r10_12 : Cond.methodLink RL 39 yX4_setColumns ∈ lw_tbl := List.mem_of_getElem? (i := 348) (by decide +kernel)
theorem mwsL_law0_r10_13 : Cond.instanceMethod yX4_setColumns ∈ lw_tbl := List.mem_of_getElem? (i := 349) (by decide +kernel)
theorem mwsL_law0_r10_14 : Cond.selects RX4 yX4_setColumns yX4_setColumns ∈ lw_tbl := List.mem_of_getElem? (i := 350) (by decide +kernel)
set_option maxRecDepth 20000 in
theorem mwsL_law0_r10_15 : Cond.code yX4_setColumns cX4_setColumns 5 (some .int) ∈ lw_tbl := List.mem_of_getElem? (i := 351) rfl
theorem mwsL_law0_r10_16 : Cond.methodLink RX4 130 yX4_maskOf ∈ lw_tbl := List.mem_of_getElem? (i := 353) (by decide +kernel)
theorem mwsL_law0_r10_17 : Cond.static yX4_maskOf ∈ lw_tbl := List.mem_of_getElem? (i := 354) (by decide +kernel)
set_option maxRecDepth 20000 in
theorem mwsL_law0_r10_18 : Cond.code yX4_maskOf cX4_maskOf 3 (some .int) ∈ lw_tbl := List.mem_of_getElem? (i := 355) rfl
theorem mwsL_law0_r10_19 : Cond.methodLink RL 43 yX4_subscribe ∈ lw_tbl := List.mem_of_getElem? (i := 356) (by decide +kernel)
theorem mwsL_law0_r10_20 : Cond.instanceMethod yX4_subscribe ∈ lw_tbl := List.mem_of_getElem? (i := 357) (by decide +kernel)
theorem mwsL_law0_r10_21 : Cond.selects RX4 yX4_subscribe yX4_subscribe ∈ lw_tbl := List.mem_of_getElem? (i := 358) (by decide +kernel)
set_option maxRecDepth 20000 in
theorem mwsL_law0_r10_22 : Cond.code yX4_subscribe cX4_subscribe 5 (some .int) ∈ lw_tbl := List.mem_of_getElem? (i := 359) rfl
theorem mwsL_law0_r10_23 : Cond.methodLink RX4 140 yX2_follow ∈ lw_tbl := List.mem_of_getElem? (i := 364) (by decide +kernel)
theorem in_wsL_law0_r10 : ∀ w ∈ wsL_law0_r10, w ∈ lw_tbl := (List.forall_mem_cons.mpr ⟨mwsL_law0_r10_0, (List.forall_mem_cons.mpr ⟨mwsL_law0_r10_1, (List.forall_mem_cons.mpr ⟨mwsL_law0_r10_2, (List.forall_mem_cons.mpr ⟨mwsL_law0_r10_3, (List.forall_mem_cons.mpr ⟨mwsL_law0_r10_4, (List.forall_mem_cons.mpr ⟨mwsL_law0_r10_5, (List.forall_mem_cons.mpr ⟨mwsL_law0_r10_6, (List.forall_mem_cons.mpr ⟨mwsL_law0_r10_7, (List.forall_mem_cons.mpr ⟨mwsL_law0_r10_8, (List.forall_mem_cons.mpr ⟨mwsL_law0_r10_9, (List.forall_mem_cons.mpr ⟨mwsL_law0_r10_10, (List.forall_mem_cons.mpr ⟨mwsL_law0_r10_11, (List.forall_mem_cons.mpr ⟨mwsL_law0_r10_12, (List.forall_mem_cons.mpr ⟨mwsL_law0_r10_13, (List.forall_mem_cons.mpr ⟨mwsL_law0_r10_14, (List.forall_mem_cons.mpr ⟨mwsL_law0_r10_15, (List.forall_mem_cons.mpr ⟨mwsL_law0_r10_16, (List.forall_mem_cons.mpr ⟨mwsL_law0_r10_17, (List.forall_mem_cons.mpr ⟨mwsL_law0_r10_18, (List.forall_mem_cons.mpr ⟨mwsL_law0_r10_19, (List.forall_mem_cons.mpr ⟨mwsL_law0_r10_20, (List.forall_mem_cons.mpr ⟨mwsL_law0_r10_21, (List.forall_mem_cons.mpr ⟨mwsL_law0_r10_22, (List.forall_mem_cons.mpr ⟨mwsL_law0_r10_23, (fun _ h => nomatch h)⟩)⟩)⟩)⟩)⟩)⟩)⟩)⟩)⟩)⟩)⟩)⟩)⟩)⟩)⟩)⟩)⟩)⟩)⟩)⟩)⟩)⟩)⟩)⟩)
theorem mwsL_law0_r11_0 : Cond.instanceMethod yX2_follow ∈ lw_tbl := List.mem_of_getElem? (i := 365) (by decide +kernel)
theorem mwsL_law0_r11_1 : Cond.selects RX2 yX2_follow yX2_follow ∈ lw_tbl := List.mem_of_getElem? (i := 366) (by decide +kernel)
set_option maxRecDepth 20000 in
theorem mwsL_law0_r11_2 : Cond.code yX2_follow cX2_follow 3 none ∈ lw_tbl := List.mem_of_getElem? (i := 367) rfl
theorem mwsL_law0_r11_3 : Cond.methodLink RX2 29 yX2_forgetTables ∈ lw_tbl := List.mem_of_getElem? (i := 368) (by decide +kernel)
theorem mwsL_law0_r11_4 : Cond.instanceMethod yX2_forgetTables ∈ lw_tbl := List.mem_of_getElem? (i := 370) (by decide +kernel)
theorem mwsL_law0_r11_5 : Cond.selects RX2 yX2_forgetTables yX2_forgetTables ∈ lw_tbl := List.mem_of_getElem? (i := 4) (by decide +kernel)
set_option maxRecDepth 20000 in
theorem mwsL_law0_r11_6 : Cond.code yX2_forgetTables cX2_forgetTables 2 none ∈ lw_tbl := List.mem_of_getElem? (i := 371) rfl
theorem mwsL_law0_r11_7 : Cond.methodLink RL 47 yX4_drop ∈ lw_tbl := List.mem_of_getElem? (i := 372) (by decide +kernel)
theorem mwsL_law0_r11_8 : Cond.instanceMethod yX4_drop ∈ lw_tbl := List.mem_of_getElem? (i := 373) (by decide +kernel)
theorem mwsL_law0_r11_9 : Cond.selects RX4 yX4_drop yX4_drop ∈ lw_tbl := List.mem_of_getElem? (i := 374) (by decide +kernel)
set_option maxRecDepth 20000 in
theorem mwsL_law0_r11_10 : Cond.code yX4_drop cX4_drop 4 (some .int) ∈ lw_tbl := List.mem_of_getElem? (i := 375) rfl
theorem mwsL_law0_r11_11 : Cond.methodLink RX4 144 yX2_leave ∈ lw_tbl := List.mem_of_getElem? (i := 376) (by decide +kernel)
theorem mwsL_law0_r11_12 : Cond.instanceMethod yX2_leave ∈ lw_tbl := List.mem_of_getElem? (i := 377) (by decide +kernel)
theorem mwsL_law0_r11_13 : Cond.selects RX2 yX2_leave yX2_leave ∈ lw_tbl := List.mem_of_getElem? (i := 378) (by decide +kernel)
set_option maxRecDepth 20000 in
theorem mwsL_law0_r11_14 : Cond.code yX2_leave cX2_leave 1 none ∈ lw_tbl := List.mem_of_getElem? (i := 379) rfl
theorem mwsL_law0_r11_15 : Cond.methodLink RL 50 yX4_copy ∈ lw_tbl := List.mem_of_getElem? (i := 380) (by decide +kernel)
theorem mwsL_law0_r11_16 : Cond.instanceMethod yX4_copy ∈ lw_tbl := List.mem_of_getElem? (i := 381) (by decide +kernel)
theorem mwsL_law0_r11_17 : Cond.selects RX4 yX4_copy yX4_copy ∈ lw_tbl := List.mem_of_getElem? (i := 382) (by decide +kernel)
set_option maxRecDepth 20000 in
theorem mwsL_law0_r11_18 : Cond.code yX4_copy cX4_copy 9 (some .int) ∈ lw_tbl := List.mem_of_getElem? (i := 383) rfl
theorem mwsL_law0_r11_19 : Cond.methodLink RL 53 yX4_receive ∈ lw_tbl := List.mem_of_getElem? (i := 397) (by decide +kernel)
theorem mwsL_law0_r11_20 : Cond.instanceMethod yX4_receive ∈ lw_tbl := List.mem_of_getElem? (i := 398) (by decide +kernel)
theorem mwsL_law0_r11_21 : Cond.selects RX4 yX4_receive yX4_receive ∈ lw_tbl := List.mem_of_getElem? (i := 399) (by decide +kernel)
set_option maxRecDepth 20000 in
theorem mwsL_law0_r11_22 : Cond.code yX4_receive cX4_receive 6 (some .int) ∈ lw_tbl := List.mem_of_getElem? (i := 400) rfl
theorem mwsL_law0_r11_23 : Cond.methodLink RX4 167 yX3_applies ∈ lw_tbl := List.mem_of_getElem? (i := 402) (by decide +kernel)
theorem in_wsL_law0_r11 : ∀ w ∈ wsL_law0_r11, w ∈ lw_tbl := (List.forall_mem_cons.mpr ⟨mwsL_law0_r11_0, (List.forall_mem_cons.mpr ⟨mwsL_law0_r11_1, (List.forall_mem_cons.mpr ⟨mwsL_law0_r11_2, (List.forall_mem_cons.mpr ⟨mwsL_law0_r11_3, (List.forall_mem_cons.mpr ⟨mwsL_law0_r11_4, (List.forall_mem_cons.mpr ⟨mwsL_law0_r11_5, (List.forall_mem_cons.mpr ⟨mwsL_law0_r11_6, (List.forall_mem_cons.mpr ⟨mwsL_law0_r11_7, (List.forall_mem_cons.mpr ⟨mwsL_law0_r11_8, (List.forall_mem_cons.mpr ⟨mwsL_law0_r11_9, (List.forall_mem_cons.mpr ⟨mwsL_law0_r11_10, (List.forall_mem_cons.mpr ⟨mwsL_law0_r11_11, (List.forall_mem_cons.mpr ⟨mwsL_law0_r11_12, (List.forall_mem_cons.mpr ⟨mwsL_law0_r11_13, (List.forall_mem_cons.mpr ⟨mwsL_law0_r11_14, (List.forall_mem_cons.mpr ⟨mwsL_law0_r11_15, (List.forall_mem_cons.mpr ⟨mwsL_law0_r11_16, (List.forall_mem_cons.mpr ⟨mwsL_law0_r11_17, (List.forall_mem_cons.mpr ⟨mwsL_law0_r11_18, (List.forall_mem_cons.mpr ⟨mwsL_law0_r11_19, (List.forall_mem_cons.mpr ⟨mwsL_law0_r11_20, (List.forall_mem_cons.mpr ⟨mwsL_law0_r11_21, (List.forall_mem_cons.mpr ⟨mwsL_law0_r11_22, (List.forall_mem_cons.mpr ⟨mwsL_law0_r11_23, (fun _ h => nomatch h)⟩)⟩)⟩)⟩)⟩)⟩)⟩)⟩)⟩)⟩)⟩)⟩)⟩)⟩)⟩)⟩)⟩)⟩)⟩)⟩)⟩)⟩)⟩)⟩)
theorem mwsL_law0_r12_0 : Cond.instanceMethod yX3_applies ∈ lw_tbl := List.mem_of_getElem? (i := 403) (by decide +kernel)
theorem mwsL_law0_r12_1 : Cond.selects RX3 yX3_applies yX3_applies ∈ lw_tbl := List.mem_of_getElem? (i := 404) (by decide +kernel)
set_option maxRecDepth 20000 in
theorem mwsL_law0_r12_2 : Cond.code yX3_applies cX3_applies 9 (some .boolean) ∈ lw_tbl := List.mem_of_getElem? (i := 405) rfl
theorem mwsL_law0_r12_3 : Cond.methodLink RX3 29 arraycopyName ∈ lw_tbl := List.mem_of_getElem? (i := 406) (by decide +kernel)
theorem mwsL_law0_r12_4 : Cond.methodLink RX3 45 yX2_takesChangesOf ∈ lw_tbl := List.mem_of_getElem? (i := 407) (by decide +kernel)
theorem mwsL_law0_r12_5 : Cond.instanceMethod yX2_takesChangesOf ∈ lw_tbl := List.mem_of_getElem? (i := 408) (by decide +kernel)
theorem mwsL_law0_r12_6 : Cond.selects RX2 yX2_takesChangesOf yX2_takesChangesOf ∈ lw_tbl := List.mem_of_getElem? (i := 409) (by decide +kernel)
set_option maxRecDepth 20000 in
theorem mwsL_law0_r12_7 : Cond.code yX2_takesChangesOf cX2_takesChangesOf 3 (some .boolean) ∈ lw_tbl := List.mem_of_getElem? (i := 410) rfl
theorem mwsL_law0_r12_8 : Cond.methodLink RX3 49 yX3_takeAll ∈ lw_tbl := List.mem_of_getElem? (i := 411) (by decide +kernel)
theorem mwsL_law0_r12_9 : Cond.instanceMethod yX3_takeAll ∈ lw_tbl := List.mem_of_getElem? (i := 413) (by decide +kernel)
theorem mwsL_law0_r12_10 : Cond.selects RX3 yX3_takeAll yX3_takeAll ∈ lw_tbl := List.mem_of_getElem? (i := 6) (by decide +kernel)
set_option maxRecDepth 20000 in
theorem mwsL_law0_r12_11 : Cond.code yX3_takeAll cX3_takeAll 4 none ∈ lw_tbl := List.mem_of_getElem? (i := 414) rfl
theorem mwsL_law0_r12_12 : Cond.methodLink RX3 56 yX3_follows ∈ lw_tbl := List.mem_of_getElem? (i := 415) (by decide +kernel)
theorem mwsL_law0_r12_13 : Cond.instanceMethod yX3_follows ∈ lw_tbl := List.mem_of_getElem? (i := 417) (by decide +kernel)
theorem mwsL_law0_r12_14 : Cond.selects RX3 yX3_follows yX3_follows ∈ lw_tbl := List.mem_of_getElem? (i := 7) (by decide +kernel)
set_option maxRecDepth 20000 in
theorem mwsL_law0_r12_15 : Cond.code yX3_follows cX3_follows 9 (some .boolean) ∈ lw_tbl := List.mem_of_getElem? (i := 418) rfl
theorem mwsL_law0_r12_16 : Cond.methodLink RX3 64 yX0_choose ∈ lw_tbl := List.mem_of_getElem? (i := 420) (by decide +kernel)
theorem mwsL_law0_r12_17 : Cond.methodLink RX4 172 yX2_accept ∈ lw_tbl := List.mem_of_getElem? (i := 421) (by decide +kernel)
theorem mwsL_law0_r12_18 : Cond.instanceMethod yX2_accept ∈ lw_tbl := List.mem_of_getElem? (i := 422) (by decide +kernel)
theorem mwsL_law0_r12_19 : Cond.selects RX2 yX2_accept yX2_accept ∈ lw_tbl := List.mem_of_getElem? (i := 423) (by decide +kernel)
set_option maxRecDepth 20000 in
theorem mwsL_law0_r12_20 : Cond.code yX2_accept cX2_accept 2 none ∈ lw_tbl := List.mem_of_getElem? (i := 424) rfl
theorem mwsL_law0_r12_21 : Cond.methodLink RX2 36 arraycopyName ∈ lw_tbl := List.mem_of_getElem? (i := 425) (by decide +kernel)
theorem mwsL_law0_r12_22 : Cond.methodLink RL 56 yX4_goOn ∈ lw_tbl := List.mem_of_getElem? (i := 426) (by decide +kernel)
theorem mwsL_law0_r12_23 : Cond.instanceMethod yX4_goOn ∈ lw_tbl := List.mem_of_getElem? (i := 427) (by decide +kernel)
theorem in_wsL_law0_r12 : ∀ w ∈ wsL_law0_r12, w ∈ lw_tbl := (List.forall_mem_cons.mpr ⟨mwsL_law0_r12_0, (List.forall_mem_cons.mpr ⟨mwsL_law0_r12_1, (List.forall_mem_cons.mpr ⟨mwsL_law0_r12_2, (List.forall_mem_cons.mpr ⟨mwsL_law0_r12_3, (List.forall_mem_cons.mpr ⟨mwsL_law0_r12_4, (List.forall_mem_cons.mpr ⟨mwsL_law0_r12_5, (List.forall_mem_cons.mpr ⟨mwsL_law0_r12_6, (List.forall_mem_cons.mpr ⟨mwsL_law0_r12_7, (List.forall_mem_cons.mpr ⟨mwsL_law0_r12_8, (List.forall_mem_cons.mpr ⟨mwsL_law0_r12_9, (List.forall_mem_cons.mpr ⟨mwsL_law0_r12_10, (List.forall_mem_cons.mpr ⟨mwsL_law0_r12_11, (List.forall_mem_cons.mpr ⟨mwsL_law0_r12_12, (List.forall_mem_cons.mpr ⟨mwsL_law0_r12_13, (List.forall_mem_cons.mpr ⟨mwsL_law0_r12_14, (List.forall_mem_cons.mpr ⟨mwsL_law0_r12_15, (List.forall_mem_cons.mpr ⟨mwsL_law0_r12_16, (List.forall_mem_cons.mpr ⟨mwsL_law0_r12_17, (List.forall_mem_cons.mpr ⟨mwsL_law0_r12_18, (List.forall_mem_cons.mpr ⟨mwsL_law0_r12_19, (List.forall_mem_cons.mpr ⟨mwsL_law0_r12_20, (List.forall_mem_cons.mpr ⟨mwsL_law0_r12_21, (List.forall_mem_cons.mpr ⟨mwsL_law0_r12_22, (List.forall_mem_cons.mpr ⟨mwsL_law0_r12_23, (fun _ h => nomatch h)⟩)⟩)⟩)⟩)⟩)⟩)⟩)⟩)⟩)⟩)⟩)⟩)⟩)⟩)⟩)⟩)⟩)⟩)⟩)⟩)⟩)⟩)⟩)⟩)
theorem mwsL_law0_r13_0 : Cond.selects RX4 yX4_goOn yX4_goOn ∈ lw_tbl := List.mem_of_getElem? (i := 428) (by decide +kernel)
set_option maxRecDepth 20000 in
theorem mwsL_law0_r13_1 : Cond.code yX4_goOn cX4_goOn 4 (some .int) ∈ lw_tbl := List.mem_of_getElem? (i := 429) rfl
theorem mwsL_law0_r13_2 : Cond.methodLink RL 60 yX4_own ∈ lw_tbl := List.mem_of_getElem? (i := 431) (by decide +kernel)
theorem mwsL_law0_r13_3 : Cond.instanceMethod yX4_own ∈ lw_tbl := List.mem_of_getElem? (i := 432) (by decide +kernel)
theorem mwsL_law0_r13_4 : Cond.selects RX4 yX4_own yX4_own ∈ lw_tbl := List.mem_of_getElem? (i := 433) (by decide +kernel)
set_option maxRecDepth 20000 in
theorem mwsL_law0_r13_5 : Cond.code yX4_own cX4_own 8 (some .boolean) ∈ lw_tbl := List.mem_of_getElem? (i := 434) rfl
theorem mwsL_law0_r13_6 : Cond.methodLink RL 109 yL_cuts ∈ lw_tbl := List.mem_of_getElem? (i := 493) (by decide +kernel)
theorem mwsL_law0_r13_7 : Cond.static yL_cuts ∈ lw_tbl := List.mem_of_getElem? (i := 494) (by decide +kernel)
set_option maxRecDepth 20000 in
theorem mwsL_law0_r13_8 : Cond.code yL_cuts cL_cuts 4 (some .int) ∈ lw_tbl := List.mem_of_getElem? (i := 495) rfl
theorem mwsL_law0_r13_9 : Cond.methodLink RL 113 yX4_rollBack ∈ lw_tbl := List.mem_of_getElem? (i := 496) (by decide +kernel)
theorem mwsL_law0_r13_10 : Cond.instanceMethod yX4_rollBack ∈ lw_tbl := List.mem_of_getElem? (i := 497) (by decide +kernel)
theorem mwsL_law0_r13_11 : Cond.selects RX4 yX4_rollBack yX4_rollBack ∈ lw_tbl := List.mem_of_getElem? (i := 498) (by decide +kernel)
set_option maxRecDepth 20000 in
theorem mwsL_law0_r13_12 : Cond.code yX4_rollBack cX4_rollBack 2 (some .int) ∈ lw_tbl := List.mem_of_getElem? (i := 499) rfl
theorem mwsL_law0_r13_13 : Cond.methodLink RX4 93 yX1_undo ∈ lw_tbl := List.mem_of_getElem? (i := 500) (by decide +kernel)
theorem mwsL_law0_r13_14 : Cond.instanceMethod yX1_undo ∈ lw_tbl := List.mem_of_getElem? (i := 501) (by decide +kernel)
theorem mwsL_law0_r13_15 : Cond.selects RX1 yX1_undo yX1_undo ∈ lw_tbl := List.mem_of_getElem? (i := 502) (by decide +kernel)
set_option maxRecDepth 20000 in
theorem mwsL_law0_r13_16 : Cond.code yX1_undo cX1_undo 1 none ∈ lw_tbl := List.mem_of_getElem? (i := 503) rfl
theorem mwsL_law0_r13_17 : Cond.methodLink RL 116 yL_isBook ∈ lw_tbl := List.mem_of_getElem? (i := 504) (by decide +kernel)
theorem mwsL_law0_r13_18 : Cond.static yL_isBook ∈ lw_tbl := List.mem_of_getElem? (i := 505) (by decide +kernel)
set_option maxRecDepth 20000 in
theorem mwsL_law0_r13_19 : Cond.code yL_isBook cL_isBook 13 (some .boolean) ∈ lw_tbl := List.mem_of_getElem? (i := 506) rfl
theorem mwsL_law0_r13_20 : Cond.methodLink RL 119 yL_isCopied ∈ lw_tbl := List.mem_of_getElem? (i := 507) (by decide +kernel)
theorem mwsL_law0_r13_21 : Cond.static yL_isCopied ∈ lw_tbl := List.mem_of_getElem? (i := 508) (by decide +kernel)
set_option maxRecDepth 20000 in
theorem mwsL_law0_r13_22 : Cond.code yL_isCopied cL_isCopied 15 (some .boolean) ∈ lw_tbl := List.mem_of_getElem? (i := 509) rfl
theorem mwsL_law0_r13_23 : Cond.methodLink RL 123 yL_isReceived ∈ lw_tbl := List.mem_of_getElem? (i := 510) (by decide +kernel)
theorem in_wsL_law0_r13 : ∀ w ∈ wsL_law0_r13, w ∈ lw_tbl := (List.forall_mem_cons.mpr ⟨mwsL_law0_r13_0, (List.forall_mem_cons.mpr ⟨mwsL_law0_r13_1, (List.forall_mem_cons.mpr ⟨mwsL_law0_r13_2, (List.forall_mem_cons.mpr ⟨mwsL_law0_r13_3, (List.forall_mem_cons.mpr ⟨mwsL_law0_r13_4, (List.forall_mem_cons.mpr ⟨mwsL_law0_r13_5, (List.forall_mem_cons.mpr ⟨mwsL_law0_r13_6, (List.forall_mem_cons.mpr ⟨mwsL_law0_r13_7, (List.forall_mem_cons.mpr ⟨mwsL_law0_r13_8, (List.forall_mem_cons.mpr ⟨mwsL_law0_r13_9, (List.forall_mem_cons.mpr ⟨mwsL_law0_r13_10, (List.forall_mem_cons.mpr ⟨mwsL_law0_r13_11, (List.forall_mem_cons.mpr ⟨mwsL_law0_r13_12, (List.forall_mem_cons.mpr ⟨mwsL_law0_r13_13, (List.forall_mem_cons.mpr ⟨mwsL_law0_r13_14, (List.forall_mem_cons.mpr ⟨mwsL_law0_r13_15, (List.forall_mem_cons.mpr ⟨mwsL_law0_r13_16, (List.forall_mem_cons.mpr ⟨mwsL_law0_r13_17, (List.forall_mem_cons.mpr ⟨mwsL_law0_r13_18, (List.forall_mem_cons.mpr ⟨mwsL_law0_r13_19, (List.forall_mem_cons.mpr ⟨mwsL_law0_r13_20, (List.forall_mem_cons.mpr ⟨mwsL_law0_r13_21, (List.forall_mem_cons.mpr ⟨mwsL_law0_r13_22, (List.forall_mem_cons.mpr ⟨mwsL_law0_r13_23, (fun _ h => nomatch h)⟩)⟩)⟩)⟩)⟩)⟩)⟩)⟩)⟩)⟩)⟩)⟩)⟩)⟩)⟩)⟩)⟩)⟩)⟩)⟩)⟩)⟩)⟩)⟩)
theorem mwsL_law0_r14_0 : Cond.static yL_isReceived ∈ lw_tbl := List.mem_of_getElem? (i := 511) (by decide +kernel)
set_option maxRecDepth 20000 in
theorem mwsL_law0_r14_1 : Cond.code yL_isReceived cL_isReceived 10 (some .boolean) ∈ lw_tbl := List.mem_of_getElem? (i := 512) rfl
theorem in_wsL_law0_r14 : ∀ w ∈ wsL_law0_r14, w ∈ lw_tbl := (List.forall_mem_cons.mpr ⟨mwsL_law0_r14_0, (List.forall_mem_cons.mpr ⟨mwsL_law0_r14_1, (fun _ h => nomatch h)⟩)⟩)
set_option maxRecDepth 20000 in
theorem in_wsX40 : ∀ w ∈ wsX40, w ∈ lw_tbl := by decide +kernel
set_option maxRecDepth 20000 in
theorem in_wsX10 : ∀ w ∈ wsX10, w ∈ lw_tbl := by decide +kernel
set_option maxRecDepth 20000 in
theorem in_wsX30 : ∀ w ∈ wsX30, w ∈ lw_tbl := by decide +kernel
set_option maxRecDepth 20000 in
theorem in_wsX00 : ∀ w ∈ wsX00, w ∈ lw_tbl := by decide +kernel
set_option maxRecDepth 20000 in
theorem in_wsX20 : ∀ w ∈ wsX20, w ∈ lw_tbl := by decide +kernel
theorem in_app {a b : List Cond} (ha : ∀ w ∈ a, w ∈ lw_tbl) (hb : ∀ w ∈ b, w ∈ lw_tbl) : ∀ w ∈ a ++ b, w ∈ lw_tbl := fun w h => (List.mem_append.mp h).elim (ha w) (hb w)
theorem wsL_law_in0 : ∀ w ∈ wsL_law0, w ∈ lw_tbl := (in_app (in_app (in_app (in_app (in_app (in_app (in_app in_wsL_law0_r1 (in_app in_wsL_law0_r2 (in_app in_wsL_law0_r3 (in_app in_wsL_law0_r4 (in_app in_wsL_law0_r5 (in_app in_wsL_law0_r6 (in_app in_wsL_law0_r7 (in_app in_wsL_law0_r8 (in_app in_wsL_law0_r9 (in_app in_wsL_law0_r10 (in_app in_wsL_law0_r11 (in_app in_wsL_law0_r12 (in_app in_wsL_law0_r13 in_wsL_law0_r14))))))))))))) in_wsX40) in_wsX10) in_wsX30) in_wsX00) in_wsX20) (fun _ h => nomatch h))
theorem wsL_law_x0 : ∀ w ∈ (vx_atS RX4 203 "java/lang/IndexOutOfBoundsException" ["java/lang/RuntimeException", "java/lang/Exception"]).filter goodWord, w ∈ lw_tbl := by decide +kernel
theorem wsL_law_x1 : ∀ w ∈ (vx_atS RX4 72 "java/lang/IllegalStateException" ["java/lang/RuntimeException", "java/lang/Exception"]).filter goodWord, w ∈ lw_tbl := by decide +kernel
theorem wsL_law_x2 : ∀ w ∈ (vx_atS RX4 106 "java/lang/IllegalArgumentException" ["java/lang/RuntimeException", "java/lang/Exception"]).filter goodWord, w ∈ lw_tbl := by decide +kernel
theorem wsL_law_in : ∀ w ∈ wsL_law, w ∈ lw_tbl := fun w h => (List.mem_append.mp h).elim (fun h => (List.mem_append.mp h).elim (fun h => (List.mem_append.mp h).elim (fun h => wsL_law_in0 w h) (fun h => wsL_law_x0 w h)) (fun h => wsL_law_x1 w h)) (fun h => wsL_law_x2 w h)
theorem inlX0 : ∀ w ∈ wsX00, w ∈ wsL_law := fun _ h => List.mem_append_left _ (List.mem_append_left _ (List.mem_append_left _ (List.mem_append_left _ (List.mem_append_left _ (List.mem_append_right _ h)))))
theorem inX0 : ∀ w ∈ wsX00, w ∈ lw_tbl := fun w h => wsL_law_in w (inlX0 w h)
theorem inlX1 : ∀ w ∈ wsX10, w ∈ wsL_law := fun _ h => List.mem_append_left _ (List.mem_append_left _ (List.mem_append_left _ (List.mem_append_left _ (List.mem_append_left _ (List.mem_append_left _ (List.mem_append_left _ (List.mem_append_right _ h)))))))
theorem inX1 : ∀ w ∈ wsX10, w ∈ lw_tbl := fun w h => wsL_law_in w (inlX1 w h)
theorem inlX2 : ∀ w ∈ wsX20, w ∈ wsL_law := fun _ h => List.mem_append_left _ (List.mem_append_left _ (List.mem_append_left _ (List.mem_append_left _ (List.mem_append_right _ h))))
theorem inX2 : ∀ w ∈ wsX20, w ∈ lw_tbl := fun w h => wsL_law_in w (inlX2 w h)
theorem inlX3 : ∀ w ∈ wsX30, w ∈ wsL_law := fun _ h => List.mem_append_left _ (List.mem_append_left _ (List.mem_append_left _ (List.mem_append_left _ (List.mem_append_left _ (List.mem_append_left _ (List.mem_append_right _ h))))))
theorem inX3 : ∀ w ∈ wsX30, w ∈ lw_tbl := fun w h => wsL_law_in w (inlX3 w h)
theorem inlX4 : ∀ w ∈ wsX40, w ∈ wsL_law := fun _ h => List.mem_append_left _ (List.mem_append_left _ (List.mem_append_left _ (List.mem_append_left _ (List.mem_append_left _ (List.mem_append_left _ (List.mem_append_left _ (List.mem_append_left _ (List.mem_append_right _ h))))))))
theorem inX4 : ∀ w ∈ wsX40, w ∈ lw_tbl := fun w h => wsL_law_in w (inlX4 w h)
theorem inX5 : ∀ w ∈ wsX50, w ∈ lw_tbl := by decide +kernel
theorem inJ9 : ∀ w ∈ wsJ90, w ∈ lw_tbl := by decide +kernel
theorem inJ0 : ∀ w ∈ wsJ00, w ∈ lw_tbl := by decide +kernel
theorem inJ10 : ∀ w ∈ wsJ100, w ∈ lw_tbl := by decide +kernel
