theorem inwsL_law_wsL_law0_r1 : ∀ w ∈ wsL_law0_r1, w ∈ wsL_law := fun _ h => List.mem_append_left _ (List.mem_append_left _ (List.mem_append_left _ (List.mem_append_left _ (List.mem_append_left _ (List.mem_append_left _ (List.mem_append_left _ (List.mem_append_left _ (List.mem_append_left _ (List.mem_append_left _ (h))))))))))
theorem mwsL_law_r1_6 : Cond.code yX4_init cX4_init 2 none ∈ wsL_law := inwsL_law_wsL_law0_r1 _ (List.mem_of_getElem? (i := 6) rfl)
theorem inwsL_law_wsL_law0_r2 : ∀ w ∈ wsL_law0_r2, w ∈ wsL_law := fun _ h => List.mem_append_left _ (List.mem_append_left _ (List.mem_append_left _ (List.mem_append_left _ (List.mem_append_left _ (List.mem_append_left _ (List.mem_append_left _ (List.mem_append_left _ (List.mem_append_left _ (List.mem_append_right _ (List.mem_append_left _ (h)))))))))))
theorem mwsL_law_r2_6 : Cond.methodLink RX1 3 objectInit ∈ wsL_law := inwsL_law_wsL_law0_r2 _ (List.mem_of_getElem? (i := 6) rfl)
theorem mwsL_law_r2_5 : Cond.code yX1_init cX1_init 2 none ∈ wsL_law := inwsL_law_wsL_law0_r2 _ (List.mem_of_getElem? (i := 5) rfl)
theorem mwsL_law_r2_4 : Cond.instanceMethod yX1_init ∈ wsL_law := inwsL_law_wsL_law0_r2 _ (List.mem_of_getElem? (i := 4) rfl)
theorem mwsL_law_r2_3 : Cond.methodLink RX4 11 yX1_init ∈ wsL_law := inwsL_law_wsL_law0_r2 _ (List.mem_of_getElem? (i := 3) rfl)
theorem mwsL_law_r2_2 : Cond.initialized RX2 ∈ wsL_law := inwsL_law_wsL_law0_r2 _ (List.mem_of_getElem? (i := 2) rfl)
theorem mwsL_law_r2_1 : Cond.instantiable RX2 5 ∈ wsL_law := inwsL_law_wsL_law0_r2 _ (List.mem_of_getElem? (i := 1) rfl)
theorem mwsL_law_r2_0 : Cond.initialized RX0 ∈ wsL_law := inwsL_law_wsL_law0_r2 _ (List.mem_of_getElem? (i := 0) rfl)
theorem mwsL_law_r1_23 : Cond.instantiable RX0 4 ∈ wsL_law := inwsL_law_wsL_law0_r1 _ (List.mem_of_getElem? (i := 23) rfl)
theorem mwsL_law_r1_22 : Cond.fieldLink RX4 35 "RowReplicator" "limit" "I" ∈ wsL_law := inwsL_law_wsL_law0_r1 _ (List.mem_of_getElem? (i := 22) rfl)
theorem mwsL_law_r1_21 : Cond.fieldLink RX4 31 "RowReplicator" "trial" "LRowReplicator$Trial;" ∈ wsL_law := inwsL_law_wsL_law0_r1 _ (List.mem_of_getElem? (i := 21) rfl)
theorem mwsL_law_r1_20 : Cond.initialized RX3 ∈ wsL_law := inwsL_law_wsL_law0_r1 _ (List.mem_of_getElem? (i := 20) rfl)
theorem mwsL_law_r1_19 : Cond.instantiable RX3 2 ∈ wsL_law := inwsL_law_wsL_law0_r1 _ (List.mem_of_getElem? (i := 19) rfl)
theorem mwsL_law_r1_18 : Cond.classLink RX4 28 RX3 ∈ wsL_law := inwsL_law_wsL_law0_r1 _ (List.mem_of_getElem? (i := 18) rfl)
theorem mwsL_law_r1_17 : Cond.fieldLink RX4 24 "RowReplicator" "subscribers" "[LRowReplicator$Subscriber;" ∈ wsL_law := inwsL_law_wsL_law0_r1 _ (List.mem_of_getElem? (i := 17) rfl)
theorem mwsL_law_r1_16 : Cond.classLink RX4 22 RX2 ∈ wsL_law := inwsL_law_wsL_law0_r1 _ (List.mem_of_getElem? (i := 16) rfl)
theorem mwsL_law_r1_15 : Cond.fieldLink RX4 18 "RowReplicator" "publications" "[LRowReplicator$Publication;" ∈ wsL_law := inwsL_law_wsL_law0_r1 _ (List.mem_of_getElem? (i := 15) rfl)
theorem mwsL_law_r1_14 : Cond.classLink RX4 16 RX0 ∈ wsL_law := inwsL_law_wsL_law0_r1 _ (List.mem_of_getElem? (i := 14) rfl)
theorem mwsL_law_r1_13 : Cond.fieldLink RX4 12 "RowReplicator" "publisher" "LRowReplicator$Publisher;" ∈ wsL_law := inwsL_law_wsL_law0_r1 _ (List.mem_of_getElem? (i := 13) rfl)
theorem mwsL_law_r1_12 : Cond.initialized RX1 ∈ wsL_law := inwsL_law_wsL_law0_r1 _ (List.mem_of_getElem? (i := 12) rfl)
theorem mwsL_law_r1_11 : Cond.instantiable RX1 7 ∈ wsL_law := inwsL_law_wsL_law0_r1 _ (List.mem_of_getElem? (i := 11) rfl)
theorem mwsL_law_r1_10 : Cond.classLink RX4 9 RX1 ∈ wsL_law := inwsL_law_wsL_law0_r1 _ (List.mem_of_getElem? (i := 10) rfl)
theorem mwsL_law_r1_9 : Cond.code objectInit ⟨#[0xb1]⟩ 1 none ∈ wsL_law := inwsL_law_wsL_law0_r1 _ (List.mem_of_getElem? (i := 9) rfl)
theorem mwsL_law_r1_8 : Cond.instanceMethod objectInit ∈ wsL_law := inwsL_law_wsL_law0_r1 _ (List.mem_of_getElem? (i := 8) rfl)
theorem mwsL_law_r1_7 : Cond.methodLink RX4 3 objectInit ∈ wsL_law := inwsL_law_wsL_law0_r1 _ (List.mem_of_getElem? (i := 7) rfl)
theorem inwsL_law_wsL_law0_r3 : ∀ w ∈ wsL_law0_r3, w ∈ wsL_law := fun _ h => List.mem_append_left _ (List.mem_append_left _ (List.mem_append_left _ (List.mem_append_left _ (List.mem_append_left _ (List.mem_append_left _ (List.mem_append_left _ (List.mem_append_left _ (List.mem_append_left _ (List.mem_append_right _ (List.mem_append_right _ (List.mem_append_left _ (h))))))))))))
theorem mwsL_law_r3_5 : Cond.instanceMethod yX2_init ∈ wsL_law := inwsL_law_wsL_law0_r3 _ (List.mem_of_getElem? (i := 5) rfl)
theorem mwsL_law_r3_4 : Cond.methodLink RX4 40 yX2_init ∈ wsL_law := inwsL_law_wsL_law0_r3 _ (List.mem_of_getElem? (i := 4) rfl)
theorem mwsL_law_r3_3 : Cond.constant RX0 24 (2097151) ∈ wsL_law := inwsL_law_wsL_law0_r3 _ (List.mem_of_getElem? (i := 3) rfl)
theorem mwsL_law_r3_2 : Cond.fieldLink RX0 21 "RowReplicator$Publication" "masks" "[I" ∈ wsL_law := inwsL_law_wsL_law0_r3 _ (List.mem_of_getElem? (i := 2) rfl)
theorem mwsL_law_r3_1 : Cond.fieldLink RX0 18 "RowReplicator$Publication" "numbers" "[I" ∈ wsL_law := inwsL_law_wsL_law0_r3 _ (List.mem_of_getElem? (i := 1) rfl)
theorem mwsL_law_r3_0 : Cond.fieldLink RX0 15 "RowReplicator$Publication" "relations" "[I" ∈ wsL_law := inwsL_law_wsL_law0_r3 _ (List.mem_of_getElem? (i := 0) rfl)
theorem mwsL_law_r2_23 : Cond.fieldLink RX0 9 "RowReplicator$Publication" "columns" "[I" ∈ wsL_law := inwsL_law_wsL_law0_r2 _ (List.mem_of_getElem? (i := 23) rfl)
theorem mwsL_law_r2_22 : Cond.methodLink RX0 3 objectInit ∈ wsL_law := inwsL_law_wsL_law0_r2 _ (List.mem_of_getElem? (i := 22) rfl)
theorem mwsL_law_r2_21 : Cond.code yX0_init cX0_init 2 none ∈ wsL_law := inwsL_law_wsL_law0_r2 _ (List.mem_of_getElem? (i := 21) rfl)
theorem mwsL_law_r2_20 : Cond.instanceMethod yX0_init ∈ wsL_law := inwsL_law_wsL_law0_r2 _ (List.mem_of_getElem? (i := 20) rfl)
theorem mwsL_law_r2_19 : Cond.methodLink RX4 39 yX0_init ∈ wsL_law := inwsL_law_wsL_law0_r2 _ (List.mem_of_getElem? (i := 19) rfl)
theorem mwsL_law_r2_18 : Cond.fieldLink RX3 15 "RowReplicator$Trial" "rows" "[I" ∈ wsL_law := inwsL_law_wsL_law0_r2 _ (List.mem_of_getElem? (i := 18) rfl)
theorem mwsL_law_r2_17 : Cond.fieldLink RX3 9 "RowReplicator$Trial" "oldRows" "[I" ∈ wsL_law := inwsL_law_wsL_law0_r2 _ (List.mem_of_getElem? (i := 17) rfl)
theorem mwsL_law_r2_16 : Cond.methodLink RX3 3 objectInit ∈ wsL_law := inwsL_law_wsL_law0_r2 _ (List.mem_of_getElem? (i := 16) rfl)
theorem mwsL_law_r2_15 : Cond.code yX3_init cX3_init 1 none ∈ wsL_law := inwsL_law_wsL_law0_r2 _ (List.mem_of_getElem? (i := 15) rfl)
theorem mwsL_law_r2_14 : Cond.instanceMethod yX3_init ∈ wsL_law := inwsL_law_wsL_law0_r2 _ (List.mem_of_getElem? (i := 14) rfl)
theorem mwsL_law_r2_13 : Cond.fieldLink RX1 31 "RowReplicator$Publisher" "committedRows" "[I" ∈ wsL_law := inwsL_law_wsL_law0_r2 _ (List.mem_of_getElem? (i := 13) rfl)
theorem mwsL_law_r2_12 : Cond.fieldLink RX1 28 "RowReplicator$Publisher" "newRows" "[I" ∈ wsL_law := inwsL_law_wsL_law0_r2 _ (List.mem_of_getElem? (i := 12) rfl)
theorem mwsL_law_r2_11 : Cond.fieldLink RX1 25 "RowReplicator$Publisher" "changedKeys" "[I" ∈ wsL_law := inwsL_law_wsL_law0_r2 _ (List.mem_of_getElem? (i := 11) rfl)
theorem mwsL_law_r2_10 : Cond.fieldLink RX1 22 "RowReplicator$Publisher" "changedTables" "[I" ∈ wsL_law := inwsL_law_wsL_law0_r2 _ (List.mem_of_getElem? (i := 10) rfl)
theorem mwsL_law_r2_9 : Cond.fieldLink RX1 19 "RowReplicator$Publisher" "changeCounts" "[I" ∈ wsL_law := inwsL_law_wsL_law0_r2 _ (List.mem_of_getElem? (i := 9) rfl)
theorem mwsL_law_r2_8 : Cond.fieldLink RX1 15 "RowReplicator$Publisher" "commitCount" "I" ∈ wsL_law := inwsL_law_wsL_law0_r2 _ (List.mem_of_getElem? (i := 8) rfl)
theorem mwsL_law_r2_7 : Cond.fieldLink RX1 9 "RowReplicator$Publisher" "rows" "[I" ∈ wsL_law := inwsL_law_wsL_law0_r2 _ (List.mem_of_getElem? (i := 7) rfl)
theorem mwsL_law_r1_3 : Cond.arrayClass .int ∈ wsL_law := inwsL_law_wsL_law0_r1 _ (List.mem_of_getElem? (i := 3) rfl)
theorem mwsL_law_r3_12 : Cond.fieldLink RX2 26 "RowReplicator$Subscriber" "slot" "I" ∈ wsL_law := inwsL_law_wsL_law0_r3 _ (List.mem_of_getElem? (i := 12) rfl)
theorem mwsL_law_r3_11 : Cond.fieldLink RX2 22 "RowReplicator$Subscriber" "state" "I" ∈ wsL_law := inwsL_law_wsL_law0_r3 _ (List.mem_of_getElem? (i := 11) rfl)
theorem mwsL_law_r3_10 : Cond.fieldLink RX2 18 "RowReplicator$Subscriber" "publication" "LRowReplicator$Publication;" ∈ wsL_law := inwsL_law_wsL_law0_r3 _ (List.mem_of_getElem? (i := 10) rfl)
theorem mwsL_law_r3_9 : Cond.fieldLink RX2 15 "RowReplicator$Subscriber" "copies" "[I" ∈ wsL_law := inwsL_law_wsL_law0_r3 _ (List.mem_of_getElem? (i := 9) rfl)
theorem mwsL_law_r3_8 : Cond.fieldLink RX2 9 "RowReplicator$Subscriber" "rows" "[I" ∈ wsL_law := inwsL_law_wsL_law0_r3 _ (List.mem_of_getElem? (i := 8) rfl)
theorem mwsL_law_r3_7 : Cond.methodLink RX2 3 objectInit ∈ wsL_law := inwsL_law_wsL_law0_r3 _ (List.mem_of_getElem? (i := 7) rfl)
theorem mwsL_law_r3_6 : Cond.code yX2_init cX2_init 2 none ∈ wsL_law := inwsL_law_wsL_law0_r3 _ (List.mem_of_getElem? (i := 6) rfl)
set_option maxRecDepth 20000 in
theorem ggL_law_X4_init : GoodIn wsL_law wsX4_init := (goodIn_c (goodIn_sub (ws := [.code yX4_init cX4_init 2 none]) (List.forall_mem_cons.mpr ⟨mwsL_law_r1_6, fun _ h => nomatch h⟩) (by decide +kernel)) (goodIn_app (goodIn_app (goodIn_app (goodIn_app (goodIn_app (goodIn_app (goodIn_sub (ws := wsX4_init_r1) (List.forall_mem_cons.mpr ⟨mwsL_law_r1_7, (List.forall_mem_cons.mpr ⟨mwsL_law_r1_8, (List.forall_mem_cons.mpr ⟨mwsL_law_r1_9, (List.forall_mem_cons.mpr ⟨mwsL_law_r1_10, (List.forall_mem_cons.mpr ⟨mwsL_law_r1_11, (List.forall_mem_cons.mpr ⟨mwsL_law_r1_12, (List.forall_mem_cons.mpr ⟨mwsL_law_r1_13, (List.forall_mem_cons.mpr ⟨mwsL_law_r1_14, (List.forall_mem_cons.mpr ⟨mwsL_law_r1_15, (List.forall_mem_cons.mpr ⟨mwsL_law_r1_16, (List.forall_mem_cons.mpr ⟨mwsL_law_r1_17, (List.forall_mem_cons.mpr ⟨mwsL_law_r1_18, (List.forall_mem_cons.mpr ⟨mwsL_law_r1_19, (List.forall_mem_cons.mpr ⟨mwsL_law_r1_20, (List.forall_mem_cons.mpr ⟨mwsL_law_r1_21, (List.forall_mem_cons.mpr ⟨mwsL_law_r1_22, (List.forall_mem_cons.mpr ⟨mwsL_law_r1_23, (List.forall_mem_cons.mpr ⟨mwsL_law_r2_0, (List.forall_mem_cons.mpr ⟨mwsL_law_r2_1, (List.forall_mem_cons.mpr ⟨mwsL_law_r2_2, (List.forall_mem_cons.mpr ⟨mwsL_law_r2_3, (List.forall_mem_cons.mpr ⟨mwsL_law_r2_4, (List.forall_mem_cons.mpr ⟨mwsL_law_r2_5, (List.forall_mem_cons.mpr ⟨mwsL_law_r2_6, (fun _ h => nomatch h)⟩)⟩)⟩)⟩)⟩)⟩)⟩)⟩)⟩)⟩)⟩)⟩)⟩)⟩)⟩)⟩)⟩)⟩)⟩)⟩)⟩)⟩)⟩)⟩) (by decide +kernel)) (goodIn_app (goodIn_sub (ws := wsX4_init_r2) (List.forall_mem_cons.mpr ⟨mwsL_law_r1_3, (List.forall_mem_cons.mpr ⟨mwsL_law_r2_7, (List.forall_mem_cons.mpr ⟨mwsL_law_r2_8, (List.forall_mem_cons.mpr ⟨mwsL_law_r2_9, (List.forall_mem_cons.mpr ⟨mwsL_law_r2_10, (List.forall_mem_cons.mpr ⟨mwsL_law_r2_11, (List.forall_mem_cons.mpr ⟨mwsL_law_r2_12, (List.forall_mem_cons.mpr ⟨mwsL_law_r2_13, (List.forall_mem_cons.mpr ⟨mwsL_law_r2_14, (List.forall_mem_cons.mpr ⟨mwsL_law_r2_15, (List.forall_mem_cons.mpr ⟨mwsL_law_r2_16, (List.forall_mem_cons.mpr ⟨mwsL_law_r2_17, (List.forall_mem_cons.mpr ⟨mwsL_law_r2_18, (List.forall_mem_cons.mpr ⟨mwsL_law_r2_19, (List.forall_mem_cons.mpr ⟨mwsL_law_r2_20, (List.forall_mem_cons.mpr ⟨mwsL_law_r2_21, (List.forall_mem_cons.mpr ⟨mwsL_law_r2_22, (List.forall_mem_cons.mpr ⟨mwsL_law_r2_23, (List.forall_mem_cons.mpr ⟨mwsL_law_r3_0, (List.forall_mem_cons.mpr ⟨mwsL_law_r3_1, (List.forall_mem_cons.mpr ⟨mwsL_law_r3_2, (List.forall_mem_cons.mpr ⟨mwsL_law_r3_3, (List.forall_mem_cons.mpr ⟨mwsL_law_r3_4, (List.forall_mem_cons.mpr ⟨mwsL_law_r3_5, (fun _ h => nomatch h)⟩)⟩)⟩)⟩)⟩)⟩)⟩)⟩)⟩)⟩)⟩)⟩)⟩)⟩)⟩)⟩)⟩)⟩)⟩)⟩)⟩)⟩)⟩)⟩) (by decide +kernel)) (goodIn_sub (ws := wsX4_init_r3) (List.forall_mem_cons.mpr ⟨mwsL_law_r3_6, (List.forall_mem_cons.mpr ⟨mwsL_law_r3_7, (List.forall_mem_cons.mpr ⟨mwsL_law_r3_8, (List.forall_mem_cons.mpr ⟨mwsL_law_r3_9, (List.forall_mem_cons.mpr ⟨mwsL_law_r3_10, (List.forall_mem_cons.mpr ⟨mwsL_law_r3_11, (List.forall_mem_cons.mpr ⟨mwsL_law_r3_12, (fun _ h => nomatch h)⟩)⟩)⟩)⟩)⟩)⟩)⟩) (by decide +kernel)))) (goodIn_sub (fun _ h => List.mem_append_left _ (List.mem_append_left _ (List.mem_append_left _ (List.mem_append_left _ (List.mem_append_left _ (List.mem_append_left _ (List.mem_append_left _ (List.mem_append_right _ (h))))))))) (by decide +kernel))) (goodIn_sub (fun _ h => List.mem_append_left _ (List.mem_append_left _ (List.mem_append_left _ (List.mem_append_left _ (List.mem_append_left _ (List.mem_append_left _ (List.mem_append_left _ (List.mem_append_left _ (List.mem_append_right _ (h)))))))))) (by decide +kernel))) (goodIn_sub (fun _ h => List.mem_append_left _ (List.mem_append_left _ (List.mem_append_left _ (List.mem_append_left _ (List.mem_append_left _ (List.mem_append_left _ (List.mem_append_right _ (h)))))))) (by decide +kernel))) (goodIn_sub (fun _ h => List.mem_append_left _ (List.mem_append_left _ (List.mem_append_left _ (List.mem_append_left _ (List.mem_append_left _ (List.mem_append_right _ (h))))))) (by decide +kernel))) (goodIn_sub (fun _ h => List.mem_append_left _ (List.mem_append_left _ (List.mem_append_left _ (List.mem_append_left _ (List.mem_append_right _ (h)))))) (by decide +kernel))))
set_option maxRecDepth 20000 in
theorem gL_law_X4_init : GoodIn wsL_law (wsX4_init) := ggL_law_X4_init
theorem mwsL_law_r3_16 : Cond.code yL_isPublisher cL_isPublisher 6 (some .boolean) ∈ wsL_law := inwsL_law_wsL_law0_r3 _ (List.mem_of_getElem? (i := 16) rfl)
theorem inwsL_law_wsL_law0_r4 : ∀ w ∈ wsL_law0_r4, w ∈ wsL_law := fun _ h => List.mem_append_left _ (List.mem_append_left _ (List.mem_append_left _ (List.mem_append_left _ (List.mem_append_left _ (List.mem_append_left _ (List.mem_append_left _ (List.mem_append_left _ (List.mem_append_left _ (List.mem_append_right _ (List.mem_append_right _ (List.mem_append_right _ (List.mem_append_left _ (h)))))))))))))
theorem mwsL_law_r4_13 : Cond.code yX4_checkTable cX4_checkTable 1 none ∈ wsL_law := inwsL_law_wsL_law0_r4 _ (List.mem_of_getElem? (i := 13) rfl)
theorem mwsL_law_r4_12 : Cond.static yX4_checkTable ∈ wsL_law := inwsL_law_wsL_law0_r4 _ (List.mem_of_getElem? (i := 12) rfl)
theorem mwsL_law_r4_11 : Cond.methodLink RX4 75 yX4_checkTable ∈ wsL_law := inwsL_law_wsL_law0_r4 _ (List.mem_of_getElem? (i := 11) rfl)
theorem mwsL_law_r4_10 : Cond.initialized "java/lang/IndexOutOfBoundsException" ∈ wsL_law := inwsL_law_wsL_law0_r4 _ (List.mem_of_getElem? (i := 10) rfl)
theorem mwsL_law_r4_9 : Cond.classLink RX4 199 "java/lang/IndexOutOfBoundsException" ∈ wsL_law := inwsL_law_wsL_law0_r4 _ (List.mem_of_getElem? (i := 9) rfl)
theorem mwsL_law_r4_8 : Cond.code yX4_checkKey cX4_checkKey 2 none ∈ wsL_law := inwsL_law_wsL_law0_r4 _ (List.mem_of_getElem? (i := 8) rfl)
theorem mwsL_law_r4_7 : Cond.static yX4_checkKey ∈ wsL_law := inwsL_law_wsL_law0_r4 _ (List.mem_of_getElem? (i := 7) rfl)
theorem mwsL_law_r4_6 : Cond.methodLink RX4 41 yX4_checkKey ∈ wsL_law := inwsL_law_wsL_law0_r4 _ (List.mem_of_getElem? (i := 6) rfl)
theorem mwsL_law_r4_5 : Cond.code yX4_at cX4_at 4 (some .int) ∈ wsL_law := inwsL_law_wsL_law0_r4 _ (List.mem_of_getElem? (i := 5) rfl)
theorem mwsL_law_r4_4 : Cond.selects RX4 yX4_at yX4_at ∈ wsL_law := inwsL_law_wsL_law0_r4 _ (List.mem_of_getElem? (i := 4) rfl)
theorem mwsL_law_r4_3 : Cond.instanceMethod yX4_at ∈ wsL_law := inwsL_law_wsL_law0_r4 _ (List.mem_of_getElem? (i := 3) rfl)
theorem mwsL_law_r4_2 : Cond.methodLink RL 70 yX4_at ∈ wsL_law := inwsL_law_wsL_law0_r4 _ (List.mem_of_getElem? (i := 2) rfl)
theorem mwsL_law_r4_1 : Cond.classLink RL 68 "java/lang/IllegalStateException" ∈ wsL_law := inwsL_law_wsL_law0_r4 _ (List.mem_of_getElem? (i := 1) rfl)
theorem mwsL_law_r4_0 : Cond.classLink RL 64 "java/lang/IndexOutOfBoundsException" ∈ wsL_law := inwsL_law_wsL_law0_r4 _ (List.mem_of_getElem? (i := 0) rfl)
theorem mwsL_law_r3_23 : Cond.codeWith yL_asks cL_asks 7 (some .int) [(0, 87, 88, 64), (0, 87, 93, 68)] ∈ wsL_law := inwsL_law_wsL_law0_r3 _ (List.mem_of_getElem? (i := 23) rfl)
theorem mwsL_law_r3_15 : Cond.initialized RL ∈ wsL_law := inwsL_law_wsL_law0_r3 _ (List.mem_of_getElem? (i := 15) rfl)
theorem mwsL_law_r3_22 : Cond.static yL_asks ∈ wsL_law := inwsL_law_wsL_law0_r3 _ (List.mem_of_getElem? (i := 22) rfl)
theorem mwsL_law_r3_21 : Cond.methodLink RL 93 yL_asks ∈ wsL_law := inwsL_law_wsL_law0_r3 _ (List.mem_of_getElem? (i := 21) rfl)
theorem mwsL_law_r3_20 : Cond.code yX4_commits cX4_commits 1 (some .int) ∈ wsL_law := inwsL_law_wsL_law0_r3 _ (List.mem_of_getElem? (i := 20) rfl)
theorem mwsL_law_r1_2 : Cond.initialized RX4 ∈ wsL_law := inwsL_law_wsL_law0_r1 _ (List.mem_of_getElem? (i := 2) rfl)
theorem mwsL_law_r3_19 : Cond.selects RX4 yX4_commits yX4_commits ∈ wsL_law := inwsL_law_wsL_law0_r3 _ (List.mem_of_getElem? (i := 19) rfl)
theorem mwsL_law_r3_18 : Cond.instanceMethod yX4_commits ∈ wsL_law := inwsL_law_wsL_law0_r3 _ (List.mem_of_getElem? (i := 18) rfl)
theorem mwsL_law_r3_17 : Cond.methodLink RL 90 yX4_commits ∈ wsL_law := inwsL_law_wsL_law0_r3 _ (List.mem_of_getElem? (i := 17) rfl)
theorem inwsL_law_wsL_law0_r5 : ∀ w ∈ wsL_law0_r5, w ∈ wsL_law := fun _ h => List.mem_append_left _ (List.mem_append_left _ (List.mem_append_left _ (List.mem_append_left _ (List.mem_append_left _ (List.mem_append_left _ (List.mem_append_left _ (List.mem_append_left _ (List.mem_append_left _ (List.mem_append_right _ (List.mem_append_right _ (List.mem_append_right _ (List.mem_append_right _ (List.mem_append_left _ (h))))))))))))))
theorem mwsL_law_r5_12 : Cond.selects RX2 yX2_commitsBehind yX2_commitsBehind ∈ wsL_law := inwsL_law_wsL_law0_r5 _ (List.mem_of_getElem? (i := 12) rfl)
theorem mwsL_law_r5_11 : Cond.instanceMethod yX2_commitsBehind ∈ wsL_law := inwsL_law_wsL_law0_r5 _ (List.mem_of_getElem? (i := 11) rfl)
theorem mwsL_law_r5_10 : Cond.methodLink RX4 178 yX2_commitsBehind ∈ wsL_law := inwsL_law_wsL_law0_r5 _ (List.mem_of_getElem? (i := 10) rfl)
theorem mwsL_law_r5_9 : Cond.code yX4_lag cX4_lag 2 (some .int) ∈ wsL_law := inwsL_law_wsL_law0_r5 _ (List.mem_of_getElem? (i := 9) rfl)
theorem mwsL_law_r5_8 : Cond.selects RX4 yX4_lag yX4_lag ∈ wsL_law := inwsL_law_wsL_law0_r5 _ (List.mem_of_getElem? (i := 8) rfl)
theorem mwsL_law_r5_7 : Cond.instanceMethod yX4_lag ∈ wsL_law := inwsL_law_wsL_law0_r5 _ (List.mem_of_getElem? (i := 7) rfl)
theorem mwsL_law_r5_6 : Cond.methodLink RL 76 yX4_lag ∈ wsL_law := inwsL_law_wsL_law0_r5 _ (List.mem_of_getElem? (i := 6) rfl)
theorem mwsL_law_r5_5 : Cond.code yX4_checkSubscriber cX4_checkSubscriber 1 none ∈ wsL_law := inwsL_law_wsL_law0_r5 _ (List.mem_of_getElem? (i := 5) rfl)
theorem mwsL_law_r5_4 : Cond.static yX4_checkSubscriber ∈ wsL_law := inwsL_law_wsL_law0_r5 _ (List.mem_of_getElem? (i := 4) rfl)
theorem mwsL_law_r5_3 : Cond.methodLink RX4 134 yX4_checkSubscriber ∈ wsL_law := inwsL_law_wsL_law0_r5 _ (List.mem_of_getElem? (i := 3) rfl)
theorem mwsL_law_r5_2 : Cond.code yX4_state cX4_state 2 (some .int) ∈ wsL_law := inwsL_law_wsL_law0_r5 _ (List.mem_of_getElem? (i := 2) rfl)
theorem mwsL_law_r5_1 : Cond.selects RX4 yX4_state yX4_state ∈ wsL_law := inwsL_law_wsL_law0_r5 _ (List.mem_of_getElem? (i := 1) rfl)
theorem mwsL_law_r5_0 : Cond.instanceMethod yX4_state ∈ wsL_law := inwsL_law_wsL_law0_r5 _ (List.mem_of_getElem? (i := 0) rfl)
theorem mwsL_law_r4_23 : Cond.methodLink RL 73 yX4_state ∈ wsL_law := inwsL_law_wsL_law0_r4 _ (List.mem_of_getElem? (i := 23) rfl)
theorem mwsL_law_r4_22 : Cond.code yX4_numberIn cX4_numberIn 2 (some .int) ∈ wsL_law := inwsL_law_wsL_law0_r4 _ (List.mem_of_getElem? (i := 22) rfl)
theorem mwsL_law_r4_21 : Cond.static yX4_numberIn ∈ wsL_law := inwsL_law_wsL_law0_r4 _ (List.mem_of_getElem? (i := 21) rfl)
theorem mwsL_law_r4_20 : Cond.methodLink RX4 99 yX4_numberIn ∈ wsL_law := inwsL_law_wsL_law0_r4 _ (List.mem_of_getElem? (i := 20) rfl)
theorem mwsL_law_r4_19 : Cond.code yX4_placeOf cX4_placeOf 2 (some .int) ∈ wsL_law := inwsL_law_wsL_law0_r4 _ (List.mem_of_getElem? (i := 19) rfl)
theorem mwsL_law_r4_18 : Cond.static yX4_placeOf ∈ wsL_law := inwsL_law_wsL_law0_r4 _ (List.mem_of_getElem? (i := 18) rfl)
theorem mwsL_law_r4_17 : Cond.methodLink RX4 56 yX4_placeOf ∈ wsL_law := inwsL_law_wsL_law0_r4 _ (List.mem_of_getElem? (i := 17) rfl)
theorem mwsL_law_r4_16 : Cond.code yX4_checkColumn cX4_checkColumn 1 none ∈ wsL_law := inwsL_law_wsL_law0_r4 _ (List.mem_of_getElem? (i := 16) rfl)
theorem mwsL_law_r4_15 : Cond.static yX4_checkColumn ∈ wsL_law := inwsL_law_wsL_law0_r4 _ (List.mem_of_getElem? (i := 15) rfl)
theorem mwsL_law_r4_14 : Cond.methodLink RX4 96 yX4_checkColumn ∈ wsL_law := inwsL_law_wsL_law0_r4 _ (List.mem_of_getElem? (i := 14) rfl)
theorem inwsL_law_wsL_law0_r6 : ∀ w ∈ wsL_law0_r6, w ∈ wsL_law := fun _ h => List.mem_append_left _ (List.mem_append_left _ (List.mem_append_left _ (List.mem_append_left _ (List.mem_append_left _ (List.mem_append_left _ (List.mem_append_left _ (List.mem_append_left _ (List.mem_append_left _ (List.mem_append_right _ (List.mem_append_right _ (List.mem_append_right _ (List.mem_append_right _ (List.mem_append_right _ (List.mem_append_left _ (h)))))))))))))))
theorem mwsL_law_r6_9 : Cond.static Lib.Math.max.name ∈ wsL_law := inwsL_law_wsL_law0_r6 _ (List.mem_of_getElem? (i := 9) rfl)
theorem mwsL_law_r6_8 : Cond.methodLink RX4 189 Lib.Math.max.name ∈ wsL_law := inwsL_law_wsL_law0_r6 _ (List.mem_of_getElem? (i := 8) rfl)
theorem mwsL_law_r6_7 : Cond.initialized "java/lang/IllegalStateException" ∈ wsL_law := inwsL_law_wsL_law0_r6 _ (List.mem_of_getElem? (i := 7) rfl)
theorem mwsL_law_r6_6 : Cond.classLink RX4 68 "java/lang/IllegalStateException" ∈ wsL_law := inwsL_law_wsL_law0_r6 _ (List.mem_of_getElem? (i := 6) rfl)
theorem mwsL_law_r6_5 : Cond.code yX4_isFaithful cX4_isFaithful 9 (some .boolean) ∈ wsL_law := inwsL_law_wsL_law0_r6 _ (List.mem_of_getElem? (i := 5) rfl)
theorem mwsL_law_r6_4 : Cond.selects RX4 yX4_isFaithful yX4_isFaithful ∈ wsL_law := inwsL_law_wsL_law0_r6 _ (List.mem_of_getElem? (i := 4) rfl)
theorem mwsL_law_r6_3 : Cond.instanceMethod yX4_isFaithful ∈ wsL_law := inwsL_law_wsL_law0_r6 _ (List.mem_of_getElem? (i := 3) rfl)
theorem mwsL_law_r6_2 : Cond.methodLink RL 86 yX4_isFaithful ∈ wsL_law := inwsL_law_wsL_law0_r6 _ (List.mem_of_getElem? (i := 2) rfl)
theorem mwsL_law_r6_1 : Cond.code yX4_seen cX4_seen 5 (some .int) ∈ wsL_law := inwsL_law_wsL_law0_r6 _ (List.mem_of_getElem? (i := 1) rfl)
theorem mwsL_law_r6_0 : Cond.selects RX4 yX4_seen yX4_seen ∈ wsL_law := inwsL_law_wsL_law0_r6 _ (List.mem_of_getElem? (i := 0) rfl)
theorem mwsL_law_r5_23 : Cond.instanceMethod yX4_seen ∈ wsL_law := inwsL_law_wsL_law0_r5 _ (List.mem_of_getElem? (i := 23) rfl)
theorem mwsL_law_r5_22 : Cond.methodLink RL 82 yX4_seen ∈ wsL_law := inwsL_law_wsL_law0_r5 _ (List.mem_of_getElem? (i := 22) rfl)
theorem mwsL_law_r5_21 : Cond.code yX4_copiedAt cX4_copiedAt 3 (some .int) ∈ wsL_law := inwsL_law_wsL_law0_r5 _ (List.mem_of_getElem? (i := 21) rfl)
theorem mwsL_law_r5_20 : Cond.selects RX4 yX4_copiedAt yX4_copiedAt ∈ wsL_law := inwsL_law_wsL_law0_r5 _ (List.mem_of_getElem? (i := 20) rfl)
theorem mwsL_law_r5_19 : Cond.instanceMethod yX4_copiedAt ∈ wsL_law := inwsL_law_wsL_law0_r5 _ (List.mem_of_getElem? (i := 19) rfl)
theorem mwsL_law_r5_18 : Cond.methodLink RL 79 yX4_copiedAt ∈ wsL_law := inwsL_law_wsL_law0_r5 _ (List.mem_of_getElem? (i := 18) rfl)
theorem mwsL_law_r5_17 : Cond.code yX2_holdsLog cX2_holdsLog 1 (some .boolean) ∈ wsL_law := inwsL_law_wsL_law0_r5 _ (List.mem_of_getElem? (i := 17) rfl)
theorem mwsL_law_r5_16 : Cond.selects RX2 yX2_holdsLog yX2_holdsLog ∈ wsL_law := inwsL_law_wsL_law0_r5 _ (List.mem_of_getElem? (i := 16) rfl)
theorem mwsL_law_r5_15 : Cond.instanceMethod yX2_holdsLog ∈ wsL_law := inwsL_law_wsL_law0_r5 _ (List.mem_of_getElem? (i := 15) rfl)
theorem mwsL_law_r5_14 : Cond.methodLink RX2 32 yX2_holdsLog ∈ wsL_law := inwsL_law_wsL_law0_r5 _ (List.mem_of_getElem? (i := 14) rfl)
theorem mwsL_law_r5_13 : Cond.code yX2_commitsBehind cX2_commitsBehind 2 (some .int) ∈ wsL_law := inwsL_law_wsL_law0_r5 _ (List.mem_of_getElem? (i := 13) rfl)
theorem inwsL_law_wsL_law0_r7 : ∀ w ∈ wsL_law0_r7, w ∈ wsL_law := fun _ h => List.mem_append_left _ (List.mem_append_left _ (List.mem_append_left _ (List.mem_append_left _ (List.mem_append_left _ (List.mem_append_left _ (List.mem_append_left _ (List.mem_append_left _ (List.mem_append_left _ (List.mem_append_right _ (List.mem_append_right _ (List.mem_append_right _ (List.mem_append_right _ (List.mem_append_right _ (List.mem_append_right _ (List.mem_append_left _ (h))))))))))))))))
theorem mwsL_law_r7_0 : Cond.code yX0_lets cX0_lets 3 (some .boolean) ∈ wsL_law := inwsL_law_wsL_law0_r7 _ (List.mem_of_getElem? (i := 0) rfl)
theorem mwsL_law_r6_23 : Cond.selects RX0 yX0_lets yX0_lets ∈ wsL_law := inwsL_law_wsL_law0_r6 _ (List.mem_of_getElem? (i := 23) rfl)
theorem mwsL_law_r6_22 : Cond.instanceMethod yX0_lets ∈ wsL_law := inwsL_law_wsL_law0_r6 _ (List.mem_of_getElem? (i := 22) rfl)
theorem mwsL_law_r6_21 : Cond.methodLink RX0 29 yX0_lets ∈ wsL_law := inwsL_law_wsL_law0_r6 _ (List.mem_of_getElem? (i := 21) rfl)
theorem mwsL_law_r6_20 : Cond.code yX0_choose cX0_choose 3 (some .int) ∈ wsL_law := inwsL_law_wsL_law0_r6 _ (List.mem_of_getElem? (i := 20) rfl)
theorem mwsL_law_r6_19 : Cond.selects RX0 yX0_choose yX0_choose ∈ wsL_law := inwsL_law_wsL_law0_r6 _ (List.mem_of_getElem? (i := 19) rfl)
theorem mwsL_law_r6_18 : Cond.instanceMethod yX0_choose ∈ wsL_law := inwsL_law_wsL_law0_r6 _ (List.mem_of_getElem? (i := 18) rfl)
theorem mwsL_law_r6_17 : Cond.methodLink RX4 155 yX0_choose ∈ wsL_law := inwsL_law_wsL_law0_r6 _ (List.mem_of_getElem? (i := 17) rfl)
theorem mwsL_law_r6_16 : Cond.code yX1_rowAsOf cX1_rowAsOf 3 (some .int) ∈ wsL_law := inwsL_law_wsL_law0_r6 _ (List.mem_of_getElem? (i := 16) rfl)
theorem mwsL_law_r6_15 : Cond.selects RX1 yX1_rowAsOf yX1_rowAsOf ∈ wsL_law := inwsL_law_wsL_law0_r6 _ (List.mem_of_getElem? (i := 15) rfl)
theorem mwsL_law_r6_14 : Cond.instanceMethod yX1_rowAsOf ∈ wsL_law := inwsL_law_wsL_law0_r6 _ (List.mem_of_getElem? (i := 14) rfl)
theorem mwsL_law_r6_13 : Cond.methodLink RX4 194 yX1_rowAsOf ∈ wsL_law := inwsL_law_wsL_law0_r6 _ (List.mem_of_getElem? (i := 13) rfl)
theorem mwsL_law_r6_12 : Cond.methodLink RX4 181 yX2_holdsLog ∈ wsL_law := inwsL_law_wsL_law0_r6 _ (List.mem_of_getElem? (i := 12) rfl)
theorem mwsL_law_r6_11 : Cond.code Lib.Math.max.name Lib.Math.max.code 2 (some .int) ∈ wsL_law := inwsL_law_wsL_law0_r6 _ (List.mem_of_getElem? (i := 11) rfl)
theorem mwsL_law_r6_10 : Cond.initialized "java/lang/Math" ∈ wsL_law := inwsL_law_wsL_law0_r6 _ (List.mem_of_getElem? (i := 10) rfl)
set_option maxRecDepth 20000 in
theorem ggL_law_L_isPublisher : GoodIn wsL_law wsL_isPublisher := (goodIn_c (goodIn_sub (ws := [.code yL_isPublisher cL_isPublisher 6 (some .boolean)]) (List.forall_mem_cons.mpr ⟨mwsL_law_r3_16, fun _ h => nomatch h⟩) (by decide +kernel)) (goodIn_app (goodIn_app (goodIn_app (goodIn_app (goodIn_app (goodIn_app (goodIn_app (goodIn_sub (ws := wsL_isPublisher_r1) (List.forall_mem_cons.mpr ⟨mwsL_law_r3_17, (List.forall_mem_cons.mpr ⟨mwsL_law_r3_18, (List.forall_mem_cons.mpr ⟨mwsL_law_r3_19, (List.forall_mem_cons.mpr ⟨mwsL_law_r1_2, (List.forall_mem_cons.mpr ⟨mwsL_law_r3_20, (List.forall_mem_cons.mpr ⟨mwsL_law_r1_13, (List.forall_mem_cons.mpr ⟨mwsL_law_r3_21, (List.forall_mem_cons.mpr ⟨mwsL_law_r3_22, (List.forall_mem_cons.mpr ⟨mwsL_law_r3_15, (List.forall_mem_cons.mpr ⟨mwsL_law_r3_23, (List.forall_mem_cons.mpr ⟨mwsL_law_r4_0, (List.forall_mem_cons.mpr ⟨mwsL_law_r4_1, (List.forall_mem_cons.mpr ⟨mwsL_law_r4_2, (List.forall_mem_cons.mpr ⟨mwsL_law_r4_3, (List.forall_mem_cons.mpr ⟨mwsL_law_r4_4, (List.forall_mem_cons.mpr ⟨mwsL_law_r4_5, (List.forall_mem_cons.mpr ⟨mwsL_law_r4_6, (List.forall_mem_cons.mpr ⟨mwsL_law_r4_7, (List.forall_mem_cons.mpr ⟨mwsL_law_r4_8, (List.forall_mem_cons.mpr ⟨mwsL_law_r4_9, (List.forall_mem_cons.mpr ⟨mwsL_law_r4_10, (List.forall_mem_cons.mpr ⟨mwsL_law_r4_11, (List.forall_mem_cons.mpr ⟨mwsL_law_r4_12, (List.forall_mem_cons.mpr ⟨mwsL_law_r4_13, (fun _ h => nomatch h)⟩)⟩)⟩)⟩)⟩)⟩)⟩)⟩)⟩)⟩)⟩)⟩)⟩)⟩)⟩)⟩)⟩)⟩)⟩)⟩)⟩)⟩)⟩)⟩) (by decide +kernel)) (goodIn_app (goodIn_sub (ws := wsL_isPublisher_r2) (List.forall_mem_cons.mpr ⟨mwsL_law_r4_14, (List.forall_mem_cons.mpr ⟨mwsL_law_r4_15, (List.forall_mem_cons.mpr ⟨mwsL_law_r4_16, (List.forall_mem_cons.mpr ⟨mwsL_law_r4_17, (List.forall_mem_cons.mpr ⟨mwsL_law_r4_18, (List.forall_mem_cons.mpr ⟨mwsL_law_r4_19, (List.forall_mem_cons.mpr ⟨mwsL_law_r4_20, (List.forall_mem_cons.mpr ⟨mwsL_law_r4_21, (List.forall_mem_cons.mpr ⟨mwsL_law_r4_22, (List.forall_mem_cons.mpr ⟨mwsL_law_r4_23, (List.forall_mem_cons.mpr ⟨mwsL_law_r5_0, (List.forall_mem_cons.mpr ⟨mwsL_law_r5_1, (List.forall_mem_cons.mpr ⟨mwsL_law_r5_2, (List.forall_mem_cons.mpr ⟨mwsL_law_r1_17, (List.forall_mem_cons.mpr ⟨mwsL_law_r5_3, (List.forall_mem_cons.mpr ⟨mwsL_law_r5_4, (List.forall_mem_cons.mpr ⟨mwsL_law_r5_5, (List.forall_mem_cons.mpr ⟨mwsL_law_r5_6, (List.forall_mem_cons.mpr ⟨mwsL_law_r5_7, (List.forall_mem_cons.mpr ⟨mwsL_law_r5_8, (List.forall_mem_cons.mpr ⟨mwsL_law_r5_9, (List.forall_mem_cons.mpr ⟨mwsL_law_r5_10, (List.forall_mem_cons.mpr ⟨mwsL_law_r5_11, (List.forall_mem_cons.mpr ⟨mwsL_law_r5_12, (fun _ h => nomatch h)⟩)⟩)⟩)⟩)⟩)⟩)⟩)⟩)⟩)⟩)⟩)⟩)⟩)⟩)⟩)⟩)⟩)⟩)⟩)⟩)⟩)⟩)⟩)⟩) (by decide +kernel)) (goodIn_app (goodIn_sub (ws := wsL_isPublisher_r3) (List.forall_mem_cons.mpr ⟨mwsL_law_r2_2, (List.forall_mem_cons.mpr ⟨mwsL_law_r5_13, (List.forall_mem_cons.mpr ⟨mwsL_law_r3_12, (List.forall_mem_cons.mpr ⟨mwsL_law_r5_14, (List.forall_mem_cons.mpr ⟨mwsL_law_r5_15, (List.forall_mem_cons.mpr ⟨mwsL_law_r5_16, (List.forall_mem_cons.mpr ⟨mwsL_law_r5_17, (List.forall_mem_cons.mpr ⟨mwsL_law_r3_11, (List.forall_mem_cons.mpr ⟨mwsL_law_r5_18, (List.forall_mem_cons.mpr ⟨mwsL_law_r5_19, (List.forall_mem_cons.mpr ⟨mwsL_law_r5_20, (List.forall_mem_cons.mpr ⟨mwsL_law_r5_21, (List.forall_mem_cons.mpr ⟨mwsL_law_r5_22, (List.forall_mem_cons.mpr ⟨mwsL_law_r5_23, (List.forall_mem_cons.mpr ⟨mwsL_law_r6_0, (List.forall_mem_cons.mpr ⟨mwsL_law_r6_1, (List.forall_mem_cons.mpr ⟨mwsL_law_r6_2, (List.forall_mem_cons.mpr ⟨mwsL_law_r6_3, (List.forall_mem_cons.mpr ⟨mwsL_law_r6_4, (List.forall_mem_cons.mpr ⟨mwsL_law_r6_5, (List.forall_mem_cons.mpr ⟨mwsL_law_r6_6, (List.forall_mem_cons.mpr ⟨mwsL_law_r6_7, (List.forall_mem_cons.mpr ⟨mwsL_law_r6_8, (List.forall_mem_cons.mpr ⟨mwsL_law_r6_9, (fun _ h => nomatch h)⟩)⟩)⟩)⟩)⟩)⟩)⟩)⟩)⟩)⟩)⟩)⟩)⟩)⟩)⟩)⟩)⟩)⟩)⟩)⟩)⟩)⟩)⟩)⟩) (by decide +kernel)) (goodIn_sub (ws := wsL_isPublisher_r4) (List.forall_mem_cons.mpr ⟨mwsL_law_r6_10, (List.forall_mem_cons.mpr ⟨mwsL_law_r6_11, (List.forall_mem_cons.mpr ⟨mwsL_law_r6_12, (List.forall_mem_cons.mpr ⟨mwsL_law_r6_13, (List.forall_mem_cons.mpr ⟨mwsL_law_r6_14, (List.forall_mem_cons.mpr ⟨mwsL_law_r6_15, (List.forall_mem_cons.mpr ⟨mwsL_law_r1_12, (List.forall_mem_cons.mpr ⟨mwsL_law_r6_16, (List.forall_mem_cons.mpr ⟨mwsL_law_r2_13, (List.forall_mem_cons.mpr ⟨mwsL_law_r6_17, (List.forall_mem_cons.mpr ⟨mwsL_law_r6_18, (List.forall_mem_cons.mpr ⟨mwsL_law_r6_19, (List.forall_mem_cons.mpr ⟨mwsL_law_r2_0, (List.forall_mem_cons.mpr ⟨mwsL_law_r6_20, (List.forall_mem_cons.mpr ⟨mwsL_law_r2_23, (List.forall_mem_cons.mpr ⟨mwsL_law_r3_2, (List.forall_mem_cons.mpr ⟨mwsL_law_r6_21, (List.forall_mem_cons.mpr ⟨mwsL_law_r6_22, (List.forall_mem_cons.mpr ⟨mwsL_law_r6_23, (List.forall_mem_cons.mpr ⟨mwsL_law_r7_0, (List.forall_mem_cons.mpr ⟨mwsL_law_r3_0, (List.forall_mem_cons.mpr ⟨mwsL_law_r3_1, (fun _ h => nomatch h)⟩)⟩)⟩)⟩)⟩)⟩)⟩)⟩)⟩)⟩)⟩)⟩)⟩)⟩)⟩)⟩)⟩)⟩)⟩)⟩)⟩)⟩) (by decide +kernel))))) (goodIn_sub (fun _ h => List.mem_append_left _ (List.mem_append_left _ (List.mem_append_left _ (List.mem_append_left _ (List.mem_append_left _ (List.mem_append_left _ (List.mem_append_left _ (List.mem_append_left _ (List.mem_append_right _ (h)))))))))) (by decide +kernel))) (goodIn_sub (fun _ h => List.mem_append_left _ (List.mem_append_left _ (List.mem_append_left _ (List.mem_append_left _ (List.mem_append_left _ (List.mem_append_left _ (List.mem_append_left _ (List.mem_append_right _ (h))))))))) (by decide +kernel))) (goodIn_sub (fun _ h => List.mem_append_left _ (List.mem_append_left _ (List.mem_append_left _ (List.mem_append_left _ (List.mem_append_right _ (h)))))) (by decide +kernel))) (goodIn_sub (fun _ h => List.mem_append_left _ (List.mem_append_left _ (List.mem_append_left _ (List.mem_append_left _ (List.mem_append_left _ (List.mem_append_right _ (h))))))) (by decide +kernel))) (goodIn_sub (fun _ h => List.mem_append_left _ (List.mem_append_left _ (List.mem_append_right _ (h)))) (by decide +kernel))) (goodIn_sub (fun _ h => List.mem_append_left _ (List.mem_append_right _ (h))) (by decide +kernel))))
set_option maxRecDepth 20000 in
theorem gL_law_L_isPublisher : GoodIn wsL_law (va_wsS RL 128 yL_isPublisher wsL_isPublisher) := goodIn_app (goodIn_of _ (by decide +kernel)) ggL_law_L_isPublisher
theorem mwsL_law_r7_3 : Cond.code yL_areSubscribers cL_areSubscribers 14 (some .boolean) ∈ wsL_law := inwsL_law_wsL_law0_r7 _ (List.mem_of_getElem? (i := 3) rfl)
set_option maxRecDepth 20000 in
theorem ggL_law_L_areSubscribers : GoodIn wsL_law wsL_areSubscribers := (goodIn_c (goodIn_sub (ws := [.code yL_areSubscribers cL_areSubscribers 14 (some .boolean)]) (List.forall_mem_cons.mpr ⟨mwsL_law_r7_3, fun _ h => nomatch h⟩) (by decide +kernel)) (goodIn_app (goodIn_app (goodIn_app (goodIn_app (goodIn_app (goodIn_app (goodIn_app (goodIn_sub (ws := wsL_areSubscribers_r1) (List.forall_mem_cons.mpr ⟨mwsL_law_r3_21, (List.forall_mem_cons.mpr ⟨mwsL_law_r3_22, (List.forall_mem_cons.mpr ⟨mwsL_law_r3_15, (List.forall_mem_cons.mpr ⟨mwsL_law_r3_23, (List.forall_mem_cons.mpr ⟨mwsL_law_r4_0, (List.forall_mem_cons.mpr ⟨mwsL_law_r4_1, (List.forall_mem_cons.mpr ⟨mwsL_law_r4_2, (List.forall_mem_cons.mpr ⟨mwsL_law_r4_3, (List.forall_mem_cons.mpr ⟨mwsL_law_r4_4, (List.forall_mem_cons.mpr ⟨mwsL_law_r1_2, (List.forall_mem_cons.mpr ⟨mwsL_law_r4_5, (List.forall_mem_cons.mpr ⟨mwsL_law_r1_13, (List.forall_mem_cons.mpr ⟨mwsL_law_r4_6, (List.forall_mem_cons.mpr ⟨mwsL_law_r4_7, (List.forall_mem_cons.mpr ⟨mwsL_law_r4_8, (List.forall_mem_cons.mpr ⟨mwsL_law_r4_9, (List.forall_mem_cons.mpr ⟨mwsL_law_r4_10, (List.forall_mem_cons.mpr ⟨mwsL_law_r4_11, (List.forall_mem_cons.mpr ⟨mwsL_law_r4_12, (List.forall_mem_cons.mpr ⟨mwsL_law_r4_13, (List.forall_mem_cons.mpr ⟨mwsL_law_r4_14, (List.forall_mem_cons.mpr ⟨mwsL_law_r4_15, (List.forall_mem_cons.mpr ⟨mwsL_law_r4_16, (List.forall_mem_cons.mpr ⟨mwsL_law_r4_17, (fun _ h => nomatch h)⟩)⟩)⟩)⟩)⟩)⟩)⟩)⟩)⟩)⟩)⟩)⟩)⟩)⟩)⟩)⟩)⟩)⟩)⟩)⟩)⟩)⟩)⟩)⟩) (by decide +kernel)) (goodIn_app (goodIn_sub (ws := wsL_areSubscribers_r2) (List.forall_mem_cons.mpr ⟨mwsL_law_r4_18, (List.forall_mem_cons.mpr ⟨mwsL_law_r4_19, (List.forall_mem_cons.mpr ⟨mwsL_law_r4_20, (List.forall_mem_cons.mpr ⟨mwsL_law_r4_21, (List.forall_mem_cons.mpr ⟨mwsL_law_r4_22, (List.forall_mem_cons.mpr ⟨mwsL_law_r4_23, (List.forall_mem_cons.mpr ⟨mwsL_law_r5_0, (List.forall_mem_cons.mpr ⟨mwsL_law_r5_1, (List.forall_mem_cons.mpr ⟨mwsL_law_r5_2, (List.forall_mem_cons.mpr ⟨mwsL_law_r1_17, (List.forall_mem_cons.mpr ⟨mwsL_law_r5_3, (List.forall_mem_cons.mpr ⟨mwsL_law_r5_4, (List.forall_mem_cons.mpr ⟨mwsL_law_r5_5, (List.forall_mem_cons.mpr ⟨mwsL_law_r5_6, (List.forall_mem_cons.mpr ⟨mwsL_law_r5_7, (List.forall_mem_cons.mpr ⟨mwsL_law_r5_8, (List.forall_mem_cons.mpr ⟨mwsL_law_r5_9, (List.forall_mem_cons.mpr ⟨mwsL_law_r5_10, (List.forall_mem_cons.mpr ⟨mwsL_law_r5_11, (List.forall_mem_cons.mpr ⟨mwsL_law_r5_12, (List.forall_mem_cons.mpr ⟨mwsL_law_r2_2, (List.forall_mem_cons.mpr ⟨mwsL_law_r5_13, (List.forall_mem_cons.mpr ⟨mwsL_law_r3_12, (List.forall_mem_cons.mpr ⟨mwsL_law_r5_14, (fun _ h => nomatch h)⟩)⟩)⟩)⟩)⟩)⟩)⟩)⟩)⟩)⟩)⟩)⟩)⟩)⟩)⟩)⟩)⟩)⟩)⟩)⟩)⟩)⟩)⟩)⟩) (by decide +kernel)) (goodIn_app (goodIn_sub (ws := wsL_areSubscribers_r3) (List.forall_mem_cons.mpr ⟨mwsL_law_r5_15, (List.forall_mem_cons.mpr ⟨mwsL_law_r5_16, (List.forall_mem_cons.mpr ⟨mwsL_law_r5_17, (List.forall_mem_cons.mpr ⟨mwsL_law_r3_11, (List.forall_mem_cons.mpr ⟨mwsL_law_r5_18, (List.forall_mem_cons.mpr ⟨mwsL_law_r5_19, (List.forall_mem_cons.mpr ⟨mwsL_law_r5_20, (List.forall_mem_cons.mpr ⟨mwsL_law_r5_21, (List.forall_mem_cons.mpr ⟨mwsL_law_r5_22, (List.forall_mem_cons.mpr ⟨mwsL_law_r5_23, (List.forall_mem_cons.mpr ⟨mwsL_law_r6_0, (List.forall_mem_cons.mpr ⟨mwsL_law_r6_1, (List.forall_mem_cons.mpr ⟨mwsL_law_r6_2, (List.forall_mem_cons.mpr ⟨mwsL_law_r6_3, (List.forall_mem_cons.mpr ⟨mwsL_law_r6_4, (List.forall_mem_cons.mpr ⟨mwsL_law_r6_5, (List.forall_mem_cons.mpr ⟨mwsL_law_r6_6, (List.forall_mem_cons.mpr ⟨mwsL_law_r6_7, (List.forall_mem_cons.mpr ⟨mwsL_law_r6_8, (List.forall_mem_cons.mpr ⟨mwsL_law_r6_9, (List.forall_mem_cons.mpr ⟨mwsL_law_r6_10, (List.forall_mem_cons.mpr ⟨mwsL_law_r6_11, (List.forall_mem_cons.mpr ⟨mwsL_law_r6_12, (List.forall_mem_cons.mpr ⟨mwsL_law_r6_13, (fun _ h => nomatch h)⟩)⟩)⟩)⟩)⟩)⟩)⟩)⟩)⟩)⟩)⟩)⟩)⟩)⟩)⟩)⟩)⟩)⟩)⟩)⟩)⟩)⟩)⟩)⟩) (by decide +kernel)) (goodIn_sub (ws := wsL_areSubscribers_r4) (List.forall_mem_cons.mpr ⟨mwsL_law_r6_14, (List.forall_mem_cons.mpr ⟨mwsL_law_r6_15, (List.forall_mem_cons.mpr ⟨mwsL_law_r1_12, (List.forall_mem_cons.mpr ⟨mwsL_law_r6_16, (List.forall_mem_cons.mpr ⟨mwsL_law_r2_13, (List.forall_mem_cons.mpr ⟨mwsL_law_r6_17, (List.forall_mem_cons.mpr ⟨mwsL_law_r6_18, (List.forall_mem_cons.mpr ⟨mwsL_law_r6_19, (List.forall_mem_cons.mpr ⟨mwsL_law_r2_0, (List.forall_mem_cons.mpr ⟨mwsL_law_r6_20, (List.forall_mem_cons.mpr ⟨mwsL_law_r2_23, (List.forall_mem_cons.mpr ⟨mwsL_law_r3_2, (List.forall_mem_cons.mpr ⟨mwsL_law_r6_21, (List.forall_mem_cons.mpr ⟨mwsL_law_r6_22, (List.forall_mem_cons.mpr ⟨mwsL_law_r6_23, (List.forall_mem_cons.mpr ⟨mwsL_law_r7_0, (List.forall_mem_cons.mpr ⟨mwsL_law_r3_0, (List.forall_mem_cons.mpr ⟨mwsL_law_r3_1, (fun _ h => nomatch h)⟩)⟩)⟩)⟩)⟩)⟩)⟩)⟩)⟩)⟩)⟩)⟩)⟩)⟩)⟩)⟩)⟩)⟩) (by decide +kernel))))) (goodIn_sub (fun _ h => List.mem_append_left _ (List.mem_append_left _ (List.mem_append_left _ (List.mem_append_left _ (List.mem_append_left _ (List.mem_append_left _ (List.mem_append_left _ (List.mem_append_left _ (List.mem_append_right _ (h)))))))))) (by decide +kernel))) (goodIn_sub (fun _ h => List.mem_append_left _ (List.mem_append_left _ (List.mem_append_left _ (List.mem_append_left _ (List.mem_append_left _ (List.mem_append_left _ (List.mem_append_left _ (List.mem_append_right _ (h))))))))) (by decide +kernel))) (goodIn_sub (fun _ h => List.mem_append_left _ (List.mem_append_left _ (List.mem_append_left _ (List.mem_append_left _ (List.mem_append_right _ (h)))))) (by decide +kernel))) (goodIn_sub (fun _ h => List.mem_append_left _ (List.mem_append_left _ (List.mem_append_left _ (List.mem_append_left _ (List.mem_append_left _ (List.mem_append_right _ (h))))))) (by decide +kernel))) (goodIn_sub (fun _ h => List.mem_append_left _ (List.mem_append_left _ (List.mem_append_right _ (h)))) (by decide +kernel))) (goodIn_sub (fun _ h => List.mem_append_left _ (List.mem_append_right _ (h))) (by decide +kernel))))
set_option maxRecDepth 20000 in
theorem gL_law_L_areSubscribers : GoodIn wsL_law (va_wsS RL 132 yL_areSubscribers wsL_areSubscribers) := goodIn_app (goodIn_of _ (by decide +kernel)) ggL_law_L_areSubscribers
theorem mwsL_law_r7_6 : Cond.code yL_isDone cL_isDone 18 (some .boolean) ∈ wsL_law := inwsL_law_wsL_law0_r7 _ (List.mem_of_getElem? (i := 6) rfl)
theorem mwsL_law_r7_21 : Cond.code yX4_put cX4_put 7 (some .boolean) ∈ wsL_law := inwsL_law_wsL_law0_r7 _ (List.mem_of_getElem? (i := 21) rfl)
theorem mwsL_law_r7_20 : Cond.selects RX4 yX4_put yX4_put ∈ wsL_law := inwsL_law_wsL_law0_r7 _ (List.mem_of_getElem? (i := 20) rfl)
theorem mwsL_law_r7_19 : Cond.instanceMethod yX4_put ∈ wsL_law := inwsL_law_wsL_law0_r7 _ (List.mem_of_getElem? (i := 19) rfl)
theorem mwsL_law_r7_18 : Cond.methodLink RL 14 yX4_put ∈ wsL_law := inwsL_law_wsL_law0_r7 _ (List.mem_of_getElem? (i := 18) rfl)
theorem mwsL_law_r7_17 : Cond.classLink RL 66 "java/lang/IllegalArgumentException" ∈ wsL_law := inwsL_law_wsL_law0_r7 _ (List.mem_of_getElem? (i := 17) rfl)
theorem mwsL_law_r7_16 : Cond.codeWith yL_does cL_does 8 (some .int) [(0, 217, 218, 64), (0, 217, 223, 66), (0, 217, 228, 68)] ∈ wsL_law := inwsL_law_wsL_law0_r7 _ (List.mem_of_getElem? (i := 16) rfl)
theorem mwsL_law_r7_15 : Cond.static yL_does ∈ wsL_law := inwsL_law_wsL_law0_r7 _ (List.mem_of_getElem? (i := 15) rfl)
theorem mwsL_law_r7_14 : Cond.methodLink RL 97 yL_does ∈ wsL_law := inwsL_law_wsL_law0_r7 _ (List.mem_of_getElem? (i := 14) rfl)
theorem mwsL_law_r7_13 : Cond.code yL_isChange cL_isChange 16 (some .boolean) ∈ wsL_law := inwsL_law_wsL_law0_r7 _ (List.mem_of_getElem? (i := 13) rfl)
theorem mwsL_law_r7_12 : Cond.static yL_isChange ∈ wsL_law := inwsL_law_wsL_law0_r7 _ (List.mem_of_getElem? (i := 12) rfl)
theorem mwsL_law_r7_11 : Cond.methodLink RL 105 yL_isChange ∈ wsL_law := inwsL_law_wsL_law0_r7 _ (List.mem_of_getElem? (i := 11) rfl)
theorem mwsL_law_r7_10 : Cond.constant RL 7 (2147483647) ∈ wsL_law := inwsL_law_wsL_law0_r7 _ (List.mem_of_getElem? (i := 10) rfl)
theorem mwsL_law_r7_9 : Cond.code yL_part cL_part 4 (some .int) ∈ wsL_law := inwsL_law_wsL_law0_r7 _ (List.mem_of_getElem? (i := 9) rfl)
theorem mwsL_law_r7_8 : Cond.static yL_part ∈ wsL_law := inwsL_law_wsL_law0_r7 _ (List.mem_of_getElem? (i := 8) rfl)
theorem mwsL_law_r7_7 : Cond.methodLink RL 101 yL_part ∈ wsL_law := inwsL_law_wsL_law0_r7 _ (List.mem_of_getElem? (i := 7) rfl)
theorem inwsL_law_wsL_law0_r8 : ∀ w ∈ wsL_law0_r8, w ∈ wsL_law := fun _ h => List.mem_append_left _ (List.mem_append_left _ (List.mem_append_left _ (List.mem_append_left _ (List.mem_append_left _ (List.mem_append_left _ (List.mem_append_left _ (List.mem_append_left _ (List.mem_append_left _ (List.mem_append_right _ (List.mem_append_right _ (List.mem_append_right _ (List.mem_append_right _ (List.mem_append_right _ (List.mem_append_right _ (List.mem_append_right _ (List.mem_append_left _ (h)))))))))))))))))
theorem mwsL_law_r8_10 : Cond.code yX1_openChanges cX1_openChanges 1 (some .int) ∈ wsL_law := inwsL_law_wsL_law0_r8 _ (List.mem_of_getElem? (i := 10) rfl)
theorem mwsL_law_r8_9 : Cond.selects RX1 yX1_openChanges yX1_openChanges ∈ wsL_law := inwsL_law_wsL_law0_r8 _ (List.mem_of_getElem? (i := 9) rfl)
theorem mwsL_law_r8_8 : Cond.instanceMethod yX1_openChanges ∈ wsL_law := inwsL_law_wsL_law0_r8 _ (List.mem_of_getElem? (i := 8) rfl)
theorem mwsL_law_r8_7 : Cond.methodLink RX4 90 yX1_openChanges ∈ wsL_law := inwsL_law_wsL_law0_r8 _ (List.mem_of_getElem? (i := 7) rfl)
theorem mwsL_law_r8_6 : Cond.code yX4_checkRoomForChange cX4_checkRoomForChange 1 none ∈ wsL_law := inwsL_law_wsL_law0_r8 _ (List.mem_of_getElem? (i := 6) rfl)
theorem mwsL_law_r8_5 : Cond.selects RX4 yX4_checkRoomForChange yX4_checkRoomForChange ∈ wsL_law := inwsL_law_wsL_law0_r8 _ (List.mem_of_getElem? (i := 5) rfl)
theorem mwsL_law_r8_4 : Cond.instanceMethod yX4_checkRoomForChange ∈ wsL_law := inwsL_law_wsL_law0_r8 _ (List.mem_of_getElem? (i := 4) rfl)
theorem mwsL_law_r8_3 : Cond.methodLink RX4 49 yX4_checkRoomForChange ∈ wsL_law := inwsL_law_wsL_law0_r8 _ (List.mem_of_getElem? (i := 3) rfl)
theorem mwsL_law_r8_2 : Cond.initialized "java/lang/IllegalArgumentException" ∈ wsL_law := inwsL_law_wsL_law0_r8 _ (List.mem_of_getElem? (i := 2) rfl)
theorem mwsL_law_r8_1 : Cond.classLink RX4 102 "java/lang/IllegalArgumentException" ∈ wsL_law := inwsL_law_wsL_law0_r8 _ (List.mem_of_getElem? (i := 1) rfl)
theorem mwsL_law_r8_0 : Cond.code yX4_checkNumber cX4_checkNumber 1 none ∈ wsL_law := inwsL_law_wsL_law0_r8 _ (List.mem_of_getElem? (i := 0) rfl)
theorem mwsL_law_r7_23 : Cond.static yX4_checkNumber ∈ wsL_law := inwsL_law_wsL_law0_r7 _ (List.mem_of_getElem? (i := 23) rfl)
theorem mwsL_law_r7_22 : Cond.methodLink RX4 45 yX4_checkNumber ∈ wsL_law := inwsL_law_wsL_law0_r7 _ (List.mem_of_getElem? (i := 22) rfl)
theorem inwsL_law_wsL_law0_r9 : ∀ w ∈ wsL_law0_r9, w ∈ wsL_law := fun _ h => List.mem_append_left _ (List.mem_append_left _ (List.mem_append_left _ (List.mem_append_left _ (List.mem_append_left _ (List.mem_append_left _ (List.mem_append_left _ (List.mem_append_left _ (List.mem_append_left _ (List.mem_append_right _ (List.mem_append_right _ (List.mem_append_right _ (List.mem_append_right _ (List.mem_append_right _ (List.mem_append_right _ (List.mem_append_right _ (List.mem_append_right _ (List.mem_append_left _ (h))))))))))))))))))
theorem mwsL_law_r9_5 : Cond.methodLink RL 28 yX4_commit ∈ wsL_law := inwsL_law_wsL_law0_r9 _ (List.mem_of_getElem? (i := 5) rfl)
theorem mwsL_law_r9_4 : Cond.code yX4_truncate cX4_truncate 4 (some .int) ∈ wsL_law := inwsL_law_wsL_law0_r9 _ (List.mem_of_getElem? (i := 4) rfl)
theorem mwsL_law_r9_3 : Cond.selects RX4 yX4_truncate yX4_truncate ∈ wsL_law := inwsL_law_wsL_law0_r9 _ (List.mem_of_getElem? (i := 3) rfl)
theorem mwsL_law_r9_2 : Cond.instanceMethod yX4_truncate ∈ wsL_law := inwsL_law_wsL_law0_r9 _ (List.mem_of_getElem? (i := 2) rfl)
theorem mwsL_law_r9_1 : Cond.methodLink RL 24 yX4_truncate ∈ wsL_law := inwsL_law_wsL_law0_r9 _ (List.mem_of_getElem? (i := 1) rfl)
theorem mwsL_law_r9_0 : Cond.code yX4_take cX4_take 3 none ∈ wsL_law := inwsL_law_wsL_law0_r9 _ (List.mem_of_getElem? (i := 0) rfl)
theorem mwsL_law_r8_23 : Cond.selects RX4 yX4_take yX4_take ∈ wsL_law := inwsL_law_wsL_law0_r8 _ (List.mem_of_getElem? (i := 23) rfl)
theorem mwsL_law_r8_22 : Cond.instanceMethod yX4_take ∈ wsL_law := inwsL_law_wsL_law0_r8 _ (List.mem_of_getElem? (i := 22) rfl)
theorem mwsL_law_r8_21 : Cond.methodLink RL 8 yX4_take ∈ wsL_law := inwsL_law_wsL_law0_r8 _ (List.mem_of_getElem? (i := 21) rfl)
theorem mwsL_law_r8_20 : Cond.code yL_takes cL_takes 3 (some .int) ∈ wsL_law := inwsL_law_wsL_law0_r8 _ (List.mem_of_getElem? (i := 20) rfl)
theorem mwsL_law_r8_19 : Cond.static yL_takes ∈ wsL_law := inwsL_law_wsL_law0_r8 _ (List.mem_of_getElem? (i := 19) rfl)
theorem mwsL_law_r8_18 : Cond.methodLink RL 18 yL_takes ∈ wsL_law := inwsL_law_wsL_law0_r8 _ (List.mem_of_getElem? (i := 18) rfl)
theorem mwsL_law_r8_17 : Cond.code yX1_change cX1_change 8 none ∈ wsL_law := inwsL_law_wsL_law0_r8 _ (List.mem_of_getElem? (i := 17) rfl)
theorem mwsL_law_r8_16 : Cond.selects RX1 yX1_change yX1_change ∈ wsL_law := inwsL_law_wsL_law0_r8 _ (List.mem_of_getElem? (i := 16) rfl)
theorem mwsL_law_r8_15 : Cond.instanceMethod yX1_change ∈ wsL_law := inwsL_law_wsL_law0_r8 _ (List.mem_of_getElem? (i := 15) rfl)
theorem mwsL_law_r8_14 : Cond.methodLink RX4 64 yX1_change ∈ wsL_law := inwsL_law_wsL_law0_r8 _ (List.mem_of_getElem? (i := 14) rfl)
theorem mwsL_law_r8_13 : Cond.code yX4_rowOf cX4_rowOf 3 (some .int) ∈ wsL_law := inwsL_law_wsL_law0_r8 _ (List.mem_of_getElem? (i := 13) rfl)
theorem mwsL_law_r8_12 : Cond.static yX4_rowOf ∈ wsL_law := inwsL_law_wsL_law0_r8 _ (List.mem_of_getElem? (i := 12) rfl)
theorem mwsL_law_r8_11 : Cond.methodLink RX4 60 yX4_rowOf ∈ wsL_law := inwsL_law_wsL_law0_r8 _ (List.mem_of_getElem? (i := 11) rfl)
theorem mwsL_law_r9_20 : Cond.code yX4_cutLaggards cX4_cutLaggards 3 (some .int) ∈ wsL_law := inwsL_law_wsL_law0_r9 _ (List.mem_of_getElem? (i := 20) rfl)
theorem mwsL_law_r9_19 : Cond.selects RX4 yX4_cutLaggards yX4_cutLaggards ∈ wsL_law := inwsL_law_wsL_law0_r9 _ (List.mem_of_getElem? (i := 19) rfl)
theorem mwsL_law_r9_18 : Cond.instanceMethod yX4_cutLaggards ∈ wsL_law := inwsL_law_wsL_law0_r9 _ (List.mem_of_getElem? (i := 18) rfl)
theorem mwsL_law_r9_17 : Cond.methodLink RX4 86 yX4_cutLaggards ∈ wsL_law := inwsL_law_wsL_law0_r9 _ (List.mem_of_getElem? (i := 17) rfl)
theorem mwsL_law_r9_16 : Cond.initialized "java/lang/System" ∈ wsL_law := inwsL_law_wsL_law0_r9 _ (List.mem_of_getElem? (i := 16) rfl)
theorem mwsL_law_r9_15 : Cond.static arraycopyName ∈ wsL_law := inwsL_law_wsL_law0_r9 _ (List.mem_of_getElem? (i := 15) rfl)
theorem mwsL_law_r9_14 : Cond.native arraycopyName ∈ wsL_law := inwsL_law_wsL_law0_r9 _ (List.mem_of_getElem? (i := 14) rfl)
theorem mwsL_law_r9_13 : Cond.methodLink RX1 38 arraycopyName ∈ wsL_law := inwsL_law_wsL_law0_r9 _ (List.mem_of_getElem? (i := 13) rfl)
theorem mwsL_law_r9_12 : Cond.code yX1_close cX1_close 1 none ∈ wsL_law := inwsL_law_wsL_law0_r9 _ (List.mem_of_getElem? (i := 12) rfl)
theorem mwsL_law_r9_11 : Cond.selects RX1 yX1_close yX1_close ∈ wsL_law := inwsL_law_wsL_law0_r9 _ (List.mem_of_getElem? (i := 11) rfl)
theorem mwsL_law_r9_10 : Cond.instanceMethod yX1_close ∈ wsL_law := inwsL_law_wsL_law0_r9 _ (List.mem_of_getElem? (i := 10) rfl)
theorem mwsL_law_r9_9 : Cond.methodLink RX4 83 yX1_close ∈ wsL_law := inwsL_law_wsL_law0_r9 _ (List.mem_of_getElem? (i := 9) rfl)
theorem mwsL_law_r9_8 : Cond.code yX4_commit cX4_commit 1 (some .int) ∈ wsL_law := inwsL_law_wsL_law0_r9 _ (List.mem_of_getElem? (i := 8) rfl)
theorem mwsL_law_r9_7 : Cond.selects RX4 yX4_commit yX4_commit ∈ wsL_law := inwsL_law_wsL_law0_r9 _ (List.mem_of_getElem? (i := 7) rfl)
theorem mwsL_law_r9_6 : Cond.instanceMethod yX4_commit ∈ wsL_law := inwsL_law_wsL_law0_r9 _ (List.mem_of_getElem? (i := 6) rfl)
theorem inwsL_law_wsL_law0_r10 : ∀ w ∈ wsL_law0_r10, w ∈ wsL_law := fun _ h => List.mem_append_left _ (List.mem_append_left _ (List.mem_append_left _ (List.mem_append_left _ (List.mem_append_left _ (List.mem_append_left _ (List.mem_append_left _ (List.mem_append_left _ (List.mem_append_left _ (List.mem_append_right _ (List.mem_append_right _ (List.mem_append_right _ (List.mem_append_right _ (List.mem_append_right _ (List.mem_append_right _ (List.mem_append_right _ (List.mem_append_right _ (List.mem_append_right _ (List.mem_append_left _ (h)))))))))))))))))))
theorem mwsL_law_r10_11 : Cond.code yX4_forgetCopies cX4_forgetCopies 6 (some .int) ∈ wsL_law := inwsL_law_wsL_law0_r10 _ (List.mem_of_getElem? (i := 11) rfl)
theorem mwsL_law_r10_10 : Cond.selects RX4 yX4_forgetCopies yX4_forgetCopies ∈ wsL_law := inwsL_law_wsL_law0_r10 _ (List.mem_of_getElem? (i := 10) rfl)
theorem mwsL_law_r10_9 : Cond.instanceMethod yX4_forgetCopies ∈ wsL_law := inwsL_law_wsL_law0_r10 _ (List.mem_of_getElem? (i := 9) rfl)
theorem mwsL_law_r10_8 : Cond.methodLink RX4 121 yX4_forgetCopies ∈ wsL_law := inwsL_law_wsL_law0_r10 _ (List.mem_of_getElem? (i := 8) rfl)
theorem mwsL_law_r10_7 : Cond.code yX4_checkPublication cX4_checkPublication 1 none ∈ wsL_law := inwsL_law_wsL_law0_r10 _ (List.mem_of_getElem? (i := 7) rfl)
theorem mwsL_law_r10_6 : Cond.static yX4_checkPublication ∈ wsL_law := inwsL_law_wsL_law0_r10 _ (List.mem_of_getElem? (i := 6) rfl)
theorem mwsL_law_r10_5 : Cond.methodLink RX4 107 yX4_checkPublication ∈ wsL_law := inwsL_law_wsL_law0_r10 _ (List.mem_of_getElem? (i := 5) rfl)
theorem mwsL_law_r10_4 : Cond.code yX4_setCondition cX4_setCondition 7 (some .int) ∈ wsL_law := inwsL_law_wsL_law0_r10 _ (List.mem_of_getElem? (i := 4) rfl)
theorem mwsL_law_r10_3 : Cond.selects RX4 yX4_setCondition yX4_setCondition ∈ wsL_law := inwsL_law_wsL_law0_r10 _ (List.mem_of_getElem? (i := 3) rfl)
theorem mwsL_law_r10_2 : Cond.instanceMethod yX4_setCondition ∈ wsL_law := inwsL_law_wsL_law0_r10 _ (List.mem_of_getElem? (i := 2) rfl)
theorem mwsL_law_r10_1 : Cond.methodLink RL 35 yX4_setCondition ∈ wsL_law := inwsL_law_wsL_law0_r10 _ (List.mem_of_getElem? (i := 1) rfl)
theorem mwsL_law_r10_0 : Cond.code yX4_setLimit cX4_setLimit 2 (some .int) ∈ wsL_law := inwsL_law_wsL_law0_r10 _ (List.mem_of_getElem? (i := 0) rfl)
theorem mwsL_law_r9_23 : Cond.selects RX4 yX4_setLimit yX4_setLimit ∈ wsL_law := inwsL_law_wsL_law0_r9 _ (List.mem_of_getElem? (i := 23) rfl)
theorem mwsL_law_r9_22 : Cond.instanceMethod yX4_setLimit ∈ wsL_law := inwsL_law_wsL_law0_r9 _ (List.mem_of_getElem? (i := 22) rfl)
theorem mwsL_law_r9_21 : Cond.methodLink RL 32 yX4_setLimit ∈ wsL_law := inwsL_law_wsL_law0_r9 _ (List.mem_of_getElem? (i := 21) rfl)
theorem inwsL_law_wsL_law0_r11 : ∀ w ∈ wsL_law0_r11, w ∈ wsL_law := fun _ h => List.mem_append_left _ (List.mem_append_left _ (List.mem_append_left _ (List.mem_append_left _ (List.mem_append_left _ (List.mem_append_left _ (List.mem_append_left _ (List.mem_append_left _ (List.mem_append_left _ (List.mem_append_right _ (List.mem_append_right _ (List.mem_append_right _ (List.mem_append_right _ (List.mem_append_right _ (List.mem_append_right _ (List.mem_append_right _ (List.mem_append_right _ (List.mem_append_right _ (List.mem_append_right _ (List.mem_append_left _ (h))))))))))))))))))))
theorem mwsL_law_r11_6 : Cond.code yX2_forgetTables cX2_forgetTables 2 none ∈ wsL_law := inwsL_law_wsL_law0_r11 _ (List.mem_of_getElem? (i := 6) rfl)
theorem mwsL_law_r11_5 : Cond.selects RX2 yX2_forgetTables yX2_forgetTables ∈ wsL_law := inwsL_law_wsL_law0_r11 _ (List.mem_of_getElem? (i := 5) rfl)
theorem mwsL_law_r11_4 : Cond.instanceMethod yX2_forgetTables ∈ wsL_law := inwsL_law_wsL_law0_r11 _ (List.mem_of_getElem? (i := 4) rfl)
theorem mwsL_law_r11_3 : Cond.methodLink RX2 29 yX2_forgetTables ∈ wsL_law := inwsL_law_wsL_law0_r11 _ (List.mem_of_getElem? (i := 3) rfl)
theorem mwsL_law_r11_2 : Cond.code yX2_follow cX2_follow 3 none ∈ wsL_law := inwsL_law_wsL_law0_r11 _ (List.mem_of_getElem? (i := 2) rfl)
theorem mwsL_law_r11_1 : Cond.selects RX2 yX2_follow yX2_follow ∈ wsL_law := inwsL_law_wsL_law0_r11 _ (List.mem_of_getElem? (i := 1) rfl)
theorem mwsL_law_r11_0 : Cond.instanceMethod yX2_follow ∈ wsL_law := inwsL_law_wsL_law0_r11 _ (List.mem_of_getElem? (i := 0) rfl)
theorem mwsL_law_r10_23 : Cond.methodLink RX4 140 yX2_follow ∈ wsL_law := inwsL_law_wsL_law0_r10 _ (List.mem_of_getElem? (i := 23) rfl)
theorem mwsL_law_r10_22 : Cond.code yX4_subscribe cX4_subscribe 5 (some .int) ∈ wsL_law := inwsL_law_wsL_law0_r10 _ (List.mem_of_getElem? (i := 22) rfl)
theorem mwsL_law_r10_21 : Cond.selects RX4 yX4_subscribe yX4_subscribe ∈ wsL_law := inwsL_law_wsL_law0_r10 _ (List.mem_of_getElem? (i := 21) rfl)
theorem mwsL_law_r10_20 : Cond.instanceMethod yX4_subscribe ∈ wsL_law := inwsL_law_wsL_law0_r10 _ (List.mem_of_getElem? (i := 20) rfl)
theorem mwsL_law_r10_19 : Cond.methodLink RL 43 yX4_subscribe ∈ wsL_law := inwsL_law_wsL_law0_r10 _ (List.mem_of_getElem? (i := 19) rfl)
theorem mwsL_law_r10_18 : Cond.code yX4_maskOf cX4_maskOf 3 (some .int) ∈ wsL_law := inwsL_law_wsL_law0_r10 _ (List.mem_of_getElem? (i := 18) rfl)
theorem mwsL_law_r10_17 : Cond.static yX4_maskOf ∈ wsL_law := inwsL_law_wsL_law0_r10 _ (List.mem_of_getElem? (i := 17) rfl)
theorem mwsL_law_r10_16 : Cond.methodLink RX4 130 yX4_maskOf ∈ wsL_law := inwsL_law_wsL_law0_r10 _ (List.mem_of_getElem? (i := 16) rfl)
theorem mwsL_law_r10_15 : Cond.code yX4_setColumns cX4_setColumns 5 (some .int) ∈ wsL_law := inwsL_law_wsL_law0_r10 _ (List.mem_of_getElem? (i := 15) rfl)
theorem mwsL_law_r10_14 : Cond.selects RX4 yX4_setColumns yX4_setColumns ∈ wsL_law := inwsL_law_wsL_law0_r10 _ (List.mem_of_getElem? (i := 14) rfl)
theorem mwsL_law_r10_13 : Cond.instanceMethod yX4_setColumns ∈ wsL_law := inwsL_law_wsL_law0_r10 _ (List.mem_of_getElem? (i := 13) rfl)
theorem mwsL_law_r10_12 : Cond.methodLink RL 39 yX4_setColumns ∈ wsL_law := inwsL_law_wsL_law0_r10 _ (List.mem_of_getElem? (i := 12) rfl)
theorem mwsL_law_r11_18 : Cond.code yX4_copy cX4_copy 9 (some .int) ∈ wsL_law := inwsL_law_wsL_law0_r11 _ (List.mem_of_getElem? (i := 18) rfl)
theorem mwsL_law_r11_17 : Cond.selects RX4 yX4_copy yX4_copy ∈ wsL_law := inwsL_law_wsL_law0_r11 _ (List.mem_of_getElem? (i := 17) rfl)
theorem mwsL_law_r11_16 : Cond.instanceMethod yX4_copy ∈ wsL_law := inwsL_law_wsL_law0_r11 _ (List.mem_of_getElem? (i := 16) rfl)
theorem mwsL_law_r11_15 : Cond.methodLink RL 50 yX4_copy ∈ wsL_law := inwsL_law_wsL_law0_r11 _ (List.mem_of_getElem? (i := 15) rfl)
theorem mwsL_law_r11_14 : Cond.code yX2_leave cX2_leave 1 none ∈ wsL_law := inwsL_law_wsL_law0_r11 _ (List.mem_of_getElem? (i := 14) rfl)
theorem mwsL_law_r11_13 : Cond.selects RX2 yX2_leave yX2_leave ∈ wsL_law := inwsL_law_wsL_law0_r11 _ (List.mem_of_getElem? (i := 13) rfl)
theorem mwsL_law_r11_12 : Cond.instanceMethod yX2_leave ∈ wsL_law := inwsL_law_wsL_law0_r11 _ (List.mem_of_getElem? (i := 12) rfl)
theorem mwsL_law_r11_11 : Cond.methodLink RX4 144 yX2_leave ∈ wsL_law := inwsL_law_wsL_law0_r11 _ (List.mem_of_getElem? (i := 11) rfl)
theorem mwsL_law_r11_10 : Cond.code yX4_drop cX4_drop 4 (some .int) ∈ wsL_law := inwsL_law_wsL_law0_r11 _ (List.mem_of_getElem? (i := 10) rfl)
theorem mwsL_law_r11_9 : Cond.selects RX4 yX4_drop yX4_drop ∈ wsL_law := inwsL_law_wsL_law0_r11 _ (List.mem_of_getElem? (i := 9) rfl)
theorem mwsL_law_r11_8 : Cond.instanceMethod yX4_drop ∈ wsL_law := inwsL_law_wsL_law0_r11 _ (List.mem_of_getElem? (i := 8) rfl)
theorem mwsL_law_r11_7 : Cond.methodLink RL 47 yX4_drop ∈ wsL_law := inwsL_law_wsL_law0_r11 _ (List.mem_of_getElem? (i := 7) rfl)
theorem inwsL_law_wsL_law0_r12 : ∀ w ∈ wsL_law0_r12, w ∈ wsL_law := fun _ h => List.mem_append_left _ (List.mem_append_left _ (List.mem_append_left _ (List.mem_append_left _ (List.mem_append_left _ (List.mem_append_left _ (List.mem_append_left _ (List.mem_append_left _ (List.mem_append_left _ (List.mem_append_right _ (List.mem_append_right _ (List.mem_append_right _ (List.mem_append_right _ (List.mem_append_right _ (List.mem_append_right _ (List.mem_append_right _ (List.mem_append_right _ (List.mem_append_right _ (List.mem_append_right _ (List.mem_append_right _ (List.mem_append_left _ (h)))))))))))))))))))))
theorem mwsL_law_r12_11 : Cond.code yX3_takeAll cX3_takeAll 4 none ∈ wsL_law := inwsL_law_wsL_law0_r12 _ (List.mem_of_getElem? (i := 11) rfl)
theorem mwsL_law_r12_10 : Cond.selects RX3 yX3_takeAll yX3_takeAll ∈ wsL_law := inwsL_law_wsL_law0_r12 _ (List.mem_of_getElem? (i := 10) rfl)
theorem mwsL_law_r12_9 : Cond.instanceMethod yX3_takeAll ∈ wsL_law := inwsL_law_wsL_law0_r12 _ (List.mem_of_getElem? (i := 9) rfl)
theorem mwsL_law_r12_8 : Cond.methodLink RX3 49 yX3_takeAll ∈ wsL_law := inwsL_law_wsL_law0_r12 _ (List.mem_of_getElem? (i := 8) rfl)
theorem mwsL_law_r12_7 : Cond.code yX2_takesChangesOf cX2_takesChangesOf 3 (some .boolean) ∈ wsL_law := inwsL_law_wsL_law0_r12 _ (List.mem_of_getElem? (i := 7) rfl)
theorem mwsL_law_r12_6 : Cond.selects RX2 yX2_takesChangesOf yX2_takesChangesOf ∈ wsL_law := inwsL_law_wsL_law0_r12 _ (List.mem_of_getElem? (i := 6) rfl)
theorem mwsL_law_r12_5 : Cond.instanceMethod yX2_takesChangesOf ∈ wsL_law := inwsL_law_wsL_law0_r12 _ (List.mem_of_getElem? (i := 5) rfl)
theorem mwsL_law_r12_4 : Cond.methodLink RX3 45 yX2_takesChangesOf ∈ wsL_law := inwsL_law_wsL_law0_r12 _ (List.mem_of_getElem? (i := 4) rfl)
theorem mwsL_law_r12_3 : Cond.methodLink RX3 29 arraycopyName ∈ wsL_law := inwsL_law_wsL_law0_r12 _ (List.mem_of_getElem? (i := 3) rfl)
theorem mwsL_law_r12_2 : Cond.code yX3_applies cX3_applies 9 (some .boolean) ∈ wsL_law := inwsL_law_wsL_law0_r12 _ (List.mem_of_getElem? (i := 2) rfl)
theorem mwsL_law_r12_1 : Cond.selects RX3 yX3_applies yX3_applies ∈ wsL_law := inwsL_law_wsL_law0_r12 _ (List.mem_of_getElem? (i := 1) rfl)
theorem mwsL_law_r12_0 : Cond.instanceMethod yX3_applies ∈ wsL_law := inwsL_law_wsL_law0_r12 _ (List.mem_of_getElem? (i := 0) rfl)
theorem mwsL_law_r11_23 : Cond.methodLink RX4 167 yX3_applies ∈ wsL_law := inwsL_law_wsL_law0_r11 _ (List.mem_of_getElem? (i := 23) rfl)
theorem mwsL_law_r11_22 : Cond.code yX4_receive cX4_receive 6 (some .int) ∈ wsL_law := inwsL_law_wsL_law0_r11 _ (List.mem_of_getElem? (i := 22) rfl)
theorem mwsL_law_r11_21 : Cond.selects RX4 yX4_receive yX4_receive ∈ wsL_law := inwsL_law_wsL_law0_r11 _ (List.mem_of_getElem? (i := 21) rfl)
theorem mwsL_law_r11_20 : Cond.instanceMethod yX4_receive ∈ wsL_law := inwsL_law_wsL_law0_r11 _ (List.mem_of_getElem? (i := 20) rfl)
theorem mwsL_law_r11_19 : Cond.methodLink RL 53 yX4_receive ∈ wsL_law := inwsL_law_wsL_law0_r11 _ (List.mem_of_getElem? (i := 19) rfl)
theorem inwsL_law_wsL_law0_r13 : ∀ w ∈ wsL_law0_r13, w ∈ wsL_law := fun _ h => List.mem_append_left _ (List.mem_append_left _ (List.mem_append_left _ (List.mem_append_left _ (List.mem_append_left _ (List.mem_append_left _ (List.mem_append_left _ (List.mem_append_left _ (List.mem_append_left _ (List.mem_append_right _ (List.mem_append_right _ (List.mem_append_right _ (List.mem_append_right _ (List.mem_append_right _ (List.mem_append_right _ (List.mem_append_right _ (List.mem_append_right _ (List.mem_append_right _ (List.mem_append_right _ (List.mem_append_right _ (List.mem_append_right _ (List.mem_append_left _ (h))))))))))))))))))))))
theorem mwsL_law_r13_10 : Cond.instanceMethod yX4_rollBack ∈ wsL_law := inwsL_law_wsL_law0_r13 _ (List.mem_of_getElem? (i := 10) rfl)
theorem mwsL_law_r13_9 : Cond.methodLink RL 113 yX4_rollBack ∈ wsL_law := inwsL_law_wsL_law0_r13 _ (List.mem_of_getElem? (i := 9) rfl)
theorem mwsL_law_r13_8 : Cond.code yL_cuts cL_cuts 4 (some .int) ∈ wsL_law := inwsL_law_wsL_law0_r13 _ (List.mem_of_getElem? (i := 8) rfl)
theorem mwsL_law_r13_7 : Cond.static yL_cuts ∈ wsL_law := inwsL_law_wsL_law0_r13 _ (List.mem_of_getElem? (i := 7) rfl)
theorem mwsL_law_r13_6 : Cond.methodLink RL 109 yL_cuts ∈ wsL_law := inwsL_law_wsL_law0_r13 _ (List.mem_of_getElem? (i := 6) rfl)
theorem mwsL_law_r13_5 : Cond.code yX4_own cX4_own 8 (some .boolean) ∈ wsL_law := inwsL_law_wsL_law0_r13 _ (List.mem_of_getElem? (i := 5) rfl)
theorem mwsL_law_r13_4 : Cond.selects RX4 yX4_own yX4_own ∈ wsL_law := inwsL_law_wsL_law0_r13 _ (List.mem_of_getElem? (i := 4) rfl)
theorem mwsL_law_r13_3 : Cond.instanceMethod yX4_own ∈ wsL_law := inwsL_law_wsL_law0_r13 _ (List.mem_of_getElem? (i := 3) rfl)
theorem mwsL_law_r13_2 : Cond.methodLink RL 60 yX4_own ∈ wsL_law := inwsL_law_wsL_law0_r13 _ (List.mem_of_getElem? (i := 2) rfl)
theorem mwsL_law_r13_1 : Cond.code yX4_goOn cX4_goOn 4 (some .int) ∈ wsL_law := inwsL_law_wsL_law0_r13 _ (List.mem_of_getElem? (i := 1) rfl)
theorem mwsL_law_r13_0 : Cond.selects RX4 yX4_goOn yX4_goOn ∈ wsL_law := inwsL_law_wsL_law0_r13 _ (List.mem_of_getElem? (i := 0) rfl)
theorem mwsL_law_r12_23 : Cond.instanceMethod yX4_goOn ∈ wsL_law := inwsL_law_wsL_law0_r12 _ (List.mem_of_getElem? (i := 23) rfl)
theorem mwsL_law_r12_22 : Cond.methodLink RL 56 yX4_goOn ∈ wsL_law := inwsL_law_wsL_law0_r12 _ (List.mem_of_getElem? (i := 22) rfl)
theorem mwsL_law_r12_21 : Cond.methodLink RX2 36 arraycopyName ∈ wsL_law := inwsL_law_wsL_law0_r12 _ (List.mem_of_getElem? (i := 21) rfl)
theorem mwsL_law_r12_20 : Cond.code yX2_accept cX2_accept 2 none ∈ wsL_law := inwsL_law_wsL_law0_r12 _ (List.mem_of_getElem? (i := 20) rfl)
theorem mwsL_law_r12_19 : Cond.selects RX2 yX2_accept yX2_accept ∈ wsL_law := inwsL_law_wsL_law0_r12 _ (List.mem_of_getElem? (i := 19) rfl)
theorem mwsL_law_r12_18 : Cond.instanceMethod yX2_accept ∈ wsL_law := inwsL_law_wsL_law0_r12 _ (List.mem_of_getElem? (i := 18) rfl)
theorem mwsL_law_r12_17 : Cond.methodLink RX4 172 yX2_accept ∈ wsL_law := inwsL_law_wsL_law0_r12 _ (List.mem_of_getElem? (i := 17) rfl)
theorem mwsL_law_r12_16 : Cond.methodLink RX3 64 yX0_choose ∈ wsL_law := inwsL_law_wsL_law0_r12 _ (List.mem_of_getElem? (i := 16) rfl)
theorem mwsL_law_r12_15 : Cond.code yX3_follows cX3_follows 9 (some .boolean) ∈ wsL_law := inwsL_law_wsL_law0_r12 _ (List.mem_of_getElem? (i := 15) rfl)
theorem mwsL_law_r12_14 : Cond.selects RX3 yX3_follows yX3_follows ∈ wsL_law := inwsL_law_wsL_law0_r12 _ (List.mem_of_getElem? (i := 14) rfl)
theorem mwsL_law_r12_13 : Cond.instanceMethod yX3_follows ∈ wsL_law := inwsL_law_wsL_law0_r12 _ (List.mem_of_getElem? (i := 13) rfl)
theorem mwsL_law_r12_12 : Cond.methodLink RX3 56 yX3_follows ∈ wsL_law := inwsL_law_wsL_law0_r12 _ (List.mem_of_getElem? (i := 12) rfl)
theorem mwsL_law_r13_22 : Cond.code yL_isCopied cL_isCopied 15 (some .boolean) ∈ wsL_law := inwsL_law_wsL_law0_r13 _ (List.mem_of_getElem? (i := 22) rfl)
theorem mwsL_law_r13_21 : Cond.static yL_isCopied ∈ wsL_law := inwsL_law_wsL_law0_r13 _ (List.mem_of_getElem? (i := 21) rfl)
theorem mwsL_law_r13_20 : Cond.methodLink RL 119 yL_isCopied ∈ wsL_law := inwsL_law_wsL_law0_r13 _ (List.mem_of_getElem? (i := 20) rfl)
theorem mwsL_law_r13_19 : Cond.code yL_isBook cL_isBook 13 (some .boolean) ∈ wsL_law := inwsL_law_wsL_law0_r13 _ (List.mem_of_getElem? (i := 19) rfl)
theorem mwsL_law_r13_18 : Cond.static yL_isBook ∈ wsL_law := inwsL_law_wsL_law0_r13 _ (List.mem_of_getElem? (i := 18) rfl)
theorem mwsL_law_r13_17 : Cond.methodLink RL 116 yL_isBook ∈ wsL_law := inwsL_law_wsL_law0_r13 _ (List.mem_of_getElem? (i := 17) rfl)
theorem mwsL_law_r13_16 : Cond.code yX1_undo cX1_undo 1 none ∈ wsL_law := inwsL_law_wsL_law0_r13 _ (List.mem_of_getElem? (i := 16) rfl)
theorem mwsL_law_r13_15 : Cond.selects RX1 yX1_undo yX1_undo ∈ wsL_law := inwsL_law_wsL_law0_r13 _ (List.mem_of_getElem? (i := 15) rfl)
theorem mwsL_law_r13_14 : Cond.instanceMethod yX1_undo ∈ wsL_law := inwsL_law_wsL_law0_r13 _ (List.mem_of_getElem? (i := 14) rfl)
theorem mwsL_law_r13_13 : Cond.methodLink RX4 93 yX1_undo ∈ wsL_law := inwsL_law_wsL_law0_r13 _ (List.mem_of_getElem? (i := 13) rfl)
theorem mwsL_law_r13_12 : Cond.code yX4_rollBack cX4_rollBack 2 (some .int) ∈ wsL_law := inwsL_law_wsL_law0_r13 _ (List.mem_of_getElem? (i := 12) rfl)
theorem mwsL_law_r13_11 : Cond.selects RX4 yX4_rollBack yX4_rollBack ∈ wsL_law := inwsL_law_wsL_law0_r13 _ (List.mem_of_getElem? (i := 11) rfl)
theorem inwsL_law_wsL_law0_r14 : ∀ w ∈ wsL_law0_r14, w ∈ wsL_law := fun _ h => List.mem_append_left _ (List.mem_append_left _ (List.mem_append_left _ (List.mem_append_left _ (List.mem_append_left _ (List.mem_append_left _ (List.mem_append_left _ (List.mem_append_left _ (List.mem_append_left _ (List.mem_append_right _ (List.mem_append_right _ (List.mem_append_right _ (List.mem_append_right _ (List.mem_append_right _ (List.mem_append_right _ (List.mem_append_right _ (List.mem_append_right _ (List.mem_append_right _ (List.mem_append_right _ (List.mem_append_right _ (List.mem_append_right _ (List.mem_append_right _ (h))))))))))))))))))))))
theorem mwsL_law_r14_1 : Cond.code yL_isReceived cL_isReceived 10 (some .boolean) ∈ wsL_law := inwsL_law_wsL_law0_r14 _ (List.mem_of_getElem? (i := 1) rfl)
theorem mwsL_law_r14_0 : Cond.static yL_isReceived ∈ wsL_law := inwsL_law_wsL_law0_r14 _ (List.mem_of_getElem? (i := 0) rfl)
theorem mwsL_law_r13_23 : Cond.methodLink RL 123 yL_isReceived ∈ wsL_law := inwsL_law_wsL_law0_r13 _ (List.mem_of_getElem? (i := 23) rfl)
set_option maxRecDepth 20000 in
theorem ggL_law_L_isDone : GoodIn wsL_law wsL_isDone := (goodIn_c (goodIn_sub (ws := [.code yL_isDone cL_isDone 18 (some .boolean)]) (List.forall_mem_cons.mpr ⟨mwsL_law_r7_6, fun _ h => nomatch h⟩) (by decide +kernel)) (goodIn_app (goodIn_app (goodIn_app (goodIn_app (goodIn_app (goodIn_app (goodIn_app (goodIn_app (goodIn_app (goodIn_sub (ws := wsL_isDone_r1) (List.forall_mem_cons.mpr ⟨mwsL_law_r7_7, (List.forall_mem_cons.mpr ⟨mwsL_law_r7_8, (List.forall_mem_cons.mpr ⟨mwsL_law_r3_15, (List.forall_mem_cons.mpr ⟨mwsL_law_r7_9, (List.forall_mem_cons.mpr ⟨mwsL_law_r7_10, (List.forall_mem_cons.mpr ⟨mwsL_law_r7_11, (List.forall_mem_cons.mpr ⟨mwsL_law_r7_12, (List.forall_mem_cons.mpr ⟨mwsL_law_r7_13, (List.forall_mem_cons.mpr ⟨mwsL_law_r7_14, (List.forall_mem_cons.mpr ⟨mwsL_law_r7_15, (List.forall_mem_cons.mpr ⟨mwsL_law_r7_16, (List.forall_mem_cons.mpr ⟨mwsL_law_r4_0, (List.forall_mem_cons.mpr ⟨mwsL_law_r7_17, (List.forall_mem_cons.mpr ⟨mwsL_law_r4_1, (List.forall_mem_cons.mpr ⟨mwsL_law_r7_18, (List.forall_mem_cons.mpr ⟨mwsL_law_r7_19, (List.forall_mem_cons.mpr ⟨mwsL_law_r7_20, (List.forall_mem_cons.mpr ⟨mwsL_law_r1_2, (List.forall_mem_cons.mpr ⟨mwsL_law_r7_21, (List.forall_mem_cons.mpr ⟨mwsL_law_r1_13, (List.forall_mem_cons.mpr ⟨mwsL_law_r4_6, (List.forall_mem_cons.mpr ⟨mwsL_law_r4_7, (List.forall_mem_cons.mpr ⟨mwsL_law_r4_8, (List.forall_mem_cons.mpr ⟨mwsL_law_r4_9, (fun _ h => nomatch h)⟩)⟩)⟩)⟩)⟩)⟩)⟩)⟩)⟩)⟩)⟩)⟩)⟩)⟩)⟩)⟩)⟩)⟩)⟩)⟩)⟩)⟩)⟩)⟩) (by decide +kernel)) (goodIn_app (goodIn_sub (ws := wsL_isDone_r2) (List.forall_mem_cons.mpr ⟨mwsL_law_r4_10, (List.forall_mem_cons.mpr ⟨mwsL_law_r4_11, (List.forall_mem_cons.mpr ⟨mwsL_law_r4_12, (List.forall_mem_cons.mpr ⟨mwsL_law_r4_13, (List.forall_mem_cons.mpr ⟨mwsL_law_r7_22, (List.forall_mem_cons.mpr ⟨mwsL_law_r7_23, (List.forall_mem_cons.mpr ⟨mwsL_law_r8_0, (List.forall_mem_cons.mpr ⟨mwsL_law_r8_1, (List.forall_mem_cons.mpr ⟨mwsL_law_r8_2, (List.forall_mem_cons.mpr ⟨mwsL_law_r8_3, (List.forall_mem_cons.mpr ⟨mwsL_law_r8_4, (List.forall_mem_cons.mpr ⟨mwsL_law_r8_5, (List.forall_mem_cons.mpr ⟨mwsL_law_r8_6, (List.forall_mem_cons.mpr ⟨mwsL_law_r6_6, (List.forall_mem_cons.mpr ⟨mwsL_law_r6_7, (List.forall_mem_cons.mpr ⟨mwsL_law_r8_7, (List.forall_mem_cons.mpr ⟨mwsL_law_r8_8, (List.forall_mem_cons.mpr ⟨mwsL_law_r8_9, (List.forall_mem_cons.mpr ⟨mwsL_law_r1_12, (List.forall_mem_cons.mpr ⟨mwsL_law_r8_10, (List.forall_mem_cons.mpr ⟨mwsL_law_r2_9, (List.forall_mem_cons.mpr ⟨mwsL_law_r2_8, (List.forall_mem_cons.mpr ⟨mwsL_law_r4_17, (List.forall_mem_cons.mpr ⟨mwsL_law_r4_18, (fun _ h => nomatch h)⟩)⟩)⟩)⟩)⟩)⟩)⟩)⟩)⟩)⟩)⟩)⟩)⟩)⟩)⟩)⟩)⟩)⟩)⟩)⟩)⟩)⟩)⟩)⟩) (by decide +kernel)) (goodIn_app (goodIn_sub (ws := wsL_isDone_r3) (List.forall_mem_cons.mpr ⟨mwsL_law_r4_19, (List.forall_mem_cons.mpr ⟨mwsL_law_r8_11, (List.forall_mem_cons.mpr ⟨mwsL_law_r8_12, (List.forall_mem_cons.mpr ⟨mwsL_law_r8_13, (List.forall_mem_cons.mpr ⟨mwsL_law_r8_14, (List.forall_mem_cons.mpr ⟨mwsL_law_r8_15, (List.forall_mem_cons.mpr ⟨mwsL_law_r8_16, (List.forall_mem_cons.mpr ⟨mwsL_law_r8_17, (List.forall_mem_cons.mpr ⟨mwsL_law_r2_10, (List.forall_mem_cons.mpr ⟨mwsL_law_r2_11, (List.forall_mem_cons.mpr ⟨mwsL_law_r2_12, (List.forall_mem_cons.mpr ⟨mwsL_law_r2_7, (List.forall_mem_cons.mpr ⟨mwsL_law_r8_18, (List.forall_mem_cons.mpr ⟨mwsL_law_r8_19, (List.forall_mem_cons.mpr ⟨mwsL_law_r8_20, (List.forall_mem_cons.mpr ⟨mwsL_law_r8_21, (List.forall_mem_cons.mpr ⟨mwsL_law_r8_22, (List.forall_mem_cons.mpr ⟨mwsL_law_r8_23, (List.forall_mem_cons.mpr ⟨mwsL_law_r9_0, (List.forall_mem_cons.mpr ⟨mwsL_law_r9_1, (List.forall_mem_cons.mpr ⟨mwsL_law_r9_2, (List.forall_mem_cons.mpr ⟨mwsL_law_r9_3, (List.forall_mem_cons.mpr ⟨mwsL_law_r9_4, (List.forall_mem_cons.mpr ⟨mwsL_law_r9_5, (fun _ h => nomatch h)⟩)⟩)⟩)⟩)⟩)⟩)⟩)⟩)⟩)⟩)⟩)⟩)⟩)⟩)⟩)⟩)⟩)⟩)⟩)⟩)⟩)⟩)⟩)⟩) (by decide +kernel)) (goodIn_app (goodIn_sub (ws := wsL_isDone_r4) (List.forall_mem_cons.mpr ⟨mwsL_law_r9_6, (List.forall_mem_cons.mpr ⟨mwsL_law_r9_7, (List.forall_mem_cons.mpr ⟨mwsL_law_r9_8, (List.forall_mem_cons.mpr ⟨mwsL_law_r9_9, (List.forall_mem_cons.mpr ⟨mwsL_law_r9_10, (List.forall_mem_cons.mpr ⟨mwsL_law_r9_11, (List.forall_mem_cons.mpr ⟨mwsL_law_r9_12, (List.forall_mem_cons.mpr ⟨mwsL_law_r2_13, (List.forall_mem_cons.mpr ⟨mwsL_law_r9_13, (List.forall_mem_cons.mpr ⟨mwsL_law_r9_14, (List.forall_mem_cons.mpr ⟨mwsL_law_r9_15, (List.forall_mem_cons.mpr ⟨mwsL_law_r9_16, (List.forall_mem_cons.mpr ⟨mwsL_law_r9_17, (List.forall_mem_cons.mpr ⟨mwsL_law_r9_18, (List.forall_mem_cons.mpr ⟨mwsL_law_r9_19, (List.forall_mem_cons.mpr ⟨mwsL_law_r9_20, (List.forall_mem_cons.mpr ⟨mwsL_law_r1_17, (List.forall_mem_cons.mpr ⟨mwsL_law_r1_22, (List.forall_mem_cons.mpr ⟨mwsL_law_r5_10, (List.forall_mem_cons.mpr ⟨mwsL_law_r5_11, (List.forall_mem_cons.mpr ⟨mwsL_law_r5_12, (List.forall_mem_cons.mpr ⟨mwsL_law_r2_2, (List.forall_mem_cons.mpr ⟨mwsL_law_r5_13, (List.forall_mem_cons.mpr ⟨mwsL_law_r3_12, (fun _ h => nomatch h)⟩)⟩)⟩)⟩)⟩)⟩)⟩)⟩)⟩)⟩)⟩)⟩)⟩)⟩)⟩)⟩)⟩)⟩)⟩)⟩)⟩)⟩)⟩)⟩) (by decide +kernel)) (goodIn_app (goodIn_sub (ws := wsL_isDone_r5) (List.forall_mem_cons.mpr ⟨mwsL_law_r5_14, (List.forall_mem_cons.mpr ⟨mwsL_law_r5_15, (List.forall_mem_cons.mpr ⟨mwsL_law_r5_16, (List.forall_mem_cons.mpr ⟨mwsL_law_r5_17, (List.forall_mem_cons.mpr ⟨mwsL_law_r3_11, (List.forall_mem_cons.mpr ⟨mwsL_law_r9_21, (List.forall_mem_cons.mpr ⟨mwsL_law_r9_22, (List.forall_mem_cons.mpr ⟨mwsL_law_r9_23, (List.forall_mem_cons.mpr ⟨mwsL_law_r10_0, (List.forall_mem_cons.mpr ⟨mwsL_law_r10_1, (List.forall_mem_cons.mpr ⟨mwsL_law_r10_2, (List.forall_mem_cons.mpr ⟨mwsL_law_r10_3, (List.forall_mem_cons.mpr ⟨mwsL_law_r10_4, (List.forall_mem_cons.mpr ⟨mwsL_law_r1_15, (List.forall_mem_cons.mpr ⟨mwsL_law_r10_5, (List.forall_mem_cons.mpr ⟨mwsL_law_r10_6, (List.forall_mem_cons.mpr ⟨mwsL_law_r10_7, (List.forall_mem_cons.mpr ⟨mwsL_law_r4_14, (List.forall_mem_cons.mpr ⟨mwsL_law_r4_15, (List.forall_mem_cons.mpr ⟨mwsL_law_r4_16, (List.forall_mem_cons.mpr ⟨mwsL_law_r10_8, (List.forall_mem_cons.mpr ⟨mwsL_law_r10_9, (List.forall_mem_cons.mpr ⟨mwsL_law_r10_10, (List.forall_mem_cons.mpr ⟨mwsL_law_r10_11, (fun _ h => nomatch h)⟩)⟩)⟩)⟩)⟩)⟩)⟩)⟩)⟩)⟩)⟩)⟩)⟩)⟩)⟩)⟩)⟩)⟩)⟩)⟩)⟩)⟩)⟩)⟩) (by decide +kernel)) (goodIn_app (goodIn_sub (ws := wsL_isDone_r6) (List.forall_mem_cons.mpr ⟨mwsL_law_r10_12, (List.forall_mem_cons.mpr ⟨mwsL_law_r10_13, (List.forall_mem_cons.mpr ⟨mwsL_law_r10_14, (List.forall_mem_cons.mpr ⟨mwsL_law_r10_15, (List.forall_mem_cons.mpr ⟨mwsL_law_r10_16, (List.forall_mem_cons.mpr ⟨mwsL_law_r10_17, (List.forall_mem_cons.mpr ⟨mwsL_law_r10_18, (List.forall_mem_cons.mpr ⟨mwsL_law_r10_19, (List.forall_mem_cons.mpr ⟨mwsL_law_r10_20, (List.forall_mem_cons.mpr ⟨mwsL_law_r10_21, (List.forall_mem_cons.mpr ⟨mwsL_law_r10_22, (List.forall_mem_cons.mpr ⟨mwsL_law_r5_3, (List.forall_mem_cons.mpr ⟨mwsL_law_r5_4, (List.forall_mem_cons.mpr ⟨mwsL_law_r5_5, (List.forall_mem_cons.mpr ⟨mwsL_law_r10_23, (List.forall_mem_cons.mpr ⟨mwsL_law_r11_0, (List.forall_mem_cons.mpr ⟨mwsL_law_r11_1, (List.forall_mem_cons.mpr ⟨mwsL_law_r11_2, (List.forall_mem_cons.mpr ⟨mwsL_law_r3_10, (List.forall_mem_cons.mpr ⟨mwsL_law_r11_3, (List.forall_mem_cons.mpr ⟨mwsL_law_r11_4, (List.forall_mem_cons.mpr ⟨mwsL_law_r11_5, (List.forall_mem_cons.mpr ⟨mwsL_law_r11_6, (List.forall_mem_cons.mpr ⟨mwsL_law_r3_9, (fun _ h => nomatch h)⟩)⟩)⟩)⟩)⟩)⟩)⟩)⟩)⟩)⟩)⟩)⟩)⟩)⟩)⟩)⟩)⟩)⟩)⟩)⟩)⟩)⟩)⟩)⟩) (by decide +kernel)) (goodIn_app (goodIn_sub (ws := wsL_isDone_r7) (List.forall_mem_cons.mpr ⟨mwsL_law_r11_7, (List.forall_mem_cons.mpr ⟨mwsL_law_r11_8, (List.forall_mem_cons.mpr ⟨mwsL_law_r11_9, (List.forall_mem_cons.mpr ⟨mwsL_law_r11_10, (List.forall_mem_cons.mpr ⟨mwsL_law_r11_11, (List.forall_mem_cons.mpr ⟨mwsL_law_r11_12, (List.forall_mem_cons.mpr ⟨mwsL_law_r11_13, (List.forall_mem_cons.mpr ⟨mwsL_law_r11_14, (List.forall_mem_cons.mpr ⟨mwsL_law_r11_15, (List.forall_mem_cons.mpr ⟨mwsL_law_r11_16, (List.forall_mem_cons.mpr ⟨mwsL_law_r11_17, (List.forall_mem_cons.mpr ⟨mwsL_law_r11_18, (List.forall_mem_cons.mpr ⟨mwsL_law_r6_17, (List.forall_mem_cons.mpr ⟨mwsL_law_r6_18, (List.forall_mem_cons.mpr ⟨mwsL_law_r6_19, (List.forall_mem_cons.mpr ⟨mwsL_law_r2_0, (List.forall_mem_cons.mpr ⟨mwsL_law_r6_20, (List.forall_mem_cons.mpr ⟨mwsL_law_r2_23, (List.forall_mem_cons.mpr ⟨mwsL_law_r3_2, (List.forall_mem_cons.mpr ⟨mwsL_law_r4_21, (List.forall_mem_cons.mpr ⟨mwsL_law_r4_22, (List.forall_mem_cons.mpr ⟨mwsL_law_r6_21, (List.forall_mem_cons.mpr ⟨mwsL_law_r6_22, (List.forall_mem_cons.mpr ⟨mwsL_law_r6_23, (fun _ h => nomatch h)⟩)⟩)⟩)⟩)⟩)⟩)⟩)⟩)⟩)⟩)⟩)⟩)⟩)⟩)⟩)⟩)⟩)⟩)⟩)⟩)⟩)⟩)⟩)⟩) (by decide +kernel)) (goodIn_app (goodIn_sub (ws := wsL_isDone_r8) (List.forall_mem_cons.mpr ⟨mwsL_law_r7_0, (List.forall_mem_cons.mpr ⟨mwsL_law_r3_0, (List.forall_mem_cons.mpr ⟨mwsL_law_r3_1, (List.forall_mem_cons.mpr ⟨mwsL_law_r11_19, (List.forall_mem_cons.mpr ⟨mwsL_law_r11_20, (List.forall_mem_cons.mpr ⟨mwsL_law_r11_21, (List.forall_mem_cons.mpr ⟨mwsL_law_r11_22, (List.forall_mem_cons.mpr ⟨mwsL_law_r1_21, (List.forall_mem_cons.mpr ⟨mwsL_law_r11_23, (List.forall_mem_cons.mpr ⟨mwsL_law_r12_0, (List.forall_mem_cons.mpr ⟨mwsL_law_r12_1, (List.forall_mem_cons.mpr ⟨mwsL_law_r1_20, (List.forall_mem_cons.mpr ⟨mwsL_law_r12_2, (List.forall_mem_cons.mpr ⟨mwsL_law_r2_17, (List.forall_mem_cons.mpr ⟨mwsL_law_r12_3, (List.forall_mem_cons.mpr ⟨mwsL_law_r2_18, (List.forall_mem_cons.mpr ⟨mwsL_law_r12_4, (List.forall_mem_cons.mpr ⟨mwsL_law_r12_5, (List.forall_mem_cons.mpr ⟨mwsL_law_r12_6, (List.forall_mem_cons.mpr ⟨mwsL_law_r12_7, (List.forall_mem_cons.mpr ⟨mwsL_law_r12_8, (List.forall_mem_cons.mpr ⟨mwsL_law_r12_9, (List.forall_mem_cons.mpr ⟨mwsL_law_r12_10, (List.forall_mem_cons.mpr ⟨mwsL_law_r12_11, (fun _ h => nomatch h)⟩)⟩)⟩)⟩)⟩)⟩)⟩)⟩)⟩)⟩)⟩)⟩)⟩)⟩)⟩)⟩)⟩)⟩)⟩)⟩)⟩)⟩)⟩)⟩) (by decide +kernel)) (goodIn_app (goodIn_sub (ws := wsL_isDone_r9) (List.forall_mem_cons.mpr ⟨mwsL_law_r12_12, (List.forall_mem_cons.mpr ⟨mwsL_law_r12_13, (List.forall_mem_cons.mpr ⟨mwsL_law_r12_14, (List.forall_mem_cons.mpr ⟨mwsL_law_r12_15, (List.forall_mem_cons.mpr ⟨mwsL_law_r12_16, (List.forall_mem_cons.mpr ⟨mwsL_law_r12_17, (List.forall_mem_cons.mpr ⟨mwsL_law_r12_18, (List.forall_mem_cons.mpr ⟨mwsL_law_r12_19, (List.forall_mem_cons.mpr ⟨mwsL_law_r12_20, (List.forall_mem_cons.mpr ⟨mwsL_law_r3_8, (List.forall_mem_cons.mpr ⟨mwsL_law_r12_21, (List.forall_mem_cons.mpr ⟨mwsL_law_r12_22, (List.forall_mem_cons.mpr ⟨mwsL_law_r12_23, (List.forall_mem_cons.mpr ⟨mwsL_law_r13_0, (List.forall_mem_cons.mpr ⟨mwsL_law_r13_1, (List.forall_mem_cons.mpr ⟨mwsL_law_r13_2, (List.forall_mem_cons.mpr ⟨mwsL_law_r13_3, (List.forall_mem_cons.mpr ⟨mwsL_law_r13_4, (List.forall_mem_cons.mpr ⟨mwsL_law_r13_5, (List.forall_mem_cons.mpr ⟨mwsL_law_r13_6, (List.forall_mem_cons.mpr ⟨mwsL_law_r13_7, (List.forall_mem_cons.mpr ⟨mwsL_law_r13_8, (List.forall_mem_cons.mpr ⟨mwsL_law_r13_9, (List.forall_mem_cons.mpr ⟨mwsL_law_r13_10, (fun _ h => nomatch h)⟩)⟩)⟩)⟩)⟩)⟩)⟩)⟩)⟩)⟩)⟩)⟩)⟩)⟩)⟩)⟩)⟩)⟩)⟩)⟩)⟩)⟩)⟩)⟩) (by decide +kernel)) (goodIn_app (goodIn_sub (ws := wsL_isDone_r10) (List.forall_mem_cons.mpr ⟨mwsL_law_r13_11, (List.forall_mem_cons.mpr ⟨mwsL_law_r13_12, (List.forall_mem_cons.mpr ⟨mwsL_law_r13_13, (List.forall_mem_cons.mpr ⟨mwsL_law_r13_14, (List.forall_mem_cons.mpr ⟨mwsL_law_r13_15, (List.forall_mem_cons.mpr ⟨mwsL_law_r13_16, (List.forall_mem_cons.mpr ⟨mwsL_law_r13_17, (List.forall_mem_cons.mpr ⟨mwsL_law_r13_18, (List.forall_mem_cons.mpr ⟨mwsL_law_r13_19, (List.forall_mem_cons.mpr ⟨mwsL_law_r13_20, (List.forall_mem_cons.mpr ⟨mwsL_law_r13_21, (List.forall_mem_cons.mpr ⟨mwsL_law_r13_22, (List.forall_mem_cons.mpr ⟨mwsL_law_r5_22, (List.forall_mem_cons.mpr ⟨mwsL_law_r5_23, (List.forall_mem_cons.mpr ⟨mwsL_law_r6_0, (List.forall_mem_cons.mpr ⟨mwsL_law_r6_1, (List.forall_mem_cons.mpr ⟨mwsL_law_r4_20, (List.forall_mem_cons.mpr ⟨mwsL_law_r4_2, (List.forall_mem_cons.mpr ⟨mwsL_law_r4_3, (List.forall_mem_cons.mpr ⟨mwsL_law_r4_4, (List.forall_mem_cons.mpr ⟨mwsL_law_r4_5, (List.forall_mem_cons.mpr ⟨mwsL_law_r6_2, (List.forall_mem_cons.mpr ⟨mwsL_law_r6_3, (List.forall_mem_cons.mpr ⟨mwsL_law_r6_4, (fun _ h => nomatch h)⟩)⟩)⟩)⟩)⟩)⟩)⟩)⟩)⟩)⟩)⟩)⟩)⟩)⟩)⟩)⟩)⟩)⟩)⟩)⟩)⟩)⟩)⟩)⟩) (by decide +kernel)) (goodIn_sub (ws := wsL_isDone_r11) (List.forall_mem_cons.mpr ⟨mwsL_law_r6_5, (List.forall_mem_cons.mpr ⟨mwsL_law_r6_8, (List.forall_mem_cons.mpr ⟨mwsL_law_r6_9, (List.forall_mem_cons.mpr ⟨mwsL_law_r6_10, (List.forall_mem_cons.mpr ⟨mwsL_law_r6_11, (List.forall_mem_cons.mpr ⟨mwsL_law_r6_12, (List.forall_mem_cons.mpr ⟨mwsL_law_r6_13, (List.forall_mem_cons.mpr ⟨mwsL_law_r6_14, (List.forall_mem_cons.mpr ⟨mwsL_law_r6_15, (List.forall_mem_cons.mpr ⟨mwsL_law_r6_16, (List.forall_mem_cons.mpr ⟨mwsL_law_r13_23, (List.forall_mem_cons.mpr ⟨mwsL_law_r14_0, (List.forall_mem_cons.mpr ⟨mwsL_law_r14_1, (List.forall_mem_cons.mpr ⟨mwsL_law_r4_23, (List.forall_mem_cons.mpr ⟨mwsL_law_r5_0, (List.forall_mem_cons.mpr ⟨mwsL_law_r5_1, (List.forall_mem_cons.mpr ⟨mwsL_law_r5_2, (fun _ h => nomatch h)⟩)⟩)⟩)⟩)⟩)⟩)⟩)⟩)⟩)⟩)⟩)⟩)⟩)⟩)⟩)⟩)⟩) (by decide +kernel)))))))))))) (goodIn_sub (fun _ h => List.mem_append_left _ (List.mem_append_left _ (List.mem_append_left _ (List.mem_append_left _ (List.mem_append_left _ (List.mem_append_left _ (List.mem_append_left _ (List.mem_append_left _ (List.mem_append_right _ (h)))))))))) (by decide +kernel))) (goodIn_sub (fun _ h => List.mem_append_left _ (List.mem_append_left _ (List.mem_append_left _ (List.mem_append_left _ (List.mem_append_left _ (List.mem_append_left _ (List.mem_append_left _ (List.mem_append_right _ (h))))))))) (by decide +kernel))) (goodIn_sub (fun _ h => List.mem_append_left _ (List.mem_append_left _ (List.mem_append_left _ (List.mem_append_left _ (List.mem_append_right _ (h)))))) (by decide +kernel))) (goodIn_sub (fun _ h => List.mem_append_left _ (List.mem_append_left _ (List.mem_append_left _ (List.mem_append_left _ (List.mem_append_left _ (List.mem_append_right _ (h))))))) (by decide +kernel))) (goodIn_sub (fun _ h => List.mem_append_left _ (List.mem_append_left _ (List.mem_append_left _ (List.mem_append_left _ (List.mem_append_left _ (List.mem_append_left _ (List.mem_append_right _ (h)))))))) (by decide +kernel))) (goodIn_sub (fun _ h => List.mem_append_left _ (List.mem_append_left _ (List.mem_append_right _ (h)))) (by decide +kernel))) (goodIn_sub (fun _ h => List.mem_append_right _ (h)) (by decide +kernel))) (goodIn_sub (fun _ h => List.mem_append_left _ (List.mem_append_right _ (h))) (by decide +kernel))))
set_option maxRecDepth 20000 in
theorem gL_law_L_isDone : GoodIn wsL_law (va_wsS RL 136 yL_isDone wsL_isDone) := goodIn_app (goodIn_of _ (by decide +kernel)) ggL_law_L_isDone
set_option maxRecDepth 20000 in
theorem ggL_law_L_does : GoodIn wsL_law wsL_does := (goodIn_c (goodIn_sub (ws := [.codeWith yL_does cL_does 8 (some .int) [(0, 217, 218, 64), (0, 217, 223, 66), (0, 217, 228, 68)]]) (List.forall_mem_cons.mpr ⟨mwsL_law_r7_16, fun _ h => nomatch h⟩) (by decide +kernel)) (goodIn_app (goodIn_app (goodIn_app (goodIn_app (goodIn_app (goodIn_app (goodIn_app (goodIn_app (goodIn_app (goodIn_sub (ws := wsL_does_r1) (List.forall_mem_cons.mpr ⟨mwsL_law_r4_0, (List.forall_mem_cons.mpr ⟨mwsL_law_r7_17, (List.forall_mem_cons.mpr ⟨mwsL_law_r4_1, (List.forall_mem_cons.mpr ⟨mwsL_law_r7_18, (List.forall_mem_cons.mpr ⟨mwsL_law_r7_19, (List.forall_mem_cons.mpr ⟨mwsL_law_r7_20, (List.forall_mem_cons.mpr ⟨mwsL_law_r1_2, (List.forall_mem_cons.mpr ⟨mwsL_law_r7_21, (List.forall_mem_cons.mpr ⟨mwsL_law_r1_13, (List.forall_mem_cons.mpr ⟨mwsL_law_r4_6, (List.forall_mem_cons.mpr ⟨mwsL_law_r4_7, (List.forall_mem_cons.mpr ⟨mwsL_law_r4_8, (List.forall_mem_cons.mpr ⟨mwsL_law_r4_9, (List.forall_mem_cons.mpr ⟨mwsL_law_r4_10, (List.forall_mem_cons.mpr ⟨mwsL_law_r4_11, (List.forall_mem_cons.mpr ⟨mwsL_law_r4_12, (List.forall_mem_cons.mpr ⟨mwsL_law_r4_13, (List.forall_mem_cons.mpr ⟨mwsL_law_r7_22, (List.forall_mem_cons.mpr ⟨mwsL_law_r7_23, (List.forall_mem_cons.mpr ⟨mwsL_law_r8_0, (List.forall_mem_cons.mpr ⟨mwsL_law_r8_1, (List.forall_mem_cons.mpr ⟨mwsL_law_r8_2, (List.forall_mem_cons.mpr ⟨mwsL_law_r8_3, (List.forall_mem_cons.mpr ⟨mwsL_law_r8_4, (fun _ h => nomatch h)⟩)⟩)⟩)⟩)⟩)⟩)⟩)⟩)⟩)⟩)⟩)⟩)⟩)⟩)⟩)⟩)⟩)⟩)⟩)⟩)⟩)⟩)⟩)⟩) (by decide +kernel)) (goodIn_app (goodIn_sub (ws := wsL_does_r2) (List.forall_mem_cons.mpr ⟨mwsL_law_r8_5, (List.forall_mem_cons.mpr ⟨mwsL_law_r8_6, (List.forall_mem_cons.mpr ⟨mwsL_law_r6_6, (List.forall_mem_cons.mpr ⟨mwsL_law_r6_7, (List.forall_mem_cons.mpr ⟨mwsL_law_r8_7, (List.forall_mem_cons.mpr ⟨mwsL_law_r8_8, (List.forall_mem_cons.mpr ⟨mwsL_law_r8_9, (List.forall_mem_cons.mpr ⟨mwsL_law_r1_12, (List.forall_mem_cons.mpr ⟨mwsL_law_r8_10, (List.forall_mem_cons.mpr ⟨mwsL_law_r2_9, (List.forall_mem_cons.mpr ⟨mwsL_law_r2_8, (List.forall_mem_cons.mpr ⟨mwsL_law_r4_17, (List.forall_mem_cons.mpr ⟨mwsL_law_r4_18, (List.forall_mem_cons.mpr ⟨mwsL_law_r4_19, (List.forall_mem_cons.mpr ⟨mwsL_law_r8_11, (List.forall_mem_cons.mpr ⟨mwsL_law_r8_12, (List.forall_mem_cons.mpr ⟨mwsL_law_r8_13, (List.forall_mem_cons.mpr ⟨mwsL_law_r8_14, (List.forall_mem_cons.mpr ⟨mwsL_law_r8_15, (List.forall_mem_cons.mpr ⟨mwsL_law_r8_16, (List.forall_mem_cons.mpr ⟨mwsL_law_r8_17, (List.forall_mem_cons.mpr ⟨mwsL_law_r2_10, (List.forall_mem_cons.mpr ⟨mwsL_law_r2_11, (List.forall_mem_cons.mpr ⟨mwsL_law_r2_12, (fun _ h => nomatch h)⟩)⟩)⟩)⟩)⟩)⟩)⟩)⟩)⟩)⟩)⟩)⟩)⟩)⟩)⟩)⟩)⟩)⟩)⟩)⟩)⟩)⟩)⟩)⟩) (by decide +kernel)) (goodIn_app (goodIn_sub (ws := wsL_does_r3) (List.forall_mem_cons.mpr ⟨mwsL_law_r2_7, (List.forall_mem_cons.mpr ⟨mwsL_law_r8_18, (List.forall_mem_cons.mpr ⟨mwsL_law_r8_19, (List.forall_mem_cons.mpr ⟨mwsL_law_r3_15, (List.forall_mem_cons.mpr ⟨mwsL_law_r8_20, (List.forall_mem_cons.mpr ⟨mwsL_law_r8_21, (List.forall_mem_cons.mpr ⟨mwsL_law_r8_22, (List.forall_mem_cons.mpr ⟨mwsL_law_r8_23, (List.forall_mem_cons.mpr ⟨mwsL_law_r9_0, (List.forall_mem_cons.mpr ⟨mwsL_law_r9_1, (List.forall_mem_cons.mpr ⟨mwsL_law_r9_2, (List.forall_mem_cons.mpr ⟨mwsL_law_r9_3, (List.forall_mem_cons.mpr ⟨mwsL_law_r9_4, (List.forall_mem_cons.mpr ⟨mwsL_law_r9_5, (List.forall_mem_cons.mpr ⟨mwsL_law_r9_6, (List.forall_mem_cons.mpr ⟨mwsL_law_r9_7, (List.forall_mem_cons.mpr ⟨mwsL_law_r9_8, (List.forall_mem_cons.mpr ⟨mwsL_law_r9_9, (List.forall_mem_cons.mpr ⟨mwsL_law_r9_10, (List.forall_mem_cons.mpr ⟨mwsL_law_r9_11, (List.forall_mem_cons.mpr ⟨mwsL_law_r9_12, (List.forall_mem_cons.mpr ⟨mwsL_law_r2_13, (List.forall_mem_cons.mpr ⟨mwsL_law_r9_13, (List.forall_mem_cons.mpr ⟨mwsL_law_r9_14, (fun _ h => nomatch h)⟩)⟩)⟩)⟩)⟩)⟩)⟩)⟩)⟩)⟩)⟩)⟩)⟩)⟩)⟩)⟩)⟩)⟩)⟩)⟩)⟩)⟩)⟩)⟩) (by decide +kernel)) (goodIn_app (goodIn_sub (ws := wsL_does_r4) (List.forall_mem_cons.mpr ⟨mwsL_law_r9_15, (List.forall_mem_cons.mpr ⟨mwsL_law_r9_16, (List.forall_mem_cons.mpr ⟨mwsL_law_r9_17, (List.forall_mem_cons.mpr ⟨mwsL_law_r9_18, (List.forall_mem_cons.mpr ⟨mwsL_law_r9_19, (List.forall_mem_cons.mpr ⟨mwsL_law_r9_20, (List.forall_mem_cons.mpr ⟨mwsL_law_r1_17, (List.forall_mem_cons.mpr ⟨mwsL_law_r1_22, (List.forall_mem_cons.mpr ⟨mwsL_law_r5_10, (List.forall_mem_cons.mpr ⟨mwsL_law_r5_11, (List.forall_mem_cons.mpr ⟨mwsL_law_r5_12, (List.forall_mem_cons.mpr ⟨mwsL_law_r2_2, (List.forall_mem_cons.mpr ⟨mwsL_law_r5_13, (List.forall_mem_cons.mpr ⟨mwsL_law_r3_12, (List.forall_mem_cons.mpr ⟨mwsL_law_r5_14, (List.forall_mem_cons.mpr ⟨mwsL_law_r5_15, (List.forall_mem_cons.mpr ⟨mwsL_law_r5_16, (List.forall_mem_cons.mpr ⟨mwsL_law_r5_17, (List.forall_mem_cons.mpr ⟨mwsL_law_r3_11, (List.forall_mem_cons.mpr ⟨mwsL_law_r9_21, (List.forall_mem_cons.mpr ⟨mwsL_law_r9_22, (List.forall_mem_cons.mpr ⟨mwsL_law_r9_23, (List.forall_mem_cons.mpr ⟨mwsL_law_r10_0, (List.forall_mem_cons.mpr ⟨mwsL_law_r10_1, (fun _ h => nomatch h)⟩)⟩)⟩)⟩)⟩)⟩)⟩)⟩)⟩)⟩)⟩)⟩)⟩)⟩)⟩)⟩)⟩)⟩)⟩)⟩)⟩)⟩)⟩)⟩) (by decide +kernel)) (goodIn_app (goodIn_sub (ws := wsL_does_r5) (List.forall_mem_cons.mpr ⟨mwsL_law_r10_2, (List.forall_mem_cons.mpr ⟨mwsL_law_r10_3, (List.forall_mem_cons.mpr ⟨mwsL_law_r10_4, (List.forall_mem_cons.mpr ⟨mwsL_law_r1_15, (List.forall_mem_cons.mpr ⟨mwsL_law_r10_5, (List.forall_mem_cons.mpr ⟨mwsL_law_r10_6, (List.forall_mem_cons.mpr ⟨mwsL_law_r10_7, (List.forall_mem_cons.mpr ⟨mwsL_law_r4_14, (List.forall_mem_cons.mpr ⟨mwsL_law_r4_15, (List.forall_mem_cons.mpr ⟨mwsL_law_r4_16, (List.forall_mem_cons.mpr ⟨mwsL_law_r10_8, (List.forall_mem_cons.mpr ⟨mwsL_law_r10_9, (List.forall_mem_cons.mpr ⟨mwsL_law_r10_10, (List.forall_mem_cons.mpr ⟨mwsL_law_r10_11, (List.forall_mem_cons.mpr ⟨mwsL_law_r10_12, (List.forall_mem_cons.mpr ⟨mwsL_law_r10_13, (List.forall_mem_cons.mpr ⟨mwsL_law_r10_14, (List.forall_mem_cons.mpr ⟨mwsL_law_r10_15, (List.forall_mem_cons.mpr ⟨mwsL_law_r10_16, (List.forall_mem_cons.mpr ⟨mwsL_law_r10_17, (List.forall_mem_cons.mpr ⟨mwsL_law_r10_18, (List.forall_mem_cons.mpr ⟨mwsL_law_r10_19, (List.forall_mem_cons.mpr ⟨mwsL_law_r10_20, (List.forall_mem_cons.mpr ⟨mwsL_law_r10_21, (fun _ h => nomatch h)⟩)⟩)⟩)⟩)⟩)⟩)⟩)⟩)⟩)⟩)⟩)⟩)⟩)⟩)⟩)⟩)⟩)⟩)⟩)⟩)⟩)⟩)⟩)⟩) (by decide +kernel)) (goodIn_app (goodIn_sub (ws := wsL_does_r6) (List.forall_mem_cons.mpr ⟨mwsL_law_r10_22, (List.forall_mem_cons.mpr ⟨mwsL_law_r5_3, (List.forall_mem_cons.mpr ⟨mwsL_law_r5_4, (List.forall_mem_cons.mpr ⟨mwsL_law_r5_5, (List.forall_mem_cons.mpr ⟨mwsL_law_r10_23, (List.forall_mem_cons.mpr ⟨mwsL_law_r11_0, (List.forall_mem_cons.mpr ⟨mwsL_law_r11_1, (List.forall_mem_cons.mpr ⟨mwsL_law_r11_2, (List.forall_mem_cons.mpr ⟨mwsL_law_r3_10, (List.forall_mem_cons.mpr ⟨mwsL_law_r11_3, (List.forall_mem_cons.mpr ⟨mwsL_law_r11_4, (List.forall_mem_cons.mpr ⟨mwsL_law_r11_5, (List.forall_mem_cons.mpr ⟨mwsL_law_r11_6, (List.forall_mem_cons.mpr ⟨mwsL_law_r3_9, (List.forall_mem_cons.mpr ⟨mwsL_law_r11_7, (List.forall_mem_cons.mpr ⟨mwsL_law_r11_8, (List.forall_mem_cons.mpr ⟨mwsL_law_r11_9, (List.forall_mem_cons.mpr ⟨mwsL_law_r11_10, (List.forall_mem_cons.mpr ⟨mwsL_law_r11_11, (List.forall_mem_cons.mpr ⟨mwsL_law_r11_12, (List.forall_mem_cons.mpr ⟨mwsL_law_r11_13, (List.forall_mem_cons.mpr ⟨mwsL_law_r11_14, (List.forall_mem_cons.mpr ⟨mwsL_law_r11_15, (List.forall_mem_cons.mpr ⟨mwsL_law_r11_16, (fun _ h => nomatch h)⟩)⟩)⟩)⟩)⟩)⟩)⟩)⟩)⟩)⟩)⟩)⟩)⟩)⟩)⟩)⟩)⟩)⟩)⟩)⟩)⟩)⟩)⟩)⟩) (by decide +kernel)) (goodIn_app (goodIn_sub (ws := wsL_does_r7) (List.forall_mem_cons.mpr ⟨mwsL_law_r11_17, (List.forall_mem_cons.mpr ⟨mwsL_law_r11_18, (List.forall_mem_cons.mpr ⟨mwsL_law_r6_17, (List.forall_mem_cons.mpr ⟨mwsL_law_r6_18, (List.forall_mem_cons.mpr ⟨mwsL_law_r6_19, (List.forall_mem_cons.mpr ⟨mwsL_law_r2_0, (List.forall_mem_cons.mpr ⟨mwsL_law_r6_20, (List.forall_mem_cons.mpr ⟨mwsL_law_r2_23, (List.forall_mem_cons.mpr ⟨mwsL_law_r3_2, (List.forall_mem_cons.mpr ⟨mwsL_law_r4_21, (List.forall_mem_cons.mpr ⟨mwsL_law_r4_22, (List.forall_mem_cons.mpr ⟨mwsL_law_r6_21, (List.forall_mem_cons.mpr ⟨mwsL_law_r6_22, (List.forall_mem_cons.mpr ⟨mwsL_law_r6_23, (List.forall_mem_cons.mpr ⟨mwsL_law_r7_0, (List.forall_mem_cons.mpr ⟨mwsL_law_r3_0, (List.forall_mem_cons.mpr ⟨mwsL_law_r3_1, (List.forall_mem_cons.mpr ⟨mwsL_law_r11_19, (List.forall_mem_cons.mpr ⟨mwsL_law_r11_20, (List.forall_mem_cons.mpr ⟨mwsL_law_r11_21, (List.forall_mem_cons.mpr ⟨mwsL_law_r11_22, (List.forall_mem_cons.mpr ⟨mwsL_law_r1_21, (List.forall_mem_cons.mpr ⟨mwsL_law_r11_23, (List.forall_mem_cons.mpr ⟨mwsL_law_r12_0, (fun _ h => nomatch h)⟩)⟩)⟩)⟩)⟩)⟩)⟩)⟩)⟩)⟩)⟩)⟩)⟩)⟩)⟩)⟩)⟩)⟩)⟩)⟩)⟩)⟩)⟩)⟩) (by decide +kernel)) (goodIn_app (goodIn_sub (ws := wsL_does_r8) (List.forall_mem_cons.mpr ⟨mwsL_law_r12_1, (List.forall_mem_cons.mpr ⟨mwsL_law_r1_20, (List.forall_mem_cons.mpr ⟨mwsL_law_r12_2, (List.forall_mem_cons.mpr ⟨mwsL_law_r2_17, (List.forall_mem_cons.mpr ⟨mwsL_law_r12_3, (List.forall_mem_cons.mpr ⟨mwsL_law_r2_18, (List.forall_mem_cons.mpr ⟨mwsL_law_r12_4, (List.forall_mem_cons.mpr ⟨mwsL_law_r12_5, (List.forall_mem_cons.mpr ⟨mwsL_law_r12_6, (List.forall_mem_cons.mpr ⟨mwsL_law_r12_7, (List.forall_mem_cons.mpr ⟨mwsL_law_r12_8, (List.forall_mem_cons.mpr ⟨mwsL_law_r12_9, (List.forall_mem_cons.mpr ⟨mwsL_law_r12_10, (List.forall_mem_cons.mpr ⟨mwsL_law_r12_11, (List.forall_mem_cons.mpr ⟨mwsL_law_r12_12, (List.forall_mem_cons.mpr ⟨mwsL_law_r12_13, (List.forall_mem_cons.mpr ⟨mwsL_law_r12_14, (List.forall_mem_cons.mpr ⟨mwsL_law_r12_15, (List.forall_mem_cons.mpr ⟨mwsL_law_r12_16, (List.forall_mem_cons.mpr ⟨mwsL_law_r12_17, (List.forall_mem_cons.mpr ⟨mwsL_law_r12_18, (List.forall_mem_cons.mpr ⟨mwsL_law_r12_19, (List.forall_mem_cons.mpr ⟨mwsL_law_r12_20, (List.forall_mem_cons.mpr ⟨mwsL_law_r3_8, (fun _ h => nomatch h)⟩)⟩)⟩)⟩)⟩)⟩)⟩)⟩)⟩)⟩)⟩)⟩)⟩)⟩)⟩)⟩)⟩)⟩)⟩)⟩)⟩)⟩)⟩)⟩) (by decide +kernel)) (goodIn_sub (ws := wsL_does_r9) (List.forall_mem_cons.mpr ⟨mwsL_law_r12_21, (List.forall_mem_cons.mpr ⟨mwsL_law_r12_22, (List.forall_mem_cons.mpr ⟨mwsL_law_r12_23, (List.forall_mem_cons.mpr ⟨mwsL_law_r13_0, (List.forall_mem_cons.mpr ⟨mwsL_law_r13_1, (List.forall_mem_cons.mpr ⟨mwsL_law_r13_2, (List.forall_mem_cons.mpr ⟨mwsL_law_r13_3, (List.forall_mem_cons.mpr ⟨mwsL_law_r13_4, (List.forall_mem_cons.mpr ⟨mwsL_law_r13_5, (fun _ h => nomatch h)⟩)⟩)⟩)⟩)⟩)⟩)⟩)⟩)⟩) (by decide +kernel)))))))))) (goodIn_sub (fun _ h => List.mem_append_left _ (List.mem_append_left _ (List.mem_append_left _ (List.mem_append_left _ (List.mem_append_left _ (List.mem_append_left _ (List.mem_append_left _ (List.mem_append_left _ (List.mem_append_right _ (h)))))))))) (by decide +kernel))) (goodIn_sub (fun _ h => List.mem_append_left _ (List.mem_append_left _ (List.mem_append_left _ (List.mem_append_left _ (List.mem_append_left _ (List.mem_append_left _ (List.mem_append_left _ (List.mem_append_right _ (h))))))))) (by decide +kernel))) (goodIn_sub (fun _ h => List.mem_append_left _ (List.mem_append_left _ (List.mem_append_left _ (List.mem_append_left _ (List.mem_append_right _ (h)))))) (by decide +kernel))) (goodIn_sub (fun _ h => List.mem_append_left _ (List.mem_append_left _ (List.mem_append_left _ (List.mem_append_left _ (List.mem_append_left _ (List.mem_append_right _ (h))))))) (by decide +kernel))) (goodIn_sub (fun _ h => List.mem_append_left _ (List.mem_append_left _ (List.mem_append_left _ (List.mem_append_left _ (List.mem_append_left _ (List.mem_append_left _ (List.mem_append_right _ (h)))))))) (by decide +kernel))) (goodIn_sub (fun _ h => List.mem_append_left _ (List.mem_append_left _ (List.mem_append_right _ (h)))) (by decide +kernel))) (goodIn_sub (fun _ h => List.mem_append_right _ (h)) (by decide +kernel))) (goodIn_sub (fun _ h => List.mem_append_left _ (List.mem_append_right _ (h))) (by decide +kernel))))
set_option maxRecDepth 20000 in
theorem gL_law_L_does : GoodIn wsL_law (va_wsS RL 97 yL_does wsL_does) := goodIn_app (goodIn_of _ (by decide +kernel)) ggL_law_L_does
theorem dL_law_0 : decode cL_law 0 = .ok (.new 9, 3) := by decide +kernel
theorem dL_law_3 : decode cL_law 3 = .ok (.dup, 1) := by decide +kernel
theorem dL_law_4 : decode cL_law 4 = .ok (.invokespecial 127, 3) := by decide +kernel
theorem dL_law_7 : decode cL_law 7 = .ok (.astore_n 1, 1) := by decide +kernel
theorem dL_law_8 : decode cL_law 8 = .ok (.bipush 24, 2) := by decide +kernel
theorem dL_law_10 : decode cL_law 10 = .ok (.newarray .int, 2) := by decide +kernel
theorem dL_law_12 : decode cL_law 12 = .ok (.astore_n 2, 1) := by decide +kernel
theorem dL_law_13 : decode cL_law 13 = .ok (.bipush 24, 2) := by decide +kernel
theorem dL_law_15 : decode cL_law 15 = .ok (.newarray .int, 2) := by decide +kernel
theorem dL_law_17 : decode cL_law 17 = .ok (.astore_n 3, 1) := by decide +kernel
theorem dL_law_18 : decode cL_law 18 = .ok (.bipush 6, 2) := by decide +kernel
theorem dL_law_20 : decode cL_law 20 = .ok (.newarray .int, 2) := by decide +kernel
theorem dL_law_22 : decode cL_law 22 = .ok (.astore 4, 2) := by decide +kernel
theorem dL_law_24 : decode cL_law 24 = .ok (.bipush 21, 2) := by decide +kernel
theorem dL_law_26 : decode cL_law 26 = .ok (.newarray .int, 2) := by decide +kernel
theorem dL_law_28 : decode cL_law 28 = .ok (.astore 5, 2) := by decide +kernel
theorem dL_law_30 : decode cL_law 30 = .ok (.iconst 3, 1) := by decide +kernel
theorem dL_law_31 : decode cL_law 31 = .ok (.newarray .int, 2) := by decide +kernel
theorem dL_law_33 : decode cL_law 33 = .ok (.astore 6, 2) := by decide +kernel
theorem dL_law_35 : decode cL_law 35 = .ok (.aload 6, 2) := by decide +kernel
theorem dL_law_37 : decode cL_law 37 = .ok (.iconst 2, 1) := by decide +kernel
theorem dL_law_38 : decode cL_law 38 = .ok (.bipush 20, 2) := by decide +kernel
theorem dL_law_40 : decode cL_law 40 = .ok (.iastore, 1) := by decide +kernel
theorem dL_law_41 : decode cL_law 41 = .ok (.iconst 0, 1) := by decide +kernel
theorem dL_law_42 : decode cL_law 42 = .ok (.istore 7, 2) := by decide +kernel
theorem dL_law_44 : decode cL_law 44 = .ok (.iload 7, 2) := by decide +kernel
theorem dL_law_46 : decode cL_law 46 = .ok (.bipush 24, 2) := by decide +kernel
theorem dL_law_48 : decode cL_law 48 = .ok (.if_icmp .ge 19, 3) := by decide +kernel
theorem dL_law_51 : decode cL_law 51 = .ok (.aload_n 2, 1) := by decide +kernel
theorem dL_law_52 : decode cL_law 52 = .ok (.iload 7, 2) := by decide +kernel
theorem dL_law_54 : decode cL_law 54 = .ok (.iconst (-1), 1) := by decide +kernel
theorem dL_law_55 : decode cL_law 55 = .ok (.iastore, 1) := by decide +kernel
theorem dL_law_56 : decode cL_law 56 = .ok (.aload_n 3, 1) := by decide +kernel
theorem dL_law_57 : decode cL_law 57 = .ok (.iload 7, 2) := by decide +kernel
theorem dL_law_59 : decode cL_law 59 = .ok (.iconst (-1), 1) := by decide +kernel
theorem dL_law_60 : decode cL_law 60 = .ok (.iastore, 1) := by decide +kernel
theorem dL_law_61 : decode cL_law 61 = .ok (.iinc 7 1, 3) := by decide +kernel
theorem dL_law_64 : decode cL_law 64 = .ok (.goto (-20), 3) := by decide +kernel
theorem dL_law_67 : decode cL_law 67 = .ok (.iconst 0, 1) := by decide +kernel
theorem dL_law_68 : decode cL_law 68 = .ok (.istore 7, 2) := by decide +kernel
theorem dL_law_70 : decode cL_law 70 = .ok (.iload 7, 2) := by decide +kernel
theorem dL_law_72 : decode cL_law 72 = .ok (.bipush 6, 2) := by decide +kernel
theorem dL_law_74 : decode cL_law 74 = .ok (.if_icmp .ge 16, 3) := by decide +kernel
theorem dL_law_77 : decode cL_law 77 = .ok (.aload 4, 2) := by decide +kernel
theorem dL_law_79 : decode cL_law 79 = .ok (.iload 7, 2) := by decide +kernel
theorem dL_law_81 : decode cL_law 81 = .ok (.bipush 7, 2) := by decide +kernel
theorem dL_law_83 : decode cL_law 83 = .ok (.iastore, 1) := by decide +kernel
theorem dL_law_84 : decode cL_law 84 = .ok (.iinc 7 1, 3) := by decide +kernel
theorem dL_law_87 : decode cL_law 87 = .ok (.goto (-17), 3) := by decide +kernel
theorem dL_law_90 : decode cL_law 90 = .ok (.iconst 0, 1) := by decide +kernel
theorem dL_law_91 : decode cL_law 91 = .ok (.istore 7, 2) := by decide +kernel
theorem dL_law_93 : decode cL_law 93 = .ok (.iload 7, 2) := by decide +kernel
theorem dL_law_95 : decode cL_law 95 = .ok (.iconst 3, 1) := by decide +kernel
theorem dL_law_96 : decode cL_law 96 = .ok (.if_icmp .ge 31, 3) := by decide +kernel
theorem dL_law_99 : decode cL_law 99 = .ok (.aload 5, 2) := by decide +kernel
theorem dL_law_101 : decode cL_law 101 = .ok (.bipush 7, 2) := by decide +kernel
theorem dL_law_103 : decode cL_law 103 = .ok (.iload 7, 2) := by decide +kernel
theorem dL_law_105 : decode cL_law 105 = .ok (.imul, 1) := by decide +kernel
theorem dL_law_106 : decode cL_law 106 = .ok (.iconst 3, 1) := by decide +kernel
theorem dL_law_107 : decode cL_law 107 = .ok (.iadd, 1) := by decide +kernel
theorem dL_law_108 : decode cL_law 108 = .ok (.iconst (-1), 1) := by decide +kernel
theorem dL_law_109 : decode cL_law 109 = .ok (.iastore, 1) := by decide +kernel
theorem dL_law_110 : decode cL_law 110 = .ok (.aload 5, 2) := by decide +kernel
theorem dL_law_112 : decode cL_law 112 = .ok (.bipush 7, 2) := by decide +kernel
theorem dL_law_114 : decode cL_law 114 = .ok (.iload 7, 2) := by decide +kernel
theorem dL_law_116 : decode cL_law 116 = .ok (.imul, 1) := by decide +kernel
theorem dL_law_117 : decode cL_law 117 = .ok (.iconst 4, 1) := by decide +kernel
theorem dL_law_118 : decode cL_law 118 = .ok (.iadd, 1) := by decide +kernel
theorem dL_law_119 : decode cL_law 119 = .ok (.iconst (-1), 1) := by decide +kernel
theorem dL_law_120 : decode cL_law 120 = .ok (.iastore, 1) := by decide +kernel
theorem dL_law_121 : decode cL_law 121 = .ok (.iinc 7 1, 3) := by decide +kernel
theorem dL_law_124 : decode cL_law 124 = .ok (.goto (-31), 3) := by decide +kernel
theorem dL_law_127 : decode cL_law 127 = .ok (.aload_n 1, 1) := by decide +kernel
theorem dL_law_128 : decode cL_law 128 = .ok (.aload_n 2, 1) := by decide +kernel
theorem dL_law_129 : decode cL_law 129 = .ok (.aload 6, 2) := by decide +kernel
theorem dL_law_131 : decode cL_law 131 = .ok (.invokestatic 128, 3) := by decide +kernel
theorem dL_law_134 : decode cL_law 134 = .ok (.ifCond .eq 20, 3) := by decide +kernel
theorem dL_law_137 : decode cL_law 137 = .ok (.aload_n 1, 1) := by decide +kernel
theorem dL_law_138 : decode cL_law 138 = .ok (.aload 4, 2) := by decide +kernel
theorem dL_law_140 : decode cL_law 140 = .ok (.aload 5, 2) := by decide +kernel
theorem dL_law_142 : decode cL_law 142 = .ok (.aload 6, 2) := by decide +kernel
theorem dL_law_144 : decode cL_law 144 = .ok (.invokestatic 132, 3) := by decide +kernel
theorem dL_law_147 : decode cL_law 147 = .ok (.ifCond .eq 7, 3) := by decide +kernel
theorem dL_law_150 : decode cL_law 150 = .ok (.iconst 1, 1) := by decide +kernel
theorem dL_law_151 : decode cL_law 151 = .ok (.goto 4, 3) := by decide +kernel
theorem dL_law_154 : decode cL_law 154 = .ok (.iconst 0, 1) := by decide +kernel
theorem dL_law_155 : decode cL_law 155 = .ok (.istore 7, 2) := by decide +kernel
theorem dL_law_157 : decode cL_law 157 = .ok (.iconst 0, 1) := by decide +kernel
theorem dL_law_158 : decode cL_law 158 = .ok (.istore 8, 2) := by decide +kernel
theorem dL_law_160 : decode cL_law 160 = .ok (.iload 8, 2) := by decide +kernel
theorem dL_law_162 : decode cL_law 162 = .ok (.bipush 60, 2) := by decide +kernel
theorem dL_law_164 : decode cL_law 164 = .ok (.if_icmp .ge 64, 3) := by decide +kernel
theorem dL_law_167 : decode cL_law 167 = .ok (.iload 7, 2) := by decide +kernel
theorem dL_law_169 : decode cL_law 169 = .ok (.ifCond .eq 59, 3) := by decide +kernel
theorem dL_law_172 : decode cL_law 172 = .ok (.aload_n 1, 1) := by decide +kernel
theorem dL_law_173 : decode cL_law 173 = .ok (.aload_n 0, 1) := by decide +kernel
theorem dL_law_174 : decode cL_law 174 = .ok (.iconst 4, 1) := by decide +kernel
theorem dL_law_175 : decode cL_law 175 = .ok (.iload 8, 2) := by decide +kernel
theorem dL_law_177 : decode cL_law 177 = .ok (.imul, 1) := by decide +kernel
theorem dL_law_178 : decode cL_law 178 = .ok (.aload_n 2, 1) := by decide +kernel
theorem dL_law_179 : decode cL_law 179 = .ok (.aload_n 3, 1) := by decide +kernel
theorem dL_law_180 : decode cL_law 180 = .ok (.aload 4, 2) := by decide +kernel
theorem dL_law_182 : decode cL_law 182 = .ok (.aload 5, 2) := by decide +kernel
theorem dL_law_184 : decode cL_law 184 = .ok (.aload 6, 2) := by decide +kernel
theorem dL_law_186 : decode cL_law 186 = .ok (.invokestatic 136, 3) := by decide +kernel
theorem dL_law_189 : decode cL_law 189 = .ok (.ifCond .eq 30, 3) := by decide +kernel
theorem dL_law_192 : decode cL_law 192 = .ok (.aload_n 1, 1) := by decide +kernel
theorem dL_law_193 : decode cL_law 193 = .ok (.aload_n 2, 1) := by decide +kernel
theorem dL_law_194 : decode cL_law 194 = .ok (.aload 6, 2) := by decide +kernel
theorem dL_law_196 : decode cL_law 196 = .ok (.invokestatic 128, 3) := by decide +kernel
theorem dL_law_199 : decode cL_law 199 = .ok (.ifCond .eq 20, 3) := by decide +kernel
theorem dL_law_202 : decode cL_law 202 = .ok (.aload_n 1, 1) := by decide +kernel
theorem dL_law_203 : decode cL_law 203 = .ok (.aload 4, 2) := by decide +kernel
theorem dL_law_205 : decode cL_law 205 = .ok (.aload 5, 2) := by decide +kernel
theorem dL_law_207 : decode cL_law 207 = .ok (.aload 6, 2) := by decide +kernel
theorem dL_law_209 : decode cL_law 209 = .ok (.invokestatic 132, 3) := by decide +kernel
theorem dL_law_212 : decode cL_law 212 = .ok (.ifCond .eq 7, 3) := by decide +kernel
theorem dL_law_215 : decode cL_law 215 = .ok (.iconst 1, 1) := by decide +kernel
theorem dL_law_216 : decode cL_law 216 = .ok (.goto 4, 3) := by decide +kernel
theorem dL_law_219 : decode cL_law 219 = .ok (.iconst 0, 1) := by decide +kernel
theorem dL_law_220 : decode cL_law 220 = .ok (.istore 7, 2) := by decide +kernel
theorem dL_law_222 : decode cL_law 222 = .ok (.iinc 8 1, 3) := by decide +kernel
theorem dL_law_225 : decode cL_law 225 = .ok (.goto (-65), 3) := by decide +kernel
theorem dL_law_228 : decode cL_law 228 = .ok (.iload 7, 2) := by decide +kernel
theorem dL_law_230 : decode cL_law 230 = .ok (.ifCond .eq 165, 3) := by decide +kernel
theorem dL_law_233 : decode cL_law 233 = .ok (.aload_n 1, 1) := by decide +kernel
theorem dL_law_234 : decode cL_law 234 = .ok (.iconst 0, 1) := by decide +kernel
theorem dL_law_235 : decode cL_law 235 = .ok (.iconst (-1), 1) := by decide +kernel
theorem dL_law_236 : decode cL_law 236 = .ok (.iconst 0, 1) := by decide +kernel
theorem dL_law_237 : decode cL_law 237 = .ok (.bipush 100, 2) := by decide +kernel
theorem dL_law_239 : decode cL_law 239 = .ok (.iconst 0, 1) := by decide +kernel
theorem dL_law_240 : decode cL_law 240 = .ok (.iconst 0, 1) := by decide +kernel
theorem dL_law_241 : decode cL_law 241 = .ok (.invokestatic 97, 3) := by decide +kernel
theorem dL_law_244 : decode cL_law 244 = .ok (.bipush (-30), 2) := by decide +kernel
theorem dL_law_246 : decode cL_law 246 = .ok (.if_icmp .ne 149, 3) := by decide +kernel
theorem dL_law_249 : decode cL_law 249 = .ok (.aload_n 1, 1) := by decide +kernel
theorem dL_law_250 : decode cL_law 250 = .ok (.iconst 1, 1) := by decide +kernel
theorem dL_law_251 : decode cL_law 251 = .ok (.iconst 0, 1) := by decide +kernel
theorem dL_law_252 : decode cL_law 252 = .ok (.iconst (-1), 1) := by decide +kernel
theorem dL_law_253 : decode cL_law 253 = .ok (.iconst 0, 1) := by decide +kernel
theorem dL_law_254 : decode cL_law 254 = .ok (.iconst 0, 1) := by decide +kernel
theorem dL_law_255 : decode cL_law 255 = .ok (.iconst 0, 1) := by decide +kernel
theorem dL_law_256 : decode cL_law 256 = .ok (.invokestatic 97, 3) := by decide +kernel
theorem dL_law_259 : decode cL_law 259 = .ok (.bipush (-30), 2) := by decide +kernel
theorem dL_law_261 : decode cL_law 261 = .ok (.if_icmp .ne 134, 3) := by decide +kernel
theorem dL_law_264 : decode cL_law 264 = .ok (.aload_n 1, 1) := by decide +kernel
theorem dL_law_265 : decode cL_law 265 = .ok (.iconst 2, 1) := by decide +kernel
theorem dL_law_266 : decode cL_law 266 = .ok (.iconst 2, 1) := by decide +kernel
theorem dL_law_267 : decode cL_law 267 = .ok (.iconst 0, 1) := by decide +kernel
theorem dL_law_268 : decode cL_law 268 = .ok (.iconst 0, 1) := by decide +kernel
theorem dL_law_269 : decode cL_law 269 = .ok (.iconst 0, 1) := by decide +kernel
theorem dL_law_270 : decode cL_law 270 = .ok (.iconst 0, 1) := by decide +kernel
theorem dL_law_271 : decode cL_law 271 = .ok (.invokestatic 97, 3) := by decide +kernel
theorem dL_law_274 : decode cL_law 274 = .ok (.bipush (-30), 2) := by decide +kernel
theorem dL_law_276 : decode cL_law 276 = .ok (.if_icmp .ne 119, 3) := by decide +kernel
theorem dL_law_279 : decode cL_law 279 = .ok (.aload_n 1, 1) := by decide +kernel
theorem dL_law_280 : decode cL_law 280 = .ok (.iconst 4, 1) := by decide +kernel
theorem dL_law_281 : decode cL_law 281 = .ok (.iconst (-1), 1) := by decide +kernel
theorem dL_law_282 : decode cL_law 282 = .ok (.iconst 0, 1) := by decide +kernel
theorem dL_law_283 : decode cL_law 283 = .ok (.iconst 0, 1) := by decide +kernel
theorem dL_law_284 : decode cL_law 284 = .ok (.iconst 0, 1) := by decide +kernel
theorem dL_law_285 : decode cL_law 285 = .ok (.iconst 0, 1) := by decide +kernel
theorem dL_law_286 : decode cL_law 286 = .ok (.invokestatic 97, 3) := by decide +kernel
theorem dL_law_289 : decode cL_law 289 = .ok (.bipush (-20), 2) := by decide +kernel
theorem dL_law_291 : decode cL_law 291 = .ok (.if_icmp .ne 104, 3) := by decide +kernel
theorem dL_law_294 : decode cL_law 294 = .ok (.aload_n 1, 1) := by decide +kernel
theorem dL_law_295 : decode cL_law 295 = .ok (.iconst 5, 1) := by decide +kernel
theorem dL_law_296 : decode cL_law 296 = .ok (.iconst 0, 1) := by decide +kernel
theorem dL_law_297 : decode cL_law 297 = .ok (.iconst 0, 1) := by decide +kernel
theorem dL_law_298 : decode cL_law 298 = .ok (.iconst 3, 1) := by decide +kernel
theorem dL_law_299 : decode cL_law 299 = .ok (.iconst 0, 1) := by decide +kernel
theorem dL_law_300 : decode cL_law 300 = .ok (.iconst 0, 1) := by decide +kernel
theorem dL_law_301 : decode cL_law 301 = .ok (.invokestatic 97, 3) := by decide +kernel
theorem dL_law_304 : decode cL_law 304 = .ok (.bipush (-30), 2) := by decide +kernel
theorem dL_law_306 : decode cL_law 306 = .ok (.if_icmp .ne 89, 3) := by decide +kernel
theorem dL_law_309 : decode cL_law 309 = .ok (.aload_n 1, 1) := by decide +kernel
theorem dL_law_310 : decode cL_law 310 = .ok (.bipush 6, 2) := by decide +kernel
theorem dL_law_312 : decode cL_law 312 = .ok (.iconst 3, 1) := by decide +kernel
theorem dL_law_313 : decode cL_law 313 = .ok (.iconst 0, 1) := by decide +kernel
theorem dL_law_314 : decode cL_law 314 = .ok (.bipush 8, 2) := by decide +kernel
theorem dL_law_316 : decode cL_law 316 = .ok (.iconst 0, 1) := by decide +kernel
theorem dL_law_317 : decode cL_law 317 = .ok (.iconst 0, 1) := by decide +kernel
theorem dL_law_318 : decode cL_law 318 = .ok (.invokestatic 97, 3) := by decide +kernel
theorem dL_law_321 : decode cL_law 321 = .ok (.bipush (-30), 2) := by decide +kernel
theorem dL_law_323 : decode cL_law 323 = .ok (.if_icmp .ne 72, 3) := by decide +kernel
theorem dL_law_326 : decode cL_law 326 = .ok (.aload_n 1, 1) := by decide +kernel
theorem dL_law_327 : decode cL_law 327 = .ok (.bipush 7, 2) := by decide +kernel
theorem dL_law_329 : decode cL_law 329 = .ok (.iconst 0, 1) := by decide +kernel
theorem dL_law_330 : decode cL_law 330 = .ok (.iconst 3, 1) := by decide +kernel
theorem dL_law_331 : decode cL_law 331 = .ok (.iconst 0, 1) := by decide +kernel
theorem dL_law_332 : decode cL_law 332 = .ok (.iconst 0, 1) := by decide +kernel
theorem dL_law_333 : decode cL_law 333 = .ok (.iconst 0, 1) := by decide +kernel
theorem dL_law_334 : decode cL_law 334 = .ok (.invokestatic 97, 3) := by decide +kernel
theorem dL_law_337 : decode cL_law 337 = .ok (.bipush (-30), 2) := by decide +kernel
theorem dL_law_339 : decode cL_law 339 = .ok (.if_icmp .ne 56, 3) := by decide +kernel
theorem dL_law_342 : decode cL_law 342 = .ok (.aload_n 1, 1) := by decide +kernel
theorem dL_law_343 : decode cL_law 343 = .ok (.bipush 9, 2) := by decide +kernel
theorem dL_law_345 : decode cL_law 345 = .ok (.iconst (-1), 1) := by decide +kernel
theorem dL_law_346 : decode cL_law 346 = .ok (.iconst 0, 1) := by decide +kernel
theorem dL_law_347 : decode cL_law 347 = .ok (.iconst 0, 1) := by decide +kernel
theorem dL_law_348 : decode cL_law 348 = .ok (.iconst 0, 1) := by decide +kernel
theorem dL_law_349 : decode cL_law 349 = .ok (.iconst 0, 1) := by decide +kernel
theorem dL_law_350 : decode cL_law 350 = .ok (.invokestatic 97, 3) := by decide +kernel
theorem dL_law_353 : decode cL_law 353 = .ok (.bipush (-30), 2) := by decide +kernel
theorem dL_law_355 : decode cL_law 355 = .ok (.if_icmp .ne 40, 3) := by decide +kernel
theorem dL_law_358 : decode cL_law 358 = .ok (.aload_n 1, 1) := by decide +kernel
theorem dL_law_359 : decode cL_law 359 = .ok (.bipush 10, 2) := by decide +kernel
theorem dL_law_361 : decode cL_law 361 = .ok (.iconst 0, 1) := by decide +kernel
theorem dL_law_362 : decode cL_law 362 = .ok (.iconst 0, 1) := by decide +kernel
theorem dL_law_363 : decode cL_law 363 = .ok (.iconst 0, 1) := by decide +kernel
theorem dL_law_364 : decode cL_law 364 = .ok (.iconst 0, 1) := by decide +kernel
theorem dL_law_365 : decode cL_law 365 = .ok (.iconst 0, 1) := by decide +kernel
theorem dL_law_366 : decode cL_law 366 = .ok (.invokestatic 97, 3) := by decide +kernel
theorem dL_law_369 : decode cL_law 369 = .ok (.bipush (-20), 2) := by decide +kernel
theorem dL_law_371 : decode cL_law 371 = .ok (.if_icmp .ne 24, 3) := by decide +kernel
theorem dL_law_374 : decode cL_law 374 = .ok (.aload_n 1, 1) := by decide +kernel
theorem dL_law_375 : decode cL_law 375 = .ok (.bipush 12, 2) := by decide +kernel
theorem dL_law_377 : decode cL_law 377 = .ok (.iconst 0, 1) := by decide +kernel
theorem dL_law_378 : decode cL_law 378 = .ok (.iconst 0, 1) := by decide +kernel
theorem dL_law_379 : decode cL_law 379 = .ok (.iconst 0, 1) := by decide +kernel
theorem dL_law_380 : decode cL_law 380 = .ok (.bipush (-2), 2) := by decide +kernel
theorem dL_law_382 : decode cL_law 382 = .ok (.iconst 0, 1) := by decide +kernel
theorem dL_law_383 : decode cL_law 383 = .ok (.invokestatic 97, 3) := by decide +kernel
theorem dL_law_386 : decode cL_law 386 = .ok (.bipush (-20), 2) := by decide +kernel
theorem dL_law_388 : decode cL_law 388 = .ok (.if_icmp .ne 7, 3) := by decide +kernel
theorem dL_law_391 : decode cL_law 391 = .ok (.iconst 1, 1) := by decide +kernel
theorem dL_law_392 : decode cL_law 392 = .ok (.goto 4, 3) := by decide +kernel
theorem dL_law_395 : decode cL_law 395 = .ok (.iconst 0, 1) := by decide +kernel
theorem dL_law_396 : decode cL_law 396 = .ok (.ireturn, 1) := by decide +kernel
