theorem goodIn_c {big a : List Cond} {c : Cond} (hc : GoodIn big [c]) (ha : GoodIn big a) : GoodIn big (c :: a) := fun w h => (List.mem_cons.mp h).elim (fun e => hc w (by rw [e]; exact List.mem_singleton.mpr rfl)) (fun h => ha w h)
set_option maxRecDepth 20000 in
theorem ggL_isDone_L_part : GoodIn wsL_isDone wsL_part := goodIn_r _ [4, 5] (by decide +kernel) (by decide +kernel)
set_option maxRecDepth 20000 in
theorem gL_isDone_L_part : GoodIn wsL_isDone (va_wsS RL 101 yL_part wsL_part) := goodIn_app (goodIn_of _ (by decide +kernel)) ggL_isDone_L_part
theorem inwsL_isDone_wsL_isDone_r1 : ∀ w ∈ wsL_isDone_r1, w ∈ wsL_isDone := fun _ h => List.mem_cons_of_mem _ (List.mem_append_left _ (List.mem_append_left _ (List.mem_append_left _ (List.mem_append_left _ (List.mem_append_left _ (List.mem_append_left _ (List.mem_append_left _ (List.mem_append_left _ (List.mem_append_left _ (h))))))))))
theorem mwsL_isDone_r1_7 : Cond.code yL_isChange cL_isChange 16 (some .boolean) ∈ wsL_isDone := inwsL_isDone_wsL_isDone_r1 _ (List.mem_of_getElem? (i := 7) rfl)
theorem inwsL_isDone_wsL_isDone_r2 : ∀ w ∈ wsL_isDone_r2, w ∈ wsL_isDone := fun _ h => List.mem_cons_of_mem _ (List.mem_append_left _ (List.mem_append_left _ (List.mem_append_left _ (List.mem_append_left _ (List.mem_append_left _ (List.mem_append_left _ (List.mem_append_left _ (List.mem_append_left _ (List.mem_append_right _ (List.mem_append_left _ (h)))))))))))
theorem mwsL_isDone_r2_6 : Cond.code yX4_checkNumber cX4_checkNumber 1 none ∈ wsL_isDone := inwsL_isDone_wsL_isDone_r2 _ (List.mem_of_getElem? (i := 6) rfl)
theorem mwsL_isDone_r2_5 : Cond.static yX4_checkNumber ∈ wsL_isDone := inwsL_isDone_wsL_isDone_r2 _ (List.mem_of_getElem? (i := 5) rfl)
theorem mwsL_isDone_r2_4 : Cond.methodLink RX4 45 yX4_checkNumber ∈ wsL_isDone := inwsL_isDone_wsL_isDone_r2 _ (List.mem_of_getElem? (i := 4) rfl)
theorem mwsL_isDone_r2_3 : Cond.code yX4_checkTable cX4_checkTable 1 none ∈ wsL_isDone := inwsL_isDone_wsL_isDone_r2 _ (List.mem_of_getElem? (i := 3) rfl)
theorem mwsL_isDone_r2_2 : Cond.static yX4_checkTable ∈ wsL_isDone := inwsL_isDone_wsL_isDone_r2 _ (List.mem_of_getElem? (i := 2) rfl)
theorem mwsL_isDone_r2_1 : Cond.methodLink RX4 75 yX4_checkTable ∈ wsL_isDone := inwsL_isDone_wsL_isDone_r2 _ (List.mem_of_getElem? (i := 1) rfl)
theorem mwsL_isDone_r2_0 : Cond.initialized "java/lang/IndexOutOfBoundsException" ∈ wsL_isDone := inwsL_isDone_wsL_isDone_r2 _ (List.mem_of_getElem? (i := 0) rfl)
theorem mwsL_isDone_r1_23 : Cond.classLink RX4 199 "java/lang/IndexOutOfBoundsException" ∈ wsL_isDone := inwsL_isDone_wsL_isDone_r1 _ (List.mem_of_getElem? (i := 23) rfl)
theorem mwsL_isDone_r1_22 : Cond.code yX4_checkKey cX4_checkKey 2 none ∈ wsL_isDone := inwsL_isDone_wsL_isDone_r1 _ (List.mem_of_getElem? (i := 22) rfl)
theorem mwsL_isDone_r1_21 : Cond.static yX4_checkKey ∈ wsL_isDone := inwsL_isDone_wsL_isDone_r1 _ (List.mem_of_getElem? (i := 21) rfl)
theorem mwsL_isDone_r1_20 : Cond.methodLink RX4 41 yX4_checkKey ∈ wsL_isDone := inwsL_isDone_wsL_isDone_r1 _ (List.mem_of_getElem? (i := 20) rfl)
theorem mwsL_isDone_r1_19 : Cond.fieldLink RX4 12 "RowReplicator" "publisher" "LRowReplicator$Publisher;" ∈ wsL_isDone := inwsL_isDone_wsL_isDone_r1 _ (List.mem_of_getElem? (i := 19) rfl)
theorem mwsL_isDone_r1_18 : Cond.code yX4_put cX4_put 7 (some .boolean) ∈ wsL_isDone := inwsL_isDone_wsL_isDone_r1 _ (List.mem_of_getElem? (i := 18) rfl)
theorem mwsL_isDone_r1_17 : Cond.initialized RX4 ∈ wsL_isDone := inwsL_isDone_wsL_isDone_r1 _ (List.mem_of_getElem? (i := 17) rfl)
theorem mwsL_isDone_r1_16 : Cond.selects RX4 yX4_put yX4_put ∈ wsL_isDone := inwsL_isDone_wsL_isDone_r1 _ (List.mem_of_getElem? (i := 16) rfl)
theorem mwsL_isDone_r1_15 : Cond.instanceMethod yX4_put ∈ wsL_isDone := inwsL_isDone_wsL_isDone_r1 _ (List.mem_of_getElem? (i := 15) rfl)
theorem mwsL_isDone_r1_14 : Cond.methodLink RL 14 yX4_put ∈ wsL_isDone := inwsL_isDone_wsL_isDone_r1 _ (List.mem_of_getElem? (i := 14) rfl)
theorem mwsL_isDone_r1_13 : Cond.classLink RL 68 "java/lang/IllegalStateException" ∈ wsL_isDone := inwsL_isDone_wsL_isDone_r1 _ (List.mem_of_getElem? (i := 13) rfl)
theorem mwsL_isDone_r1_12 : Cond.classLink RL 66 "java/lang/IllegalArgumentException" ∈ wsL_isDone := inwsL_isDone_wsL_isDone_r1 _ (List.mem_of_getElem? (i := 12) rfl)
theorem mwsL_isDone_r1_11 : Cond.classLink RL 64 "java/lang/IndexOutOfBoundsException" ∈ wsL_isDone := inwsL_isDone_wsL_isDone_r1 _ (List.mem_of_getElem? (i := 11) rfl)
theorem mwsL_isDone_r1_10 : Cond.codeWith yL_does cL_does 8 (some .int) [(0, 217, 218, 64), (0, 217, 223, 66), (0, 217, 228, 68)] ∈ wsL_isDone := inwsL_isDone_wsL_isDone_r1 _ (List.mem_of_getElem? (i := 10) rfl)
theorem mwsL_isDone_r1_2 : Cond.initialized RL ∈ wsL_isDone := inwsL_isDone_wsL_isDone_r1 _ (List.mem_of_getElem? (i := 2) rfl)
theorem mwsL_isDone_r1_9 : Cond.static yL_does ∈ wsL_isDone := inwsL_isDone_wsL_isDone_r1 _ (List.mem_of_getElem? (i := 9) rfl)
theorem mwsL_isDone_r1_8 : Cond.methodLink RL 97 yL_does ∈ wsL_isDone := inwsL_isDone_wsL_isDone_r1 _ (List.mem_of_getElem? (i := 8) rfl)
theorem inwsL_isDone_wsL_isDone_r3 : ∀ w ∈ wsL_isDone_r3, w ∈ wsL_isDone := fun _ h => List.mem_cons_of_mem _ (List.mem_append_left _ (List.mem_append_left _ (List.mem_append_left _ (List.mem_append_left _ (List.mem_append_left _ (List.mem_append_left _ (List.mem_append_left _ (List.mem_append_left _ (List.mem_append_right _ (List.mem_append_right _ (List.mem_append_left _ (h))))))))))))
theorem mwsL_isDone_r3_6 : Cond.selects RX1 yX1_change yX1_change ∈ wsL_isDone := inwsL_isDone_wsL_isDone_r3 _ (List.mem_of_getElem? (i := 6) rfl)
theorem mwsL_isDone_r3_5 : Cond.instanceMethod yX1_change ∈ wsL_isDone := inwsL_isDone_wsL_isDone_r3 _ (List.mem_of_getElem? (i := 5) rfl)
theorem mwsL_isDone_r3_4 : Cond.methodLink RX4 64 yX1_change ∈ wsL_isDone := inwsL_isDone_wsL_isDone_r3 _ (List.mem_of_getElem? (i := 4) rfl)
theorem mwsL_isDone_r3_3 : Cond.code yX4_rowOf cX4_rowOf 3 (some .int) ∈ wsL_isDone := inwsL_isDone_wsL_isDone_r3 _ (List.mem_of_getElem? (i := 3) rfl)
theorem mwsL_isDone_r3_2 : Cond.static yX4_rowOf ∈ wsL_isDone := inwsL_isDone_wsL_isDone_r3 _ (List.mem_of_getElem? (i := 2) rfl)
theorem mwsL_isDone_r3_1 : Cond.methodLink RX4 60 yX4_rowOf ∈ wsL_isDone := inwsL_isDone_wsL_isDone_r3 _ (List.mem_of_getElem? (i := 1) rfl)
theorem mwsL_isDone_r3_0 : Cond.code yX4_placeOf cX4_placeOf 2 (some .int) ∈ wsL_isDone := inwsL_isDone_wsL_isDone_r3 _ (List.mem_of_getElem? (i := 0) rfl)
theorem mwsL_isDone_r2_23 : Cond.static yX4_placeOf ∈ wsL_isDone := inwsL_isDone_wsL_isDone_r2 _ (List.mem_of_getElem? (i := 23) rfl)
theorem mwsL_isDone_r2_22 : Cond.methodLink RX4 56 yX4_placeOf ∈ wsL_isDone := inwsL_isDone_wsL_isDone_r2 _ (List.mem_of_getElem? (i := 22) rfl)
theorem mwsL_isDone_r2_21 : Cond.fieldLink RX1 15 "RowReplicator$Publisher" "commitCount" "I" ∈ wsL_isDone := inwsL_isDone_wsL_isDone_r2 _ (List.mem_of_getElem? (i := 21) rfl)
theorem mwsL_isDone_r2_20 : Cond.fieldLink RX1 19 "RowReplicator$Publisher" "changeCounts" "[I" ∈ wsL_isDone := inwsL_isDone_wsL_isDone_r2 _ (List.mem_of_getElem? (i := 20) rfl)
theorem mwsL_isDone_r2_19 : Cond.code yX1_openChanges cX1_openChanges 1 (some .int) ∈ wsL_isDone := inwsL_isDone_wsL_isDone_r2 _ (List.mem_of_getElem? (i := 19) rfl)
theorem mwsL_isDone_r2_18 : Cond.initialized RX1 ∈ wsL_isDone := inwsL_isDone_wsL_isDone_r2 _ (List.mem_of_getElem? (i := 18) rfl)
theorem mwsL_isDone_r2_17 : Cond.selects RX1 yX1_openChanges yX1_openChanges ∈ wsL_isDone := inwsL_isDone_wsL_isDone_r2 _ (List.mem_of_getElem? (i := 17) rfl)
theorem mwsL_isDone_r2_16 : Cond.instanceMethod yX1_openChanges ∈ wsL_isDone := inwsL_isDone_wsL_isDone_r2 _ (List.mem_of_getElem? (i := 16) rfl)
theorem mwsL_isDone_r2_15 : Cond.methodLink RX4 90 yX1_openChanges ∈ wsL_isDone := inwsL_isDone_wsL_isDone_r2 _ (List.mem_of_getElem? (i := 15) rfl)
theorem mwsL_isDone_r2_14 : Cond.initialized "java/lang/IllegalStateException" ∈ wsL_isDone := inwsL_isDone_wsL_isDone_r2 _ (List.mem_of_getElem? (i := 14) rfl)
theorem mwsL_isDone_r2_13 : Cond.classLink RX4 68 "java/lang/IllegalStateException" ∈ wsL_isDone := inwsL_isDone_wsL_isDone_r2 _ (List.mem_of_getElem? (i := 13) rfl)
theorem mwsL_isDone_r2_12 : Cond.code yX4_checkRoomForChange cX4_checkRoomForChange 1 none ∈ wsL_isDone := inwsL_isDone_wsL_isDone_r2 _ (List.mem_of_getElem? (i := 12) rfl)
theorem mwsL_isDone_r2_11 : Cond.selects RX4 yX4_checkRoomForChange yX4_checkRoomForChange ∈ wsL_isDone := inwsL_isDone_wsL_isDone_r2 _ (List.mem_of_getElem? (i := 11) rfl)
theorem mwsL_isDone_r2_10 : Cond.instanceMethod yX4_checkRoomForChange ∈ wsL_isDone := inwsL_isDone_wsL_isDone_r2 _ (List.mem_of_getElem? (i := 10) rfl)
theorem mwsL_isDone_r2_9 : Cond.methodLink RX4 49 yX4_checkRoomForChange ∈ wsL_isDone := inwsL_isDone_wsL_isDone_r2 _ (List.mem_of_getElem? (i := 9) rfl)
theorem mwsL_isDone_r2_8 : Cond.initialized "java/lang/IllegalArgumentException" ∈ wsL_isDone := inwsL_isDone_wsL_isDone_r2 _ (List.mem_of_getElem? (i := 8) rfl)
theorem mwsL_isDone_r2_7 : Cond.classLink RX4 102 "java/lang/IllegalArgumentException" ∈ wsL_isDone := inwsL_isDone_wsL_isDone_r2 _ (List.mem_of_getElem? (i := 7) rfl)
theorem inwsL_isDone_wsL_isDone_r4 : ∀ w ∈ wsL_isDone_r4, w ∈ wsL_isDone := fun _ h => List.mem_cons_of_mem _ (List.mem_append_left _ (List.mem_append_left _ (List.mem_append_left _ (List.mem_append_left _ (List.mem_append_left _ (List.mem_append_left _ (List.mem_append_left _ (List.mem_append_left _ (List.mem_append_right _ (List.mem_append_right _ (List.mem_append_right _ (List.mem_append_left _ (h)))))))))))))
theorem mwsL_isDone_r4_6 : Cond.code yX1_close cX1_close 1 none ∈ wsL_isDone := inwsL_isDone_wsL_isDone_r4 _ (List.mem_of_getElem? (i := 6) rfl)
theorem mwsL_isDone_r4_5 : Cond.selects RX1 yX1_close yX1_close ∈ wsL_isDone := inwsL_isDone_wsL_isDone_r4 _ (List.mem_of_getElem? (i := 5) rfl)
theorem mwsL_isDone_r4_4 : Cond.instanceMethod yX1_close ∈ wsL_isDone := inwsL_isDone_wsL_isDone_r4 _ (List.mem_of_getElem? (i := 4) rfl)
theorem mwsL_isDone_r4_3 : Cond.methodLink RX4 83 yX1_close ∈ wsL_isDone := inwsL_isDone_wsL_isDone_r4 _ (List.mem_of_getElem? (i := 3) rfl)
theorem mwsL_isDone_r4_2 : Cond.code yX4_commit cX4_commit 1 (some .int) ∈ wsL_isDone := inwsL_isDone_wsL_isDone_r4 _ (List.mem_of_getElem? (i := 2) rfl)
theorem mwsL_isDone_r4_1 : Cond.selects RX4 yX4_commit yX4_commit ∈ wsL_isDone := inwsL_isDone_wsL_isDone_r4 _ (List.mem_of_getElem? (i := 1) rfl)
theorem mwsL_isDone_r4_0 : Cond.instanceMethod yX4_commit ∈ wsL_isDone := inwsL_isDone_wsL_isDone_r4 _ (List.mem_of_getElem? (i := 0) rfl)
theorem mwsL_isDone_r3_23 : Cond.methodLink RL 28 yX4_commit ∈ wsL_isDone := inwsL_isDone_wsL_isDone_r3 _ (List.mem_of_getElem? (i := 23) rfl)
theorem mwsL_isDone_r3_22 : Cond.code yX4_truncate cX4_truncate 4 (some .int) ∈ wsL_isDone := inwsL_isDone_wsL_isDone_r3 _ (List.mem_of_getElem? (i := 22) rfl)
theorem mwsL_isDone_r3_21 : Cond.selects RX4 yX4_truncate yX4_truncate ∈ wsL_isDone := inwsL_isDone_wsL_isDone_r3 _ (List.mem_of_getElem? (i := 21) rfl)
theorem mwsL_isDone_r3_20 : Cond.instanceMethod yX4_truncate ∈ wsL_isDone := inwsL_isDone_wsL_isDone_r3 _ (List.mem_of_getElem? (i := 20) rfl)
theorem mwsL_isDone_r3_19 : Cond.methodLink RL 24 yX4_truncate ∈ wsL_isDone := inwsL_isDone_wsL_isDone_r3 _ (List.mem_of_getElem? (i := 19) rfl)
theorem mwsL_isDone_r3_18 : Cond.code yX4_take cX4_take 3 none ∈ wsL_isDone := inwsL_isDone_wsL_isDone_r3 _ (List.mem_of_getElem? (i := 18) rfl)
theorem mwsL_isDone_r3_17 : Cond.selects RX4 yX4_take yX4_take ∈ wsL_isDone := inwsL_isDone_wsL_isDone_r3 _ (List.mem_of_getElem? (i := 17) rfl)
theorem mwsL_isDone_r3_16 : Cond.instanceMethod yX4_take ∈ wsL_isDone := inwsL_isDone_wsL_isDone_r3 _ (List.mem_of_getElem? (i := 16) rfl)
theorem mwsL_isDone_r3_15 : Cond.methodLink RL 8 yX4_take ∈ wsL_isDone := inwsL_isDone_wsL_isDone_r3 _ (List.mem_of_getElem? (i := 15) rfl)
theorem mwsL_isDone_r3_14 : Cond.code yL_takes cL_takes 3 (some .int) ∈ wsL_isDone := inwsL_isDone_wsL_isDone_r3 _ (List.mem_of_getElem? (i := 14) rfl)
theorem mwsL_isDone_r3_13 : Cond.static yL_takes ∈ wsL_isDone := inwsL_isDone_wsL_isDone_r3 _ (List.mem_of_getElem? (i := 13) rfl)
theorem mwsL_isDone_r3_12 : Cond.methodLink RL 18 yL_takes ∈ wsL_isDone := inwsL_isDone_wsL_isDone_r3 _ (List.mem_of_getElem? (i := 12) rfl)
theorem mwsL_isDone_r3_11 : Cond.fieldLink RX1 9 "RowReplicator$Publisher" "rows" "[I" ∈ wsL_isDone := inwsL_isDone_wsL_isDone_r3 _ (List.mem_of_getElem? (i := 11) rfl)
theorem mwsL_isDone_r3_10 : Cond.fieldLink RX1 28 "RowReplicator$Publisher" "newRows" "[I" ∈ wsL_isDone := inwsL_isDone_wsL_isDone_r3 _ (List.mem_of_getElem? (i := 10) rfl)
theorem mwsL_isDone_r3_9 : Cond.fieldLink RX1 25 "RowReplicator$Publisher" "changedKeys" "[I" ∈ wsL_isDone := inwsL_isDone_wsL_isDone_r3 _ (List.mem_of_getElem? (i := 9) rfl)
theorem mwsL_isDone_r3_8 : Cond.fieldLink RX1 22 "RowReplicator$Publisher" "changedTables" "[I" ∈ wsL_isDone := inwsL_isDone_wsL_isDone_r3 _ (List.mem_of_getElem? (i := 8) rfl)
theorem mwsL_isDone_r3_7 : Cond.code yX1_change cX1_change 8 none ∈ wsL_isDone := inwsL_isDone_wsL_isDone_r3 _ (List.mem_of_getElem? (i := 7) rfl)
theorem inwsL_isDone_wsL_isDone_r5 : ∀ w ∈ wsL_isDone_r5, w ∈ wsL_isDone := fun _ h => List.mem_cons_of_mem _ (List.mem_append_left _ (List.mem_append_left _ (List.mem_append_left _ (List.mem_append_left _ (List.mem_append_left _ (List.mem_append_left _ (List.mem_append_left _ (List.mem_append_left _ (List.mem_append_right _ (List.mem_append_right _ (List.mem_append_right _ (List.mem_append_right _ (List.mem_append_left _ (h))))))))))))))
theorem mwsL_isDone_r5_6 : Cond.instanceMethod yX4_setLimit ∈ wsL_isDone := inwsL_isDone_wsL_isDone_r5 _ (List.mem_of_getElem? (i := 6) rfl)
theorem mwsL_isDone_r5_5 : Cond.methodLink RL 32 yX4_setLimit ∈ wsL_isDone := inwsL_isDone_wsL_isDone_r5 _ (List.mem_of_getElem? (i := 5) rfl)
theorem mwsL_isDone_r5_4 : Cond.fieldLink RX2 22 "RowReplicator$Subscriber" "state" "I" ∈ wsL_isDone := inwsL_isDone_wsL_isDone_r5 _ (List.mem_of_getElem? (i := 4) rfl)
theorem mwsL_isDone_r5_3 : Cond.code yX2_holdsLog cX2_holdsLog 1 (some .boolean) ∈ wsL_isDone := inwsL_isDone_wsL_isDone_r5 _ (List.mem_of_getElem? (i := 3) rfl)
theorem mwsL_isDone_r5_2 : Cond.selects RX2 yX2_holdsLog yX2_holdsLog ∈ wsL_isDone := inwsL_isDone_wsL_isDone_r5 _ (List.mem_of_getElem? (i := 2) rfl)
theorem mwsL_isDone_r5_1 : Cond.instanceMethod yX2_holdsLog ∈ wsL_isDone := inwsL_isDone_wsL_isDone_r5 _ (List.mem_of_getElem? (i := 1) rfl)
theorem mwsL_isDone_r5_0 : Cond.methodLink RX2 32 yX2_holdsLog ∈ wsL_isDone := inwsL_isDone_wsL_isDone_r5 _ (List.mem_of_getElem? (i := 0) rfl)
theorem mwsL_isDone_r4_23 : Cond.fieldLink RX2 26 "RowReplicator$Subscriber" "slot" "I" ∈ wsL_isDone := inwsL_isDone_wsL_isDone_r4 _ (List.mem_of_getElem? (i := 23) rfl)
theorem mwsL_isDone_r4_22 : Cond.code yX2_commitsBehind cX2_commitsBehind 2 (some .int) ∈ wsL_isDone := inwsL_isDone_wsL_isDone_r4 _ (List.mem_of_getElem? (i := 22) rfl)
theorem mwsL_isDone_r4_21 : Cond.initialized RX2 ∈ wsL_isDone := inwsL_isDone_wsL_isDone_r4 _ (List.mem_of_getElem? (i := 21) rfl)
theorem mwsL_isDone_r4_20 : Cond.selects RX2 yX2_commitsBehind yX2_commitsBehind ∈ wsL_isDone := inwsL_isDone_wsL_isDone_r4 _ (List.mem_of_getElem? (i := 20) rfl)
theorem mwsL_isDone_r4_19 : Cond.instanceMethod yX2_commitsBehind ∈ wsL_isDone := inwsL_isDone_wsL_isDone_r4 _ (List.mem_of_getElem? (i := 19) rfl)
theorem mwsL_isDone_r4_18 : Cond.methodLink RX4 178 yX2_commitsBehind ∈ wsL_isDone := inwsL_isDone_wsL_isDone_r4 _ (List.mem_of_getElem? (i := 18) rfl)
theorem mwsL_isDone_r4_17 : Cond.fieldLink RX4 35 "RowReplicator" "limit" "I" ∈ wsL_isDone := inwsL_isDone_wsL_isDone_r4 _ (List.mem_of_getElem? (i := 17) rfl)
theorem mwsL_isDone_r4_16 : Cond.fieldLink RX4 24 "RowReplicator" "subscribers" "[LRowReplicator$Subscriber;" ∈ wsL_isDone := inwsL_isDone_wsL_isDone_r4 _ (List.mem_of_getElem? (i := 16) rfl)
theorem mwsL_isDone_r4_15 : Cond.code yX4_cutLaggards cX4_cutLaggards 3 (some .int) ∈ wsL_isDone := inwsL_isDone_wsL_isDone_r4 _ (List.mem_of_getElem? (i := 15) rfl)
theorem mwsL_isDone_r4_14 : Cond.selects RX4 yX4_cutLaggards yX4_cutLaggards ∈ wsL_isDone := inwsL_isDone_wsL_isDone_r4 _ (List.mem_of_getElem? (i := 14) rfl)
theorem mwsL_isDone_r4_13 : Cond.instanceMethod yX4_cutLaggards ∈ wsL_isDone := inwsL_isDone_wsL_isDone_r4 _ (List.mem_of_getElem? (i := 13) rfl)
theorem mwsL_isDone_r4_12 : Cond.methodLink RX4 86 yX4_cutLaggards ∈ wsL_isDone := inwsL_isDone_wsL_isDone_r4 _ (List.mem_of_getElem? (i := 12) rfl)
theorem mwsL_isDone_r4_11 : Cond.initialized "java/lang/System" ∈ wsL_isDone := inwsL_isDone_wsL_isDone_r4 _ (List.mem_of_getElem? (i := 11) rfl)
theorem mwsL_isDone_r4_10 : Cond.static arraycopyName ∈ wsL_isDone := inwsL_isDone_wsL_isDone_r4 _ (List.mem_of_getElem? (i := 10) rfl)
theorem mwsL_isDone_r4_9 : Cond.native arraycopyName ∈ wsL_isDone := inwsL_isDone_wsL_isDone_r4 _ (List.mem_of_getElem? (i := 9) rfl)
theorem mwsL_isDone_r4_8 : Cond.methodLink RX1 38 arraycopyName ∈ wsL_isDone := inwsL_isDone_wsL_isDone_r4 _ (List.mem_of_getElem? (i := 8) rfl)
theorem mwsL_isDone_r4_7 : Cond.fieldLink RX1 31 "RowReplicator$Publisher" "committedRows" "[I" ∈ wsL_isDone := inwsL_isDone_wsL_isDone_r4 _ (List.mem_of_getElem? (i := 7) rfl)
theorem inwsL_isDone_wsL_isDone_r6 : ∀ w ∈ wsL_isDone_r6, w ∈ wsL_isDone := fun _ h => List.mem_cons_of_mem _ (List.mem_append_left _ (List.mem_append_left _ (List.mem_append_left _ (List.mem_append_left _ (List.mem_append_left _ (List.mem_append_left _ (List.mem_append_left _ (List.mem_append_left _ (List.mem_append_right _ (List.mem_append_right _ (List.mem_append_right _ (List.mem_append_right _ (List.mem_append_right _ (List.mem_append_left _ (h)))))))))))))))
theorem mwsL_isDone_r6_6 : Cond.code yX4_maskOf cX4_maskOf 3 (some .int) ∈ wsL_isDone := inwsL_isDone_wsL_isDone_r6 _ (List.mem_of_getElem? (i := 6) rfl)
theorem mwsL_isDone_r6_5 : Cond.static yX4_maskOf ∈ wsL_isDone := inwsL_isDone_wsL_isDone_r6 _ (List.mem_of_getElem? (i := 5) rfl)
theorem mwsL_isDone_r6_4 : Cond.methodLink RX4 130 yX4_maskOf ∈ wsL_isDone := inwsL_isDone_wsL_isDone_r6 _ (List.mem_of_getElem? (i := 4) rfl)
theorem mwsL_isDone_r6_3 : Cond.code yX4_setColumns cX4_setColumns 5 (some .int) ∈ wsL_isDone := inwsL_isDone_wsL_isDone_r6 _ (List.mem_of_getElem? (i := 3) rfl)
theorem mwsL_isDone_r6_2 : Cond.selects RX4 yX4_setColumns yX4_setColumns ∈ wsL_isDone := inwsL_isDone_wsL_isDone_r6 _ (List.mem_of_getElem? (i := 2) rfl)
theorem mwsL_isDone_r6_1 : Cond.instanceMethod yX4_setColumns ∈ wsL_isDone := inwsL_isDone_wsL_isDone_r6 _ (List.mem_of_getElem? (i := 1) rfl)
theorem mwsL_isDone_r6_0 : Cond.methodLink RL 39 yX4_setColumns ∈ wsL_isDone := inwsL_isDone_wsL_isDone_r6 _ (List.mem_of_getElem? (i := 0) rfl)
theorem mwsL_isDone_r5_23 : Cond.code yX4_forgetCopies cX4_forgetCopies 6 (some .int) ∈ wsL_isDone := inwsL_isDone_wsL_isDone_r5 _ (List.mem_of_getElem? (i := 23) rfl)
theorem mwsL_isDone_r5_22 : Cond.selects RX4 yX4_forgetCopies yX4_forgetCopies ∈ wsL_isDone := inwsL_isDone_wsL_isDone_r5 _ (List.mem_of_getElem? (i := 22) rfl)
theorem mwsL_isDone_r5_21 : Cond.instanceMethod yX4_forgetCopies ∈ wsL_isDone := inwsL_isDone_wsL_isDone_r5 _ (List.mem_of_getElem? (i := 21) rfl)
theorem mwsL_isDone_r5_20 : Cond.methodLink RX4 121 yX4_forgetCopies ∈ wsL_isDone := inwsL_isDone_wsL_isDone_r5 _ (List.mem_of_getElem? (i := 20) rfl)
theorem mwsL_isDone_r5_19 : Cond.code yX4_checkColumn cX4_checkColumn 1 none ∈ wsL_isDone := inwsL_isDone_wsL_isDone_r5 _ (List.mem_of_getElem? (i := 19) rfl)
theorem mwsL_isDone_r5_18 : Cond.static yX4_checkColumn ∈ wsL_isDone := inwsL_isDone_wsL_isDone_r5 _ (List.mem_of_getElem? (i := 18) rfl)
theorem mwsL_isDone_r5_17 : Cond.methodLink RX4 96 yX4_checkColumn ∈ wsL_isDone := inwsL_isDone_wsL_isDone_r5 _ (List.mem_of_getElem? (i := 17) rfl)
theorem mwsL_isDone_r5_16 : Cond.code yX4_checkPublication cX4_checkPublication 1 none ∈ wsL_isDone := inwsL_isDone_wsL_isDone_r5 _ (List.mem_of_getElem? (i := 16) rfl)
theorem mwsL_isDone_r5_15 : Cond.static yX4_checkPublication ∈ wsL_isDone := inwsL_isDone_wsL_isDone_r5 _ (List.mem_of_getElem? (i := 15) rfl)
theorem mwsL_isDone_r5_14 : Cond.methodLink RX4 107 yX4_checkPublication ∈ wsL_isDone := inwsL_isDone_wsL_isDone_r5 _ (List.mem_of_getElem? (i := 14) rfl)
theorem mwsL_isDone_r5_13 : Cond.fieldLink RX4 18 "RowReplicator" "publications" "[LRowReplicator$Publication;" ∈ wsL_isDone := inwsL_isDone_wsL_isDone_r5 _ (List.mem_of_getElem? (i := 13) rfl)
theorem mwsL_isDone_r5_12 : Cond.code yX4_setCondition cX4_setCondition 7 (some .int) ∈ wsL_isDone := inwsL_isDone_wsL_isDone_r5 _ (List.mem_of_getElem? (i := 12) rfl)
theorem mwsL_isDone_r5_11 : Cond.selects RX4 yX4_setCondition yX4_setCondition ∈ wsL_isDone := inwsL_isDone_wsL_isDone_r5 _ (List.mem_of_getElem? (i := 11) rfl)
theorem mwsL_isDone_r5_10 : Cond.instanceMethod yX4_setCondition ∈ wsL_isDone := inwsL_isDone_wsL_isDone_r5 _ (List.mem_of_getElem? (i := 10) rfl)
theorem mwsL_isDone_r5_9 : Cond.methodLink RL 35 yX4_setCondition ∈ wsL_isDone := inwsL_isDone_wsL_isDone_r5 _ (List.mem_of_getElem? (i := 9) rfl)
theorem mwsL_isDone_r5_8 : Cond.code yX4_setLimit cX4_setLimit 2 (some .int) ∈ wsL_isDone := inwsL_isDone_wsL_isDone_r5 _ (List.mem_of_getElem? (i := 8) rfl)
theorem mwsL_isDone_r5_7 : Cond.selects RX4 yX4_setLimit yX4_setLimit ∈ wsL_isDone := inwsL_isDone_wsL_isDone_r5 _ (List.mem_of_getElem? (i := 7) rfl)
theorem inwsL_isDone_wsL_isDone_r7 : ∀ w ∈ wsL_isDone_r7, w ∈ wsL_isDone := fun _ h => List.mem_cons_of_mem _ (List.mem_append_left _ (List.mem_append_left _ (List.mem_append_left _ (List.mem_append_left _ (List.mem_append_left _ (List.mem_append_left _ (List.mem_append_left _ (List.mem_append_left _ (List.mem_append_right _ (List.mem_append_right _ (List.mem_append_right _ (List.mem_append_right _ (List.mem_append_right _ (List.mem_append_right _ (List.mem_append_left _ (h))))))))))))))))
theorem mwsL_isDone_r7_6 : Cond.selects RX2 yX2_leave yX2_leave ∈ wsL_isDone := inwsL_isDone_wsL_isDone_r7 _ (List.mem_of_getElem? (i := 6) rfl)
theorem mwsL_isDone_r7_5 : Cond.instanceMethod yX2_leave ∈ wsL_isDone := inwsL_isDone_wsL_isDone_r7 _ (List.mem_of_getElem? (i := 5) rfl)
theorem mwsL_isDone_r7_4 : Cond.methodLink RX4 144 yX2_leave ∈ wsL_isDone := inwsL_isDone_wsL_isDone_r7 _ (List.mem_of_getElem? (i := 4) rfl)
theorem mwsL_isDone_r7_3 : Cond.code yX4_drop cX4_drop 4 (some .int) ∈ wsL_isDone := inwsL_isDone_wsL_isDone_r7 _ (List.mem_of_getElem? (i := 3) rfl)
theorem mwsL_isDone_r7_2 : Cond.selects RX4 yX4_drop yX4_drop ∈ wsL_isDone := inwsL_isDone_wsL_isDone_r7 _ (List.mem_of_getElem? (i := 2) rfl)
theorem mwsL_isDone_r7_1 : Cond.instanceMethod yX4_drop ∈ wsL_isDone := inwsL_isDone_wsL_isDone_r7 _ (List.mem_of_getElem? (i := 1) rfl)
theorem mwsL_isDone_r7_0 : Cond.methodLink RL 47 yX4_drop ∈ wsL_isDone := inwsL_isDone_wsL_isDone_r7 _ (List.mem_of_getElem? (i := 0) rfl)
theorem mwsL_isDone_r6_23 : Cond.fieldLink RX2 15 "RowReplicator$Subscriber" "copies" "[I" ∈ wsL_isDone := inwsL_isDone_wsL_isDone_r6 _ (List.mem_of_getElem? (i := 23) rfl)
theorem mwsL_isDone_r6_22 : Cond.code yX2_forgetTables cX2_forgetTables 2 none ∈ wsL_isDone := inwsL_isDone_wsL_isDone_r6 _ (List.mem_of_getElem? (i := 22) rfl)
theorem mwsL_isDone_r6_21 : Cond.selects RX2 yX2_forgetTables yX2_forgetTables ∈ wsL_isDone := inwsL_isDone_wsL_isDone_r6 _ (List.mem_of_getElem? (i := 21) rfl)
theorem mwsL_isDone_r6_20 : Cond.instanceMethod yX2_forgetTables ∈ wsL_isDone := inwsL_isDone_wsL_isDone_r6 _ (List.mem_of_getElem? (i := 20) rfl)
theorem mwsL_isDone_r6_19 : Cond.methodLink RX2 29 yX2_forgetTables ∈ wsL_isDone := inwsL_isDone_wsL_isDone_r6 _ (List.mem_of_getElem? (i := 19) rfl)
theorem mwsL_isDone_r6_18 : Cond.fieldLink RX2 18 "RowReplicator$Subscriber" "publication" "LRowReplicator$Publication;" ∈ wsL_isDone := inwsL_isDone_wsL_isDone_r6 _ (List.mem_of_getElem? (i := 18) rfl)
theorem mwsL_isDone_r6_17 : Cond.code yX2_follow cX2_follow 3 none ∈ wsL_isDone := inwsL_isDone_wsL_isDone_r6 _ (List.mem_of_getElem? (i := 17) rfl)
theorem mwsL_isDone_r6_16 : Cond.selects RX2 yX2_follow yX2_follow ∈ wsL_isDone := inwsL_isDone_wsL_isDone_r6 _ (List.mem_of_getElem? (i := 16) rfl)
theorem mwsL_isDone_r6_15 : Cond.instanceMethod yX2_follow ∈ wsL_isDone := inwsL_isDone_wsL_isDone_r6 _ (List.mem_of_getElem? (i := 15) rfl)
theorem mwsL_isDone_r6_14 : Cond.methodLink RX4 140 yX2_follow ∈ wsL_isDone := inwsL_isDone_wsL_isDone_r6 _ (List.mem_of_getElem? (i := 14) rfl)
theorem mwsL_isDone_r6_13 : Cond.code yX4_checkSubscriber cX4_checkSubscriber 1 none ∈ wsL_isDone := inwsL_isDone_wsL_isDone_r6 _ (List.mem_of_getElem? (i := 13) rfl)
theorem mwsL_isDone_r6_12 : Cond.static yX4_checkSubscriber ∈ wsL_isDone := inwsL_isDone_wsL_isDone_r6 _ (List.mem_of_getElem? (i := 12) rfl)
theorem mwsL_isDone_r6_11 : Cond.methodLink RX4 134 yX4_checkSubscriber ∈ wsL_isDone := inwsL_isDone_wsL_isDone_r6 _ (List.mem_of_getElem? (i := 11) rfl)
theorem mwsL_isDone_r6_10 : Cond.code yX4_subscribe cX4_subscribe 5 (some .int) ∈ wsL_isDone := inwsL_isDone_wsL_isDone_r6 _ (List.mem_of_getElem? (i := 10) rfl)
theorem mwsL_isDone_r6_9 : Cond.selects RX4 yX4_subscribe yX4_subscribe ∈ wsL_isDone := inwsL_isDone_wsL_isDone_r6 _ (List.mem_of_getElem? (i := 9) rfl)
theorem mwsL_isDone_r6_8 : Cond.instanceMethod yX4_subscribe ∈ wsL_isDone := inwsL_isDone_wsL_isDone_r6 _ (List.mem_of_getElem? (i := 8) rfl)
theorem mwsL_isDone_r6_7 : Cond.methodLink RL 43 yX4_subscribe ∈ wsL_isDone := inwsL_isDone_wsL_isDone_r6 _ (List.mem_of_getElem? (i := 7) rfl)
theorem inwsL_isDone_wsL_isDone_r8 : ∀ w ∈ wsL_isDone_r8, w ∈ wsL_isDone := fun _ h => List.mem_cons_of_mem _ (List.mem_append_left _ (List.mem_append_left _ (List.mem_append_left _ (List.mem_append_left _ (List.mem_append_left _ (List.mem_append_left _ (List.mem_append_left _ (List.mem_append_left _ (List.mem_append_right _ (List.mem_append_right _ (List.mem_append_right _ (List.mem_append_right _ (List.mem_append_right _ (List.mem_append_right _ (List.mem_append_right _ (List.mem_append_left _ (h)))))))))))))))))
theorem mwsL_isDone_r8_6 : Cond.code yX4_receive cX4_receive 6 (some .int) ∈ wsL_isDone := inwsL_isDone_wsL_isDone_r8 _ (List.mem_of_getElem? (i := 6) rfl)
theorem mwsL_isDone_r8_5 : Cond.selects RX4 yX4_receive yX4_receive ∈ wsL_isDone := inwsL_isDone_wsL_isDone_r8 _ (List.mem_of_getElem? (i := 5) rfl)
theorem mwsL_isDone_r8_4 : Cond.instanceMethod yX4_receive ∈ wsL_isDone := inwsL_isDone_wsL_isDone_r8 _ (List.mem_of_getElem? (i := 4) rfl)
theorem mwsL_isDone_r8_3 : Cond.methodLink RL 53 yX4_receive ∈ wsL_isDone := inwsL_isDone_wsL_isDone_r8 _ (List.mem_of_getElem? (i := 3) rfl)
theorem mwsL_isDone_r8_2 : Cond.fieldLink RX0 18 "RowReplicator$Publication" "numbers" "[I" ∈ wsL_isDone := inwsL_isDone_wsL_isDone_r8 _ (List.mem_of_getElem? (i := 2) rfl)
theorem mwsL_isDone_r8_1 : Cond.fieldLink RX0 15 "RowReplicator$Publication" "relations" "[I" ∈ wsL_isDone := inwsL_isDone_wsL_isDone_r8 _ (List.mem_of_getElem? (i := 1) rfl)
theorem mwsL_isDone_r8_0 : Cond.code yX0_lets cX0_lets 3 (some .boolean) ∈ wsL_isDone := inwsL_isDone_wsL_isDone_r8 _ (List.mem_of_getElem? (i := 0) rfl)
theorem mwsL_isDone_r7_23 : Cond.selects RX0 yX0_lets yX0_lets ∈ wsL_isDone := inwsL_isDone_wsL_isDone_r7 _ (List.mem_of_getElem? (i := 23) rfl)
theorem mwsL_isDone_r7_22 : Cond.instanceMethod yX0_lets ∈ wsL_isDone := inwsL_isDone_wsL_isDone_r7 _ (List.mem_of_getElem? (i := 22) rfl)
theorem mwsL_isDone_r7_21 : Cond.methodLink RX0 29 yX0_lets ∈ wsL_isDone := inwsL_isDone_wsL_isDone_r7 _ (List.mem_of_getElem? (i := 21) rfl)
theorem mwsL_isDone_r7_20 : Cond.code yX4_numberIn cX4_numberIn 2 (some .int) ∈ wsL_isDone := inwsL_isDone_wsL_isDone_r7 _ (List.mem_of_getElem? (i := 20) rfl)
theorem mwsL_isDone_r7_19 : Cond.static yX4_numberIn ∈ wsL_isDone := inwsL_isDone_wsL_isDone_r7 _ (List.mem_of_getElem? (i := 19) rfl)
theorem mwsL_isDone_r7_18 : Cond.fieldLink RX0 21 "RowReplicator$Publication" "masks" "[I" ∈ wsL_isDone := inwsL_isDone_wsL_isDone_r7 _ (List.mem_of_getElem? (i := 18) rfl)
theorem mwsL_isDone_r7_17 : Cond.fieldLink RX0 9 "RowReplicator$Publication" "columns" "[I" ∈ wsL_isDone := inwsL_isDone_wsL_isDone_r7 _ (List.mem_of_getElem? (i := 17) rfl)
theorem mwsL_isDone_r7_16 : Cond.code yX0_choose cX0_choose 3 (some .int) ∈ wsL_isDone := inwsL_isDone_wsL_isDone_r7 _ (List.mem_of_getElem? (i := 16) rfl)
theorem mwsL_isDone_r7_15 : Cond.initialized RX0 ∈ wsL_isDone := inwsL_isDone_wsL_isDone_r7 _ (List.mem_of_getElem? (i := 15) rfl)
theorem mwsL_isDone_r7_14 : Cond.selects RX0 yX0_choose yX0_choose ∈ wsL_isDone := inwsL_isDone_wsL_isDone_r7 _ (List.mem_of_getElem? (i := 14) rfl)
theorem mwsL_isDone_r7_13 : Cond.instanceMethod yX0_choose ∈ wsL_isDone := inwsL_isDone_wsL_isDone_r7 _ (List.mem_of_getElem? (i := 13) rfl)
theorem mwsL_isDone_r7_12 : Cond.methodLink RX4 155 yX0_choose ∈ wsL_isDone := inwsL_isDone_wsL_isDone_r7 _ (List.mem_of_getElem? (i := 12) rfl)
theorem mwsL_isDone_r7_11 : Cond.code yX4_copy cX4_copy 9 (some .int) ∈ wsL_isDone := inwsL_isDone_wsL_isDone_r7 _ (List.mem_of_getElem? (i := 11) rfl)
theorem mwsL_isDone_r7_10 : Cond.selects RX4 yX4_copy yX4_copy ∈ wsL_isDone := inwsL_isDone_wsL_isDone_r7 _ (List.mem_of_getElem? (i := 10) rfl)
theorem mwsL_isDone_r7_9 : Cond.instanceMethod yX4_copy ∈ wsL_isDone := inwsL_isDone_wsL_isDone_r7 _ (List.mem_of_getElem? (i := 9) rfl)
theorem mwsL_isDone_r7_8 : Cond.methodLink RL 50 yX4_copy ∈ wsL_isDone := inwsL_isDone_wsL_isDone_r7 _ (List.mem_of_getElem? (i := 8) rfl)
theorem mwsL_isDone_r7_7 : Cond.code yX2_leave cX2_leave 1 none ∈ wsL_isDone := inwsL_isDone_wsL_isDone_r7 _ (List.mem_of_getElem? (i := 7) rfl)
theorem inwsL_isDone_wsL_isDone_r9 : ∀ w ∈ wsL_isDone_r9, w ∈ wsL_isDone := fun _ h => List.mem_cons_of_mem _ (List.mem_append_left _ (List.mem_append_left _ (List.mem_append_left _ (List.mem_append_left _ (List.mem_append_left _ (List.mem_append_left _ (List.mem_append_left _ (List.mem_append_left _ (List.mem_append_right _ (List.mem_append_right _ (List.mem_append_right _ (List.mem_append_right _ (List.mem_append_right _ (List.mem_append_right _ (List.mem_append_right _ (List.mem_append_right _ (List.mem_append_left _ (h))))))))))))))))))
theorem mwsL_isDone_r9_6 : Cond.instanceMethod yX2_accept ∈ wsL_isDone := inwsL_isDone_wsL_isDone_r9 _ (List.mem_of_getElem? (i := 6) rfl)
theorem mwsL_isDone_r9_5 : Cond.methodLink RX4 172 yX2_accept ∈ wsL_isDone := inwsL_isDone_wsL_isDone_r9 _ (List.mem_of_getElem? (i := 5) rfl)
theorem mwsL_isDone_r9_4 : Cond.methodLink RX3 64 yX0_choose ∈ wsL_isDone := inwsL_isDone_wsL_isDone_r9 _ (List.mem_of_getElem? (i := 4) rfl)
theorem mwsL_isDone_r9_3 : Cond.code yX3_follows cX3_follows 9 (some .boolean) ∈ wsL_isDone := inwsL_isDone_wsL_isDone_r9 _ (List.mem_of_getElem? (i := 3) rfl)
theorem mwsL_isDone_r9_2 : Cond.selects RX3 yX3_follows yX3_follows ∈ wsL_isDone := inwsL_isDone_wsL_isDone_r9 _ (List.mem_of_getElem? (i := 2) rfl)
theorem mwsL_isDone_r9_1 : Cond.instanceMethod yX3_follows ∈ wsL_isDone := inwsL_isDone_wsL_isDone_r9 _ (List.mem_of_getElem? (i := 1) rfl)
theorem mwsL_isDone_r9_0 : Cond.methodLink RX3 56 yX3_follows ∈ wsL_isDone := inwsL_isDone_wsL_isDone_r9 _ (List.mem_of_getElem? (i := 0) rfl)
theorem mwsL_isDone_r8_23 : Cond.code yX3_takeAll cX3_takeAll 4 none ∈ wsL_isDone := inwsL_isDone_wsL_isDone_r8 _ (List.mem_of_getElem? (i := 23) rfl)
theorem mwsL_isDone_r8_22 : Cond.selects RX3 yX3_takeAll yX3_takeAll ∈ wsL_isDone := inwsL_isDone_wsL_isDone_r8 _ (List.mem_of_getElem? (i := 22) rfl)
theorem mwsL_isDone_r8_21 : Cond.instanceMethod yX3_takeAll ∈ wsL_isDone := inwsL_isDone_wsL_isDone_r8 _ (List.mem_of_getElem? (i := 21) rfl)
theorem mwsL_isDone_r8_20 : Cond.methodLink RX3 49 yX3_takeAll ∈ wsL_isDone := inwsL_isDone_wsL_isDone_r8 _ (List.mem_of_getElem? (i := 20) rfl)
theorem mwsL_isDone_r8_19 : Cond.code yX2_takesChangesOf cX2_takesChangesOf 3 (some .boolean) ∈ wsL_isDone := inwsL_isDone_wsL_isDone_r8 _ (List.mem_of_getElem? (i := 19) rfl)
theorem mwsL_isDone_r8_18 : Cond.selects RX2 yX2_takesChangesOf yX2_takesChangesOf ∈ wsL_isDone := inwsL_isDone_wsL_isDone_r8 _ (List.mem_of_getElem? (i := 18) rfl)
theorem mwsL_isDone_r8_17 : Cond.instanceMethod yX2_takesChangesOf ∈ wsL_isDone := inwsL_isDone_wsL_isDone_r8 _ (List.mem_of_getElem? (i := 17) rfl)
theorem mwsL_isDone_r8_16 : Cond.methodLink RX3 45 yX2_takesChangesOf ∈ wsL_isDone := inwsL_isDone_wsL_isDone_r8 _ (List.mem_of_getElem? (i := 16) rfl)
theorem mwsL_isDone_r8_15 : Cond.fieldLink RX3 15 "RowReplicator$Trial" "rows" "[I" ∈ wsL_isDone := inwsL_isDone_wsL_isDone_r8 _ (List.mem_of_getElem? (i := 15) rfl)
theorem mwsL_isDone_r8_14 : Cond.methodLink RX3 29 arraycopyName ∈ wsL_isDone := inwsL_isDone_wsL_isDone_r8 _ (List.mem_of_getElem? (i := 14) rfl)
theorem mwsL_isDone_r8_13 : Cond.fieldLink RX3 9 "RowReplicator$Trial" "oldRows" "[I" ∈ wsL_isDone := inwsL_isDone_wsL_isDone_r8 _ (List.mem_of_getElem? (i := 13) rfl)
theorem mwsL_isDone_r8_12 : Cond.code yX3_applies cX3_applies 9 (some .boolean) ∈ wsL_isDone := inwsL_isDone_wsL_isDone_r8 _ (List.mem_of_getElem? (i := 12) rfl)
theorem mwsL_isDone_r8_11 : Cond.initialized RX3 ∈ wsL_isDone := inwsL_isDone_wsL_isDone_r8 _ (List.mem_of_getElem? (i := 11) rfl)
theorem mwsL_isDone_r8_10 : Cond.selects RX3 yX3_applies yX3_applies ∈ wsL_isDone := inwsL_isDone_wsL_isDone_r8 _ (List.mem_of_getElem? (i := 10) rfl)
theorem mwsL_isDone_r8_9 : Cond.instanceMethod yX3_applies ∈ wsL_isDone := inwsL_isDone_wsL_isDone_r8 _ (List.mem_of_getElem? (i := 9) rfl)
theorem mwsL_isDone_r8_8 : Cond.methodLink RX4 167 yX3_applies ∈ wsL_isDone := inwsL_isDone_wsL_isDone_r8 _ (List.mem_of_getElem? (i := 8) rfl)
theorem mwsL_isDone_r8_7 : Cond.fieldLink RX4 31 "RowReplicator" "trial" "LRowReplicator$Trial;" ∈ wsL_isDone := inwsL_isDone_wsL_isDone_r8 _ (List.mem_of_getElem? (i := 7) rfl)
theorem mwsL_isDone_r9_18 : Cond.code yX4_own cX4_own 8 (some .boolean) ∈ wsL_isDone := inwsL_isDone_wsL_isDone_r9 _ (List.mem_of_getElem? (i := 18) rfl)
theorem mwsL_isDone_r9_17 : Cond.selects RX4 yX4_own yX4_own ∈ wsL_isDone := inwsL_isDone_wsL_isDone_r9 _ (List.mem_of_getElem? (i := 17) rfl)
theorem mwsL_isDone_r9_16 : Cond.instanceMethod yX4_own ∈ wsL_isDone := inwsL_isDone_wsL_isDone_r9 _ (List.mem_of_getElem? (i := 16) rfl)
theorem mwsL_isDone_r9_15 : Cond.methodLink RL 60 yX4_own ∈ wsL_isDone := inwsL_isDone_wsL_isDone_r9 _ (List.mem_of_getElem? (i := 15) rfl)
theorem mwsL_isDone_r9_14 : Cond.code yX4_goOn cX4_goOn 4 (some .int) ∈ wsL_isDone := inwsL_isDone_wsL_isDone_r9 _ (List.mem_of_getElem? (i := 14) rfl)
theorem mwsL_isDone_r9_13 : Cond.selects RX4 yX4_goOn yX4_goOn ∈ wsL_isDone := inwsL_isDone_wsL_isDone_r9 _ (List.mem_of_getElem? (i := 13) rfl)
theorem mwsL_isDone_r9_12 : Cond.instanceMethod yX4_goOn ∈ wsL_isDone := inwsL_isDone_wsL_isDone_r9 _ (List.mem_of_getElem? (i := 12) rfl)
theorem mwsL_isDone_r9_11 : Cond.methodLink RL 56 yX4_goOn ∈ wsL_isDone := inwsL_isDone_wsL_isDone_r9 _ (List.mem_of_getElem? (i := 11) rfl)
theorem mwsL_isDone_r9_10 : Cond.methodLink RX2 36 arraycopyName ∈ wsL_isDone := inwsL_isDone_wsL_isDone_r9 _ (List.mem_of_getElem? (i := 10) rfl)
theorem mwsL_isDone_r9_9 : Cond.fieldLink RX2 9 "RowReplicator$Subscriber" "rows" "[I" ∈ wsL_isDone := inwsL_isDone_wsL_isDone_r9 _ (List.mem_of_getElem? (i := 9) rfl)
theorem mwsL_isDone_r9_8 : Cond.code yX2_accept cX2_accept 2 none ∈ wsL_isDone := inwsL_isDone_wsL_isDone_r9 _ (List.mem_of_getElem? (i := 8) rfl)
theorem mwsL_isDone_r9_7 : Cond.selects RX2 yX2_accept yX2_accept ∈ wsL_isDone := inwsL_isDone_wsL_isDone_r9 _ (List.mem_of_getElem? (i := 7) rfl)
set_option maxRecDepth 20000 in
theorem ggL_isDone_L_isChange : GoodIn wsL_isDone wsL_isChange := (goodIn_c (goodIn_sub (ws := [.code yL_isChange cL_isChange 16 (some .boolean)]) (List.forall_mem_cons.mpr ⟨mwsL_isDone_r1_7, fun _ h => nomatch h⟩) (by decide +kernel)) (goodIn_app (goodIn_app (goodIn_app (goodIn_app (goodIn_app (goodIn_app (goodIn_app (goodIn_app (goodIn_app (goodIn_sub (ws := wsL_isChange_r1) (List.forall_mem_cons.mpr ⟨mwsL_isDone_r1_8, (List.forall_mem_cons.mpr ⟨mwsL_isDone_r1_9, (List.forall_mem_cons.mpr ⟨mwsL_isDone_r1_2, (List.forall_mem_cons.mpr ⟨mwsL_isDone_r1_10, (List.forall_mem_cons.mpr ⟨mwsL_isDone_r1_11, (List.forall_mem_cons.mpr ⟨mwsL_isDone_r1_12, (List.forall_mem_cons.mpr ⟨mwsL_isDone_r1_13, (List.forall_mem_cons.mpr ⟨mwsL_isDone_r1_14, (List.forall_mem_cons.mpr ⟨mwsL_isDone_r1_15, (List.forall_mem_cons.mpr ⟨mwsL_isDone_r1_16, (List.forall_mem_cons.mpr ⟨mwsL_isDone_r1_17, (List.forall_mem_cons.mpr ⟨mwsL_isDone_r1_18, (List.forall_mem_cons.mpr ⟨mwsL_isDone_r1_19, (List.forall_mem_cons.mpr ⟨mwsL_isDone_r1_20, (List.forall_mem_cons.mpr ⟨mwsL_isDone_r1_21, (List.forall_mem_cons.mpr ⟨mwsL_isDone_r1_22, (List.forall_mem_cons.mpr ⟨mwsL_isDone_r1_23, (List.forall_mem_cons.mpr ⟨mwsL_isDone_r2_0, (List.forall_mem_cons.mpr ⟨mwsL_isDone_r2_1, (List.forall_mem_cons.mpr ⟨mwsL_isDone_r2_2, (List.forall_mem_cons.mpr ⟨mwsL_isDone_r2_3, (List.forall_mem_cons.mpr ⟨mwsL_isDone_r2_4, (List.forall_mem_cons.mpr ⟨mwsL_isDone_r2_5, (List.forall_mem_cons.mpr ⟨mwsL_isDone_r2_6, (fun _ h => nomatch h)⟩)⟩)⟩)⟩)⟩)⟩)⟩)⟩)⟩)⟩)⟩)⟩)⟩)⟩)⟩)⟩)⟩)⟩)⟩)⟩)⟩)⟩)⟩)⟩) (by decide +kernel)) (goodIn_app (goodIn_sub (ws := wsL_isChange_r2) (List.forall_mem_cons.mpr ⟨mwsL_isDone_r2_7, (List.forall_mem_cons.mpr ⟨mwsL_isDone_r2_8, (List.forall_mem_cons.mpr ⟨mwsL_isDone_r2_9, (List.forall_mem_cons.mpr ⟨mwsL_isDone_r2_10, (List.forall_mem_cons.mpr ⟨mwsL_isDone_r2_11, (List.forall_mem_cons.mpr ⟨mwsL_isDone_r2_12, (List.forall_mem_cons.mpr ⟨mwsL_isDone_r2_13, (List.forall_mem_cons.mpr ⟨mwsL_isDone_r2_14, (List.forall_mem_cons.mpr ⟨mwsL_isDone_r2_15, (List.forall_mem_cons.mpr ⟨mwsL_isDone_r2_16, (List.forall_mem_cons.mpr ⟨mwsL_isDone_r2_17, (List.forall_mem_cons.mpr ⟨mwsL_isDone_r2_18, (List.forall_mem_cons.mpr ⟨mwsL_isDone_r2_19, (List.forall_mem_cons.mpr ⟨mwsL_isDone_r2_20, (List.forall_mem_cons.mpr ⟨mwsL_isDone_r2_21, (List.forall_mem_cons.mpr ⟨mwsL_isDone_r2_22, (List.forall_mem_cons.mpr ⟨mwsL_isDone_r2_23, (List.forall_mem_cons.mpr ⟨mwsL_isDone_r3_0, (List.forall_mem_cons.mpr ⟨mwsL_isDone_r3_1, (List.forall_mem_cons.mpr ⟨mwsL_isDone_r3_2, (List.forall_mem_cons.mpr ⟨mwsL_isDone_r3_3, (List.forall_mem_cons.mpr ⟨mwsL_isDone_r3_4, (List.forall_mem_cons.mpr ⟨mwsL_isDone_r3_5, (List.forall_mem_cons.mpr ⟨mwsL_isDone_r3_6, (fun _ h => nomatch h)⟩)⟩)⟩)⟩)⟩)⟩)⟩)⟩)⟩)⟩)⟩)⟩)⟩)⟩)⟩)⟩)⟩)⟩)⟩)⟩)⟩)⟩)⟩)⟩) (by decide +kernel)) (goodIn_app (goodIn_sub (ws := wsL_isChange_r3) (List.forall_mem_cons.mpr ⟨mwsL_isDone_r3_7, (List.forall_mem_cons.mpr ⟨mwsL_isDone_r3_8, (List.forall_mem_cons.mpr ⟨mwsL_isDone_r3_9, (List.forall_mem_cons.mpr ⟨mwsL_isDone_r3_10, (List.forall_mem_cons.mpr ⟨mwsL_isDone_r3_11, (List.forall_mem_cons.mpr ⟨mwsL_isDone_r3_12, (List.forall_mem_cons.mpr ⟨mwsL_isDone_r3_13, (List.forall_mem_cons.mpr ⟨mwsL_isDone_r3_14, (List.forall_mem_cons.mpr ⟨mwsL_isDone_r3_15, (List.forall_mem_cons.mpr ⟨mwsL_isDone_r3_16, (List.forall_mem_cons.mpr ⟨mwsL_isDone_r3_17, (List.forall_mem_cons.mpr ⟨mwsL_isDone_r3_18, (List.forall_mem_cons.mpr ⟨mwsL_isDone_r3_19, (List.forall_mem_cons.mpr ⟨mwsL_isDone_r3_20, (List.forall_mem_cons.mpr ⟨mwsL_isDone_r3_21, (List.forall_mem_cons.mpr ⟨mwsL_isDone_r3_22, (List.forall_mem_cons.mpr ⟨mwsL_isDone_r3_23, (List.forall_mem_cons.mpr ⟨mwsL_isDone_r4_0, (List.forall_mem_cons.mpr ⟨mwsL_isDone_r4_1, (List.forall_mem_cons.mpr ⟨mwsL_isDone_r4_2, (List.forall_mem_cons.mpr ⟨mwsL_isDone_r4_3, (List.forall_mem_cons.mpr ⟨mwsL_isDone_r4_4, (List.forall_mem_cons.mpr ⟨mwsL_isDone_r4_5, (List.forall_mem_cons.mpr ⟨mwsL_isDone_r4_6, (fun _ h => nomatch h)⟩)⟩)⟩)⟩)⟩)⟩)⟩)⟩)⟩)⟩)⟩)⟩)⟩)⟩)⟩)⟩)⟩)⟩)⟩)⟩)⟩)⟩)⟩)⟩) (by decide +kernel)) (goodIn_app (goodIn_sub (ws := wsL_isChange_r4) (List.forall_mem_cons.mpr ⟨mwsL_isDone_r4_7, (List.forall_mem_cons.mpr ⟨mwsL_isDone_r4_8, (List.forall_mem_cons.mpr ⟨mwsL_isDone_r4_9, (List.forall_mem_cons.mpr ⟨mwsL_isDone_r4_10, (List.forall_mem_cons.mpr ⟨mwsL_isDone_r4_11, (List.forall_mem_cons.mpr ⟨mwsL_isDone_r4_12, (List.forall_mem_cons.mpr ⟨mwsL_isDone_r4_13, (List.forall_mem_cons.mpr ⟨mwsL_isDone_r4_14, (List.forall_mem_cons.mpr ⟨mwsL_isDone_r4_15, (List.forall_mem_cons.mpr ⟨mwsL_isDone_r4_16, (List.forall_mem_cons.mpr ⟨mwsL_isDone_r4_17, (List.forall_mem_cons.mpr ⟨mwsL_isDone_r4_18, (List.forall_mem_cons.mpr ⟨mwsL_isDone_r4_19, (List.forall_mem_cons.mpr ⟨mwsL_isDone_r4_20, (List.forall_mem_cons.mpr ⟨mwsL_isDone_r4_21, (List.forall_mem_cons.mpr ⟨mwsL_isDone_r4_22, (List.forall_mem_cons.mpr ⟨mwsL_isDone_r4_23, (List.forall_mem_cons.mpr ⟨mwsL_isDone_r5_0, (List.forall_mem_cons.mpr ⟨mwsL_isDone_r5_1, (List.forall_mem_cons.mpr ⟨mwsL_isDone_r5_2, (List.forall_mem_cons.mpr ⟨mwsL_isDone_r5_3, (List.forall_mem_cons.mpr ⟨mwsL_isDone_r5_4, (List.forall_mem_cons.mpr ⟨mwsL_isDone_r5_5, (List.forall_mem_cons.mpr ⟨mwsL_isDone_r5_6, (fun _ h => nomatch h)⟩)⟩)⟩)⟩)⟩)⟩)⟩)⟩)⟩)⟩)⟩)⟩)⟩)⟩)⟩)⟩)⟩)⟩)⟩)⟩)⟩)⟩)⟩)⟩) (by decide +kernel)) (goodIn_app (goodIn_sub (ws := wsL_isChange_r5) (List.forall_mem_cons.mpr ⟨mwsL_isDone_r5_7, (List.forall_mem_cons.mpr ⟨mwsL_isDone_r5_8, (List.forall_mem_cons.mpr ⟨mwsL_isDone_r5_9, (List.forall_mem_cons.mpr ⟨mwsL_isDone_r5_10, (List.forall_mem_cons.mpr ⟨mwsL_isDone_r5_11, (List.forall_mem_cons.mpr ⟨mwsL_isDone_r5_12, (List.forall_mem_cons.mpr ⟨mwsL_isDone_r5_13, (List.forall_mem_cons.mpr ⟨mwsL_isDone_r5_14, (List.forall_mem_cons.mpr ⟨mwsL_isDone_r5_15, (List.forall_mem_cons.mpr ⟨mwsL_isDone_r5_16, (List.forall_mem_cons.mpr ⟨mwsL_isDone_r5_17, (List.forall_mem_cons.mpr ⟨mwsL_isDone_r5_18, (List.forall_mem_cons.mpr ⟨mwsL_isDone_r5_19, (List.forall_mem_cons.mpr ⟨mwsL_isDone_r5_20, (List.forall_mem_cons.mpr ⟨mwsL_isDone_r5_21, (List.forall_mem_cons.mpr ⟨mwsL_isDone_r5_22, (List.forall_mem_cons.mpr ⟨mwsL_isDone_r5_23, (List.forall_mem_cons.mpr ⟨mwsL_isDone_r6_0, (List.forall_mem_cons.mpr ⟨mwsL_isDone_r6_1, (List.forall_mem_cons.mpr ⟨mwsL_isDone_r6_2, (List.forall_mem_cons.mpr ⟨mwsL_isDone_r6_3, (List.forall_mem_cons.mpr ⟨mwsL_isDone_r6_4, (List.forall_mem_cons.mpr ⟨mwsL_isDone_r6_5, (List.forall_mem_cons.mpr ⟨mwsL_isDone_r6_6, (fun _ h => nomatch h)⟩)⟩)⟩)⟩)⟩)⟩)⟩)⟩)⟩)⟩)⟩)⟩)⟩)⟩)⟩)⟩)⟩)⟩)⟩)⟩)⟩)⟩)⟩)⟩) (by decide +kernel)) (goodIn_app (goodIn_sub (ws := wsL_isChange_r6) (List.forall_mem_cons.mpr ⟨mwsL_isDone_r6_7, (List.forall_mem_cons.mpr ⟨mwsL_isDone_r6_8, (List.forall_mem_cons.mpr ⟨mwsL_isDone_r6_9, (List.forall_mem_cons.mpr ⟨mwsL_isDone_r6_10, (List.forall_mem_cons.mpr ⟨mwsL_isDone_r6_11, (List.forall_mem_cons.mpr ⟨mwsL_isDone_r6_12, (List.forall_mem_cons.mpr ⟨mwsL_isDone_r6_13, (List.forall_mem_cons.mpr ⟨mwsL_isDone_r6_14, (List.forall_mem_cons.mpr ⟨mwsL_isDone_r6_15, (List.forall_mem_cons.mpr ⟨mwsL_isDone_r6_16, (List.forall_mem_cons.mpr ⟨mwsL_isDone_r6_17, (List.forall_mem_cons.mpr ⟨mwsL_isDone_r6_18, (List.forall_mem_cons.mpr ⟨mwsL_isDone_r6_19, (List.forall_mem_cons.mpr ⟨mwsL_isDone_r6_20, (List.forall_mem_cons.mpr ⟨mwsL_isDone_r6_21, (List.forall_mem_cons.mpr ⟨mwsL_isDone_r6_22, (List.forall_mem_cons.mpr ⟨mwsL_isDone_r6_23, (List.forall_mem_cons.mpr ⟨mwsL_isDone_r7_0, (List.forall_mem_cons.mpr ⟨mwsL_isDone_r7_1, (List.forall_mem_cons.mpr ⟨mwsL_isDone_r7_2, (List.forall_mem_cons.mpr ⟨mwsL_isDone_r7_3, (List.forall_mem_cons.mpr ⟨mwsL_isDone_r7_4, (List.forall_mem_cons.mpr ⟨mwsL_isDone_r7_5, (List.forall_mem_cons.mpr ⟨mwsL_isDone_r7_6, (fun _ h => nomatch h)⟩)⟩)⟩)⟩)⟩)⟩)⟩)⟩)⟩)⟩)⟩)⟩)⟩)⟩)⟩)⟩)⟩)⟩)⟩)⟩)⟩)⟩)⟩)⟩) (by decide +kernel)) (goodIn_app (goodIn_sub (ws := wsL_isChange_r7) (List.forall_mem_cons.mpr ⟨mwsL_isDone_r7_7, (List.forall_mem_cons.mpr ⟨mwsL_isDone_r7_8, (List.forall_mem_cons.mpr ⟨mwsL_isDone_r7_9, (List.forall_mem_cons.mpr ⟨mwsL_isDone_r7_10, (List.forall_mem_cons.mpr ⟨mwsL_isDone_r7_11, (List.forall_mem_cons.mpr ⟨mwsL_isDone_r7_12, (List.forall_mem_cons.mpr ⟨mwsL_isDone_r7_13, (List.forall_mem_cons.mpr ⟨mwsL_isDone_r7_14, (List.forall_mem_cons.mpr ⟨mwsL_isDone_r7_15, (List.forall_mem_cons.mpr ⟨mwsL_isDone_r7_16, (List.forall_mem_cons.mpr ⟨mwsL_isDone_r7_17, (List.forall_mem_cons.mpr ⟨mwsL_isDone_r7_18, (List.forall_mem_cons.mpr ⟨mwsL_isDone_r7_19, (List.forall_mem_cons.mpr ⟨mwsL_isDone_r7_20, (List.forall_mem_cons.mpr ⟨mwsL_isDone_r7_21, (List.forall_mem_cons.mpr ⟨mwsL_isDone_r7_22, (List.forall_mem_cons.mpr ⟨mwsL_isDone_r7_23, (List.forall_mem_cons.mpr ⟨mwsL_isDone_r8_0, (List.forall_mem_cons.mpr ⟨mwsL_isDone_r8_1, (List.forall_mem_cons.mpr ⟨mwsL_isDone_r8_2, (List.forall_mem_cons.mpr ⟨mwsL_isDone_r8_3, (List.forall_mem_cons.mpr ⟨mwsL_isDone_r8_4, (List.forall_mem_cons.mpr ⟨mwsL_isDone_r8_5, (List.forall_mem_cons.mpr ⟨mwsL_isDone_r8_6, (fun _ h => nomatch h)⟩)⟩)⟩)⟩)⟩)⟩)⟩)⟩)⟩)⟩)⟩)⟩)⟩)⟩)⟩)⟩)⟩)⟩)⟩)⟩)⟩)⟩)⟩)⟩) (by decide +kernel)) (goodIn_app (goodIn_sub (ws := wsL_isChange_r8) (List.forall_mem_cons.mpr ⟨mwsL_isDone_r8_7, (List.forall_mem_cons.mpr ⟨mwsL_isDone_r8_8, (List.forall_mem_cons.mpr ⟨mwsL_isDone_r8_9, (List.forall_mem_cons.mpr ⟨mwsL_isDone_r8_10, (List.forall_mem_cons.mpr ⟨mwsL_isDone_r8_11, (List.forall_mem_cons.mpr ⟨mwsL_isDone_r8_12, (List.forall_mem_cons.mpr ⟨mwsL_isDone_r8_13, (List.forall_mem_cons.mpr ⟨mwsL_isDone_r8_14, (List.forall_mem_cons.mpr ⟨mwsL_isDone_r8_15, (List.forall_mem_cons.mpr ⟨mwsL_isDone_r8_16, (List.forall_mem_cons.mpr ⟨mwsL_isDone_r8_17, (List.forall_mem_cons.mpr ⟨mwsL_isDone_r8_18, (List.forall_mem_cons.mpr ⟨mwsL_isDone_r8_19, (List.forall_mem_cons.mpr ⟨mwsL_isDone_r8_20, (List.forall_mem_cons.mpr ⟨mwsL_isDone_r8_21, (List.forall_mem_cons.mpr ⟨mwsL_isDone_r8_22, (List.forall_mem_cons.mpr ⟨mwsL_isDone_r8_23, (List.forall_mem_cons.mpr ⟨mwsL_isDone_r9_0, (List.forall_mem_cons.mpr ⟨mwsL_isDone_r9_1, (List.forall_mem_cons.mpr ⟨mwsL_isDone_r9_2, (List.forall_mem_cons.mpr ⟨mwsL_isDone_r9_3, (List.forall_mem_cons.mpr ⟨mwsL_isDone_r9_4, (List.forall_mem_cons.mpr ⟨mwsL_isDone_r9_5, (List.forall_mem_cons.mpr ⟨mwsL_isDone_r9_6, (fun _ h => nomatch h)⟩)⟩)⟩)⟩)⟩)⟩)⟩)⟩)⟩)⟩)⟩)⟩)⟩)⟩)⟩)⟩)⟩)⟩)⟩)⟩)⟩)⟩)⟩)⟩) (by decide +kernel)) (goodIn_sub (ws := wsL_isChange_r9) (List.forall_mem_cons.mpr ⟨mwsL_isDone_r9_7, (List.forall_mem_cons.mpr ⟨mwsL_isDone_r9_8, (List.forall_mem_cons.mpr ⟨mwsL_isDone_r9_9, (List.forall_mem_cons.mpr ⟨mwsL_isDone_r9_10, (List.forall_mem_cons.mpr ⟨mwsL_isDone_r9_11, (List.forall_mem_cons.mpr ⟨mwsL_isDone_r9_12, (List.forall_mem_cons.mpr ⟨mwsL_isDone_r9_13, (List.forall_mem_cons.mpr ⟨mwsL_isDone_r9_14, (List.forall_mem_cons.mpr ⟨mwsL_isDone_r9_15, (List.forall_mem_cons.mpr ⟨mwsL_isDone_r9_16, (List.forall_mem_cons.mpr ⟨mwsL_isDone_r9_17, (List.forall_mem_cons.mpr ⟨mwsL_isDone_r9_18, (fun _ h => nomatch h)⟩)⟩)⟩)⟩)⟩)⟩)⟩)⟩)⟩)⟩)⟩)⟩) (by decide +kernel)))))))))) (goodIn_sub (fun _ h => List.mem_cons_of_mem _ (List.mem_append_left _ (List.mem_append_left _ (List.mem_append_left _ (List.mem_append_left _ (List.mem_append_left _ (List.mem_append_left _ (List.mem_append_left _ (List.mem_append_right _ (h)))))))))) (by decide +kernel))) (goodIn_sub (fun _ h => List.mem_cons_of_mem _ (List.mem_append_left _ (List.mem_append_left _ (List.mem_append_left _ (List.mem_append_left _ (List.mem_append_left _ (List.mem_append_left _ (List.mem_append_right _ (h))))))))) (by decide +kernel))) (goodIn_sub (fun _ h => List.mem_cons_of_mem _ (List.mem_append_left _ (List.mem_append_left _ (List.mem_append_left _ (List.mem_append_left _ (List.mem_append_left _ (List.mem_append_right _ (h)))))))) (by decide +kernel))) (goodIn_sub (fun _ h => List.mem_cons_of_mem _ (List.mem_append_left _ (List.mem_append_left _ (List.mem_append_left _ (List.mem_append_left _ (List.mem_append_right _ (h))))))) (by decide +kernel))) (goodIn_sub (fun _ h => List.mem_cons_of_mem _ (List.mem_append_left _ (List.mem_append_left _ (List.mem_append_left _ (List.mem_append_right _ (h)))))) (by decide +kernel))) (goodIn_sub (fun _ h => List.mem_cons_of_mem _ (List.mem_append_left _ (List.mem_append_left _ (List.mem_append_right _ (h))))) (by decide +kernel))) (goodIn_sub (fun _ h => List.mem_cons_of_mem _ (List.mem_append_left _ (List.mem_append_right _ (h)))) (by decide +kernel))) (goodIn_sub (fun _ h => List.mem_cons_of_mem _ (List.mem_append_right _ (h))) (by decide +kernel))))
set_option maxRecDepth 20000 in
theorem gL_isDone_L_isChange : GoodIn wsL_isDone (va_wsS RL 105 yL_isChange wsL_isChange) := goodIn_app (goodIn_of _ (by decide +kernel)) ggL_isDone_L_isChange
set_option maxRecDepth 20000 in
theorem ggL_isDone_L_cuts : GoodIn wsL_isDone wsL_cuts := goodIn_r _ [214] (by decide +kernel) (by decide +kernel)
set_option maxRecDepth 20000 in
theorem gL_isDone_L_cuts : GoodIn wsL_isDone (va_wsS RL 109 yL_cuts wsL_cuts) := goodIn_app (goodIn_of _ (by decide +kernel)) ggL_isDone_L_cuts
set_option maxRecDepth 20000 in
theorem ggL_isDone_L_does : GoodIn wsL_isDone wsL_does := (goodIn_c (goodIn_sub (ws := [.codeWith yL_does cL_does 8 (some .int) [(0, 217, 218, 64), (0, 217, 223, 66), (0, 217, 228, 68)]]) (List.forall_mem_cons.mpr ⟨mwsL_isDone_r1_10, fun _ h => nomatch h⟩) (by decide +kernel)) (goodIn_app (goodIn_app (goodIn_app (goodIn_app (goodIn_app (goodIn_app (goodIn_app (goodIn_app (goodIn_app (goodIn_sub (ws := wsL_does_r1) (List.forall_mem_cons.mpr ⟨mwsL_isDone_r1_11, (List.forall_mem_cons.mpr ⟨mwsL_isDone_r1_12, (List.forall_mem_cons.mpr ⟨mwsL_isDone_r1_13, (List.forall_mem_cons.mpr ⟨mwsL_isDone_r1_14, (List.forall_mem_cons.mpr ⟨mwsL_isDone_r1_15, (List.forall_mem_cons.mpr ⟨mwsL_isDone_r1_16, (List.forall_mem_cons.mpr ⟨mwsL_isDone_r1_17, (List.forall_mem_cons.mpr ⟨mwsL_isDone_r1_18, (List.forall_mem_cons.mpr ⟨mwsL_isDone_r1_19, (List.forall_mem_cons.mpr ⟨mwsL_isDone_r1_20, (List.forall_mem_cons.mpr ⟨mwsL_isDone_r1_21, (List.forall_mem_cons.mpr ⟨mwsL_isDone_r1_22, (List.forall_mem_cons.mpr ⟨mwsL_isDone_r1_23, (List.forall_mem_cons.mpr ⟨mwsL_isDone_r2_0, (List.forall_mem_cons.mpr ⟨mwsL_isDone_r2_1, (List.forall_mem_cons.mpr ⟨mwsL_isDone_r2_2, (List.forall_mem_cons.mpr ⟨mwsL_isDone_r2_3, (List.forall_mem_cons.mpr ⟨mwsL_isDone_r2_4, (List.forall_mem_cons.mpr ⟨mwsL_isDone_r2_5, (List.forall_mem_cons.mpr ⟨mwsL_isDone_r2_6, (List.forall_mem_cons.mpr ⟨mwsL_isDone_r2_7, (List.forall_mem_cons.mpr ⟨mwsL_isDone_r2_8, (List.forall_mem_cons.mpr ⟨mwsL_isDone_r2_9, (List.forall_mem_cons.mpr ⟨mwsL_isDone_r2_10, (fun _ h => nomatch h)⟩)⟩)⟩)⟩)⟩)⟩)⟩)⟩)⟩)⟩)⟩)⟩)⟩)⟩)⟩)⟩)⟩)⟩)⟩)⟩)⟩)⟩)⟩)⟩) (by decide +kernel)) (goodIn_app (goodIn_sub (ws := wsL_does_r2) (List.forall_mem_cons.mpr ⟨mwsL_isDone_r2_11, (List.forall_mem_cons.mpr ⟨mwsL_isDone_r2_12, (List.forall_mem_cons.mpr ⟨mwsL_isDone_r2_13, (List.forall_mem_cons.mpr ⟨mwsL_isDone_r2_14, (List.forall_mem_cons.mpr ⟨mwsL_isDone_r2_15, (List.forall_mem_cons.mpr ⟨mwsL_isDone_r2_16, (List.forall_mem_cons.mpr ⟨mwsL_isDone_r2_17, (List.forall_mem_cons.mpr ⟨mwsL_isDone_r2_18, (List.forall_mem_cons.mpr ⟨mwsL_isDone_r2_19, (List.forall_mem_cons.mpr ⟨mwsL_isDone_r2_20, (List.forall_mem_cons.mpr ⟨mwsL_isDone_r2_21, (List.forall_mem_cons.mpr ⟨mwsL_isDone_r2_22, (List.forall_mem_cons.mpr ⟨mwsL_isDone_r2_23, (List.forall_mem_cons.mpr ⟨mwsL_isDone_r3_0, (List.forall_mem_cons.mpr ⟨mwsL_isDone_r3_1, (List.forall_mem_cons.mpr ⟨mwsL_isDone_r3_2, (List.forall_mem_cons.mpr ⟨mwsL_isDone_r3_3, (List.forall_mem_cons.mpr ⟨mwsL_isDone_r3_4, (List.forall_mem_cons.mpr ⟨mwsL_isDone_r3_5, (List.forall_mem_cons.mpr ⟨mwsL_isDone_r3_6, (List.forall_mem_cons.mpr ⟨mwsL_isDone_r3_7, (List.forall_mem_cons.mpr ⟨mwsL_isDone_r3_8, (List.forall_mem_cons.mpr ⟨mwsL_isDone_r3_9, (List.forall_mem_cons.mpr ⟨mwsL_isDone_r3_10, (fun _ h => nomatch h)⟩)⟩)⟩)⟩)⟩)⟩)⟩)⟩)⟩)⟩)⟩)⟩)⟩)⟩)⟩)⟩)⟩)⟩)⟩)⟩)⟩)⟩)⟩)⟩) (by decide +kernel)) (goodIn_app (goodIn_sub (ws := wsL_does_r3) (List.forall_mem_cons.mpr ⟨mwsL_isDone_r3_11, (List.forall_mem_cons.mpr ⟨mwsL_isDone_r3_12, (List.forall_mem_cons.mpr ⟨mwsL_isDone_r3_13, (List.forall_mem_cons.mpr ⟨mwsL_isDone_r1_2, (List.forall_mem_cons.mpr ⟨mwsL_isDone_r3_14, (List.forall_mem_cons.mpr ⟨mwsL_isDone_r3_15, (List.forall_mem_cons.mpr ⟨mwsL_isDone_r3_16, (List.forall_mem_cons.mpr ⟨mwsL_isDone_r3_17, (List.forall_mem_cons.mpr ⟨mwsL_isDone_r3_18, (List.forall_mem_cons.mpr ⟨mwsL_isDone_r3_19, (List.forall_mem_cons.mpr ⟨mwsL_isDone_r3_20, (List.forall_mem_cons.mpr ⟨mwsL_isDone_r3_21, (List.forall_mem_cons.mpr ⟨mwsL_isDone_r3_22, (List.forall_mem_cons.mpr ⟨mwsL_isDone_r3_23, (List.forall_mem_cons.mpr ⟨mwsL_isDone_r4_0, (List.forall_mem_cons.mpr ⟨mwsL_isDone_r4_1, (List.forall_mem_cons.mpr ⟨mwsL_isDone_r4_2, (List.forall_mem_cons.mpr ⟨mwsL_isDone_r4_3, (List.forall_mem_cons.mpr ⟨mwsL_isDone_r4_4, (List.forall_mem_cons.mpr ⟨mwsL_isDone_r4_5, (List.forall_mem_cons.mpr ⟨mwsL_isDone_r4_6, (List.forall_mem_cons.mpr ⟨mwsL_isDone_r4_7, (List.forall_mem_cons.mpr ⟨mwsL_isDone_r4_8, (List.forall_mem_cons.mpr ⟨mwsL_isDone_r4_9, (fun _ h => nomatch h)⟩)⟩)⟩)⟩)⟩)⟩)⟩)⟩)⟩)⟩)⟩)⟩)⟩)⟩)⟩)⟩)⟩)⟩)⟩)⟩)⟩)⟩)⟩)⟩) (by decide +kernel)) (goodIn_app (goodIn_sub (ws := wsL_does_r4) (List.forall_mem_cons.mpr ⟨mwsL_isDone_r4_10, (List.forall_mem_cons.mpr ⟨mwsL_isDone_r4_11, (List.forall_mem_cons.mpr ⟨mwsL_isDone_r4_12, (List.forall_mem_cons.mpr ⟨mwsL_isDone_r4_13, (List.forall_mem_cons.mpr ⟨mwsL_isDone_r4_14, (List.forall_mem_cons.mpr ⟨mwsL_isDone_r4_15, (List.forall_mem_cons.mpr ⟨mwsL_isDone_r4_16, (List.forall_mem_cons.mpr ⟨mwsL_isDone_r4_17, (List.forall_mem_cons.mpr ⟨mwsL_isDone_r4_18, (List.forall_mem_cons.mpr ⟨mwsL_isDone_r4_19, (List.forall_mem_cons.mpr ⟨mwsL_isDone_r4_20, (List.forall_mem_cons.mpr ⟨mwsL_isDone_r4_21, (List.forall_mem_cons.mpr ⟨mwsL_isDone_r4_22, (List.forall_mem_cons.mpr ⟨mwsL_isDone_r4_23, (List.forall_mem_cons.mpr ⟨mwsL_isDone_r5_0, (List.forall_mem_cons.mpr ⟨mwsL_isDone_r5_1, (List.forall_mem_cons.mpr ⟨mwsL_isDone_r5_2, (List.forall_mem_cons.mpr ⟨mwsL_isDone_r5_3, (List.forall_mem_cons.mpr ⟨mwsL_isDone_r5_4, (List.forall_mem_cons.mpr ⟨mwsL_isDone_r5_5, (List.forall_mem_cons.mpr ⟨mwsL_isDone_r5_6, (List.forall_mem_cons.mpr ⟨mwsL_isDone_r5_7, (List.forall_mem_cons.mpr ⟨mwsL_isDone_r5_8, (List.forall_mem_cons.mpr ⟨mwsL_isDone_r5_9, (fun _ h => nomatch h)⟩)⟩)⟩)⟩)⟩)⟩)⟩)⟩)⟩)⟩)⟩)⟩)⟩)⟩)⟩)⟩)⟩)⟩)⟩)⟩)⟩)⟩)⟩)⟩) (by decide +kernel)) (goodIn_app (goodIn_sub (ws := wsL_does_r5) (List.forall_mem_cons.mpr ⟨mwsL_isDone_r5_10, (List.forall_mem_cons.mpr ⟨mwsL_isDone_r5_11, (List.forall_mem_cons.mpr ⟨mwsL_isDone_r5_12, (List.forall_mem_cons.mpr ⟨mwsL_isDone_r5_13, (List.forall_mem_cons.mpr ⟨mwsL_isDone_r5_14, (List.forall_mem_cons.mpr ⟨mwsL_isDone_r5_15, (List.forall_mem_cons.mpr ⟨mwsL_isDone_r5_16, (List.forall_mem_cons.mpr ⟨mwsL_isDone_r5_17, (List.forall_mem_cons.mpr ⟨mwsL_isDone_r5_18, (List.forall_mem_cons.mpr ⟨mwsL_isDone_r5_19, (List.forall_mem_cons.mpr ⟨mwsL_isDone_r5_20, (List.forall_mem_cons.mpr ⟨mwsL_isDone_r5_21, (List.forall_mem_cons.mpr ⟨mwsL_isDone_r5_22, (List.forall_mem_cons.mpr ⟨mwsL_isDone_r5_23, (List.forall_mem_cons.mpr ⟨mwsL_isDone_r6_0, (List.forall_mem_cons.mpr ⟨mwsL_isDone_r6_1, (List.forall_mem_cons.mpr ⟨mwsL_isDone_r6_2, (List.forall_mem_cons.mpr ⟨mwsL_isDone_r6_3, (List.forall_mem_cons.mpr ⟨mwsL_isDone_r6_4, (List.forall_mem_cons.mpr ⟨mwsL_isDone_r6_5, (List.forall_mem_cons.mpr ⟨mwsL_isDone_r6_6, (List.forall_mem_cons.mpr ⟨mwsL_isDone_r6_7, (List.forall_mem_cons.mpr ⟨mwsL_isDone_r6_8, (List.forall_mem_cons.mpr ⟨mwsL_isDone_r6_9, (fun _ h => nomatch h)⟩)⟩)⟩)⟩)⟩)⟩)⟩)⟩)⟩)⟩)⟩)⟩)⟩)⟩)⟩)⟩)⟩)⟩)⟩)⟩)⟩)⟩)⟩)⟩) (by decide +kernel)) (goodIn_app (goodIn_sub (ws := wsL_does_r6) (List.forall_mem_cons.mpr ⟨mwsL_isDone_r6_10, (List.forall_mem_cons.mpr ⟨mwsL_isDone_r6_11, (List.forall_mem_cons.mpr ⟨mwsL_isDone_r6_12, (List.forall_mem_cons.mpr ⟨mwsL_isDone_r6_13, (List.forall_mem_cons.mpr ⟨mwsL_isDone_r6_14, (List.forall_mem_cons.mpr ⟨mwsL_isDone_r6_15, (List.forall_mem_cons.mpr ⟨mwsL_isDone_r6_16, (List.forall_mem_cons.mpr ⟨mwsL_isDone_r6_17, (List.forall_mem_cons.mpr ⟨mwsL_isDone_r6_18, (List.forall_mem_cons.mpr ⟨mwsL_isDone_r6_19, (List.forall_mem_cons.mpr ⟨mwsL_isDone_r6_20, (List.forall_mem_cons.mpr ⟨mwsL_isDone_r6_21, (List.forall_mem_cons.mpr ⟨mwsL_isDone_r6_22, (List.forall_mem_cons.mpr ⟨mwsL_isDone_r6_23, (List.forall_mem_cons.mpr ⟨mwsL_isDone_r7_0, (List.forall_mem_cons.mpr ⟨mwsL_isDone_r7_1, (List.forall_mem_cons.mpr ⟨mwsL_isDone_r7_2, (List.forall_mem_cons.mpr ⟨mwsL_isDone_r7_3, (List.forall_mem_cons.mpr ⟨mwsL_isDone_r7_4, (List.forall_mem_cons.mpr ⟨mwsL_isDone_r7_5, (List.forall_mem_cons.mpr ⟨mwsL_isDone_r7_6, (List.forall_mem_cons.mpr ⟨mwsL_isDone_r7_7, (List.forall_mem_cons.mpr ⟨mwsL_isDone_r7_8, (List.forall_mem_cons.mpr ⟨mwsL_isDone_r7_9, (fun _ h => nomatch h)⟩)⟩)⟩)⟩)⟩)⟩)⟩)⟩)⟩)⟩)⟩)⟩)⟩)⟩)⟩)⟩)⟩)⟩)⟩)⟩)⟩)⟩)⟩)⟩) (by decide +kernel)) (goodIn_app (goodIn_sub (ws := wsL_does_r7) (List.forall_mem_cons.mpr ⟨mwsL_isDone_r7_10, (List.forall_mem_cons.mpr ⟨mwsL_isDone_r7_11, (List.forall_mem_cons.mpr ⟨mwsL_isDone_r7_12, (List.forall_mem_cons.mpr ⟨mwsL_isDone_r7_13, (List.forall_mem_cons.mpr ⟨mwsL_isDone_r7_14, (List.forall_mem_cons.mpr ⟨mwsL_isDone_r7_15, (List.forall_mem_cons.mpr ⟨mwsL_isDone_r7_16, (List.forall_mem_cons.mpr ⟨mwsL_isDone_r7_17, (List.forall_mem_cons.mpr ⟨mwsL_isDone_r7_18, (List.forall_mem_cons.mpr ⟨mwsL_isDone_r7_19, (List.forall_mem_cons.mpr ⟨mwsL_isDone_r7_20, (List.forall_mem_cons.mpr ⟨mwsL_isDone_r7_21, (List.forall_mem_cons.mpr ⟨mwsL_isDone_r7_22, (List.forall_mem_cons.mpr ⟨mwsL_isDone_r7_23, (List.forall_mem_cons.mpr ⟨mwsL_isDone_r8_0, (List.forall_mem_cons.mpr ⟨mwsL_isDone_r8_1, (List.forall_mem_cons.mpr ⟨mwsL_isDone_r8_2, (List.forall_mem_cons.mpr ⟨mwsL_isDone_r8_3, (List.forall_mem_cons.mpr ⟨mwsL_isDone_r8_4, (List.forall_mem_cons.mpr ⟨mwsL_isDone_r8_5, (List.forall_mem_cons.mpr ⟨mwsL_isDone_r8_6, (List.forall_mem_cons.mpr ⟨mwsL_isDone_r8_7, (List.forall_mem_cons.mpr ⟨mwsL_isDone_r8_8, (List.forall_mem_cons.mpr ⟨mwsL_isDone_r8_9, (fun _ h => nomatch h)⟩)⟩)⟩)⟩)⟩)⟩)⟩)⟩)⟩)⟩)⟩)⟩)⟩)⟩)⟩)⟩)⟩)⟩)⟩)⟩)⟩)⟩)⟩)⟩) (by decide +kernel)) (goodIn_app (goodIn_sub (ws := wsL_does_r8) (List.forall_mem_cons.mpr ⟨mwsL_isDone_r8_10, (List.forall_mem_cons.mpr ⟨mwsL_isDone_r8_11, (List.forall_mem_cons.mpr ⟨mwsL_isDone_r8_12, (List.forall_mem_cons.mpr ⟨mwsL_isDone_r8_13, (List.forall_mem_cons.mpr ⟨mwsL_isDone_r8_14, (List.forall_mem_cons.mpr ⟨mwsL_isDone_r8_15, (List.forall_mem_cons.mpr ⟨mwsL_isDone_r8_16, (List.forall_mem_cons.mpr ⟨mwsL_isDone_r8_17, (List.forall_mem_cons.mpr ⟨mwsL_isDone_r8_18, (List.forall_mem_cons.mpr ⟨mwsL_isDone_r8_19, (List.forall_mem_cons.mpr ⟨mwsL_isDone_r8_20, (List.forall_mem_cons.mpr ⟨mwsL_isDone_r8_21, (List.forall_mem_cons.mpr ⟨mwsL_isDone_r8_22, (List.forall_mem_cons.mpr ⟨mwsL_isDone_r8_23, (List.forall_mem_cons.mpr ⟨mwsL_isDone_r9_0, (List.forall_mem_cons.mpr ⟨mwsL_isDone_r9_1, (List.forall_mem_cons.mpr ⟨mwsL_isDone_r9_2, (List.forall_mem_cons.mpr ⟨mwsL_isDone_r9_3, (List.forall_mem_cons.mpr ⟨mwsL_isDone_r9_4, (List.forall_mem_cons.mpr ⟨mwsL_isDone_r9_5, (List.forall_mem_cons.mpr ⟨mwsL_isDone_r9_6, (List.forall_mem_cons.mpr ⟨mwsL_isDone_r9_7, (List.forall_mem_cons.mpr ⟨mwsL_isDone_r9_8, (List.forall_mem_cons.mpr ⟨mwsL_isDone_r9_9, (fun _ h => nomatch h)⟩)⟩)⟩)⟩)⟩)⟩)⟩)⟩)⟩)⟩)⟩)⟩)⟩)⟩)⟩)⟩)⟩)⟩)⟩)⟩)⟩)⟩)⟩)⟩) (by decide +kernel)) (goodIn_sub (ws := wsL_does_r9) (List.forall_mem_cons.mpr ⟨mwsL_isDone_r9_10, (List.forall_mem_cons.mpr ⟨mwsL_isDone_r9_11, (List.forall_mem_cons.mpr ⟨mwsL_isDone_r9_12, (List.forall_mem_cons.mpr ⟨mwsL_isDone_r9_13, (List.forall_mem_cons.mpr ⟨mwsL_isDone_r9_14, (List.forall_mem_cons.mpr ⟨mwsL_isDone_r9_15, (List.forall_mem_cons.mpr ⟨mwsL_isDone_r9_16, (List.forall_mem_cons.mpr ⟨mwsL_isDone_r9_17, (List.forall_mem_cons.mpr ⟨mwsL_isDone_r9_18, (fun _ h => nomatch h)⟩)⟩)⟩)⟩)⟩)⟩)⟩)⟩)⟩) (by decide +kernel)))))))))) (goodIn_sub (fun _ h => List.mem_cons_of_mem _ (List.mem_append_left _ (List.mem_append_left _ (List.mem_append_left _ (List.mem_append_left _ (List.mem_append_left _ (List.mem_append_left _ (List.mem_append_left _ (List.mem_append_right _ (h)))))))))) (by decide +kernel))) (goodIn_sub (fun _ h => List.mem_cons_of_mem _ (List.mem_append_left _ (List.mem_append_left _ (List.mem_append_left _ (List.mem_append_left _ (List.mem_append_left _ (List.mem_append_left _ (List.mem_append_right _ (h))))))))) (by decide +kernel))) (goodIn_sub (fun _ h => List.mem_cons_of_mem _ (List.mem_append_left _ (List.mem_append_left _ (List.mem_append_left _ (List.mem_append_left _ (List.mem_append_left _ (List.mem_append_right _ (h)))))))) (by decide +kernel))) (goodIn_sub (fun _ h => List.mem_cons_of_mem _ (List.mem_append_left _ (List.mem_append_left _ (List.mem_append_left _ (List.mem_append_left _ (List.mem_append_right _ (h))))))) (by decide +kernel))) (goodIn_sub (fun _ h => List.mem_cons_of_mem _ (List.mem_append_left _ (List.mem_append_left _ (List.mem_append_left _ (List.mem_append_right _ (h)))))) (by decide +kernel))) (goodIn_sub (fun _ h => List.mem_cons_of_mem _ (List.mem_append_left _ (List.mem_append_left _ (List.mem_append_right _ (h))))) (by decide +kernel))) (goodIn_sub (fun _ h => List.mem_cons_of_mem _ (List.mem_append_left _ (List.mem_append_right _ (h)))) (by decide +kernel))) (goodIn_sub (fun _ h => List.mem_cons_of_mem _ (List.mem_append_right _ (h))) (by decide +kernel))))
set_option maxRecDepth 20000 in
theorem gL_isDone_L_does : GoodIn wsL_isDone (va_wsS RL 97 yL_does wsL_does) := goodIn_app (goodIn_of _ (by decide +kernel)) ggL_isDone_L_does
theorem inwsL_isDone_wsL_isDone_r10 : ∀ w ∈ wsL_isDone_r10, w ∈ wsL_isDone := fun _ h => List.mem_cons_of_mem _ (List.mem_append_left _ (List.mem_append_left _ (List.mem_append_left _ (List.mem_append_left _ (List.mem_append_left _ (List.mem_append_left _ (List.mem_append_left _ (List.mem_append_left _ (List.mem_append_right _ (List.mem_append_right _ (List.mem_append_right _ (List.mem_append_right _ (List.mem_append_right _ (List.mem_append_right _ (List.mem_append_right _ (List.mem_append_right _ (List.mem_append_right _ (List.mem_append_left _ (h)))))))))))))))))))
theorem mwsL_isDone_r10_1 : Cond.code yX4_rollBack cX4_rollBack 2 (some .int) ∈ wsL_isDone := inwsL_isDone_wsL_isDone_r10 _ (List.mem_of_getElem? (i := 1) rfl)
theorem mwsL_isDone_r10_5 : Cond.code yX1_undo cX1_undo 1 none ∈ wsL_isDone := inwsL_isDone_wsL_isDone_r10 _ (List.mem_of_getElem? (i := 5) rfl)
theorem mwsL_isDone_r10_4 : Cond.selects RX1 yX1_undo yX1_undo ∈ wsL_isDone := inwsL_isDone_wsL_isDone_r10 _ (List.mem_of_getElem? (i := 4) rfl)
theorem mwsL_isDone_r10_3 : Cond.instanceMethod yX1_undo ∈ wsL_isDone := inwsL_isDone_wsL_isDone_r10 _ (List.mem_of_getElem? (i := 3) rfl)
theorem mwsL_isDone_r10_2 : Cond.methodLink RX4 93 yX1_undo ∈ wsL_isDone := inwsL_isDone_wsL_isDone_r10 _ (List.mem_of_getElem? (i := 2) rfl)
set_option maxRecDepth 20000 in
theorem ggL_isDone_X4_rollBack : GoodIn wsL_isDone wsX4_rollBack := (goodIn_c (goodIn_sub (ws := [.code yX4_rollBack cX4_rollBack 2 (some .int)]) (List.forall_mem_cons.mpr ⟨mwsL_isDone_r10_1, fun _ h => nomatch h⟩) (by decide +kernel)) (goodIn_app (goodIn_app (goodIn_sub (ws := [.fieldLink RX4 12 "RowReplicator" "publisher" "LRowReplicator$Publisher;", .methodLink RX4 90 yX1_openChanges, .instanceMethod yX1_openChanges, .selects RX1 yX1_openChanges yX1_openChanges, .initialized RX1, .code yX1_openChanges cX1_openChanges 1 (some .int), .fieldLink RX1 19 "RowReplicator$Publisher" "changeCounts" "[I", .fieldLink RX1 15 "RowReplicator$Publisher" "commitCount" "I", .methodLink RX4 93 yX1_undo, .instanceMethod yX1_undo, .selects RX1 yX1_undo yX1_undo, .code yX1_undo cX1_undo 1 none, .fieldLink RX1 31 "RowReplicator$Publisher" "committedRows" "[I", .fieldLink RX1 9 "RowReplicator$Publisher" "rows" "[I", .methodLink RX1 38 arraycopyName, .native arraycopyName, .static arraycopyName, .initialized "java/lang/System"]) (List.forall_mem_cons.mpr ⟨mwsL_isDone_r1_19, (List.forall_mem_cons.mpr ⟨mwsL_isDone_r2_15, (List.forall_mem_cons.mpr ⟨mwsL_isDone_r2_16, (List.forall_mem_cons.mpr ⟨mwsL_isDone_r2_17, (List.forall_mem_cons.mpr ⟨mwsL_isDone_r2_18, (List.forall_mem_cons.mpr ⟨mwsL_isDone_r2_19, (List.forall_mem_cons.mpr ⟨mwsL_isDone_r2_20, (List.forall_mem_cons.mpr ⟨mwsL_isDone_r2_21, (List.forall_mem_cons.mpr ⟨mwsL_isDone_r10_2, (List.forall_mem_cons.mpr ⟨mwsL_isDone_r10_3, (List.forall_mem_cons.mpr ⟨mwsL_isDone_r10_4, (List.forall_mem_cons.mpr ⟨mwsL_isDone_r10_5, (List.forall_mem_cons.mpr ⟨mwsL_isDone_r4_7, (List.forall_mem_cons.mpr ⟨mwsL_isDone_r3_11, (List.forall_mem_cons.mpr ⟨mwsL_isDone_r4_8, (List.forall_mem_cons.mpr ⟨mwsL_isDone_r4_9, (List.forall_mem_cons.mpr ⟨mwsL_isDone_r4_10, (List.forall_mem_cons.mpr ⟨mwsL_isDone_r4_11, (fun _ h => nomatch h)⟩)⟩)⟩)⟩)⟩)⟩)⟩)⟩)⟩)⟩)⟩)⟩)⟩)⟩)⟩)⟩)⟩)⟩) (by decide +kernel)) (goodIn_sub (fun _ h => List.mem_cons_of_mem _ (List.mem_append_left _ (List.mem_append_left _ (List.mem_append_left _ (List.mem_append_left _ (List.mem_append_left _ (List.mem_append_left _ (List.mem_append_left _ (List.mem_append_right _ (h)))))))))) (by decide +kernel))) (goodIn_sub (fun _ h => List.mem_cons_of_mem _ (List.mem_append_left _ (List.mem_append_left _ (List.mem_append_left _ (List.mem_append_left _ (List.mem_append_left _ (List.mem_append_left _ (List.mem_append_right _ (h))))))))) (by decide +kernel))))
set_option maxRecDepth 20000 in
theorem gL_isDone_X4_rollBack : GoodIn wsL_isDone (wsV RL 113 RX4 yX4_rollBack wsX4_rollBack) := goodIn_app (goodIn_of _ (by decide +kernel)) ggL_isDone_X4_rollBack
theorem mwsL_isDone_r10_8 : Cond.code yL_isBook cL_isBook 13 (some .boolean) ∈ wsL_isDone := inwsL_isDone_wsL_isDone_r10 _ (List.mem_of_getElem? (i := 8) rfl)
set_option maxRecDepth 20000 in
theorem ggL_isDone_L_isBook : GoodIn wsL_isDone wsL_isBook := (goodIn_c (goodIn_sub (ws := [.code yL_isBook cL_isBook 13 (some .boolean)]) (List.forall_mem_cons.mpr ⟨mwsL_isDone_r10_8, fun _ h => nomatch h⟩) (by decide +kernel)) (goodIn_app (goodIn_app (goodIn_app (goodIn_app (goodIn_app (goodIn_app (goodIn_app (goodIn_app (goodIn_app (goodIn_sub (ws := wsL_isBook_r1) (List.forall_mem_cons.mpr ⟨mwsL_isDone_r1_8, (List.forall_mem_cons.mpr ⟨mwsL_isDone_r1_9, (List.forall_mem_cons.mpr ⟨mwsL_isDone_r1_2, (List.forall_mem_cons.mpr ⟨mwsL_isDone_r1_10, (List.forall_mem_cons.mpr ⟨mwsL_isDone_r1_11, (List.forall_mem_cons.mpr ⟨mwsL_isDone_r1_12, (List.forall_mem_cons.mpr ⟨mwsL_isDone_r1_13, (List.forall_mem_cons.mpr ⟨mwsL_isDone_r1_14, (List.forall_mem_cons.mpr ⟨mwsL_isDone_r1_15, (List.forall_mem_cons.mpr ⟨mwsL_isDone_r1_16, (List.forall_mem_cons.mpr ⟨mwsL_isDone_r1_17, (List.forall_mem_cons.mpr ⟨mwsL_isDone_r1_18, (List.forall_mem_cons.mpr ⟨mwsL_isDone_r1_19, (List.forall_mem_cons.mpr ⟨mwsL_isDone_r1_20, (List.forall_mem_cons.mpr ⟨mwsL_isDone_r1_21, (List.forall_mem_cons.mpr ⟨mwsL_isDone_r1_22, (List.forall_mem_cons.mpr ⟨mwsL_isDone_r1_23, (List.forall_mem_cons.mpr ⟨mwsL_isDone_r2_0, (List.forall_mem_cons.mpr ⟨mwsL_isDone_r2_1, (List.forall_mem_cons.mpr ⟨mwsL_isDone_r2_2, (List.forall_mem_cons.mpr ⟨mwsL_isDone_r2_3, (List.forall_mem_cons.mpr ⟨mwsL_isDone_r2_4, (List.forall_mem_cons.mpr ⟨mwsL_isDone_r2_5, (List.forall_mem_cons.mpr ⟨mwsL_isDone_r2_6, (fun _ h => nomatch h)⟩)⟩)⟩)⟩)⟩)⟩)⟩)⟩)⟩)⟩)⟩)⟩)⟩)⟩)⟩)⟩)⟩)⟩)⟩)⟩)⟩)⟩)⟩)⟩) (by decide +kernel)) (goodIn_app (goodIn_sub (ws := wsL_isBook_r2) (List.forall_mem_cons.mpr ⟨mwsL_isDone_r2_7, (List.forall_mem_cons.mpr ⟨mwsL_isDone_r2_8, (List.forall_mem_cons.mpr ⟨mwsL_isDone_r2_9, (List.forall_mem_cons.mpr ⟨mwsL_isDone_r2_10, (List.forall_mem_cons.mpr ⟨mwsL_isDone_r2_11, (List.forall_mem_cons.mpr ⟨mwsL_isDone_r2_12, (List.forall_mem_cons.mpr ⟨mwsL_isDone_r2_13, (List.forall_mem_cons.mpr ⟨mwsL_isDone_r2_14, (List.forall_mem_cons.mpr ⟨mwsL_isDone_r2_15, (List.forall_mem_cons.mpr ⟨mwsL_isDone_r2_16, (List.forall_mem_cons.mpr ⟨mwsL_isDone_r2_17, (List.forall_mem_cons.mpr ⟨mwsL_isDone_r2_18, (List.forall_mem_cons.mpr ⟨mwsL_isDone_r2_19, (List.forall_mem_cons.mpr ⟨mwsL_isDone_r2_20, (List.forall_mem_cons.mpr ⟨mwsL_isDone_r2_21, (List.forall_mem_cons.mpr ⟨mwsL_isDone_r2_22, (List.forall_mem_cons.mpr ⟨mwsL_isDone_r2_23, (List.forall_mem_cons.mpr ⟨mwsL_isDone_r3_0, (List.forall_mem_cons.mpr ⟨mwsL_isDone_r3_1, (List.forall_mem_cons.mpr ⟨mwsL_isDone_r3_2, (List.forall_mem_cons.mpr ⟨mwsL_isDone_r3_3, (List.forall_mem_cons.mpr ⟨mwsL_isDone_r3_4, (List.forall_mem_cons.mpr ⟨mwsL_isDone_r3_5, (List.forall_mem_cons.mpr ⟨mwsL_isDone_r3_6, (fun _ h => nomatch h)⟩)⟩)⟩)⟩)⟩)⟩)⟩)⟩)⟩)⟩)⟩)⟩)⟩)⟩)⟩)⟩)⟩)⟩)⟩)⟩)⟩)⟩)⟩)⟩) (by decide +kernel)) (goodIn_app (goodIn_sub (ws := wsL_isBook_r3) (List.forall_mem_cons.mpr ⟨mwsL_isDone_r3_7, (List.forall_mem_cons.mpr ⟨mwsL_isDone_r3_8, (List.forall_mem_cons.mpr ⟨mwsL_isDone_r3_9, (List.forall_mem_cons.mpr ⟨mwsL_isDone_r3_10, (List.forall_mem_cons.mpr ⟨mwsL_isDone_r3_11, (List.forall_mem_cons.mpr ⟨mwsL_isDone_r3_12, (List.forall_mem_cons.mpr ⟨mwsL_isDone_r3_13, (List.forall_mem_cons.mpr ⟨mwsL_isDone_r3_14, (List.forall_mem_cons.mpr ⟨mwsL_isDone_r3_15, (List.forall_mem_cons.mpr ⟨mwsL_isDone_r3_16, (List.forall_mem_cons.mpr ⟨mwsL_isDone_r3_17, (List.forall_mem_cons.mpr ⟨mwsL_isDone_r3_18, (List.forall_mem_cons.mpr ⟨mwsL_isDone_r3_19, (List.forall_mem_cons.mpr ⟨mwsL_isDone_r3_20, (List.forall_mem_cons.mpr ⟨mwsL_isDone_r3_21, (List.forall_mem_cons.mpr ⟨mwsL_isDone_r3_22, (List.forall_mem_cons.mpr ⟨mwsL_isDone_r3_23, (List.forall_mem_cons.mpr ⟨mwsL_isDone_r4_0, (List.forall_mem_cons.mpr ⟨mwsL_isDone_r4_1, (List.forall_mem_cons.mpr ⟨mwsL_isDone_r4_2, (List.forall_mem_cons.mpr ⟨mwsL_isDone_r4_3, (List.forall_mem_cons.mpr ⟨mwsL_isDone_r4_4, (List.forall_mem_cons.mpr ⟨mwsL_isDone_r4_5, (List.forall_mem_cons.mpr ⟨mwsL_isDone_r4_6, (fun _ h => nomatch h)⟩)⟩)⟩)⟩)⟩)⟩)⟩)⟩)⟩)⟩)⟩)⟩)⟩)⟩)⟩)⟩)⟩)⟩)⟩)⟩)⟩)⟩)⟩)⟩) (by decide +kernel)) (goodIn_app (goodIn_sub (ws := wsL_isBook_r4) (List.forall_mem_cons.mpr ⟨mwsL_isDone_r4_7, (List.forall_mem_cons.mpr ⟨mwsL_isDone_r4_8, (List.forall_mem_cons.mpr ⟨mwsL_isDone_r4_9, (List.forall_mem_cons.mpr ⟨mwsL_isDone_r4_10, (List.forall_mem_cons.mpr ⟨mwsL_isDone_r4_11, (List.forall_mem_cons.mpr ⟨mwsL_isDone_r4_12, (List.forall_mem_cons.mpr ⟨mwsL_isDone_r4_13, (List.forall_mem_cons.mpr ⟨mwsL_isDone_r4_14, (List.forall_mem_cons.mpr ⟨mwsL_isDone_r4_15, (List.forall_mem_cons.mpr ⟨mwsL_isDone_r4_16, (List.forall_mem_cons.mpr ⟨mwsL_isDone_r4_17, (List.forall_mem_cons.mpr ⟨mwsL_isDone_r4_18, (List.forall_mem_cons.mpr ⟨mwsL_isDone_r4_19, (List.forall_mem_cons.mpr ⟨mwsL_isDone_r4_20, (List.forall_mem_cons.mpr ⟨mwsL_isDone_r4_21, (List.forall_mem_cons.mpr ⟨mwsL_isDone_r4_22, (List.forall_mem_cons.mpr ⟨mwsL_isDone_r4_23, (List.forall_mem_cons.mpr ⟨mwsL_isDone_r5_0, (List.forall_mem_cons.mpr ⟨mwsL_isDone_r5_1, (List.forall_mem_cons.mpr ⟨mwsL_isDone_r5_2, (List.forall_mem_cons.mpr ⟨mwsL_isDone_r5_3, (List.forall_mem_cons.mpr ⟨mwsL_isDone_r5_4, (List.forall_mem_cons.mpr ⟨mwsL_isDone_r5_5, (List.forall_mem_cons.mpr ⟨mwsL_isDone_r5_6, (fun _ h => nomatch h)⟩)⟩)⟩)⟩)⟩)⟩)⟩)⟩)⟩)⟩)⟩)⟩)⟩)⟩)⟩)⟩)⟩)⟩)⟩)⟩)⟩)⟩)⟩)⟩) (by decide +kernel)) (goodIn_app (goodIn_sub (ws := wsL_isBook_r5) (List.forall_mem_cons.mpr ⟨mwsL_isDone_r5_7, (List.forall_mem_cons.mpr ⟨mwsL_isDone_r5_8, (List.forall_mem_cons.mpr ⟨mwsL_isDone_r5_9, (List.forall_mem_cons.mpr ⟨mwsL_isDone_r5_10, (List.forall_mem_cons.mpr ⟨mwsL_isDone_r5_11, (List.forall_mem_cons.mpr ⟨mwsL_isDone_r5_12, (List.forall_mem_cons.mpr ⟨mwsL_isDone_r5_13, (List.forall_mem_cons.mpr ⟨mwsL_isDone_r5_14, (List.forall_mem_cons.mpr ⟨mwsL_isDone_r5_15, (List.forall_mem_cons.mpr ⟨mwsL_isDone_r5_16, (List.forall_mem_cons.mpr ⟨mwsL_isDone_r5_17, (List.forall_mem_cons.mpr ⟨mwsL_isDone_r5_18, (List.forall_mem_cons.mpr ⟨mwsL_isDone_r5_19, (List.forall_mem_cons.mpr ⟨mwsL_isDone_r5_20, (List.forall_mem_cons.mpr ⟨mwsL_isDone_r5_21, (List.forall_mem_cons.mpr ⟨mwsL_isDone_r5_22, (List.forall_mem_cons.mpr ⟨mwsL_isDone_r5_23, (List.forall_mem_cons.mpr ⟨mwsL_isDone_r6_0, (List.forall_mem_cons.mpr ⟨mwsL_isDone_r6_1, (List.forall_mem_cons.mpr ⟨mwsL_isDone_r6_2, (List.forall_mem_cons.mpr ⟨mwsL_isDone_r6_3, (List.forall_mem_cons.mpr ⟨mwsL_isDone_r6_4, (List.forall_mem_cons.mpr ⟨mwsL_isDone_r6_5, (List.forall_mem_cons.mpr ⟨mwsL_isDone_r6_6, (fun _ h => nomatch h)⟩)⟩)⟩)⟩)⟩)⟩)⟩)⟩)⟩)⟩)⟩)⟩)⟩)⟩)⟩)⟩)⟩)⟩)⟩)⟩)⟩)⟩)⟩)⟩) (by decide +kernel)) (goodIn_app (goodIn_sub (ws := wsL_isBook_r6) (List.forall_mem_cons.mpr ⟨mwsL_isDone_r6_7, (List.forall_mem_cons.mpr ⟨mwsL_isDone_r6_8, (List.forall_mem_cons.mpr ⟨mwsL_isDone_r6_9, (List.forall_mem_cons.mpr ⟨mwsL_isDone_r6_10, (List.forall_mem_cons.mpr ⟨mwsL_isDone_r6_11, (List.forall_mem_cons.mpr ⟨mwsL_isDone_r6_12, (List.forall_mem_cons.mpr ⟨mwsL_isDone_r6_13, (List.forall_mem_cons.mpr ⟨mwsL_isDone_r6_14, (List.forall_mem_cons.mpr ⟨mwsL_isDone_r6_15, (List.forall_mem_cons.mpr ⟨mwsL_isDone_r6_16, (List.forall_mem_cons.mpr ⟨mwsL_isDone_r6_17, (List.forall_mem_cons.mpr ⟨mwsL_isDone_r6_18, (List.forall_mem_cons.mpr ⟨mwsL_isDone_r6_19, (List.forall_mem_cons.mpr ⟨mwsL_isDone_r6_20, (List.forall_mem_cons.mpr ⟨mwsL_isDone_r6_21, (List.forall_mem_cons.mpr ⟨mwsL_isDone_r6_22, (List.forall_mem_cons.mpr ⟨mwsL_isDone_r6_23, (List.forall_mem_cons.mpr ⟨mwsL_isDone_r7_0, (List.forall_mem_cons.mpr ⟨mwsL_isDone_r7_1, (List.forall_mem_cons.mpr ⟨mwsL_isDone_r7_2, (List.forall_mem_cons.mpr ⟨mwsL_isDone_r7_3, (List.forall_mem_cons.mpr ⟨mwsL_isDone_r7_4, (List.forall_mem_cons.mpr ⟨mwsL_isDone_r7_5, (List.forall_mem_cons.mpr ⟨mwsL_isDone_r7_6, (fun _ h => nomatch h)⟩)⟩)⟩)⟩)⟩)⟩)⟩)⟩)⟩)⟩)⟩)⟩)⟩)⟩)⟩)⟩)⟩)⟩)⟩)⟩)⟩)⟩)⟩)⟩) (by decide +kernel)) (goodIn_app (goodIn_sub (ws := wsL_isBook_r7) (List.forall_mem_cons.mpr ⟨mwsL_isDone_r7_7, (List.forall_mem_cons.mpr ⟨mwsL_isDone_r7_8, (List.forall_mem_cons.mpr ⟨mwsL_isDone_r7_9, (List.forall_mem_cons.mpr ⟨mwsL_isDone_r7_10, (List.forall_mem_cons.mpr ⟨mwsL_isDone_r7_11, (List.forall_mem_cons.mpr ⟨mwsL_isDone_r7_12, (List.forall_mem_cons.mpr ⟨mwsL_isDone_r7_13, (List.forall_mem_cons.mpr ⟨mwsL_isDone_r7_14, (List.forall_mem_cons.mpr ⟨mwsL_isDone_r7_15, (List.forall_mem_cons.mpr ⟨mwsL_isDone_r7_16, (List.forall_mem_cons.mpr ⟨mwsL_isDone_r7_17, (List.forall_mem_cons.mpr ⟨mwsL_isDone_r7_18, (List.forall_mem_cons.mpr ⟨mwsL_isDone_r7_19, (List.forall_mem_cons.mpr ⟨mwsL_isDone_r7_20, (List.forall_mem_cons.mpr ⟨mwsL_isDone_r7_21, (List.forall_mem_cons.mpr ⟨mwsL_isDone_r7_22, (List.forall_mem_cons.mpr ⟨mwsL_isDone_r7_23, (List.forall_mem_cons.mpr ⟨mwsL_isDone_r8_0, (List.forall_mem_cons.mpr ⟨mwsL_isDone_r8_1, (List.forall_mem_cons.mpr ⟨mwsL_isDone_r8_2, (List.forall_mem_cons.mpr ⟨mwsL_isDone_r8_3, (List.forall_mem_cons.mpr ⟨mwsL_isDone_r8_4, (List.forall_mem_cons.mpr ⟨mwsL_isDone_r8_5, (List.forall_mem_cons.mpr ⟨mwsL_isDone_r8_6, (fun _ h => nomatch h)⟩)⟩)⟩)⟩)⟩)⟩)⟩)⟩)⟩)⟩)⟩)⟩)⟩)⟩)⟩)⟩)⟩)⟩)⟩)⟩)⟩)⟩)⟩)⟩) (by decide +kernel)) (goodIn_app (goodIn_sub (ws := wsL_isBook_r8) (List.forall_mem_cons.mpr ⟨mwsL_isDone_r8_7, (List.forall_mem_cons.mpr ⟨mwsL_isDone_r8_8, (List.forall_mem_cons.mpr ⟨mwsL_isDone_r8_9, (List.forall_mem_cons.mpr ⟨mwsL_isDone_r8_10, (List.forall_mem_cons.mpr ⟨mwsL_isDone_r8_11, (List.forall_mem_cons.mpr ⟨mwsL_isDone_r8_12, (List.forall_mem_cons.mpr ⟨mwsL_isDone_r8_13, (List.forall_mem_cons.mpr ⟨mwsL_isDone_r8_14, (List.forall_mem_cons.mpr ⟨mwsL_isDone_r8_15, (List.forall_mem_cons.mpr ⟨mwsL_isDone_r8_16, (List.forall_mem_cons.mpr ⟨mwsL_isDone_r8_17, (List.forall_mem_cons.mpr ⟨mwsL_isDone_r8_18, (List.forall_mem_cons.mpr ⟨mwsL_isDone_r8_19, (List.forall_mem_cons.mpr ⟨mwsL_isDone_r8_20, (List.forall_mem_cons.mpr ⟨mwsL_isDone_r8_21, (List.forall_mem_cons.mpr ⟨mwsL_isDone_r8_22, (List.forall_mem_cons.mpr ⟨mwsL_isDone_r8_23, (List.forall_mem_cons.mpr ⟨mwsL_isDone_r9_0, (List.forall_mem_cons.mpr ⟨mwsL_isDone_r9_1, (List.forall_mem_cons.mpr ⟨mwsL_isDone_r9_2, (List.forall_mem_cons.mpr ⟨mwsL_isDone_r9_3, (List.forall_mem_cons.mpr ⟨mwsL_isDone_r9_4, (List.forall_mem_cons.mpr ⟨mwsL_isDone_r9_5, (List.forall_mem_cons.mpr ⟨mwsL_isDone_r9_6, (fun _ h => nomatch h)⟩)⟩)⟩)⟩)⟩)⟩)⟩)⟩)⟩)⟩)⟩)⟩)⟩)⟩)⟩)⟩)⟩)⟩)⟩)⟩)⟩)⟩)⟩)⟩) (by decide +kernel)) (goodIn_sub (ws := wsL_isBook_r9) (List.forall_mem_cons.mpr ⟨mwsL_isDone_r9_7, (List.forall_mem_cons.mpr ⟨mwsL_isDone_r9_8, (List.forall_mem_cons.mpr ⟨mwsL_isDone_r9_9, (List.forall_mem_cons.mpr ⟨mwsL_isDone_r9_10, (List.forall_mem_cons.mpr ⟨mwsL_isDone_r9_11, (List.forall_mem_cons.mpr ⟨mwsL_isDone_r9_12, (List.forall_mem_cons.mpr ⟨mwsL_isDone_r9_13, (List.forall_mem_cons.mpr ⟨mwsL_isDone_r9_14, (List.forall_mem_cons.mpr ⟨mwsL_isDone_r9_15, (List.forall_mem_cons.mpr ⟨mwsL_isDone_r9_16, (List.forall_mem_cons.mpr ⟨mwsL_isDone_r9_17, (List.forall_mem_cons.mpr ⟨mwsL_isDone_r9_18, (fun _ h => nomatch h)⟩)⟩)⟩)⟩)⟩)⟩)⟩)⟩)⟩)⟩)⟩)⟩) (by decide +kernel)))))))))) (goodIn_sub (fun _ h => List.mem_cons_of_mem _ (List.mem_append_left _ (List.mem_append_left _ (List.mem_append_left _ (List.mem_append_left _ (List.mem_append_left _ (List.mem_append_left _ (List.mem_append_left _ (List.mem_append_right _ (h)))))))))) (by decide +kernel))) (goodIn_sub (fun _ h => List.mem_cons_of_mem _ (List.mem_append_left _ (List.mem_append_left _ (List.mem_append_left _ (List.mem_append_left _ (List.mem_append_left _ (List.mem_append_left _ (List.mem_append_right _ (h))))))))) (by decide +kernel))) (goodIn_sub (fun _ h => List.mem_cons_of_mem _ (List.mem_append_left _ (List.mem_append_left _ (List.mem_append_left _ (List.mem_append_left _ (List.mem_append_left _ (List.mem_append_right _ (h)))))))) (by decide +kernel))) (goodIn_sub (fun _ h => List.mem_cons_of_mem _ (List.mem_append_left _ (List.mem_append_left _ (List.mem_append_left _ (List.mem_append_left _ (List.mem_append_right _ (h))))))) (by decide +kernel))) (goodIn_sub (fun _ h => List.mem_cons_of_mem _ (List.mem_append_left _ (List.mem_append_left _ (List.mem_append_left _ (List.mem_append_right _ (h)))))) (by decide +kernel))) (goodIn_sub (fun _ h => List.mem_cons_of_mem _ (List.mem_append_left _ (List.mem_append_left _ (List.mem_append_right _ (h))))) (by decide +kernel))) (goodIn_sub (fun _ h => List.mem_cons_of_mem _ (List.mem_append_left _ (List.mem_append_right _ (h)))) (by decide +kernel))) (goodIn_sub (fun _ h => List.mem_cons_of_mem _ (List.mem_append_right _ (h))) (by decide +kernel))))
set_option maxRecDepth 20000 in
theorem gL_isDone_L_isBook : GoodIn wsL_isDone (va_wsS RL 116 yL_isBook wsL_isBook) := goodIn_app (goodIn_of _ (by decide +kernel)) ggL_isDone_L_isBook
theorem mwsL_isDone_r10_11 : Cond.code yL_isCopied cL_isCopied 15 (some .boolean) ∈ wsL_isDone := inwsL_isDone_wsL_isDone_r10 _ (List.mem_of_getElem? (i := 11) rfl)
theorem mwsL_isDone_r10_23 : Cond.selects RX4 yX4_isFaithful yX4_isFaithful ∈ wsL_isDone := inwsL_isDone_wsL_isDone_r10 _ (List.mem_of_getElem? (i := 23) rfl)
theorem mwsL_isDone_r10_22 : Cond.instanceMethod yX4_isFaithful ∈ wsL_isDone := inwsL_isDone_wsL_isDone_r10 _ (List.mem_of_getElem? (i := 22) rfl)
theorem mwsL_isDone_r10_21 : Cond.methodLink RL 86 yX4_isFaithful ∈ wsL_isDone := inwsL_isDone_wsL_isDone_r10 _ (List.mem_of_getElem? (i := 21) rfl)
theorem mwsL_isDone_r10_20 : Cond.code yX4_at cX4_at 4 (some .int) ∈ wsL_isDone := inwsL_isDone_wsL_isDone_r10 _ (List.mem_of_getElem? (i := 20) rfl)
theorem mwsL_isDone_r10_19 : Cond.selects RX4 yX4_at yX4_at ∈ wsL_isDone := inwsL_isDone_wsL_isDone_r10 _ (List.mem_of_getElem? (i := 19) rfl)
theorem mwsL_isDone_r10_18 : Cond.instanceMethod yX4_at ∈ wsL_isDone := inwsL_isDone_wsL_isDone_r10 _ (List.mem_of_getElem? (i := 18) rfl)
theorem mwsL_isDone_r10_17 : Cond.methodLink RL 70 yX4_at ∈ wsL_isDone := inwsL_isDone_wsL_isDone_r10 _ (List.mem_of_getElem? (i := 17) rfl)
theorem mwsL_isDone_r10_16 : Cond.methodLink RX4 99 yX4_numberIn ∈ wsL_isDone := inwsL_isDone_wsL_isDone_r10 _ (List.mem_of_getElem? (i := 16) rfl)
theorem mwsL_isDone_r10_15 : Cond.code yX4_seen cX4_seen 5 (some .int) ∈ wsL_isDone := inwsL_isDone_wsL_isDone_r10 _ (List.mem_of_getElem? (i := 15) rfl)
theorem mwsL_isDone_r10_14 : Cond.selects RX4 yX4_seen yX4_seen ∈ wsL_isDone := inwsL_isDone_wsL_isDone_r10 _ (List.mem_of_getElem? (i := 14) rfl)
theorem mwsL_isDone_r10_13 : Cond.instanceMethod yX4_seen ∈ wsL_isDone := inwsL_isDone_wsL_isDone_r10 _ (List.mem_of_getElem? (i := 13) rfl)
theorem mwsL_isDone_r10_12 : Cond.methodLink RL 82 yX4_seen ∈ wsL_isDone := inwsL_isDone_wsL_isDone_r10 _ (List.mem_of_getElem? (i := 12) rfl)
theorem inwsL_isDone_wsL_isDone_r11 : ∀ w ∈ wsL_isDone_r11, w ∈ wsL_isDone := fun _ h => List.mem_cons_of_mem _ (List.mem_append_left _ (List.mem_append_left _ (List.mem_append_left _ (List.mem_append_left _ (List.mem_append_left _ (List.mem_append_left _ (List.mem_append_left _ (List.mem_append_left _ (List.mem_append_right _ (List.mem_append_right _ (List.mem_append_right _ (List.mem_append_right _ (List.mem_append_right _ (List.mem_append_right _ (List.mem_append_right _ (List.mem_append_right _ (List.mem_append_right _ (List.mem_append_right _ (h)))))))))))))))))))
theorem mwsL_isDone_r11_9 : Cond.code yX1_rowAsOf cX1_rowAsOf 3 (some .int) ∈ wsL_isDone := inwsL_isDone_wsL_isDone_r11 _ (List.mem_of_getElem? (i := 9) rfl)
theorem mwsL_isDone_r11_8 : Cond.selects RX1 yX1_rowAsOf yX1_rowAsOf ∈ wsL_isDone := inwsL_isDone_wsL_isDone_r11 _ (List.mem_of_getElem? (i := 8) rfl)
theorem mwsL_isDone_r11_7 : Cond.instanceMethod yX1_rowAsOf ∈ wsL_isDone := inwsL_isDone_wsL_isDone_r11 _ (List.mem_of_getElem? (i := 7) rfl)
theorem mwsL_isDone_r11_6 : Cond.methodLink RX4 194 yX1_rowAsOf ∈ wsL_isDone := inwsL_isDone_wsL_isDone_r11 _ (List.mem_of_getElem? (i := 6) rfl)
theorem mwsL_isDone_r11_5 : Cond.methodLink RX4 181 yX2_holdsLog ∈ wsL_isDone := inwsL_isDone_wsL_isDone_r11 _ (List.mem_of_getElem? (i := 5) rfl)
theorem mwsL_isDone_r11_4 : Cond.code Lib.Math.max.name Lib.Math.max.code 2 (some .int) ∈ wsL_isDone := inwsL_isDone_wsL_isDone_r11 _ (List.mem_of_getElem? (i := 4) rfl)
theorem mwsL_isDone_r11_3 : Cond.initialized "java/lang/Math" ∈ wsL_isDone := inwsL_isDone_wsL_isDone_r11 _ (List.mem_of_getElem? (i := 3) rfl)
theorem mwsL_isDone_r11_2 : Cond.static Lib.Math.max.name ∈ wsL_isDone := inwsL_isDone_wsL_isDone_r11 _ (List.mem_of_getElem? (i := 2) rfl)
theorem mwsL_isDone_r11_1 : Cond.methodLink RX4 189 Lib.Math.max.name ∈ wsL_isDone := inwsL_isDone_wsL_isDone_r11 _ (List.mem_of_getElem? (i := 1) rfl)
theorem mwsL_isDone_r11_0 : Cond.code yX4_isFaithful cX4_isFaithful 9 (some .boolean) ∈ wsL_isDone := inwsL_isDone_wsL_isDone_r11 _ (List.mem_of_getElem? (i := 0) rfl)
set_option maxRecDepth 20000 in
theorem ggL_isDone_L_isCopied : GoodIn wsL_isDone wsL_isCopied := (goodIn_c (goodIn_sub (ws := [.code yL_isCopied cL_isCopied 15 (some .boolean)]) (List.forall_mem_cons.mpr ⟨mwsL_isDone_r10_11, fun _ h => nomatch h⟩) (by decide +kernel)) (goodIn_app (goodIn_app (goodIn_app (goodIn_app (goodIn_app (goodIn_app (goodIn_app (goodIn_app (goodIn_app (goodIn_sub (ws := wsL_isCopied_r1) (List.forall_mem_cons.mpr ⟨mwsL_isDone_r1_8, (List.forall_mem_cons.mpr ⟨mwsL_isDone_r1_9, (List.forall_mem_cons.mpr ⟨mwsL_isDone_r1_2, (List.forall_mem_cons.mpr ⟨mwsL_isDone_r1_10, (List.forall_mem_cons.mpr ⟨mwsL_isDone_r1_11, (List.forall_mem_cons.mpr ⟨mwsL_isDone_r1_12, (List.forall_mem_cons.mpr ⟨mwsL_isDone_r1_13, (List.forall_mem_cons.mpr ⟨mwsL_isDone_r1_14, (List.forall_mem_cons.mpr ⟨mwsL_isDone_r1_15, (List.forall_mem_cons.mpr ⟨mwsL_isDone_r1_16, (List.forall_mem_cons.mpr ⟨mwsL_isDone_r1_17, (List.forall_mem_cons.mpr ⟨mwsL_isDone_r1_18, (List.forall_mem_cons.mpr ⟨mwsL_isDone_r1_19, (List.forall_mem_cons.mpr ⟨mwsL_isDone_r1_20, (List.forall_mem_cons.mpr ⟨mwsL_isDone_r1_21, (List.forall_mem_cons.mpr ⟨mwsL_isDone_r1_22, (List.forall_mem_cons.mpr ⟨mwsL_isDone_r1_23, (List.forall_mem_cons.mpr ⟨mwsL_isDone_r2_0, (List.forall_mem_cons.mpr ⟨mwsL_isDone_r2_1, (List.forall_mem_cons.mpr ⟨mwsL_isDone_r2_2, (List.forall_mem_cons.mpr ⟨mwsL_isDone_r2_3, (List.forall_mem_cons.mpr ⟨mwsL_isDone_r2_4, (List.forall_mem_cons.mpr ⟨mwsL_isDone_r2_5, (List.forall_mem_cons.mpr ⟨mwsL_isDone_r2_6, (fun _ h => nomatch h)⟩)⟩)⟩)⟩)⟩)⟩)⟩)⟩)⟩)⟩)⟩)⟩)⟩)⟩)⟩)⟩)⟩)⟩)⟩)⟩)⟩)⟩)⟩)⟩) (by decide +kernel)) (goodIn_app (goodIn_sub (ws := wsL_isCopied_r2) (List.forall_mem_cons.mpr ⟨mwsL_isDone_r2_7, (List.forall_mem_cons.mpr ⟨mwsL_isDone_r2_8, (List.forall_mem_cons.mpr ⟨mwsL_isDone_r2_9, (List.forall_mem_cons.mpr ⟨mwsL_isDone_r2_10, (List.forall_mem_cons.mpr ⟨mwsL_isDone_r2_11, (List.forall_mem_cons.mpr ⟨mwsL_isDone_r2_12, (List.forall_mem_cons.mpr ⟨mwsL_isDone_r2_13, (List.forall_mem_cons.mpr ⟨mwsL_isDone_r2_14, (List.forall_mem_cons.mpr ⟨mwsL_isDone_r2_15, (List.forall_mem_cons.mpr ⟨mwsL_isDone_r2_16, (List.forall_mem_cons.mpr ⟨mwsL_isDone_r2_17, (List.forall_mem_cons.mpr ⟨mwsL_isDone_r2_18, (List.forall_mem_cons.mpr ⟨mwsL_isDone_r2_19, (List.forall_mem_cons.mpr ⟨mwsL_isDone_r2_20, (List.forall_mem_cons.mpr ⟨mwsL_isDone_r2_21, (List.forall_mem_cons.mpr ⟨mwsL_isDone_r2_22, (List.forall_mem_cons.mpr ⟨mwsL_isDone_r2_23, (List.forall_mem_cons.mpr ⟨mwsL_isDone_r3_0, (List.forall_mem_cons.mpr ⟨mwsL_isDone_r3_1, (List.forall_mem_cons.mpr ⟨mwsL_isDone_r3_2, (List.forall_mem_cons.mpr ⟨mwsL_isDone_r3_3, (List.forall_mem_cons.mpr ⟨mwsL_isDone_r3_4, (List.forall_mem_cons.mpr ⟨mwsL_isDone_r3_5, (List.forall_mem_cons.mpr ⟨mwsL_isDone_r3_6, (fun _ h => nomatch h)⟩)⟩)⟩)⟩)⟩)⟩)⟩)⟩)⟩)⟩)⟩)⟩)⟩)⟩)⟩)⟩)⟩)⟩)⟩)⟩)⟩)⟩)⟩)⟩) (by decide +kernel)) (goodIn_app (goodIn_sub (ws := wsL_isCopied_r3) (List.forall_mem_cons.mpr ⟨mwsL_isDone_r3_7, (List.forall_mem_cons.mpr ⟨mwsL_isDone_r3_8, (List.forall_mem_cons.mpr ⟨mwsL_isDone_r3_9, (List.forall_mem_cons.mpr ⟨mwsL_isDone_r3_10, (List.forall_mem_cons.mpr ⟨mwsL_isDone_r3_11, (List.forall_mem_cons.mpr ⟨mwsL_isDone_r3_12, (List.forall_mem_cons.mpr ⟨mwsL_isDone_r3_13, (List.forall_mem_cons.mpr ⟨mwsL_isDone_r3_14, (List.forall_mem_cons.mpr ⟨mwsL_isDone_r3_15, (List.forall_mem_cons.mpr ⟨mwsL_isDone_r3_16, (List.forall_mem_cons.mpr ⟨mwsL_isDone_r3_17, (List.forall_mem_cons.mpr ⟨mwsL_isDone_r3_18, (List.forall_mem_cons.mpr ⟨mwsL_isDone_r3_19, (List.forall_mem_cons.mpr ⟨mwsL_isDone_r3_20, (List.forall_mem_cons.mpr ⟨mwsL_isDone_r3_21, (List.forall_mem_cons.mpr ⟨mwsL_isDone_r3_22, (List.forall_mem_cons.mpr ⟨mwsL_isDone_r3_23, (List.forall_mem_cons.mpr ⟨mwsL_isDone_r4_0, (List.forall_mem_cons.mpr ⟨mwsL_isDone_r4_1, (List.forall_mem_cons.mpr ⟨mwsL_isDone_r4_2, (List.forall_mem_cons.mpr ⟨mwsL_isDone_r4_3, (List.forall_mem_cons.mpr ⟨mwsL_isDone_r4_4, (List.forall_mem_cons.mpr ⟨mwsL_isDone_r4_5, (List.forall_mem_cons.mpr ⟨mwsL_isDone_r4_6, (fun _ h => nomatch h)⟩)⟩)⟩)⟩)⟩)⟩)⟩)⟩)⟩)⟩)⟩)⟩)⟩)⟩)⟩)⟩)⟩)⟩)⟩)⟩)⟩)⟩)⟩)⟩) (by decide +kernel)) (goodIn_app (goodIn_sub (ws := wsL_isCopied_r4) (List.forall_mem_cons.mpr ⟨mwsL_isDone_r4_7, (List.forall_mem_cons.mpr ⟨mwsL_isDone_r4_8, (List.forall_mem_cons.mpr ⟨mwsL_isDone_r4_9, (List.forall_mem_cons.mpr ⟨mwsL_isDone_r4_10, (List.forall_mem_cons.mpr ⟨mwsL_isDone_r4_11, (List.forall_mem_cons.mpr ⟨mwsL_isDone_r4_12, (List.forall_mem_cons.mpr ⟨mwsL_isDone_r4_13, (List.forall_mem_cons.mpr ⟨mwsL_isDone_r4_14, (List.forall_mem_cons.mpr ⟨mwsL_isDone_r4_15, (List.forall_mem_cons.mpr ⟨mwsL_isDone_r4_16, (List.forall_mem_cons.mpr ⟨mwsL_isDone_r4_17, (List.forall_mem_cons.mpr ⟨mwsL_isDone_r4_18, (List.forall_mem_cons.mpr ⟨mwsL_isDone_r4_19, (List.forall_mem_cons.mpr ⟨mwsL_isDone_r4_20, (List.forall_mem_cons.mpr ⟨mwsL_isDone_r4_21, (List.forall_mem_cons.mpr ⟨mwsL_isDone_r4_22, (List.forall_mem_cons.mpr ⟨mwsL_isDone_r4_23, (List.forall_mem_cons.mpr ⟨mwsL_isDone_r5_0, (List.forall_mem_cons.mpr ⟨mwsL_isDone_r5_1, (List.forall_mem_cons.mpr ⟨mwsL_isDone_r5_2, (List.forall_mem_cons.mpr ⟨mwsL_isDone_r5_3, (List.forall_mem_cons.mpr ⟨mwsL_isDone_r5_4, (List.forall_mem_cons.mpr ⟨mwsL_isDone_r5_5, (List.forall_mem_cons.mpr ⟨mwsL_isDone_r5_6, (fun _ h => nomatch h)⟩)⟩)⟩)⟩)⟩)⟩)⟩)⟩)⟩)⟩)⟩)⟩)⟩)⟩)⟩)⟩)⟩)⟩)⟩)⟩)⟩)⟩)⟩)⟩) (by decide +kernel)) (goodIn_app (goodIn_sub (ws := wsL_isCopied_r5) (List.forall_mem_cons.mpr ⟨mwsL_isDone_r5_7, (List.forall_mem_cons.mpr ⟨mwsL_isDone_r5_8, (List.forall_mem_cons.mpr ⟨mwsL_isDone_r5_9, (List.forall_mem_cons.mpr ⟨mwsL_isDone_r5_10, (List.forall_mem_cons.mpr ⟨mwsL_isDone_r5_11, (List.forall_mem_cons.mpr ⟨mwsL_isDone_r5_12, (List.forall_mem_cons.mpr ⟨mwsL_isDone_r5_13, (List.forall_mem_cons.mpr ⟨mwsL_isDone_r5_14, (List.forall_mem_cons.mpr ⟨mwsL_isDone_r5_15, (List.forall_mem_cons.mpr ⟨mwsL_isDone_r5_16, (List.forall_mem_cons.mpr ⟨mwsL_isDone_r5_17, (List.forall_mem_cons.mpr ⟨mwsL_isDone_r5_18, (List.forall_mem_cons.mpr ⟨mwsL_isDone_r5_19, (List.forall_mem_cons.mpr ⟨mwsL_isDone_r5_20, (List.forall_mem_cons.mpr ⟨mwsL_isDone_r5_21, (List.forall_mem_cons.mpr ⟨mwsL_isDone_r5_22, (List.forall_mem_cons.mpr ⟨mwsL_isDone_r5_23, (List.forall_mem_cons.mpr ⟨mwsL_isDone_r6_0, (List.forall_mem_cons.mpr ⟨mwsL_isDone_r6_1, (List.forall_mem_cons.mpr ⟨mwsL_isDone_r6_2, (List.forall_mem_cons.mpr ⟨mwsL_isDone_r6_3, (List.forall_mem_cons.mpr ⟨mwsL_isDone_r6_4, (List.forall_mem_cons.mpr ⟨mwsL_isDone_r6_5, (List.forall_mem_cons.mpr ⟨mwsL_isDone_r6_6, (fun _ h => nomatch h)⟩)⟩)⟩)⟩)⟩)⟩)⟩)⟩)⟩)⟩)⟩)⟩)⟩)⟩)⟩)⟩)⟩)⟩)⟩)⟩)⟩)⟩)⟩)⟩) (by decide +kernel)) (goodIn_app (goodIn_sub (ws := wsL_isCopied_r6) (List.forall_mem_cons.mpr ⟨mwsL_isDone_r6_7, (List.forall_mem_cons.mpr ⟨mwsL_isDone_r6_8, (List.forall_mem_cons.mpr ⟨mwsL_isDone_r6_9, (List.forall_mem_cons.mpr ⟨mwsL_isDone_r6_10, (List.forall_mem_cons.mpr ⟨mwsL_isDone_r6_11, (List.forall_mem_cons.mpr ⟨mwsL_isDone_r6_12, (List.forall_mem_cons.mpr ⟨mwsL_isDone_r6_13, (List.forall_mem_cons.mpr ⟨mwsL_isDone_r6_14, (List.forall_mem_cons.mpr ⟨mwsL_isDone_r6_15, (List.forall_mem_cons.mpr ⟨mwsL_isDone_r6_16, (List.forall_mem_cons.mpr ⟨mwsL_isDone_r6_17, (List.forall_mem_cons.mpr ⟨mwsL_isDone_r6_18, (List.forall_mem_cons.mpr ⟨mwsL_isDone_r6_19, (List.forall_mem_cons.mpr ⟨mwsL_isDone_r6_20, (List.forall_mem_cons.mpr ⟨mwsL_isDone_r6_21, (List.forall_mem_cons.mpr ⟨mwsL_isDone_r6_22, (List.forall_mem_cons.mpr ⟨mwsL_isDone_r6_23, (List.forall_mem_cons.mpr ⟨mwsL_isDone_r7_0, (List.forall_mem_cons.mpr ⟨mwsL_isDone_r7_1, (List.forall_mem_cons.mpr ⟨mwsL_isDone_r7_2, (List.forall_mem_cons.mpr ⟨mwsL_isDone_r7_3, (List.forall_mem_cons.mpr ⟨mwsL_isDone_r7_4, (List.forall_mem_cons.mpr ⟨mwsL_isDone_r7_5, (List.forall_mem_cons.mpr ⟨mwsL_isDone_r7_6, (fun _ h => nomatch h)⟩)⟩)⟩)⟩)⟩)⟩)⟩)⟩)⟩)⟩)⟩)⟩)⟩)⟩)⟩)⟩)⟩)⟩)⟩)⟩)⟩)⟩)⟩)⟩) (by decide +kernel)) (goodIn_app (goodIn_sub (ws := wsL_isCopied_r7) (List.forall_mem_cons.mpr ⟨mwsL_isDone_r7_7, (List.forall_mem_cons.mpr ⟨mwsL_isDone_r7_8, (List.forall_mem_cons.mpr ⟨mwsL_isDone_r7_9, (List.forall_mem_cons.mpr ⟨mwsL_isDone_r7_10, (List.forall_mem_cons.mpr ⟨mwsL_isDone_r7_11, (List.forall_mem_cons.mpr ⟨mwsL_isDone_r7_12, (List.forall_mem_cons.mpr ⟨mwsL_isDone_r7_13, (List.forall_mem_cons.mpr ⟨mwsL_isDone_r7_14, (List.forall_mem_cons.mpr ⟨mwsL_isDone_r7_15, (List.forall_mem_cons.mpr ⟨mwsL_isDone_r7_16, (List.forall_mem_cons.mpr ⟨mwsL_isDone_r7_17, (List.forall_mem_cons.mpr ⟨mwsL_isDone_r7_18, (List.forall_mem_cons.mpr ⟨mwsL_isDone_r7_19, (List.forall_mem_cons.mpr ⟨mwsL_isDone_r7_20, (List.forall_mem_cons.mpr ⟨mwsL_isDone_r7_21, (List.forall_mem_cons.mpr ⟨mwsL_isDone_r7_22, (List.forall_mem_cons.mpr ⟨mwsL_isDone_r7_23, (List.forall_mem_cons.mpr ⟨mwsL_isDone_r8_0, (List.forall_mem_cons.mpr ⟨mwsL_isDone_r8_1, (List.forall_mem_cons.mpr ⟨mwsL_isDone_r8_2, (List.forall_mem_cons.mpr ⟨mwsL_isDone_r8_3, (List.forall_mem_cons.mpr ⟨mwsL_isDone_r8_4, (List.forall_mem_cons.mpr ⟨mwsL_isDone_r8_5, (List.forall_mem_cons.mpr ⟨mwsL_isDone_r8_6, (fun _ h => nomatch h)⟩)⟩)⟩)⟩)⟩)⟩)⟩)⟩)⟩)⟩)⟩)⟩)⟩)⟩)⟩)⟩)⟩)⟩)⟩)⟩)⟩)⟩)⟩)⟩) (by decide +kernel)) (goodIn_app (goodIn_sub (ws := wsL_isCopied_r8) (List.forall_mem_cons.mpr ⟨mwsL_isDone_r8_7, (List.forall_mem_cons.mpr ⟨mwsL_isDone_r8_8, (List.forall_mem_cons.mpr ⟨mwsL_isDone_r8_9, (List.forall_mem_cons.mpr ⟨mwsL_isDone_r8_10, (List.forall_mem_cons.mpr ⟨mwsL_isDone_r8_11, (List.forall_mem_cons.mpr ⟨mwsL_isDone_r8_12, (List.forall_mem_cons.mpr ⟨mwsL_isDone_r8_13, (List.forall_mem_cons.mpr ⟨mwsL_isDone_r8_14, (List.forall_mem_cons.mpr ⟨mwsL_isDone_r8_15, (List.forall_mem_cons.mpr ⟨mwsL_isDone_r8_16, (List.forall_mem_cons.mpr ⟨mwsL_isDone_r8_17, (List.forall_mem_cons.mpr ⟨mwsL_isDone_r8_18, (List.forall_mem_cons.mpr ⟨mwsL_isDone_r8_19, (List.forall_mem_cons.mpr ⟨mwsL_isDone_r8_20, (List.forall_mem_cons.mpr ⟨mwsL_isDone_r8_21, (List.forall_mem_cons.mpr ⟨mwsL_isDone_r8_22, (List.forall_mem_cons.mpr ⟨mwsL_isDone_r8_23, (List.forall_mem_cons.mpr ⟨mwsL_isDone_r9_0, (List.forall_mem_cons.mpr ⟨mwsL_isDone_r9_1, (List.forall_mem_cons.mpr ⟨mwsL_isDone_r9_2, (List.forall_mem_cons.mpr ⟨mwsL_isDone_r9_3, (List.forall_mem_cons.mpr ⟨mwsL_isDone_r9_4, (List.forall_mem_cons.mpr ⟨mwsL_isDone_r9_5, (List.forall_mem_cons.mpr ⟨mwsL_isDone_r9_6, (fun _ h => nomatch h)⟩)⟩)⟩)⟩)⟩)⟩)⟩)⟩)⟩)⟩)⟩)⟩)⟩)⟩)⟩)⟩)⟩)⟩)⟩)⟩)⟩)⟩)⟩)⟩) (by decide +kernel)) (goodIn_app (goodIn_sub (ws := wsL_isCopied_r9) (List.forall_mem_cons.mpr ⟨mwsL_isDone_r9_7, (List.forall_mem_cons.mpr ⟨mwsL_isDone_r9_8, (List.forall_mem_cons.mpr ⟨mwsL_isDone_r9_9, (List.forall_mem_cons.mpr ⟨mwsL_isDone_r9_10, (List.forall_mem_cons.mpr ⟨mwsL_isDone_r9_11, (List.forall_mem_cons.mpr ⟨mwsL_isDone_r9_12, (List.forall_mem_cons.mpr ⟨mwsL_isDone_r9_13, (List.forall_mem_cons.mpr ⟨mwsL_isDone_r9_14, (List.forall_mem_cons.mpr ⟨mwsL_isDone_r9_15, (List.forall_mem_cons.mpr ⟨mwsL_isDone_r9_16, (List.forall_mem_cons.mpr ⟨mwsL_isDone_r9_17, (List.forall_mem_cons.mpr ⟨mwsL_isDone_r9_18, (List.forall_mem_cons.mpr ⟨mwsL_isDone_r10_12, (List.forall_mem_cons.mpr ⟨mwsL_isDone_r10_13, (List.forall_mem_cons.mpr ⟨mwsL_isDone_r10_14, (List.forall_mem_cons.mpr ⟨mwsL_isDone_r10_15, (List.forall_mem_cons.mpr ⟨mwsL_isDone_r10_16, (List.forall_mem_cons.mpr ⟨mwsL_isDone_r10_17, (List.forall_mem_cons.mpr ⟨mwsL_isDone_r10_18, (List.forall_mem_cons.mpr ⟨mwsL_isDone_r10_19, (List.forall_mem_cons.mpr ⟨mwsL_isDone_r10_20, (List.forall_mem_cons.mpr ⟨mwsL_isDone_r10_21, (List.forall_mem_cons.mpr ⟨mwsL_isDone_r10_22, (List.forall_mem_cons.mpr ⟨mwsL_isDone_r10_23, (fun _ h => nomatch h)⟩)⟩)⟩)⟩)⟩)⟩)⟩)⟩)⟩)⟩)⟩)⟩)⟩)⟩)⟩)⟩)⟩)⟩)⟩)⟩)⟩)⟩)⟩)⟩) (by decide +kernel)) (goodIn_sub (ws := wsL_isCopied_r10) (List.forall_mem_cons.mpr ⟨mwsL_isDone_r11_0, (List.forall_mem_cons.mpr ⟨mwsL_isDone_r11_1, (List.forall_mem_cons.mpr ⟨mwsL_isDone_r11_2, (List.forall_mem_cons.mpr ⟨mwsL_isDone_r11_3, (List.forall_mem_cons.mpr ⟨mwsL_isDone_r11_4, (List.forall_mem_cons.mpr ⟨mwsL_isDone_r11_5, (List.forall_mem_cons.mpr ⟨mwsL_isDone_r11_6, (List.forall_mem_cons.mpr ⟨mwsL_isDone_r11_7, (List.forall_mem_cons.mpr ⟨mwsL_isDone_r11_8, (List.forall_mem_cons.mpr ⟨mwsL_isDone_r11_9, (fun _ h => nomatch h)⟩)⟩)⟩)⟩)⟩)⟩)⟩)⟩)⟩)⟩) (by decide +kernel))))))))))) (goodIn_sub (fun _ h => List.mem_cons_of_mem _ (List.mem_append_left _ (List.mem_append_left _ (List.mem_append_left _ (List.mem_append_left _ (List.mem_append_left _ (List.mem_append_left _ (List.mem_append_left _ (List.mem_append_right _ (h)))))))))) (by decide +kernel))) (goodIn_sub (fun _ h => List.mem_cons_of_mem _ (List.mem_append_left _ (List.mem_append_left _ (List.mem_append_left _ (List.mem_append_left _ (List.mem_append_left _ (List.mem_append_left _ (List.mem_append_right _ (h))))))))) (by decide +kernel))) (goodIn_sub (fun _ h => List.mem_cons_of_mem _ (List.mem_append_left _ (List.mem_append_left _ (List.mem_append_left _ (List.mem_append_left _ (List.mem_append_left _ (List.mem_append_right _ (h)))))))) (by decide +kernel))) (goodIn_sub (fun _ h => List.mem_cons_of_mem _ (List.mem_append_left _ (List.mem_append_left _ (List.mem_append_left _ (List.mem_append_left _ (List.mem_append_right _ (h))))))) (by decide +kernel))) (goodIn_sub (fun _ h => List.mem_cons_of_mem _ (List.mem_append_left _ (List.mem_append_left _ (List.mem_append_left _ (List.mem_append_right _ (h)))))) (by decide +kernel))) (goodIn_sub (fun _ h => List.mem_cons_of_mem _ (List.mem_append_left _ (List.mem_append_left _ (List.mem_append_right _ (h))))) (by decide +kernel))) (goodIn_sub (fun _ h => List.mem_cons_of_mem _ (List.mem_append_left _ (List.mem_append_right _ (h)))) (by decide +kernel))) (goodIn_sub (fun _ h => List.mem_cons_of_mem _ (List.mem_append_right _ (h))) (by decide +kernel))))
set_option maxRecDepth 20000 in
theorem gL_isDone_L_isCopied : GoodIn wsL_isDone (va_wsS RL 119 yL_isCopied wsL_isCopied) := goodIn_app (goodIn_of _ (by decide +kernel)) ggL_isDone_L_isCopied
theorem mwsL_isDone_r11_12 : Cond.code yL_isReceived cL_isReceived 10 (some .boolean) ∈ wsL_isDone := inwsL_isDone_wsL_isDone_r11 _ (List.mem_of_getElem? (i := 12) rfl)
theorem mwsL_isDone_r11_16 : Cond.code yX4_state cX4_state 2 (some .int) ∈ wsL_isDone := inwsL_isDone_wsL_isDone_r11 _ (List.mem_of_getElem? (i := 16) rfl)
theorem mwsL_isDone_r11_15 : Cond.selects RX4 yX4_state yX4_state ∈ wsL_isDone := inwsL_isDone_wsL_isDone_r11 _ (List.mem_of_getElem? (i := 15) rfl)
theorem mwsL_isDone_r11_14 : Cond.instanceMethod yX4_state ∈ wsL_isDone := inwsL_isDone_wsL_isDone_r11 _ (List.mem_of_getElem? (i := 14) rfl)
theorem mwsL_isDone_r11_13 : Cond.methodLink RL 73 yX4_state ∈ wsL_isDone := inwsL_isDone_wsL_isDone_r11 _ (List.mem_of_getElem? (i := 13) rfl)
set_option maxRecDepth 20000 in
theorem ggL_isDone_L_isReceived : GoodIn wsL_isDone wsL_isReceived := (goodIn_c (goodIn_sub (ws := [.code yL_isReceived cL_isReceived 10 (some .boolean)]) (List.forall_mem_cons.mpr ⟨mwsL_isDone_r11_12, fun _ h => nomatch h⟩) (by decide +kernel)) (goodIn_app (goodIn_app (goodIn_app (goodIn_app (goodIn_app (goodIn_app (goodIn_app (goodIn_app (goodIn_app (goodIn_sub (ws := wsL_isReceived_r1) (List.forall_mem_cons.mpr ⟨mwsL_isDone_r1_8, (List.forall_mem_cons.mpr ⟨mwsL_isDone_r1_9, (List.forall_mem_cons.mpr ⟨mwsL_isDone_r1_2, (List.forall_mem_cons.mpr ⟨mwsL_isDone_r1_10, (List.forall_mem_cons.mpr ⟨mwsL_isDone_r1_11, (List.forall_mem_cons.mpr ⟨mwsL_isDone_r1_12, (List.forall_mem_cons.mpr ⟨mwsL_isDone_r1_13, (List.forall_mem_cons.mpr ⟨mwsL_isDone_r1_14, (List.forall_mem_cons.mpr ⟨mwsL_isDone_r1_15, (List.forall_mem_cons.mpr ⟨mwsL_isDone_r1_16, (List.forall_mem_cons.mpr ⟨mwsL_isDone_r1_17, (List.forall_mem_cons.mpr ⟨mwsL_isDone_r1_18, (List.forall_mem_cons.mpr ⟨mwsL_isDone_r1_19, (List.forall_mem_cons.mpr ⟨mwsL_isDone_r1_20, (List.forall_mem_cons.mpr ⟨mwsL_isDone_r1_21, (List.forall_mem_cons.mpr ⟨mwsL_isDone_r1_22, (List.forall_mem_cons.mpr ⟨mwsL_isDone_r1_23, (List.forall_mem_cons.mpr ⟨mwsL_isDone_r2_0, (List.forall_mem_cons.mpr ⟨mwsL_isDone_r2_1, (List.forall_mem_cons.mpr ⟨mwsL_isDone_r2_2, (List.forall_mem_cons.mpr ⟨mwsL_isDone_r2_3, (List.forall_mem_cons.mpr ⟨mwsL_isDone_r2_4, (List.forall_mem_cons.mpr ⟨mwsL_isDone_r2_5, (List.forall_mem_cons.mpr ⟨mwsL_isDone_r2_6, (fun _ h => nomatch h)⟩)⟩)⟩)⟩)⟩)⟩)⟩)⟩)⟩)⟩)⟩)⟩)⟩)⟩)⟩)⟩)⟩)⟩)⟩)⟩)⟩)⟩)⟩)⟩) (by decide +kernel)) (goodIn_app (goodIn_sub (ws := wsL_isReceived_r2) (List.forall_mem_cons.mpr ⟨mwsL_isDone_r2_7, (List.forall_mem_cons.mpr ⟨mwsL_isDone_r2_8, (List.forall_mem_cons.mpr ⟨mwsL_isDone_r2_9, (List.forall_mem_cons.mpr ⟨mwsL_isDone_r2_10, (List.forall_mem_cons.mpr ⟨mwsL_isDone_r2_11, (List.forall_mem_cons.mpr ⟨mwsL_isDone_r2_12, (List.forall_mem_cons.mpr ⟨mwsL_isDone_r2_13, (List.forall_mem_cons.mpr ⟨mwsL_isDone_r2_14, (List.forall_mem_cons.mpr ⟨mwsL_isDone_r2_15, (List.forall_mem_cons.mpr ⟨mwsL_isDone_r2_16, (List.forall_mem_cons.mpr ⟨mwsL_isDone_r2_17, (List.forall_mem_cons.mpr ⟨mwsL_isDone_r2_18, (List.forall_mem_cons.mpr ⟨mwsL_isDone_r2_19, (List.forall_mem_cons.mpr ⟨mwsL_isDone_r2_20, (List.forall_mem_cons.mpr ⟨mwsL_isDone_r2_21, (List.forall_mem_cons.mpr ⟨mwsL_isDone_r2_22, (List.forall_mem_cons.mpr ⟨mwsL_isDone_r2_23, (List.forall_mem_cons.mpr ⟨mwsL_isDone_r3_0, (List.forall_mem_cons.mpr ⟨mwsL_isDone_r3_1, (List.forall_mem_cons.mpr ⟨mwsL_isDone_r3_2, (List.forall_mem_cons.mpr ⟨mwsL_isDone_r3_3, (List.forall_mem_cons.mpr ⟨mwsL_isDone_r3_4, (List.forall_mem_cons.mpr ⟨mwsL_isDone_r3_5, (List.forall_mem_cons.mpr ⟨mwsL_isDone_r3_6, (fun _ h => nomatch h)⟩)⟩)⟩)⟩)⟩)⟩)⟩)⟩)⟩)⟩)⟩)⟩)⟩)⟩)⟩)⟩)⟩)⟩)⟩)⟩)⟩)⟩)⟩)⟩) (by decide +kernel)) (goodIn_app (goodIn_sub (ws := wsL_isReceived_r3) (List.forall_mem_cons.mpr ⟨mwsL_isDone_r3_7, (List.forall_mem_cons.mpr ⟨mwsL_isDone_r3_8, (List.forall_mem_cons.mpr ⟨mwsL_isDone_r3_9, (List.forall_mem_cons.mpr ⟨mwsL_isDone_r3_10, (List.forall_mem_cons.mpr ⟨mwsL_isDone_r3_11, (List.forall_mem_cons.mpr ⟨mwsL_isDone_r3_12, (List.forall_mem_cons.mpr ⟨mwsL_isDone_r3_13, (List.forall_mem_cons.mpr ⟨mwsL_isDone_r3_14, (List.forall_mem_cons.mpr ⟨mwsL_isDone_r3_15, (List.forall_mem_cons.mpr ⟨mwsL_isDone_r3_16, (List.forall_mem_cons.mpr ⟨mwsL_isDone_r3_17, (List.forall_mem_cons.mpr ⟨mwsL_isDone_r3_18, (List.forall_mem_cons.mpr ⟨mwsL_isDone_r3_19, (List.forall_mem_cons.mpr ⟨mwsL_isDone_r3_20, (List.forall_mem_cons.mpr ⟨mwsL_isDone_r3_21, (List.forall_mem_cons.mpr ⟨mwsL_isDone_r3_22, (List.forall_mem_cons.mpr ⟨mwsL_isDone_r3_23, (List.forall_mem_cons.mpr ⟨mwsL_isDone_r4_0, (List.forall_mem_cons.mpr ⟨mwsL_isDone_r4_1, (List.forall_mem_cons.mpr ⟨mwsL_isDone_r4_2, (List.forall_mem_cons.mpr ⟨mwsL_isDone_r4_3, (List.forall_mem_cons.mpr ⟨mwsL_isDone_r4_4, (List.forall_mem_cons.mpr ⟨mwsL_isDone_r4_5, (List.forall_mem_cons.mpr ⟨mwsL_isDone_r4_6, (fun _ h => nomatch h)⟩)⟩)⟩)⟩)⟩)⟩)⟩)⟩)⟩)⟩)⟩)⟩)⟩)⟩)⟩)⟩)⟩)⟩)⟩)⟩)⟩)⟩)⟩)⟩) (by decide +kernel)) (goodIn_app (goodIn_sub (ws := wsL_isReceived_r4) (List.forall_mem_cons.mpr ⟨mwsL_isDone_r4_7, (List.forall_mem_cons.mpr ⟨mwsL_isDone_r4_8, (List.forall_mem_cons.mpr ⟨mwsL_isDone_r4_9, (List.forall_mem_cons.mpr ⟨mwsL_isDone_r4_10, (List.forall_mem_cons.mpr ⟨mwsL_isDone_r4_11, (List.forall_mem_cons.mpr ⟨mwsL_isDone_r4_12, (List.forall_mem_cons.mpr ⟨mwsL_isDone_r4_13, (List.forall_mem_cons.mpr ⟨mwsL_isDone_r4_14, (List.forall_mem_cons.mpr ⟨mwsL_isDone_r4_15, (List.forall_mem_cons.mpr ⟨mwsL_isDone_r4_16, (List.forall_mem_cons.mpr ⟨mwsL_isDone_r4_17, (List.forall_mem_cons.mpr ⟨mwsL_isDone_r4_18, (List.forall_mem_cons.mpr ⟨mwsL_isDone_r4_19, (List.forall_mem_cons.mpr ⟨mwsL_isDone_r4_20, (List.forall_mem_cons.mpr ⟨mwsL_isDone_r4_21, (List.forall_mem_cons.mpr ⟨mwsL_isDone_r4_22, (List.forall_mem_cons.mpr ⟨mwsL_isDone_r4_23, (List.forall_mem_cons.mpr ⟨mwsL_isDone_r5_0, (List.forall_mem_cons.mpr ⟨mwsL_isDone_r5_1, (List.forall_mem_cons.mpr ⟨mwsL_isDone_r5_2, (List.forall_mem_cons.mpr ⟨mwsL_isDone_r5_3, (List.forall_mem_cons.mpr ⟨mwsL_isDone_r5_4, (List.forall_mem_cons.mpr ⟨mwsL_isDone_r5_5, (List.forall_mem_cons.mpr ⟨mwsL_isDone_r5_6, (fun _ h => nomatch h)⟩)⟩)⟩)⟩)⟩)⟩)⟩)⟩)⟩)⟩)⟩)⟩)⟩)⟩)⟩)⟩)⟩)⟩)⟩)⟩)⟩)⟩)⟩)⟩) (by decide +kernel)) (goodIn_app (goodIn_sub (ws := wsL_isReceived_r5) (List.forall_mem_cons.mpr ⟨mwsL_isDone_r5_7, (List.forall_mem_cons.mpr ⟨mwsL_isDone_r5_8, (List.forall_mem_cons.mpr ⟨mwsL_isDone_r5_9, (List.forall_mem_cons.mpr ⟨mwsL_isDone_r5_10, (List.forall_mem_cons.mpr ⟨mwsL_isDone_r5_11, (List.forall_mem_cons.mpr ⟨mwsL_isDone_r5_12, (List.forall_mem_cons.mpr ⟨mwsL_isDone_r5_13, (List.forall_mem_cons.mpr ⟨mwsL_isDone_r5_14, (List.forall_mem_cons.mpr ⟨mwsL_isDone_r5_15, (List.forall_mem_cons.mpr ⟨mwsL_isDone_r5_16, (List.forall_mem_cons.mpr ⟨mwsL_isDone_r5_17, (List.forall_mem_cons.mpr ⟨mwsL_isDone_r5_18, (List.forall_mem_cons.mpr ⟨mwsL_isDone_r5_19, (List.forall_mem_cons.mpr ⟨mwsL_isDone_r5_20, (List.forall_mem_cons.mpr ⟨mwsL_isDone_r5_21, (List.forall_mem_cons.mpr ⟨mwsL_isDone_r5_22, (List.forall_mem_cons.mpr ⟨mwsL_isDone_r5_23, (List.forall_mem_cons.mpr ⟨mwsL_isDone_r6_0, (List.forall_mem_cons.mpr ⟨mwsL_isDone_r6_1, (List.forall_mem_cons.mpr ⟨mwsL_isDone_r6_2, (List.forall_mem_cons.mpr ⟨mwsL_isDone_r6_3, (List.forall_mem_cons.mpr ⟨mwsL_isDone_r6_4, (List.forall_mem_cons.mpr ⟨mwsL_isDone_r6_5, (List.forall_mem_cons.mpr ⟨mwsL_isDone_r6_6, (fun _ h => nomatch h)⟩)⟩)⟩)⟩)⟩)⟩)⟩)⟩)⟩)⟩)⟩)⟩)⟩)⟩)⟩)⟩)⟩)⟩)⟩)⟩)⟩)⟩)⟩)⟩) (by decide +kernel)) (goodIn_app (goodIn_sub (ws := wsL_isReceived_r6) (List.forall_mem_cons.mpr ⟨mwsL_isDone_r6_7, (List.forall_mem_cons.mpr ⟨mwsL_isDone_r6_8, (List.forall_mem_cons.mpr ⟨mwsL_isDone_r6_9, (List.forall_mem_cons.mpr ⟨mwsL_isDone_r6_10, (List.forall_mem_cons.mpr ⟨mwsL_isDone_r6_11, (List.forall_mem_cons.mpr ⟨mwsL_isDone_r6_12, (List.forall_mem_cons.mpr ⟨mwsL_isDone_r6_13, (List.forall_mem_cons.mpr ⟨mwsL_isDone_r6_14, (List.forall_mem_cons.mpr ⟨mwsL_isDone_r6_15, (List.forall_mem_cons.mpr ⟨mwsL_isDone_r6_16, (List.forall_mem_cons.mpr ⟨mwsL_isDone_r6_17, (List.forall_mem_cons.mpr ⟨mwsL_isDone_r6_18, (List.forall_mem_cons.mpr ⟨mwsL_isDone_r6_19, (List.forall_mem_cons.mpr ⟨mwsL_isDone_r6_20, (List.forall_mem_cons.mpr ⟨mwsL_isDone_r6_21, (List.forall_mem_cons.mpr ⟨mwsL_isDone_r6_22, (List.forall_mem_cons.mpr ⟨mwsL_isDone_r6_23, (List.forall_mem_cons.mpr ⟨mwsL_isDone_r7_0, (List.forall_mem_cons.mpr ⟨mwsL_isDone_r7_1, (List.forall_mem_cons.mpr ⟨mwsL_isDone_r7_2, (List.forall_mem_cons.mpr ⟨mwsL_isDone_r7_3, (List.forall_mem_cons.mpr ⟨mwsL_isDone_r7_4, (List.forall_mem_cons.mpr ⟨mwsL_isDone_r7_5, (List.forall_mem_cons.mpr ⟨mwsL_isDone_r7_6, (fun _ h => nomatch h)⟩)⟩)⟩)⟩)⟩)⟩)⟩)⟩)⟩)⟩)⟩)⟩)⟩)⟩)⟩)⟩)⟩)⟩)⟩)⟩)⟩)⟩)⟩)⟩) (by decide +kernel)) (goodIn_app (goodIn_sub (ws := wsL_isReceived_r7) (List.forall_mem_cons.mpr ⟨mwsL_isDone_r7_7, (List.forall_mem_cons.mpr ⟨mwsL_isDone_r7_8, (List.forall_mem_cons.mpr ⟨mwsL_isDone_r7_9, (List.forall_mem_cons.mpr ⟨mwsL_isDone_r7_10, (List.forall_mem_cons.mpr ⟨mwsL_isDone_r7_11, (List.forall_mem_cons.mpr ⟨mwsL_isDone_r7_12, (List.forall_mem_cons.mpr ⟨mwsL_isDone_r7_13, (List.forall_mem_cons.mpr ⟨mwsL_isDone_r7_14, (List.forall_mem_cons.mpr ⟨mwsL_isDone_r7_15, (List.forall_mem_cons.mpr ⟨mwsL_isDone_r7_16, (List.forall_mem_cons.mpr ⟨mwsL_isDone_r7_17, (List.forall_mem_cons.mpr ⟨mwsL_isDone_r7_18, (List.forall_mem_cons.mpr ⟨mwsL_isDone_r7_19, (List.forall_mem_cons.mpr ⟨mwsL_isDone_r7_20, (List.forall_mem_cons.mpr ⟨mwsL_isDone_r7_21, (List.forall_mem_cons.mpr ⟨mwsL_isDone_r7_22, (List.forall_mem_cons.mpr ⟨mwsL_isDone_r7_23, (List.forall_mem_cons.mpr ⟨mwsL_isDone_r8_0, (List.forall_mem_cons.mpr ⟨mwsL_isDone_r8_1, (List.forall_mem_cons.mpr ⟨mwsL_isDone_r8_2, (List.forall_mem_cons.mpr ⟨mwsL_isDone_r8_3, (List.forall_mem_cons.mpr ⟨mwsL_isDone_r8_4, (List.forall_mem_cons.mpr ⟨mwsL_isDone_r8_5, (List.forall_mem_cons.mpr ⟨mwsL_isDone_r8_6, (fun _ h => nomatch h)⟩)⟩)⟩)⟩)⟩)⟩)⟩)⟩)⟩)⟩)⟩)⟩)⟩)⟩)⟩)⟩)⟩)⟩)⟩)⟩)⟩)⟩)⟩)⟩) (by decide +kernel)) (goodIn_app (goodIn_sub (ws := wsL_isReceived_r8) (List.forall_mem_cons.mpr ⟨mwsL_isDone_r8_7, (List.forall_mem_cons.mpr ⟨mwsL_isDone_r8_8, (List.forall_mem_cons.mpr ⟨mwsL_isDone_r8_9, (List.forall_mem_cons.mpr ⟨mwsL_isDone_r8_10, (List.forall_mem_cons.mpr ⟨mwsL_isDone_r8_11, (List.forall_mem_cons.mpr ⟨mwsL_isDone_r8_12, (List.forall_mem_cons.mpr ⟨mwsL_isDone_r8_13, (List.forall_mem_cons.mpr ⟨mwsL_isDone_r8_14, (List.forall_mem_cons.mpr ⟨mwsL_isDone_r8_15, (List.forall_mem_cons.mpr ⟨mwsL_isDone_r8_16, (List.forall_mem_cons.mpr ⟨mwsL_isDone_r8_17, (List.forall_mem_cons.mpr ⟨mwsL_isDone_r8_18, (List.forall_mem_cons.mpr ⟨mwsL_isDone_r8_19, (List.forall_mem_cons.mpr ⟨mwsL_isDone_r8_20, (List.forall_mem_cons.mpr ⟨mwsL_isDone_r8_21, (List.forall_mem_cons.mpr ⟨mwsL_isDone_r8_22, (List.forall_mem_cons.mpr ⟨mwsL_isDone_r8_23, (List.forall_mem_cons.mpr ⟨mwsL_isDone_r9_0, (List.forall_mem_cons.mpr ⟨mwsL_isDone_r9_1, (List.forall_mem_cons.mpr ⟨mwsL_isDone_r9_2, (List.forall_mem_cons.mpr ⟨mwsL_isDone_r9_3, (List.forall_mem_cons.mpr ⟨mwsL_isDone_r9_4, (List.forall_mem_cons.mpr ⟨mwsL_isDone_r9_5, (List.forall_mem_cons.mpr ⟨mwsL_isDone_r9_6, (fun _ h => nomatch h)⟩)⟩)⟩)⟩)⟩)⟩)⟩)⟩)⟩)⟩)⟩)⟩)⟩)⟩)⟩)⟩)⟩)⟩)⟩)⟩)⟩)⟩)⟩)⟩) (by decide +kernel)) (goodIn_sub (ws := wsL_isReceived_r9) (List.forall_mem_cons.mpr ⟨mwsL_isDone_r9_7, (List.forall_mem_cons.mpr ⟨mwsL_isDone_r9_8, (List.forall_mem_cons.mpr ⟨mwsL_isDone_r9_9, (List.forall_mem_cons.mpr ⟨mwsL_isDone_r9_10, (List.forall_mem_cons.mpr ⟨mwsL_isDone_r9_11, (List.forall_mem_cons.mpr ⟨mwsL_isDone_r9_12, (List.forall_mem_cons.mpr ⟨mwsL_isDone_r9_13, (List.forall_mem_cons.mpr ⟨mwsL_isDone_r9_14, (List.forall_mem_cons.mpr ⟨mwsL_isDone_r9_15, (List.forall_mem_cons.mpr ⟨mwsL_isDone_r9_16, (List.forall_mem_cons.mpr ⟨mwsL_isDone_r9_17, (List.forall_mem_cons.mpr ⟨mwsL_isDone_r9_18, (List.forall_mem_cons.mpr ⟨mwsL_isDone_r11_13, (List.forall_mem_cons.mpr ⟨mwsL_isDone_r11_14, (List.forall_mem_cons.mpr ⟨mwsL_isDone_r11_15, (List.forall_mem_cons.mpr ⟨mwsL_isDone_r11_16, (fun _ h => nomatch h)⟩)⟩)⟩)⟩)⟩)⟩)⟩)⟩)⟩)⟩)⟩)⟩)⟩)⟩)⟩)⟩) (by decide +kernel)))))))))) (goodIn_sub (fun _ h => List.mem_cons_of_mem _ (List.mem_append_left _ (List.mem_append_left _ (List.mem_append_left _ (List.mem_append_left _ (List.mem_append_left _ (List.mem_append_left _ (List.mem_append_left _ (List.mem_append_right _ (h)))))))))) (by decide +kernel))) (goodIn_sub (fun _ h => List.mem_cons_of_mem _ (List.mem_append_left _ (List.mem_append_left _ (List.mem_append_left _ (List.mem_append_left _ (List.mem_append_left _ (List.mem_append_left _ (List.mem_append_right _ (h))))))))) (by decide +kernel))) (goodIn_sub (fun _ h => List.mem_cons_of_mem _ (List.mem_append_left _ (List.mem_append_left _ (List.mem_append_left _ (List.mem_append_left _ (List.mem_append_left _ (List.mem_append_right _ (h)))))))) (by decide +kernel))) (goodIn_sub (fun _ h => List.mem_cons_of_mem _ (List.mem_append_left _ (List.mem_append_left _ (List.mem_append_left _ (List.mem_append_left _ (List.mem_append_right _ (h))))))) (by decide +kernel))) (goodIn_sub (fun _ h => List.mem_cons_of_mem _ (List.mem_append_left _ (List.mem_append_left _ (List.mem_append_left _ (List.mem_append_right _ (h)))))) (by decide +kernel))) (goodIn_sub (fun _ h => List.mem_cons_of_mem _ (List.mem_append_left _ (List.mem_append_left _ (List.mem_append_right _ (h))))) (by decide +kernel))) (goodIn_sub (fun _ h => List.mem_cons_of_mem _ (List.mem_append_left _ (List.mem_append_right _ (h)))) (by decide +kernel))) (goodIn_sub (fun _ h => List.mem_cons_of_mem _ (List.mem_append_right _ (h))) (by decide +kernel))))
set_option maxRecDepth 20000 in
theorem gL_isDone_L_isReceived : GoodIn wsL_isDone (va_wsS RL 123 yL_isReceived wsL_isReceived) := goodIn_app (goodIn_of _ (by decide +kernel)) ggL_isDone_L_isReceived
set_option maxRecDepth 20000 in
theorem ggL_isDone_X4_seen : GoodIn wsL_isDone wsX4_seen := (goodIn_c (goodIn_sub (ws := [.code yX4_seen cX4_seen 5 (some .int)]) (List.forall_mem_cons.mpr ⟨mwsL_isDone_r10_15, fun _ h => nomatch h⟩) (by decide +kernel)) (goodIn_app (goodIn_app (goodIn_app (goodIn_sub (ws := [.fieldLink RX4 24 "RowReplicator" "subscribers" "[LRowReplicator$Subscriber;", .methodLink RX4 134 yX4_checkSubscriber, .static yX4_checkSubscriber, .initialized RX4, .code yX4_checkSubscriber cX4_checkSubscriber 1 none, .classLink RX4 199 "java/lang/IndexOutOfBoundsException", .initialized "java/lang/IndexOutOfBoundsException", .methodLink RX4 41 yX4_checkKey, .static yX4_checkKey, .code yX4_checkKey cX4_checkKey 2 none, .methodLink RX4 75 yX4_checkTable, .static yX4_checkTable, .code yX4_checkTable cX4_checkTable 1 none, .methodLink RX4 96 yX4_checkColumn, .static yX4_checkColumn, .code yX4_checkColumn cX4_checkColumn 1 none, .methodLink RX4 56 yX4_placeOf, .static yX4_placeOf, .code yX4_placeOf cX4_placeOf 2 (some .int), .methodLink RX4 99 yX4_numberIn, .static yX4_numberIn, .code yX4_numberIn cX4_numberIn 2 (some .int)]) (List.forall_mem_cons.mpr ⟨mwsL_isDone_r4_16, (List.forall_mem_cons.mpr ⟨mwsL_isDone_r6_11, (List.forall_mem_cons.mpr ⟨mwsL_isDone_r6_12, (List.forall_mem_cons.mpr ⟨mwsL_isDone_r1_17, (List.forall_mem_cons.mpr ⟨mwsL_isDone_r6_13, (List.forall_mem_cons.mpr ⟨mwsL_isDone_r1_23, (List.forall_mem_cons.mpr ⟨mwsL_isDone_r2_0, (List.forall_mem_cons.mpr ⟨mwsL_isDone_r1_20, (List.forall_mem_cons.mpr ⟨mwsL_isDone_r1_21, (List.forall_mem_cons.mpr ⟨mwsL_isDone_r1_22, (List.forall_mem_cons.mpr ⟨mwsL_isDone_r2_1, (List.forall_mem_cons.mpr ⟨mwsL_isDone_r2_2, (List.forall_mem_cons.mpr ⟨mwsL_isDone_r2_3, (List.forall_mem_cons.mpr ⟨mwsL_isDone_r5_17, (List.forall_mem_cons.mpr ⟨mwsL_isDone_r5_18, (List.forall_mem_cons.mpr ⟨mwsL_isDone_r5_19, (List.forall_mem_cons.mpr ⟨mwsL_isDone_r2_22, (List.forall_mem_cons.mpr ⟨mwsL_isDone_r2_23, (List.forall_mem_cons.mpr ⟨mwsL_isDone_r3_0, (List.forall_mem_cons.mpr ⟨mwsL_isDone_r10_16, (List.forall_mem_cons.mpr ⟨mwsL_isDone_r7_19, (List.forall_mem_cons.mpr ⟨mwsL_isDone_r7_20, (fun _ h => nomatch h)⟩)⟩)⟩)⟩)⟩)⟩)⟩)⟩)⟩)⟩)⟩)⟩)⟩)⟩)⟩)⟩)⟩)⟩)⟩)⟩)⟩)⟩) (by decide +kernel)) (goodIn_sub (fun _ h => List.mem_cons_of_mem _ (List.mem_append_left _ (List.mem_append_left _ (List.mem_append_left _ (List.mem_append_left _ (List.mem_append_left _ (List.mem_append_left _ (List.mem_append_left _ (List.mem_append_right _ (h)))))))))) (by decide +kernel))) (goodIn_sub (fun _ h => List.mem_cons_of_mem _ (List.mem_append_left _ (List.mem_append_left _ (List.mem_append_left _ (List.mem_append_left _ (List.mem_append_left _ (List.mem_append_right _ (h)))))))) (by decide +kernel))) (goodIn_sub (fun _ h => List.mem_cons_of_mem _ (List.mem_append_left _ (List.mem_append_left _ (List.mem_append_right _ (h))))) (by decide +kernel))))
set_option maxRecDepth 20000 in
theorem gL_isDone_X4_seen : GoodIn wsL_isDone (wsV RL 82 RX4 yX4_seen wsX4_seen) := goodIn_app (goodIn_of _ (by decide +kernel)) ggL_isDone_X4_seen
theorem dL_isDone_0 : decode cL_isDone 0 = .ok (.aload_n 1, 1) := by decide +kernel
theorem dL_isDone_1 : decode cL_isDone 1 = .ok (.iload_n 2, 1) := by decide +kernel
theorem dL_isDone_2 : decode cL_isDone 2 = .ok (.bipush 40, 2) := by decide +kernel
theorem dL_isDone_4 : decode cL_isDone 4 = .ok (.invokestatic 101, 3) := by decide +kernel
theorem dL_isDone_7 : decode cL_isDone 7 = .ok (.istore 8, 2) := by decide +kernel
theorem dL_isDone_9 : decode cL_isDone 9 = .ok (.aload_n 1, 1) := by decide +kernel
theorem dL_isDone_10 : decode cL_isDone 10 = .ok (.iload_n 2, 1) := by decide +kernel
theorem dL_isDone_11 : decode cL_isDone 11 = .ok (.iconst 1, 1) := by decide +kernel
theorem dL_isDone_12 : decode cL_isDone 12 = .ok (.iadd, 1) := by decide +kernel
theorem dL_isDone_13 : decode cL_isDone 13 = .ok (.sipush 6000, 3) := by decide +kernel
theorem dL_isDone_16 : decode cL_isDone 16 = .ok (.invokestatic 101, 3) := by decide +kernel
theorem dL_isDone_19 : decode cL_isDone 19 = .ok (.istore 9, 2) := by decide +kernel
theorem dL_isDone_21 : decode cL_isDone 21 = .ok (.aload_n 1, 1) := by decide +kernel
theorem dL_isDone_22 : decode cL_isDone 22 = .ok (.iload_n 2, 1) := by decide +kernel
theorem dL_isDone_23 : decode cL_isDone 23 = .ok (.iconst 2, 1) := by decide +kernel
theorem dL_isDone_24 : decode cL_isDone 24 = .ok (.iadd, 1) := by decide +kernel
theorem dL_isDone_25 : decode cL_isDone 25 = .ok (.sipush 7000, 3) := by decide +kernel
theorem dL_isDone_28 : decode cL_isDone 28 = .ok (.invokestatic 101, 3) := by decide +kernel
theorem dL_isDone_31 : decode cL_isDone 31 = .ok (.istore 10, 2) := by decide +kernel
theorem dL_isDone_33 : decode cL_isDone 33 = .ok (.aload_n 1, 1) := by decide +kernel
theorem dL_isDone_34 : decode cL_isDone 34 = .ok (.iload_n 2, 1) := by decide +kernel
theorem dL_isDone_35 : decode cL_isDone 35 = .ok (.iconst 3, 1) := by decide +kernel
theorem dL_isDone_36 : decode cL_isDone 36 = .ok (.iadd, 1) := by decide +kernel
theorem dL_isDone_37 : decode cL_isDone 37 = .ok (.sipush 8000, 3) := by decide +kernel
theorem dL_isDone_40 : decode cL_isDone 40 = .ok (.invokestatic 101, 3) := by decide +kernel
theorem dL_isDone_43 : decode cL_isDone 43 = .ok (.istore 11, 2) := by decide +kernel
theorem dL_isDone_45 : decode cL_isDone 45 = .ok (.iload 9, 2) := by decide +kernel
theorem dL_isDone_47 : decode cL_isDone 47 = .ok (.bipush 9, 2) := by decide +kernel
theorem dL_isDone_49 : decode cL_isDone 49 = .ok (.irem, 1) := by decide +kernel
theorem dL_isDone_50 : decode cL_isDone 50 = .ok (.ifCond .ne 7, 3) := by decide +kernel
theorem dL_isDone_53 : decode cL_isDone 53 = .ok (.iconst 3, 1) := by decide +kernel
theorem dL_isDone_54 : decode cL_isDone 54 = .ok (.goto 7, 3) := by decide +kernel
theorem dL_isDone_57 : decode cL_isDone 57 = .ok (.iload 9, 2) := by decide +kernel
theorem dL_isDone_59 : decode cL_isDone 59 = .ok (.iconst 3, 1) := by decide +kernel
theorem dL_isDone_60 : decode cL_isDone 60 = .ok (.irem, 1) := by decide +kernel
theorem dL_isDone_61 : decode cL_isDone 61 = .ok (.istore 12, 2) := by decide +kernel
theorem dL_isDone_63 : decode cL_isDone 63 = .ok (.iload 10, 2) := by decide +kernel
theorem dL_isDone_65 : decode cL_isDone 65 = .ok (.bipush 12, 2) := by decide +kernel
theorem dL_isDone_67 : decode cL_isDone 67 = .ok (.irem, 1) := by decide +kernel
theorem dL_isDone_68 : decode cL_isDone 68 = .ok (.ifCond .ne 7, 3) := by decide +kernel
theorem dL_isDone_71 : decode cL_isDone 71 = .ok (.iconst 2, 1) := by decide +kernel
theorem dL_isDone_72 : decode cL_isDone 72 = .ok (.goto 7, 3) := by decide +kernel
theorem dL_isDone_75 : decode cL_isDone 75 = .ok (.iload 10, 2) := by decide +kernel
theorem dL_isDone_77 : decode cL_isDone 77 = .ok (.iconst 2, 1) := by decide +kernel
theorem dL_isDone_78 : decode cL_isDone 78 = .ok (.irem, 1) := by decide +kernel
theorem dL_isDone_79 : decode cL_isDone 79 = .ok (.istore 13, 2) := by decide +kernel
theorem dL_isDone_81 : decode cL_isDone 81 = .ok (.iload 8, 2) := by decide +kernel
theorem dL_isDone_83 : decode cL_isDone 83 = .ok (.bipush 13, 2) := by decide +kernel
theorem dL_isDone_85 : decode cL_isDone 85 = .ok (.if_icmp .ge 40, 3) := by decide +kernel
theorem dL_isDone_88 : decode cL_isDone 88 = .ok (.aload_n 0, 1) := by decide +kernel
theorem dL_isDone_89 : decode cL_isDone 89 = .ok (.aload_n 3, 1) := by decide +kernel
theorem dL_isDone_90 : decode cL_isDone 90 = .ok (.aload 7, 2) := by decide +kernel
theorem dL_isDone_92 : decode cL_isDone 92 = .ok (.iload 8, 2) := by decide +kernel
theorem dL_isDone_94 : decode cL_isDone 94 = .ok (.bipush 9, 2) := by decide +kernel
theorem dL_isDone_96 : decode cL_isDone 96 = .ok (.if_icmp .ge 7, 3) := by decide +kernel
theorem dL_isDone_99 : decode cL_isDone 99 = .ok (.iconst 0, 1) := by decide +kernel
theorem dL_isDone_100 : decode cL_isDone 100 = .ok (.goto 15, 3) := by decide +kernel
theorem dL_isDone_103 : decode cL_isDone 103 = .ok (.iload 8, 2) := by decide +kernel
theorem dL_isDone_105 : decode cL_isDone 105 = .ok (.bipush 12, 2) := by decide +kernel
theorem dL_isDone_107 : decode cL_isDone 107 = .ok (.if_icmp .ge 7, 3) := by decide +kernel
theorem dL_isDone_110 : decode cL_isDone 110 = .ok (.iconst 1, 1) := by decide +kernel
theorem dL_isDone_111 : decode cL_isDone 111 = .ok (.goto 4, 3) := by decide +kernel
theorem dL_isDone_114 : decode cL_isDone 114 = .ok (.iconst 2, 1) := by decide +kernel
theorem dL_isDone_115 : decode cL_isDone 115 = .ok (.iload 9, 2) := by decide +kernel
theorem dL_isDone_117 : decode cL_isDone 117 = .ok (.iload 10, 2) := by decide +kernel
theorem dL_isDone_119 : decode cL_isDone 119 = .ok (.iload 11, 2) := by decide +kernel
theorem dL_isDone_121 : decode cL_isDone 121 = .ok (.invokestatic 105, 3) := by decide +kernel
theorem dL_isDone_124 : decode cL_isDone 124 = .ok (.ireturn, 1) := by decide +kernel
theorem dL_isDone_125 : decode cL_isDone 125 = .ok (.iload 8, 2) := by decide +kernel
theorem dL_isDone_127 : decode cL_isDone 127 = .ok (.bipush 18, 2) := by decide +kernel
theorem dL_isDone_129 : decode cL_isDone 129 = .ok (.if_icmp .ge 97, 3) := by decide +kernel
theorem dL_isDone_132 : decode cL_isDone 132 = .ok (.aload 7, 2) := by decide +kernel
theorem dL_isDone_134 : decode cL_isDone 134 = .ok (.iconst 0, 1) := by decide +kernel
theorem dL_isDone_135 : decode cL_isDone 135 = .ok (.iaload, 1) := by decide +kernel
theorem dL_isDone_136 : decode cL_isDone 136 = .ok (.bipush 50, 2) := by decide +kernel
theorem dL_isDone_138 : decode cL_isDone 138 = .ok (.if_icmp .ne 8, 3) := by decide +kernel
theorem dL_isDone_141 : decode cL_isDone 141 = .ok (.bipush (-10), 2) := by decide +kernel
theorem dL_isDone_143 : decode cL_isDone 143 = .ok (.goto 9, 3) := by decide +kernel
theorem dL_isDone_146 : decode cL_isDone 146 = .ok (.aload 7, 2) := by decide +kernel
theorem dL_isDone_148 : decode cL_isDone 148 = .ok (.iconst 0, 1) := by decide +kernel
theorem dL_isDone_149 : decode cL_isDone 149 = .ok (.iaload, 1) := by decide +kernel
theorem dL_isDone_150 : decode cL_isDone 150 = .ok (.iconst 1, 1) := by decide +kernel
theorem dL_isDone_151 : decode cL_isDone 151 = .ok (.iadd, 1) := by decide +kernel
theorem dL_isDone_152 : decode cL_isDone 152 = .ok (.istore 14, 2) := by decide +kernel
theorem dL_isDone_154 : decode cL_isDone 154 = .ok (.iload 14, 2) := by decide +kernel
theorem dL_isDone_156 : decode cL_isDone 156 = .ok (.ifCond .le 49, 3) := by decide +kernel
theorem dL_isDone_159 : decode cL_isDone 159 = .ok (.aload 7, 2) := by decide +kernel
theorem dL_isDone_161 : decode cL_isDone 161 = .ok (.iconst 0, 1) := by decide +kernel
theorem dL_isDone_162 : decode cL_isDone 162 = .ok (.dup2, 1) := by decide +kernel
theorem dL_isDone_163 : decode cL_isDone 163 = .ok (.iaload, 1) := by decide +kernel
theorem dL_isDone_164 : decode cL_isDone 164 = .ok (.iconst 1, 1) := by decide +kernel
theorem dL_isDone_165 : decode cL_isDone 165 = .ok (.iadd, 1) := by decide +kernel
theorem dL_isDone_166 : decode cL_isDone 166 = .ok (.iastore, 1) := by decide +kernel
theorem dL_isDone_167 : decode cL_isDone 167 = .ok (.aload 7, 2) := by decide +kernel
theorem dL_isDone_169 : decode cL_isDone 169 = .ok (.iconst 1, 1) := by decide +kernel
theorem dL_isDone_170 : decode cL_isDone 170 = .ok (.iconst 0, 1) := by decide +kernel
theorem dL_isDone_171 : decode cL_isDone 171 = .ok (.iastore, 1) := by decide +kernel
theorem dL_isDone_172 : decode cL_isDone 172 = .ok (.iconst 0, 1) := by decide +kernel
theorem dL_isDone_173 : decode cL_isDone 173 = .ok (.istore 15, 2) := by decide +kernel
theorem dL_isDone_175 : decode cL_isDone 175 = .ok (.iload 15, 2) := by decide +kernel
theorem dL_isDone_177 : decode cL_isDone 177 = .ok (.bipush 24, 2) := by decide +kernel
theorem dL_isDone_179 : decode cL_isDone 179 = .ok (.if_icmp .ge 18, 3) := by decide +kernel
theorem dL_isDone_182 : decode cL_isDone 182 = .ok (.aload 4, 2) := by decide +kernel
theorem dL_isDone_184 : decode cL_isDone 184 = .ok (.iload 15, 2) := by decide +kernel
theorem dL_isDone_186 : decode cL_isDone 186 = .ok (.aload_n 3, 1) := by decide +kernel
theorem dL_isDone_187 : decode cL_isDone 187 = .ok (.iload 15, 2) := by decide +kernel
theorem dL_isDone_189 : decode cL_isDone 189 = .ok (.iaload, 1) := by decide +kernel
theorem dL_isDone_190 : decode cL_isDone 190 = .ok (.iastore, 1) := by decide +kernel
theorem dL_isDone_191 : decode cL_isDone 191 = .ok (.iinc 15 1, 3) := by decide +kernel
theorem dL_isDone_194 : decode cL_isDone 194 = .ok (.goto (-19), 3) := by decide +kernel
theorem dL_isDone_197 : decode cL_isDone 197 = .ok (.aload 6, 2) := by decide +kernel
theorem dL_isDone_199 : decode cL_isDone 199 = .ok (.aload 7, 2) := by decide +kernel
theorem dL_isDone_201 : decode cL_isDone 201 = .ok (.invokestatic 109, 3) := by decide +kernel
theorem dL_isDone_204 : decode cL_isDone 204 = .ok (.pop, 1) := by decide +kernel
theorem dL_isDone_205 : decode cL_isDone 205 = .ok (.aload_n 0, 1) := by decide +kernel
theorem dL_isDone_206 : decode cL_isDone 206 = .ok (.iconst 3, 1) := by decide +kernel
theorem dL_isDone_207 : decode cL_isDone 207 = .ok (.iconst 0, 1) := by decide +kernel
theorem dL_isDone_208 : decode cL_isDone 208 = .ok (.iconst 0, 1) := by decide +kernel
theorem dL_isDone_209 : decode cL_isDone 209 = .ok (.iconst 0, 1) := by decide +kernel
theorem dL_isDone_210 : decode cL_isDone 210 = .ok (.iconst 0, 1) := by decide +kernel
theorem dL_isDone_211 : decode cL_isDone 211 = .ok (.iconst 0, 1) := by decide +kernel
theorem dL_isDone_212 : decode cL_isDone 212 = .ok (.invokestatic 97, 3) := by decide +kernel
theorem dL_isDone_215 : decode cL_isDone 215 = .ok (.iload 14, 2) := by decide +kernel
theorem dL_isDone_217 : decode cL_isDone 217 = .ok (.if_icmp .ne 7, 3) := by decide +kernel
theorem dL_isDone_220 : decode cL_isDone 220 = .ok (.iconst 1, 1) := by decide +kernel
theorem dL_isDone_221 : decode cL_isDone 221 = .ok (.goto 4, 3) := by decide +kernel
theorem dL_isDone_224 : decode cL_isDone 224 = .ok (.iconst 0, 1) := by decide +kernel
theorem dL_isDone_225 : decode cL_isDone 225 = .ok (.ireturn, 1) := by decide +kernel
theorem dL_isDone_226 : decode cL_isDone 226 = .ok (.iload 8, 2) := by decide +kernel
theorem dL_isDone_228 : decode cL_isDone 228 = .ok (.bipush 18, 2) := by decide +kernel
theorem dL_isDone_230 : decode cL_isDone 230 = .ok (.if_icmp .ne 54, 3) := by decide +kernel
theorem dL_isDone_233 : decode cL_isDone 233 = .ok (.aload 7, 2) := by decide +kernel
theorem dL_isDone_235 : decode cL_isDone 235 = .ok (.iconst 1, 1) := by decide +kernel
theorem dL_isDone_236 : decode cL_isDone 236 = .ok (.iaload, 1) := by decide +kernel
theorem dL_isDone_237 : decode cL_isDone 237 = .ok (.istore 14, 2) := by decide +kernel
theorem dL_isDone_239 : decode cL_isDone 239 = .ok (.aload 7, 2) := by decide +kernel
theorem dL_isDone_241 : decode cL_isDone 241 = .ok (.iconst 1, 1) := by decide +kernel
theorem dL_isDone_242 : decode cL_isDone 242 = .ok (.iconst 0, 1) := by decide +kernel
theorem dL_isDone_243 : decode cL_isDone 243 = .ok (.iastore, 1) := by decide +kernel
theorem dL_isDone_244 : decode cL_isDone 244 = .ok (.iconst 0, 1) := by decide +kernel
theorem dL_isDone_245 : decode cL_isDone 245 = .ok (.istore 15, 2) := by decide +kernel
theorem dL_isDone_247 : decode cL_isDone 247 = .ok (.iload 15, 2) := by decide +kernel
theorem dL_isDone_249 : decode cL_isDone 249 = .ok (.bipush 24, 2) := by decide +kernel
theorem dL_isDone_251 : decode cL_isDone 251 = .ok (.if_icmp .ge 18, 3) := by decide +kernel
theorem dL_isDone_254 : decode cL_isDone 254 = .ok (.aload_n 3, 1) := by decide +kernel
theorem dL_isDone_255 : decode cL_isDone 255 = .ok (.iload 15, 2) := by decide +kernel
theorem dL_isDone_257 : decode cL_isDone 257 = .ok (.aload 4, 2) := by decide +kernel
theorem dL_isDone_259 : decode cL_isDone 259 = .ok (.iload 15, 2) := by decide +kernel
theorem dL_isDone_261 : decode cL_isDone 261 = .ok (.iaload, 1) := by decide +kernel
theorem dL_isDone_262 : decode cL_isDone 262 = .ok (.iastore, 1) := by decide +kernel
theorem dL_isDone_263 : decode cL_isDone 263 = .ok (.iinc 15 1, 3) := by decide +kernel
theorem dL_isDone_266 : decode cL_isDone 266 = .ok (.goto (-19), 3) := by decide +kernel
theorem dL_isDone_269 : decode cL_isDone 269 = .ok (.aload_n 0, 1) := by decide +kernel
theorem dL_isDone_270 : decode cL_isDone 270 = .ok (.invokevirtual 113, 3) := by decide +kernel
theorem dL_isDone_273 : decode cL_isDone 273 = .ok (.iload 14, 2) := by decide +kernel
theorem dL_isDone_275 : decode cL_isDone 275 = .ok (.if_icmp .ne 7, 3) := by decide +kernel
theorem dL_isDone_278 : decode cL_isDone 278 = .ok (.iconst 1, 1) := by decide +kernel
theorem dL_isDone_279 : decode cL_isDone 279 = .ok (.goto 4, 3) := by decide +kernel
theorem dL_isDone_282 : decode cL_isDone 282 = .ok (.iconst 0, 1) := by decide +kernel
theorem dL_isDone_283 : decode cL_isDone 283 = .ok (.ireturn, 1) := by decide +kernel
theorem dL_isDone_284 : decode cL_isDone 284 = .ok (.iload 8, 2) := by decide +kernel
theorem dL_isDone_286 : decode cL_isDone 286 = .ok (.bipush 19, 2) := by decide +kernel
theorem dL_isDone_288 : decode cL_isDone 288 = .ok (.if_icmp .ne 69, 3) := by decide +kernel
theorem dL_isDone_291 : decode cL_isDone 291 = .ok (.iload 10, 2) := by decide +kernel
theorem dL_isDone_293 : decode cL_isDone 293 = .ok (.bipush 52, 2) := by decide +kernel
theorem dL_isDone_295 : decode cL_isDone 295 = .ok (.irem, 1) := by decide +kernel
theorem dL_isDone_296 : decode cL_isDone 296 = .ok (.istore 14, 2) := by decide +kernel
theorem dL_isDone_298 : decode cL_isDone 298 = .ok (.aload 7, 2) := by decide +kernel
theorem dL_isDone_300 : decode cL_isDone 300 = .ok (.iconst 2, 1) := by decide +kernel
theorem dL_isDone_301 : decode cL_isDone 301 = .ok (.iload 14, 2) := by decide +kernel
theorem dL_isDone_303 : decode cL_isDone 303 = .ok (.bipush 51, 2) := by decide +kernel
theorem dL_isDone_305 : decode cL_isDone 305 = .ok (.if_icmp .ge 8, 3) := by decide +kernel
theorem dL_isDone_308 : decode cL_isDone 308 = .ok (.iload 14, 2) := by decide +kernel
theorem dL_isDone_310 : decode cL_isDone 310 = .ok (.goto 7, 3) := by decide +kernel
theorem dL_isDone_313 : decode cL_isDone 313 = .ok (.aload 7, 2) := by decide +kernel
theorem dL_isDone_315 : decode cL_isDone 315 = .ok (.iconst 2, 1) := by decide +kernel
theorem dL_isDone_316 : decode cL_isDone 316 = .ok (.iaload, 1) := by decide +kernel
theorem dL_isDone_317 : decode cL_isDone 317 = .ok (.iastore, 1) := by decide +kernel
theorem dL_isDone_318 : decode cL_isDone 318 = .ok (.aload_n 0, 1) := by decide +kernel
theorem dL_isDone_319 : decode cL_isDone 319 = .ok (.iconst 4, 1) := by decide +kernel
theorem dL_isDone_320 : decode cL_isDone 320 = .ok (.iload 14, 2) := by decide +kernel
theorem dL_isDone_322 : decode cL_isDone 322 = .ok (.iconst 0, 1) := by decide +kernel
theorem dL_isDone_323 : decode cL_isDone 323 = .ok (.iconst 0, 1) := by decide +kernel
theorem dL_isDone_324 : decode cL_isDone 324 = .ok (.iconst 0, 1) := by decide +kernel
theorem dL_isDone_325 : decode cL_isDone 325 = .ok (.iconst 0, 1) := by decide +kernel
theorem dL_isDone_326 : decode cL_isDone 326 = .ok (.invokestatic 97, 3) := by decide +kernel
theorem dL_isDone_329 : decode cL_isDone 329 = .ok (.iload 14, 2) := by decide +kernel
theorem dL_isDone_331 : decode cL_isDone 331 = .ok (.bipush 51, 2) := by decide +kernel
theorem dL_isDone_333 : decode cL_isDone 333 = .ok (.if_icmp .ge 13, 3) := by decide +kernel
theorem dL_isDone_336 : decode cL_isDone 336 = .ok (.aload 6, 2) := by decide +kernel
theorem dL_isDone_338 : decode cL_isDone 338 = .ok (.aload 7, 2) := by decide +kernel
theorem dL_isDone_340 : decode cL_isDone 340 = .ok (.invokestatic 109, 3) := by decide +kernel
theorem dL_isDone_343 : decode cL_isDone 343 = .ok (.goto 5, 3) := by decide +kernel
theorem dL_isDone_346 : decode cL_isDone 346 = .ok (.bipush (-20), 2) := by decide +kernel
theorem dL_isDone_348 : decode cL_isDone 348 = .ok (.if_icmp .ne 7, 3) := by decide +kernel
theorem dL_isDone_351 : decode cL_isDone 351 = .ok (.iconst 1, 1) := by decide +kernel
theorem dL_isDone_352 : decode cL_isDone 352 = .ok (.goto 4, 3) := by decide +kernel
theorem dL_isDone_355 : decode cL_isDone 355 = .ok (.iconst 0, 1) := by decide +kernel
theorem dL_isDone_356 : decode cL_isDone 356 = .ok (.ireturn, 1) := by decide +kernel
theorem dL_isDone_357 : decode cL_isDone 357 = .ok (.iload 8, 2) := by decide +kernel
theorem dL_isDone_359 : decode cL_isDone 359 = .ok (.bipush 23, 2) := by decide +kernel
theorem dL_isDone_361 : decode cL_isDone 361 = .ok (.if_icmp .ge 31, 3) := by decide +kernel
theorem dL_isDone_364 : decode cL_isDone 364 = .ok (.aload_n 0, 1) := by decide +kernel
theorem dL_isDone_365 : decode cL_isDone 365 = .ok (.aload 5, 2) := by decide +kernel
theorem dL_isDone_367 : decode cL_isDone 367 = .ok (.aload 6, 2) := by decide +kernel
theorem dL_isDone_369 : decode cL_isDone 369 = .ok (.iload 8, 2) := by decide +kernel
theorem dL_isDone_371 : decode cL_isDone 371 = .ok (.bipush 22, 2) := by decide +kernel
theorem dL_isDone_373 : decode cL_isDone 373 = .ok (.if_icmp .ge 7, 3) := by decide +kernel
theorem dL_isDone_376 : decode cL_isDone 376 = .ok (.iconst 5, 1) := by decide +kernel
theorem dL_isDone_377 : decode cL_isDone 377 = .ok (.goto 5, 3) := by decide +kernel
theorem dL_isDone_380 : decode cL_isDone 380 = .ok (.bipush 6, 2) := by decide +kernel
theorem dL_isDone_382 : decode cL_isDone 382 = .ok (.iload 9, 2) := by decide +kernel
theorem dL_isDone_384 : decode cL_isDone 384 = .ok (.iload 10, 2) := by decide +kernel
theorem dL_isDone_386 : decode cL_isDone 386 = .ok (.iload 11, 2) := by decide +kernel
theorem dL_isDone_388 : decode cL_isDone 388 = .ok (.invokestatic 116, 3) := by decide +kernel
theorem dL_isDone_391 : decode cL_isDone 391 = .ok (.ireturn, 1) := by decide +kernel
theorem dL_isDone_392 : decode cL_isDone 392 = .ok (.iload 8, 2) := by decide +kernel
theorem dL_isDone_394 : decode cL_isDone 394 = .ok (.bipush 26, 2) := by decide +kernel
theorem dL_isDone_396 : decode cL_isDone 396 = .ok (.if_icmp .ge 136, 3) := by decide +kernel
theorem dL_isDone_399 : decode cL_isDone 399 = .ok (.iload 10, 2) := by decide +kernel
theorem dL_isDone_401 : decode cL_isDone 401 = .ok (.bipush 10, 2) := by decide +kernel
theorem dL_isDone_403 : decode cL_isDone 403 = .ok (.irem, 1) := by decide +kernel
theorem dL_isDone_404 : decode cL_isDone 404 = .ok (.ifCond .ne 7, 3) := by decide +kernel
theorem dL_isDone_407 : decode cL_isDone 407 = .ok (.iconst 3, 1) := by decide +kernel
theorem dL_isDone_408 : decode cL_isDone 408 = .ok (.goto 7, 3) := by decide +kernel
theorem dL_isDone_411 : decode cL_isDone 411 = .ok (.iload 10, 2) := by decide +kernel
theorem dL_isDone_413 : decode cL_isDone 413 = .ok (.iconst 3, 1) := by decide +kernel
theorem dL_isDone_414 : decode cL_isDone 414 = .ok (.irem, 1) := by decide +kernel
theorem dL_isDone_415 : decode cL_isDone 415 = .ok (.istore 14, 2) := by decide +kernel
theorem dL_isDone_417 : decode cL_isDone 417 = .ok (.iload 12, 2) := by decide +kernel
theorem dL_isDone_419 : decode cL_isDone 419 = .ok (.iconst 3, 1) := by decide +kernel
theorem dL_isDone_420 : decode cL_isDone 420 = .ok (.if_icmp .eq 9, 3) := by decide +kernel
theorem dL_isDone_423 : decode cL_isDone 423 = .ok (.iload 14, 2) := by decide +kernel
theorem dL_isDone_425 : decode cL_isDone 425 = .ok (.iconst 3, 1) := by decide +kernel
theorem dL_isDone_426 : decode cL_isDone 426 = .ok (.if_icmp .ne 8, 3) := by decide +kernel
theorem dL_isDone_429 : decode cL_isDone 429 = .ok (.bipush (-30), 2) := by decide +kernel
theorem dL_isDone_431 : decode cL_isDone 431 = .ok (.goto 13, 3) := by decide +kernel
theorem dL_isDone_434 : decode cL_isDone 434 = .ok (.aload 6, 2) := by decide +kernel
theorem dL_isDone_436 : decode cL_isDone 436 = .ok (.bipush 7, 2) := by decide +kernel
theorem dL_isDone_438 : decode cL_isDone 438 = .ok (.iload 12, 2) := by decide +kernel
theorem dL_isDone_440 : decode cL_isDone 440 = .ok (.imul, 1) := by decide +kernel
theorem dL_isDone_441 : decode cL_isDone 441 = .ok (.iconst 1, 1) := by decide +kernel
theorem dL_isDone_442 : decode cL_isDone 442 = .ok (.iadd, 1) := by decide +kernel
theorem dL_isDone_443 : decode cL_isDone 443 = .ok (.iaload, 1) := by decide +kernel
theorem dL_isDone_444 : decode cL_isDone 444 = .ok (.istore 15, 2) := by decide +kernel
theorem dL_isDone_446 : decode cL_isDone 446 = .ok (.iload 15, 2) := by decide +kernel
theorem dL_isDone_448 : decode cL_isDone 448 = .ok (.ifCond .lt 60, 3) := by decide +kernel
theorem dL_isDone_451 : decode cL_isDone 451 = .ok (.aload 6, 2) := by decide +kernel
theorem dL_isDone_453 : decode cL_isDone 453 = .ok (.bipush 7, 2) := by decide +kernel
theorem dL_isDone_455 : decode cL_isDone 455 = .ok (.iload 12, 2) := by decide +kernel
theorem dL_isDone_457 : decode cL_isDone 457 = .ok (.imul, 1) := by decide +kernel
theorem dL_isDone_458 : decode cL_isDone 458 = .ok (.iload 14, 2) := by decide +kernel
theorem dL_isDone_460 : decode cL_isDone 460 = .ok (.iastore, 1) := by decide +kernel
theorem dL_isDone_461 : decode cL_isDone 461 = .ok (.aload 6, 2) := by decide +kernel
theorem dL_isDone_463 : decode cL_isDone 463 = .ok (.bipush 7, 2) := by decide +kernel
theorem dL_isDone_465 : decode cL_isDone 465 = .ok (.iload 12, 2) := by decide +kernel
theorem dL_isDone_467 : decode cL_isDone 467 = .ok (.imul, 1) := by decide +kernel
theorem dL_isDone_468 : decode cL_isDone 468 = .ok (.iconst 1, 1) := by decide +kernel
theorem dL_isDone_469 : decode cL_isDone 469 = .ok (.iadd, 1) := by decide +kernel
theorem dL_isDone_470 : decode cL_isDone 470 = .ok (.iconst 1, 1) := by decide +kernel
theorem dL_isDone_471 : decode cL_isDone 471 = .ok (.iastore, 1) := by decide +kernel
theorem dL_isDone_472 : decode cL_isDone 472 = .ok (.aload 6, 2) := by decide +kernel
theorem dL_isDone_474 : decode cL_isDone 474 = .ok (.bipush 7, 2) := by decide +kernel
theorem dL_isDone_476 : decode cL_isDone 476 = .ok (.iload 12, 2) := by decide +kernel
theorem dL_isDone_478 : decode cL_isDone 478 = .ok (.imul, 1) := by decide +kernel
theorem dL_isDone_479 : decode cL_isDone 479 = .ok (.iconst 2, 1) := by decide +kernel
theorem dL_isDone_480 : decode cL_isDone 480 = .ok (.iadd, 1) := by decide +kernel
theorem dL_isDone_481 : decode cL_isDone 481 = .ok (.aload 7, 2) := by decide +kernel
theorem dL_isDone_483 : decode cL_isDone 483 = .ok (.iconst 0, 1) := by decide +kernel
theorem dL_isDone_484 : decode cL_isDone 484 = .ok (.iaload, 1) := by decide +kernel
theorem dL_isDone_485 : decode cL_isDone 485 = .ok (.iastore, 1) := by decide +kernel
theorem dL_isDone_486 : decode cL_isDone 486 = .ok (.aload 6, 2) := by decide +kernel
theorem dL_isDone_488 : decode cL_isDone 488 = .ok (.bipush 7, 2) := by decide +kernel
theorem dL_isDone_490 : decode cL_isDone 490 = .ok (.iload 12, 2) := by decide +kernel
theorem dL_isDone_492 : decode cL_isDone 492 = .ok (.imul, 1) := by decide +kernel
theorem dL_isDone_493 : decode cL_isDone 493 = .ok (.iconst 3, 1) := by decide +kernel
theorem dL_isDone_494 : decode cL_isDone 494 = .ok (.iadd, 1) := by decide +kernel
theorem dL_isDone_495 : decode cL_isDone 495 = .ok (.iconst (-1), 1) := by decide +kernel
theorem dL_isDone_496 : decode cL_isDone 496 = .ok (.iastore, 1) := by decide +kernel
theorem dL_isDone_497 : decode cL_isDone 497 = .ok (.aload 6, 2) := by decide +kernel
theorem dL_isDone_499 : decode cL_isDone 499 = .ok (.bipush 7, 2) := by decide +kernel
theorem dL_isDone_501 : decode cL_isDone 501 = .ok (.iload 12, 2) := by decide +kernel
theorem dL_isDone_503 : decode cL_isDone 503 = .ok (.imul, 1) := by decide +kernel
theorem dL_isDone_504 : decode cL_isDone 504 = .ok (.iconst 4, 1) := by decide +kernel
theorem dL_isDone_505 : decode cL_isDone 505 = .ok (.iadd, 1) := by decide +kernel
theorem dL_isDone_506 : decode cL_isDone 506 = .ok (.iconst (-1), 1) := by decide +kernel
theorem dL_isDone_507 : decode cL_isDone 507 = .ok (.iastore, 1) := by decide +kernel
theorem dL_isDone_508 : decode cL_isDone 508 = .ok (.aload_n 0, 1) := by decide +kernel
theorem dL_isDone_509 : decode cL_isDone 509 = .ok (.bipush 7, 2) := by decide +kernel
theorem dL_isDone_511 : decode cL_isDone 511 = .ok (.iload 12, 2) := by decide +kernel
theorem dL_isDone_513 : decode cL_isDone 513 = .ok (.iload 14, 2) := by decide +kernel
theorem dL_isDone_515 : decode cL_isDone 515 = .ok (.iconst 0, 1) := by decide +kernel
theorem dL_isDone_516 : decode cL_isDone 516 = .ok (.iconst 0, 1) := by decide +kernel
theorem dL_isDone_517 : decode cL_isDone 517 = .ok (.iconst 0, 1) := by decide +kernel
theorem dL_isDone_518 : decode cL_isDone 518 = .ok (.invokestatic 97, 3) := by decide +kernel
theorem dL_isDone_521 : decode cL_isDone 521 = .ok (.iload 15, 2) := by decide +kernel
theorem dL_isDone_523 : decode cL_isDone 523 = .ok (.if_icmp .ne 7, 3) := by decide +kernel
theorem dL_isDone_526 : decode cL_isDone 526 = .ok (.iconst 1, 1) := by decide +kernel
theorem dL_isDone_527 : decode cL_isDone 527 = .ok (.goto 4, 3) := by decide +kernel
theorem dL_isDone_530 : decode cL_isDone 530 = .ok (.iconst 0, 1) := by decide +kernel
theorem dL_isDone_531 : decode cL_isDone 531 = .ok (.ireturn, 1) := by decide +kernel
theorem dL_isDone_532 : decode cL_isDone 532 = .ok (.iload 8, 2) := by decide +kernel
theorem dL_isDone_534 : decode cL_isDone 534 = .ok (.bipush 26, 2) := by decide +kernel
theorem dL_isDone_536 : decode cL_isDone 536 = .ok (.if_icmp .ne 87, 3) := by decide +kernel
theorem dL_isDone_539 : decode cL_isDone 539 = .ok (.iload 12, 2) := by decide +kernel
theorem dL_isDone_541 : decode cL_isDone 541 = .ok (.iconst 3, 1) := by decide +kernel
theorem dL_isDone_542 : decode cL_isDone 542 = .ok (.if_icmp .ne 8, 3) := by decide +kernel
theorem dL_isDone_545 : decode cL_isDone 545 = .ok (.bipush (-30), 2) := by decide +kernel
theorem dL_isDone_547 : decode cL_isDone 547 = .ok (.goto 13, 3) := by decide +kernel
theorem dL_isDone_550 : decode cL_isDone 550 = .ok (.aload 6, 2) := by decide +kernel
theorem dL_isDone_552 : decode cL_isDone 552 = .ok (.bipush 7, 2) := by decide +kernel
theorem dL_isDone_554 : decode cL_isDone 554 = .ok (.iload 12, 2) := by decide +kernel
theorem dL_isDone_556 : decode cL_isDone 556 = .ok (.imul, 1) := by decide +kernel
theorem dL_isDone_557 : decode cL_isDone 557 = .ok (.iconst 1, 1) := by decide +kernel
theorem dL_isDone_558 : decode cL_isDone 558 = .ok (.iadd, 1) := by decide +kernel
theorem dL_isDone_559 : decode cL_isDone 559 = .ok (.iaload, 1) := by decide +kernel
theorem dL_isDone_560 : decode cL_isDone 560 = .ok (.istore 14, 2) := by decide +kernel
theorem dL_isDone_562 : decode cL_isDone 562 = .ok (.iload 14, 2) := by decide +kernel
theorem dL_isDone_564 : decode cL_isDone 564 = .ok (.ifCond .lt 36, 3) := by decide +kernel
theorem dL_isDone_567 : decode cL_isDone 567 = .ok (.aload 6, 2) := by decide +kernel
theorem dL_isDone_569 : decode cL_isDone 569 = .ok (.bipush 7, 2) := by decide +kernel
theorem dL_isDone_571 : decode cL_isDone 571 = .ok (.iload 12, 2) := by decide +kernel
theorem dL_isDone_573 : decode cL_isDone 573 = .ok (.imul, 1) := by decide +kernel
theorem dL_isDone_574 : decode cL_isDone 574 = .ok (.iconst 1, 1) := by decide +kernel
theorem dL_isDone_575 : decode cL_isDone 575 = .ok (.iadd, 1) := by decide +kernel
theorem dL_isDone_576 : decode cL_isDone 576 = .ok (.iconst 0, 1) := by decide +kernel
theorem dL_isDone_577 : decode cL_isDone 577 = .ok (.iastore, 1) := by decide +kernel
theorem dL_isDone_578 : decode cL_isDone 578 = .ok (.aload 6, 2) := by decide +kernel
theorem dL_isDone_580 : decode cL_isDone 580 = .ok (.bipush 7, 2) := by decide +kernel
theorem dL_isDone_582 : decode cL_isDone 582 = .ok (.iload 12, 2) := by decide +kernel
theorem dL_isDone_584 : decode cL_isDone 584 = .ok (.imul, 1) := by decide +kernel
theorem dL_isDone_585 : decode cL_isDone 585 = .ok (.iconst 3, 1) := by decide +kernel
theorem dL_isDone_586 : decode cL_isDone 586 = .ok (.iadd, 1) := by decide +kernel
theorem dL_isDone_587 : decode cL_isDone 587 = .ok (.iconst (-1), 1) := by decide +kernel
theorem dL_isDone_588 : decode cL_isDone 588 = .ok (.iastore, 1) := by decide +kernel
theorem dL_isDone_589 : decode cL_isDone 589 = .ok (.aload 6, 2) := by decide +kernel
theorem dL_isDone_591 : decode cL_isDone 591 = .ok (.bipush 7, 2) := by decide +kernel
theorem dL_isDone_593 : decode cL_isDone 593 = .ok (.iload 12, 2) := by decide +kernel
theorem dL_isDone_595 : decode cL_isDone 595 = .ok (.imul, 1) := by decide +kernel
theorem dL_isDone_596 : decode cL_isDone 596 = .ok (.iconst 4, 1) := by decide +kernel
theorem dL_isDone_597 : decode cL_isDone 597 = .ok (.iadd, 1) := by decide +kernel
theorem dL_isDone_598 : decode cL_isDone 598 = .ok (.iconst (-1), 1) := by decide +kernel
theorem dL_isDone_599 : decode cL_isDone 599 = .ok (.iastore, 1) := by decide +kernel
theorem dL_isDone_600 : decode cL_isDone 600 = .ok (.aload_n 0, 1) := by decide +kernel
theorem dL_isDone_601 : decode cL_isDone 601 = .ok (.bipush 8, 2) := by decide +kernel
theorem dL_isDone_603 : decode cL_isDone 603 = .ok (.iload 12, 2) := by decide +kernel
theorem dL_isDone_605 : decode cL_isDone 605 = .ok (.iconst 0, 1) := by decide +kernel
theorem dL_isDone_606 : decode cL_isDone 606 = .ok (.iconst 0, 1) := by decide +kernel
theorem dL_isDone_607 : decode cL_isDone 607 = .ok (.iconst 0, 1) := by decide +kernel
theorem dL_isDone_608 : decode cL_isDone 608 = .ok (.iconst 0, 1) := by decide +kernel
theorem dL_isDone_609 : decode cL_isDone 609 = .ok (.invokestatic 97, 3) := by decide +kernel
theorem dL_isDone_612 : decode cL_isDone 612 = .ok (.iload 14, 2) := by decide +kernel
theorem dL_isDone_614 : decode cL_isDone 614 = .ok (.if_icmp .ne 7, 3) := by decide +kernel
theorem dL_isDone_617 : decode cL_isDone 617 = .ok (.iconst 1, 1) := by decide +kernel
theorem dL_isDone_618 : decode cL_isDone 618 = .ok (.goto 4, 3) := by decide +kernel
theorem dL_isDone_621 : decode cL_isDone 621 = .ok (.iconst 0, 1) := by decide +kernel
theorem dL_isDone_622 : decode cL_isDone 622 = .ok (.ireturn, 1) := by decide +kernel
theorem dL_isDone_623 : decode cL_isDone 623 = .ok (.iload 8, 2) := by decide +kernel
theorem dL_isDone_625 : decode cL_isDone 625 = .ok (.bipush 31, 2) := by decide +kernel
theorem dL_isDone_627 : decode cL_isDone 627 = .ok (.if_icmp .ge 18, 3) := by decide +kernel
theorem dL_isDone_630 : decode cL_isDone 630 = .ok (.aload_n 0, 1) := by decide +kernel
theorem dL_isDone_631 : decode cL_isDone 631 = .ok (.aload 5, 2) := by decide +kernel
theorem dL_isDone_633 : decode cL_isDone 633 = .ok (.aload 6, 2) := by decide +kernel
theorem dL_isDone_635 : decode cL_isDone 635 = .ok (.aload 7, 2) := by decide +kernel
theorem dL_isDone_637 : decode cL_isDone 637 = .ok (.iload 12, 2) := by decide +kernel
theorem dL_isDone_639 : decode cL_isDone 639 = .ok (.iload 13, 2) := by decide +kernel
theorem dL_isDone_641 : decode cL_isDone 641 = .ok (.invokestatic 119, 3) := by decide +kernel
theorem dL_isDone_644 : decode cL_isDone 644 = .ok (.ireturn, 1) := by decide +kernel
theorem dL_isDone_645 : decode cL_isDone 645 = .ok (.iload 8, 2) := by decide +kernel
theorem dL_isDone_647 : decode cL_isDone 647 = .ok (.bipush 36, 2) := by decide +kernel
theorem dL_isDone_649 : decode cL_isDone 649 = .ok (.if_icmp .ge 34, 3) := by decide +kernel
theorem dL_isDone_652 : decode cL_isDone 652 = .ok (.aload_n 0, 1) := by decide +kernel
theorem dL_isDone_653 : decode cL_isDone 653 = .ok (.aload 6, 2) := by decide +kernel
theorem dL_isDone_655 : decode cL_isDone 655 = .ok (.aload 7, 2) := by decide +kernel
theorem dL_isDone_657 : decode cL_isDone 657 = .ok (.iload 12, 2) := by decide +kernel
theorem dL_isDone_659 : decode cL_isDone 659 = .ok (.iload 10, 2) := by decide +kernel
theorem dL_isDone_661 : decode cL_isDone 661 = .ok (.bipush 20, 2) := by decide +kernel
theorem dL_isDone_663 : decode cL_isDone 663 = .ok (.irem, 1) := by decide +kernel
theorem dL_isDone_664 : decode cL_isDone 664 = .ok (.ifCond .ne 8, 3) := by decide +kernel
theorem dL_isDone_667 : decode cL_isDone 667 = .ok (.bipush 51, 2) := by decide +kernel
theorem dL_isDone_669 : decode cL_isDone 669 = .ok (.goto 10, 3) := by decide +kernel
theorem dL_isDone_672 : decode cL_isDone 672 = .ok (.iconst 1, 1) := by decide +kernel
theorem dL_isDone_673 : decode cL_isDone 673 = .ok (.iload 10, 2) := by decide +kernel
theorem dL_isDone_675 : decode cL_isDone 675 = .ok (.bipush 6, 2) := by decide +kernel
theorem dL_isDone_677 : decode cL_isDone 677 = .ok (.irem, 1) := by decide +kernel
theorem dL_isDone_678 : decode cL_isDone 678 = .ok (.iadd, 1) := by decide +kernel
theorem dL_isDone_679 : decode cL_isDone 679 = .ok (.invokestatic 123, 3) := by decide +kernel
theorem dL_isDone_682 : decode cL_isDone 682 = .ok (.ireturn, 1) := by decide +kernel
theorem dL_isDone_683 : decode cL_isDone 683 = .ok (.iload 8, 2) := by decide +kernel
theorem dL_isDone_685 : decode cL_isDone 685 = .ok (.bipush 36, 2) := by decide +kernel
theorem dL_isDone_687 : decode cL_isDone 687 = .ok (.if_icmp .ne 182, 3) := by decide +kernel
theorem dL_isDone_690 : decode cL_isDone 690 = .ok (.iload 12, 2) := by decide +kernel
theorem dL_isDone_692 : decode cL_isDone 692 = .ok (.iconst 3, 1) := by decide +kernel
theorem dL_isDone_693 : decode cL_isDone 693 = .ok (.if_icmp .ge 21, 3) := by decide +kernel
theorem dL_isDone_696 : decode cL_isDone 696 = .ok (.aload 6, 2) := by decide +kernel
theorem dL_isDone_698 : decode cL_isDone 698 = .ok (.bipush 7, 2) := by decide +kernel
theorem dL_isDone_700 : decode cL_isDone 700 = .ok (.iload 12, 2) := by decide +kernel
theorem dL_isDone_702 : decode cL_isDone 702 = .ok (.imul, 1) := by decide +kernel
theorem dL_isDone_703 : decode cL_isDone 703 = .ok (.iconst 1, 1) := by decide +kernel
theorem dL_isDone_704 : decode cL_isDone 704 = .ok (.iadd, 1) := by decide +kernel
theorem dL_isDone_705 : decode cL_isDone 705 = .ok (.iaload, 1) := by decide +kernel
theorem dL_isDone_706 : decode cL_isDone 706 = .ok (.iconst 2, 1) := by decide +kernel
theorem dL_isDone_707 : decode cL_isDone 707 = .ok (.if_icmp .ne 7, 3) := by decide +kernel
theorem dL_isDone_710 : decode cL_isDone 710 = .ok (.iconst 1, 1) := by decide +kernel
theorem dL_isDone_711 : decode cL_isDone 711 = .ok (.goto 4, 3) := by decide +kernel
theorem dL_isDone_714 : decode cL_isDone 714 = .ok (.iconst 0, 1) := by decide +kernel
theorem dL_isDone_715 : decode cL_isDone 715 = .ok (.istore 14, 2) := by decide +kernel
theorem dL_isDone_717 : decode cL_isDone 717 = .ok (.iload 11, 2) := by decide +kernel
theorem dL_isDone_719 : decode cL_isDone 719 = .ok (.iconst 2, 1) := by decide +kernel
theorem dL_isDone_720 : decode cL_isDone 720 = .ok (.irem, 1) := by decide +kernel
theorem dL_isDone_721 : decode cL_isDone 721 = .ok (.istore 15, 2) := by decide +kernel
theorem dL_isDone_723 : decode cL_isDone 723 = .ok (.iload 14, 2) := by decide +kernel
theorem dL_isDone_725 : decode cL_isDone 725 = .ok (.ifCond .eq 91, 3) := by decide +kernel
theorem dL_isDone_728 : decode cL_isDone 728 = .ok (.aload 6, 2) := by decide +kernel
theorem dL_isDone_730 : decode cL_isDone 730 = .ok (.bipush 7, 2) := by decide +kernel
theorem dL_isDone_732 : decode cL_isDone 732 = .ok (.iload 12, 2) := by decide +kernel
theorem dL_isDone_734 : decode cL_isDone 734 = .ok (.imul, 1) := by decide +kernel
theorem dL_isDone_735 : decode cL_isDone 735 = .ok (.iconst 1, 1) := by decide +kernel
theorem dL_isDone_736 : decode cL_isDone 736 = .ok (.iadd, 1) := by decide +kernel
theorem dL_isDone_737 : decode cL_isDone 737 = .ok (.iconst 1, 1) := by decide +kernel
theorem dL_isDone_738 : decode cL_isDone 738 = .ok (.iastore, 1) := by decide +kernel
theorem dL_isDone_739 : decode cL_isDone 739 = .ok (.aload 6, 2) := by decide +kernel
theorem dL_isDone_741 : decode cL_isDone 741 = .ok (.bipush 7, 2) := by decide +kernel
theorem dL_isDone_743 : decode cL_isDone 743 = .ok (.iload 12, 2) := by decide +kernel
theorem dL_isDone_745 : decode cL_isDone 745 = .ok (.imul, 1) := by decide +kernel
theorem dL_isDone_746 : decode cL_isDone 746 = .ok (.iconst 2, 1) := by decide +kernel
theorem dL_isDone_747 : decode cL_isDone 747 = .ok (.iadd, 1) := by decide +kernel
theorem dL_isDone_748 : decode cL_isDone 748 = .ok (.dup2, 1) := by decide +kernel
theorem dL_isDone_749 : decode cL_isDone 749 = .ok (.iaload, 1) := by decide +kernel
theorem dL_isDone_750 : decode cL_isDone 750 = .ok (.iload 15, 2) := by decide +kernel
theorem dL_isDone_752 : decode cL_isDone 752 = .ok (.iadd, 1) := by decide +kernel
theorem dL_isDone_753 : decode cL_isDone 753 = .ok (.iastore, 1) := by decide +kernel
theorem dL_isDone_754 : decode cL_isDone 754 = .ok (.aload 6, 2) := by decide +kernel
theorem dL_isDone_756 : decode cL_isDone 756 = .ok (.bipush 7, 2) := by decide +kernel
theorem dL_isDone_758 : decode cL_isDone 758 = .ok (.iload 12, 2) := by decide +kernel
theorem dL_isDone_760 : decode cL_isDone 760 = .ok (.imul, 1) := by decide +kernel
theorem dL_isDone_761 : decode cL_isDone 761 = .ok (.iconst 5, 1) := by decide +kernel
theorem dL_isDone_762 : decode cL_isDone 762 = .ok (.iadd, 1) := by decide +kernel
theorem dL_isDone_763 : decode cL_isDone 763 = .ok (.iload 15, 2) := by decide +kernel
theorem dL_isDone_765 : decode cL_isDone 765 = .ok (.iconst 1, 1) := by decide +kernel
theorem dL_isDone_766 : decode cL_isDone 766 = .ok (.if_icmp .ne 7, 3) := by decide +kernel
theorem dL_isDone_769 : decode cL_isDone 769 = .ok (.iconst 1, 1) := by decide +kernel
theorem dL_isDone_770 : decode cL_isDone 770 = .ok (.goto 13, 3) := by decide +kernel
theorem dL_isDone_773 : decode cL_isDone 773 = .ok (.aload 6, 2) := by decide +kernel
theorem dL_isDone_775 : decode cL_isDone 775 = .ok (.bipush 7, 2) := by decide +kernel
theorem dL_isDone_777 : decode cL_isDone 777 = .ok (.iload 12, 2) := by decide +kernel
theorem dL_isDone_779 : decode cL_isDone 779 = .ok (.imul, 1) := by decide +kernel
theorem dL_isDone_780 : decode cL_isDone 780 = .ok (.iconst 5, 1) := by decide +kernel
theorem dL_isDone_781 : decode cL_isDone 781 = .ok (.iadd, 1) := by decide +kernel
theorem dL_isDone_782 : decode cL_isDone 782 = .ok (.iaload, 1) := by decide +kernel
theorem dL_isDone_783 : decode cL_isDone 783 = .ok (.iastore, 1) := by decide +kernel
theorem dL_isDone_784 : decode cL_isDone 784 = .ok (.aload 6, 2) := by decide +kernel
theorem dL_isDone_786 : decode cL_isDone 786 = .ok (.bipush 7, 2) := by decide +kernel
theorem dL_isDone_788 : decode cL_isDone 788 = .ok (.iload 12, 2) := by decide +kernel
theorem dL_isDone_790 : decode cL_isDone 790 = .ok (.imul, 1) := by decide +kernel
theorem dL_isDone_791 : decode cL_isDone 791 = .ok (.bipush 6, 2) := by decide +kernel
theorem dL_isDone_793 : decode cL_isDone 793 = .ok (.iadd, 1) := by decide +kernel
theorem dL_isDone_794 : decode cL_isDone 794 = .ok (.iload 15, 2) := by decide +kernel
theorem dL_isDone_796 : decode cL_isDone 796 = .ok (.iconst 1, 1) := by decide +kernel
theorem dL_isDone_797 : decode cL_isDone 797 = .ok (.if_icmp .ne 7, 3) := by decide +kernel
theorem dL_isDone_800 : decode cL_isDone 800 = .ok (.iconst 1, 1) := by decide +kernel
theorem dL_isDone_801 : decode cL_isDone 801 = .ok (.goto 14, 3) := by decide +kernel
theorem dL_isDone_804 : decode cL_isDone 804 = .ok (.aload 6, 2) := by decide +kernel
theorem dL_isDone_806 : decode cL_isDone 806 = .ok (.bipush 7, 2) := by decide +kernel
theorem dL_isDone_808 : decode cL_isDone 808 = .ok (.iload 12, 2) := by decide +kernel
theorem dL_isDone_810 : decode cL_isDone 810 = .ok (.imul, 1) := by decide +kernel
theorem dL_isDone_811 : decode cL_isDone 811 = .ok (.bipush 6, 2) := by decide +kernel
theorem dL_isDone_813 : decode cL_isDone 813 = .ok (.iadd, 1) := by decide +kernel
theorem dL_isDone_814 : decode cL_isDone 814 = .ok (.iaload, 1) := by decide +kernel
theorem dL_isDone_815 : decode cL_isDone 815 = .ok (.iastore, 1) := by decide +kernel
theorem dL_isDone_816 : decode cL_isDone 816 = .ok (.aload_n 0, 1) := by decide +kernel
theorem dL_isDone_817 : decode cL_isDone 817 = .ok (.bipush 11, 2) := by decide +kernel
theorem dL_isDone_819 : decode cL_isDone 819 = .ok (.iload 12, 2) := by decide +kernel
theorem dL_isDone_821 : decode cL_isDone 821 = .ok (.iload 15, 2) := by decide +kernel
theorem dL_isDone_823 : decode cL_isDone 823 = .ok (.iconst 0, 1) := by decide +kernel
theorem dL_isDone_824 : decode cL_isDone 824 = .ok (.iconst 0, 1) := by decide +kernel
theorem dL_isDone_825 : decode cL_isDone 825 = .ok (.iconst 0, 1) := by decide +kernel
theorem dL_isDone_826 : decode cL_isDone 826 = .ok (.invokestatic 97, 3) := by decide +kernel
theorem dL_isDone_829 : decode cL_isDone 829 = .ok (.iload 12, 2) := by decide +kernel
theorem dL_isDone_831 : decode cL_isDone 831 = .ok (.iconst 3, 1) := by decide +kernel
theorem dL_isDone_832 : decode cL_isDone 832 = .ok (.if_icmp .ne 8, 3) := by decide +kernel
theorem dL_isDone_835 : decode cL_isDone 835 = .ok (.bipush (-30), 2) := by decide +kernel
theorem dL_isDone_837 : decode cL_isDone 837 = .ok (.goto 23, 3) := by decide +kernel
theorem dL_isDone_840 : decode cL_isDone 840 = .ok (.iload 14, 2) := by decide +kernel
theorem dL_isDone_842 : decode cL_isDone 842 = .ok (.ifCond .eq 16, 3) := by decide +kernel
theorem dL_isDone_845 : decode cL_isDone 845 = .ok (.aload 6, 2) := by decide +kernel
theorem dL_isDone_847 : decode cL_isDone 847 = .ok (.bipush 7, 2) := by decide +kernel
theorem dL_isDone_849 : decode cL_isDone 849 = .ok (.iload 12, 2) := by decide +kernel
theorem dL_isDone_851 : decode cL_isDone 851 = .ok (.imul, 1) := by decide +kernel
theorem dL_isDone_852 : decode cL_isDone 852 = .ok (.iconst 2, 1) := by decide +kernel
theorem dL_isDone_853 : decode cL_isDone 853 = .ok (.iadd, 1) := by decide +kernel
theorem dL_isDone_854 : decode cL_isDone 854 = .ok (.iaload, 1) := by decide +kernel
theorem dL_isDone_855 : decode cL_isDone 855 = .ok (.goto 5, 3) := by decide +kernel
theorem dL_isDone_858 : decode cL_isDone 858 = .ok (.bipush (-10), 2) := by decide +kernel
theorem dL_isDone_860 : decode cL_isDone 860 = .ok (.if_icmp .ne 7, 3) := by decide +kernel
theorem dL_isDone_863 : decode cL_isDone 863 = .ok (.iconst 1, 1) := by decide +kernel
theorem dL_isDone_864 : decode cL_isDone 864 = .ok (.goto 4, 3) := by decide +kernel
theorem dL_isDone_867 : decode cL_isDone 867 = .ok (.iconst 0, 1) := by decide +kernel
theorem dL_isDone_868 : decode cL_isDone 868 = .ok (.ireturn, 1) := by decide +kernel
theorem dL_isDone_869 : decode cL_isDone 869 = .ok (.iload 11, 2) := by decide +kernel
theorem dL_isDone_871 : decode cL_isDone 871 = .ok (.bipush 20, 2) := by decide +kernel
theorem dL_isDone_873 : decode cL_isDone 873 = .ok (.irem, 1) := by decide +kernel
theorem dL_isDone_874 : decode cL_isDone 874 = .ok (.ifCond .ne 8, 3) := by decide +kernel
theorem dL_isDone_877 : decode cL_isDone 877 = .ok (.bipush 12, 2) := by decide +kernel
theorem dL_isDone_879 : decode cL_isDone 879 = .ok (.goto 8, 3) := by decide +kernel
theorem dL_isDone_882 : decode cL_isDone 882 = .ok (.iload 11, 2) := by decide +kernel
theorem dL_isDone_884 : decode cL_isDone 884 = .ok (.bipush 6, 2) := by decide +kernel
theorem dL_isDone_886 : decode cL_isDone 886 = .ok (.irem, 1) := by decide +kernel
theorem dL_isDone_887 : decode cL_isDone 887 = .ok (.istore 14, 2) := by decide +kernel
theorem dL_isDone_889 : decode cL_isDone 889 = .ok (.iload 11, 2) := by decide +kernel
theorem dL_isDone_891 : decode cL_isDone 891 = .ok (.bipush 33, 2) := by decide +kernel
theorem dL_isDone_893 : decode cL_isDone 893 = .ok (.irem, 1) := by decide +kernel
theorem dL_isDone_894 : decode cL_isDone 894 = .ok (.ifCond .ne 8, 3) := by decide +kernel
theorem dL_isDone_897 : decode cL_isDone 897 = .ok (.bipush 100, 2) := by decide +kernel
theorem dL_isDone_899 : decode cL_isDone 899 = .ok (.goto 10, 3) := by decide +kernel
theorem dL_isDone_902 : decode cL_isDone 902 = .ok (.iload 9, 2) := by decide +kernel
theorem dL_isDone_904 : decode cL_isDone 904 = .ok (.bipush 11, 2) := by decide +kernel
theorem dL_isDone_906 : decode cL_isDone 906 = .ok (.irem, 1) := by decide +kernel
theorem dL_isDone_907 : decode cL_isDone 907 = .ok (.iconst 1, 1) := by decide +kernel
theorem dL_isDone_908 : decode cL_isDone 908 = .ok (.isub, 1) := by decide +kernel
theorem dL_isDone_909 : decode cL_isDone 909 = .ok (.istore 15, 2) := by decide +kernel
theorem dL_isDone_911 : decode cL_isDone 911 = .ok (.iload 12, 2) := by decide +kernel
theorem dL_isDone_913 : decode cL_isDone 913 = .ok (.iconst 3, 1) := by decide +kernel
theorem dL_isDone_914 : decode cL_isDone 914 = .ok (.if_icmp .ge 20, 3) := by decide +kernel
theorem dL_isDone_917 : decode cL_isDone 917 = .ok (.iload 13, 2) := by decide +kernel
theorem dL_isDone_919 : decode cL_isDone 919 = .ok (.iconst 2, 1) := by decide +kernel
theorem dL_isDone_920 : decode cL_isDone 920 = .ok (.if_icmp .ge 14, 3) := by decide +kernel
theorem dL_isDone_923 : decode cL_isDone 923 = .ok (.iload 14, 2) := by decide +kernel
theorem dL_isDone_925 : decode cL_isDone 925 = .ok (.bipush 12, 2) := by decide +kernel
theorem dL_isDone_927 : decode cL_isDone 927 = .ok (.if_icmp .ge 7, 3) := by decide +kernel
theorem dL_isDone_930 : decode cL_isDone 930 = .ok (.iconst 1, 1) := by decide +kernel
theorem dL_isDone_931 : decode cL_isDone 931 = .ok (.goto 4, 3) := by decide +kernel
theorem dL_isDone_934 : decode cL_isDone 934 = .ok (.iconst 0, 1) := by decide +kernel
theorem dL_isDone_935 : decode cL_isDone 935 = .ok (.istore 16, 2) := by decide +kernel
theorem dL_isDone_937 : decode cL_isDone 937 = .ok (.iload 16, 2) := by decide +kernel
theorem dL_isDone_939 : decode cL_isDone 939 = .ok (.ifCond .ne 8, 3) := by decide +kernel
theorem dL_isDone_942 : decode cL_isDone 942 = .ok (.bipush (-30), 2) := by decide +kernel
theorem dL_isDone_944 : decode cL_isDone 944 = .ok (.goto 34, 3) := by decide +kernel
theorem dL_isDone_947 : decode cL_isDone 947 = .ok (.iload 15, 2) := by decide +kernel
theorem dL_isDone_949 : decode cL_isDone 949 = .ok (.bipush 99, 2) := by decide +kernel
theorem dL_isDone_951 : decode cL_isDone 951 = .ok (.if_icmp .le 8, 3) := by decide +kernel
theorem dL_isDone_954 : decode cL_isDone 954 = .ok (.bipush (-20), 2) := by decide +kernel
theorem dL_isDone_956 : decode cL_isDone 956 = .ok (.goto 22, 3) := by decide +kernel
theorem dL_isDone_959 : decode cL_isDone 959 = .ok (.aload_n 0, 1) := by decide +kernel
theorem dL_isDone_960 : decode cL_isDone 960 = .ok (.iload 12, 2) := by decide +kernel
theorem dL_isDone_962 : decode cL_isDone 962 = .ok (.iload 13, 2) := by decide +kernel
theorem dL_isDone_964 : decode cL_isDone 964 = .ok (.iload 14, 2) := by decide +kernel
theorem dL_isDone_966 : decode cL_isDone 966 = .ok (.iconst 0, 1) := by decide +kernel
theorem dL_isDone_967 : decode cL_isDone 967 = .ok (.invokevirtual 82, 3) := by decide +kernel
theorem dL_isDone_970 : decode cL_isDone 970 = .ok (.ifCond .lt 7, 3) := by decide +kernel
theorem dL_isDone_973 : decode cL_isDone 973 = .ok (.iconst 1, 1) := by decide +kernel
theorem dL_isDone_974 : decode cL_isDone 974 = .ok (.goto 4, 3) := by decide +kernel
theorem dL_isDone_977 : decode cL_isDone 977 = .ok (.iconst 0, 1) := by decide +kernel
theorem dL_isDone_978 : decode cL_isDone 978 = .ok (.istore 17, 2) := by decide +kernel
theorem dL_isDone_980 : decode cL_isDone 980 = .ok (.iload 17, 2) := by decide +kernel
theorem dL_isDone_982 : decode cL_isDone 982 = .ok (.ifCond .lt 17, 3) := by decide +kernel
theorem dL_isDone_985 : decode cL_isDone 985 = .ok (.aload 6, 2) := by decide +kernel
theorem dL_isDone_987 : decode cL_isDone 987 = .ok (.bipush 7, 2) := by decide +kernel
theorem dL_isDone_989 : decode cL_isDone 989 = .ok (.iload 12, 2) := by decide +kernel
theorem dL_isDone_991 : decode cL_isDone 991 = .ok (.imul, 1) := by decide +kernel
theorem dL_isDone_992 : decode cL_isDone 992 = .ok (.iconst 5, 1) := by decide +kernel
theorem dL_isDone_993 : decode cL_isDone 993 = .ok (.iadd, 1) := by decide +kernel
theorem dL_isDone_994 : decode cL_isDone 994 = .ok (.iload 13, 2) := by decide +kernel
theorem dL_isDone_996 : decode cL_isDone 996 = .ok (.iadd, 1) := by decide +kernel
theorem dL_isDone_997 : decode cL_isDone 997 = .ok (.iconst 1, 1) := by decide +kernel
theorem dL_isDone_998 : decode cL_isDone 998 = .ok (.iastore, 1) := by decide +kernel
theorem dL_isDone_999 : decode cL_isDone 999 = .ok (.aload_n 0, 1) := by decide +kernel
theorem dL_isDone_1000 : decode cL_isDone 1000 = .ok (.bipush 12, 2) := by decide +kernel
theorem dL_isDone_1002 : decode cL_isDone 1002 = .ok (.iload 12, 2) := by decide +kernel
theorem dL_isDone_1004 : decode cL_isDone 1004 = .ok (.iload 13, 2) := by decide +kernel
theorem dL_isDone_1006 : decode cL_isDone 1006 = .ok (.iload 14, 2) := by decide +kernel
theorem dL_isDone_1008 : decode cL_isDone 1008 = .ok (.iload 15, 2) := by decide +kernel
theorem dL_isDone_1010 : decode cL_isDone 1010 = .ok (.iconst 0, 1) := by decide +kernel
theorem dL_isDone_1011 : decode cL_isDone 1011 = .ok (.invokestatic 97, 3) := by decide +kernel
theorem dL_isDone_1014 : decode cL_isDone 1014 = .ok (.iload 17, 2) := by decide +kernel
theorem dL_isDone_1016 : decode cL_isDone 1016 = .ok (.if_icmp .ne 44, 3) := by decide +kernel
theorem dL_isDone_1019 : decode cL_isDone 1019 = .ok (.iload 17, 2) := by decide +kernel
theorem dL_isDone_1021 : decode cL_isDone 1021 = .ok (.ifCond .lt 35, 3) := by decide +kernel
theorem dL_isDone_1024 : decode cL_isDone 1024 = .ok (.aload_n 0, 1) := by decide +kernel
theorem dL_isDone_1025 : decode cL_isDone 1025 = .ok (.iload 12, 2) := by decide +kernel
theorem dL_isDone_1027 : decode cL_isDone 1027 = .ok (.iload 13, 2) := by decide +kernel
theorem dL_isDone_1029 : decode cL_isDone 1029 = .ok (.iload 14, 2) := by decide +kernel
theorem dL_isDone_1031 : decode cL_isDone 1031 = .ok (.iconst 0, 1) := by decide +kernel
theorem dL_isDone_1032 : decode cL_isDone 1032 = .ok (.invokevirtual 82, 3) := by decide +kernel
theorem dL_isDone_1035 : decode cL_isDone 1035 = .ok (.iload 15, 2) := by decide +kernel
theorem dL_isDone_1037 : decode cL_isDone 1037 = .ok (.if_icmp .ne 23, 3) := by decide +kernel
theorem dL_isDone_1040 : decode cL_isDone 1040 = .ok (.aload_n 0, 1) := by decide +kernel
theorem dL_isDone_1041 : decode cL_isDone 1041 = .ok (.iload 12, 2) := by decide +kernel
theorem dL_isDone_1043 : decode cL_isDone 1043 = .ok (.iload 13, 2) := by decide +kernel
theorem dL_isDone_1045 : decode cL_isDone 1045 = .ok (.iload 14, 2) := by decide +kernel
theorem dL_isDone_1047 : decode cL_isDone 1047 = .ok (.iconst 2, 1) := by decide +kernel
theorem dL_isDone_1048 : decode cL_isDone 1048 = .ok (.invokevirtual 82, 3) := by decide +kernel
theorem dL_isDone_1051 : decode cL_isDone 1051 = .ok (.iload 15, 2) := by decide +kernel
theorem dL_isDone_1053 : decode cL_isDone 1053 = .ok (.if_icmp .ne 7, 3) := by decide +kernel
theorem dL_isDone_1056 : decode cL_isDone 1056 = .ok (.iconst 1, 1) := by decide +kernel
theorem dL_isDone_1057 : decode cL_isDone 1057 = .ok (.goto 4, 3) := by decide +kernel
theorem dL_isDone_1060 : decode cL_isDone 1060 = .ok (.iconst 0, 1) := by decide +kernel
theorem dL_isDone_1061 : decode cL_isDone 1061 = .ok (.ireturn, 1) := by decide +kernel
