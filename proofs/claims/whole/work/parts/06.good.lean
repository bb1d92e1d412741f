set_option maxRecDepth 20000 in
theorem ggX0_make_X5_placeOf : GoodIn wsX0_make wsX5_placeOf := goodIn_r _ [7] (by decide +kernel) (by decide +kernel)
set_option maxRecDepth 20000 in
theorem gX0_make_X5_placeOf_n33 : GoodIn wsX0_make (wsX5_placeOf) := ggX0_make_X5_placeOf
set_option maxRecDepth 20000 in
theorem ggX0_make_X0_greatestStampHeard : GoodIn wsX0_make wsX0_greatestStampHeard := goodIn_r _ [12, 1, 13, 2, 14, 15, 16, 17, 5, 6, 7, 18, 19, 20, 21, 22, 23, 24] (by decide +kernel) (by decide +kernel)
set_option maxRecDepth 20000 in
theorem gX0_make_X0_greatestStampHeard : GoodIn wsX0_make (wsV RX0 37 RX0 yX0_greatestStampHeard wsX0_greatestStampHeard) := goodIn_app (goodIn_of _ (by decide +kernel)) ggX0_make_X0_greatestStampHeard
set_option maxRecDepth 20000 in
theorem ggX0_greatestStampHeard_X5_placeOf : GoodIn wsX0_greatestStampHeard wsX5_placeOf := goodIn_r _ [10] (by decide +kernel) (by decide +kernel)
set_option maxRecDepth 20000 in
theorem gX0_greatestStampHeard_X5_placeOf_n33 : GoodIn wsX0_greatestStampHeard (wsX5_placeOf) := ggX0_greatestStampHeard_X5_placeOf
set_option maxRecDepth 20000 in
theorem ggX0_gather_X5_placeOf : GoodIn wsX0_gather wsX5_placeOf := goodIn_r _ [7] (by decide +kernel) (by decide +kernel)
set_option maxRecDepth 20000 in
theorem gX0_gather_X5_placeOf_n33 : GoodIn wsX0_gather (wsX5_placeOf) := ggX0_gather_X5_placeOf
set_option maxRecDepth 20000 in
theorem ggX0_markAll_X0_markBetween : GoodIn wsX0_markAll wsX0_markBetween := goodIn_r _ [7, 8, 9, 10, 11, 12, 6, 13, 14, 15, 16, 17, 18, 19, 20, 21, 22, 23, 24, 25, 26, 27, 28, 29, 30, 31, 32] (by decide +kernel) (by decide +kernel)
set_option maxRecDepth 20000 in
theorem gX0_markAll_X0_markBetween : GoodIn wsX0_markAll (wsV RX0 56 RX0 yX0_markBetween wsX0_markBetween) := goodIn_app (goodIn_of _ (by decide +kernel)) ggX0_markAll_X0_markBetween
set_option maxRecDepth 20000 in
theorem ggX0_markOfValue_X0_markBetween : GoodIn wsX0_markOfValue wsX0_markBetween := goodIn_r _ [5, 6, 7, 8, 9, 10, 4, 11, 12, 13, 14, 15, 16, 17, 18, 19, 20, 21, 22, 23, 24, 25, 26, 27, 28, 29, 30] (by decide +kernel) (by decide +kernel)
set_option maxRecDepth 20000 in
theorem gX0_markOfValue_X0_markBetween : GoodIn wsX0_markOfValue (wsV RX0 56 RX0 yX0_markBetween wsX0_markBetween) := goodIn_app (goodIn_of _ (by decide +kernel)) ggX0_markOfValue_X0_markBetween
set_option maxRecDepth 20000 in
theorem ggX0_markBetween_X0_gather : GoodIn wsX0_markBetween wsX0_gather := goodIn_r _ [7, 8, 9, 10, 2, 11, 12, 13, 20, 21, 22, 23, 24, 25, 26] (by decide +kernel) (by decide +kernel)
set_option maxRecDepth 20000 in
theorem gX0_markBetween_X0_gather : GoodIn wsX0_markBetween (wsV RX0 60 RX0 yX0_gather wsX0_gather) := goodIn_app (goodIn_of _ (by decide +kernel)) ggX0_markBetween_X0_gather
set_option maxRecDepth 20000 in
theorem ggX0_markBetween_X4_hear : GoodIn wsX0_markBetween wsX4_hear := goodIn_r _ [18, 19, 25, 26] (by decide +kernel) (by decide +kernel)
set_option maxRecDepth 20000 in
theorem gX0_markBetween_X4_hear : GoodIn wsX0_markBetween (wsV RX0 64 RX4 yX4_hear wsX4_hear) := goodIn_app (goodIn_of _ (by decide +kernel)) ggX0_markBetween_X4_hear
set_option maxRecDepth 20000 in
theorem ggX0_worthAs_X0_gather : GoodIn wsX0_worthAs wsX0_gather := goodIn_r _ [5, 6, 7, 8, 9, 10, 11, 12, 40, 41, 42, 43, 44, 45, 46] (by decide +kernel) (by decide +kernel)
set_option maxRecDepth 20000 in
theorem gX0_worthAs_X0_gather : GoodIn wsX0_worthAs (wsV RX0 60 RX0 yX0_gather wsX0_gather) := goodIn_app (goodIn_of _ (by decide +kernel)) ggX0_worthAs_X0_gather
set_option maxRecDepth 20000 in
theorem ggX0_worthAs_X0_sumOfGathered : GoodIn wsX0_worthAs wsX0_sumOfGathered := goodIn_r _ [16, 17, 9, 40, 41, 42, 43, 44] (by decide +kernel) (by decide +kernel)
set_option maxRecDepth 20000 in
theorem gX0_worthAs_X0_sumOfGathered : GoodIn wsX0_worthAs (wsV RX0 68 RX0 yX0_sumOfGathered wsX0_sumOfGathered) := goodIn_app (goodIn_of _ (by decide +kernel)) ggX0_worthAs_X0_sumOfGathered
set_option maxRecDepth 20000 in
theorem ggX0_worthAs_X0_latestOfGathered : GoodIn wsX0_worthAs wsX0_latestOfGathered := goodIn_r _ [21, 9, 22, 17, 40, 41, 42, 43, 44] (by decide +kernel) (by decide +kernel)
set_option maxRecDepth 20000 in
theorem gX0_worthAs_X0_latestOfGathered : GoodIn wsX0_worthAs (wsV RX0 72 RX0 yX0_latestOfGathered wsX0_latestOfGathered) := goodIn_app (goodIn_of _ (by decide +kernel)) ggX0_worthAs_X0_latestOfGathered
set_option maxRecDepth 20000 in
theorem ggX0_worthAs_X0_mostOfGathered : GoodIn wsX0_worthAs wsX0_mostOfGathered := goodIn_r _ [26, 27, 17, 9, 28, 29, 30, 31, 40, 41, 42, 43, 44] (by decide +kernel) (by decide +kernel)
set_option maxRecDepth 20000 in
theorem gX0_worthAs_X0_mostOfGathered : GoodIn wsX0_worthAs (wsV RX0 76 RX0 yX0_mostOfGathered wsX0_mostOfGathered) := goodIn_app (goodIn_of _ (by decide +kernel)) ggX0_worthAs_X0_mostOfGathered
set_option maxRecDepth 20000 in
theorem ggX0_worthAs_X0_meanOfGathered : GoodIn wsX0_worthAs wsX0_meanOfGathered := goodIn_r _ [35, 17, 9, 36, 11, 37, 38, 39, 40, 41, 42, 43, 44] (by decide +kernel) (by decide +kernel)
set_option maxRecDepth 20000 in
theorem gX0_worthAs_X0_meanOfGathered : GoodIn wsX0_worthAs (wsV RX0 79 RX0 yX0_meanOfGathered wsX0_meanOfGathered) := goodIn_app (goodIn_of _ (by decide +kernel)) ggX0_worthAs_X0_meanOfGathered
set_option maxRecDepth 20000 in
theorem ggX0_meanOfGathered_X5_bitsOf : GoodIn wsX0_meanOfGathered wsX5_bitsOf := goodIn_r _ [5, 6, 7] (by decide +kernel) (by decide +kernel)
set_option maxRecDepth 20000 in
theorem gX0_meanOfGathered_X5_bitsOf_n82 : GoodIn wsX0_meanOfGathered (wsX5_bitsOf) := ggX0_meanOfGathered_X5_bitsOf
set_option maxRecDepth 20000 in
theorem ggX1_init_X4_init : GoodIn wsX1_init wsX4_init := goodIn_r _ [11, 12, 2, 3, 8, 13, 14, 15, 16] (by decide +kernel) (by decide +kernel)
set_option maxRecDepth 20000 in
theorem gX1_init_X4_init_n11 : GoodIn wsX1_init (wsX4_init) := ggX1_init_X4_init
set_option maxRecDepth 20000 in
theorem ggX1_become_X4_become : GoodIn wsX1_become wsX4_become := goodIn_r _ [13, 14, 15, 20, 21] (by decide +kernel) (by decide +kernel)
set_option maxRecDepth 20000 in
theorem gX1_become_X4_become : GoodIn wsX1_become (wsV RX1 29 RX4 yX4_become wsX4_become) := goodIn_app (goodIn_of _ (by decide +kernel)) ggX1_become_X4_become
set_option maxRecDepth 20000 in
theorem ggX1_become__X1_become : GoodIn wsX1_become_ wsX1_become := goodIn_r _ [9, 1, 2, 3, 4, 10, 11, 12, 13, 14, 15, 16, 17, 18, 19, 20, 21, 22, 23, 24, 25, 26] (by decide +kernel) (by decide +kernel)
set_option maxRecDepth 20000 in
theorem gX1_become__X1_become : GoodIn wsX1_become_ (wsV RX1 39 RX1 yX1_become wsX1_become) := goodIn_app (goodIn_of _ (by decide +kernel)) ggX1_become__X1_become
set_option maxRecDepth 20000 in
theorem ggX2_init_X0_init : GoodIn wsX2_init wsX0_init := goodIn_r _ [21, 22, 2, 3, 8, 23, 24, 25, 26, 27, 39, 40, 41, 42, 43] (by decide +kernel) (by decide +kernel)
set_option maxRecDepth 20000 in
theorem gX2_init_X0_init_n11 : GoodIn wsX2_init (wsX0_init) := ggX2_init_X0_init
set_option maxRecDepth 20000 in
theorem ggX2_init_X4_init : GoodIn wsX2_init wsX4_init := goodIn_r _ [29, 30, 2, 3, 8, 31, 32, 51, 52] (by decide +kernel) (by decide +kernel)
set_option maxRecDepth 20000 in
theorem gX2_init_X4_init_n40 : GoodIn wsX2_init (wsX4_init) := ggX2_init_X4_init
set_option maxRecDepth 20000 in
theorem ggX2_init_X1_init : GoodIn wsX2_init wsX1_init := goodIn_r _ [34, 35, 2, 3, 36, 16, 17, 37, 8, 38, 28, 29, 30, 31, 32, 51, 52, 53, 54, 55, 56] (by decide +kernel) (by decide +kernel)
set_option maxRecDepth 20000 in
theorem gX2_init_X1_init_n41 : GoodIn wsX2_init (wsX1_init) := ggX2_init_X1_init
set_option maxRecDepth 20000 in
theorem ggX2_become_X0_become : GoodIn wsX2_become wsX0_become := goodIn_r _ [16, 17, 18, 4, 5, 6, 19, 20, 21, 51, 52, 53, 54, 55] (by decide +kernel) (by decide +kernel)
set_option maxRecDepth 20000 in
theorem gX2_become_X0_become : GoodIn wsX2_become (wsV RX2 42 RX0 yX0_become wsX0_become) := goodIn_app (goodIn_of _ (by decide +kernel)) ggX2_become_X0_become
set_option maxRecDepth 20000 in
theorem ggX2_become_X4_become : GoodIn wsX2_become wsX4_become := goodIn_r _ [26, 27, 28, 56, 57] (by decide +kernel) (by decide +kernel)
set_option maxRecDepth 20000 in
theorem gX2_become_X4_become : GoodIn wsX2_become (wsV RX2 52 RX4 yX4_become wsX4_become) := goodIn_app (goodIn_of _ (by decide +kernel)) ggX2_become_X4_become
set_option maxRecDepth 20000 in
theorem ggX2_become_X1_become_ : GoodIn wsX2_become wsX1_become_ := goodIn_r _ [33, 34, 35, 36, 37, 38, 39, 40, 32, 41, 42, 4, 5, 6, 43, 23, 24, 25, 26, 27, 28, 58, 59, 60, 61, 56, 57] (by decide +kernel) (by decide +kernel)
set_option maxRecDepth 20000 in
theorem gX2_become_X1_become_ : GoodIn wsX2_become (wsV RX2 55 RX1 yX1_become_ wsX1_become_) := goodIn_app (goodIn_of _ (by decide +kernel)) ggX2_become_X1_become_
set_option maxRecDepth 20000 in
theorem ggX2_joinWithNew_X4_join : GoodIn wsX2_joinWithNew wsX4_join := goodIn_r _ [7, 8, 9, 20, 21] (by decide +kernel) (by decide +kernel)
set_option maxRecDepth 20000 in
theorem gX2_joinWithNew_X4_join : GoodIn wsX2_joinWithNew (wsV RX2 62 RX4 yX4_join wsX4_join) := goodIn_app (goodIn_of _ (by decide +kernel)) ggX2_joinWithNew_X4_join
set_option maxRecDepth 20000 in
theorem ggX2_joinWithNew_X5_pairOf : GoodIn wsX2_joinWithNew wsX5_pairOf := goodIn_r _ [12] (by decide +kernel) (by decide +kernel)
set_option maxRecDepth 20000 in
theorem gX2_joinWithNew_X5_pairOf_n65 : GoodIn wsX2_joinWithNew (wsX5_pairOf) := ggX2_joinWithNew_X5_pairOf
set_option maxRecDepth 20000 in
theorem ggX2_post_X1_become : GoodIn wsX2_post wsX1_become := goodIn_r _ [9, 10, 11, 12, 13, 14, 15, 16, 17, 18, 19, 20, 21, 22, 23, 24, 34, 35, 36, 37, 32, 33] (by decide +kernel) (by decide +kernel)
set_option maxRecDepth 20000 in
theorem gX2_post_X1_become : GoodIn wsX2_post (wsV RX2 72 RX1 yX1_become wsX1_become) := goodIn_app (goodIn_of _ (by decide +kernel)) ggX2_post_X1_become
set_option maxRecDepth 20000 in
theorem ggX2_learn_X5_pairOf : GoodIn wsX2_learn wsX5_pairOf := goodIn_r _ [7] (by decide +kernel) (by decide +kernel)
set_option maxRecDepth 20000 in
theorem gX2_learn_X5_pairOf_n65 : GoodIn wsX2_learn (wsX5_pairOf) := ggX2_learn_X5_pairOf
set_option maxRecDepth 20000 in
theorem ggX2_knownBy_X5_pairOf : GoodIn wsX2_knownBy wsX5_pairOf := goodIn_r _ [6] (by decide +kernel) (by decide +kernel)
set_option maxRecDepth 20000 in
theorem gX2_knownBy_X5_pairOf_n65 : GoodIn wsX2_knownBy (wsX5_pairOf) := ggX2_knownBy_X5_pairOf
set_option maxRecDepth 20000 in
theorem ggX2_stableAt_X2_knownBy : GoodIn wsX2_stableAt wsX2_knownBy := goodIn_r _ [7, 1, 2, 8, 9, 10, 11, 12, 13, 14, 15, 16, 17, 18, 19, 20] (by decide +kernel) (by decide +kernel)
set_option maxRecDepth 20000 in
theorem gX2_stableAt_X2_knownBy : GoodIn wsX2_stableAt (wsV RX2 84 RX2 yX2_knownBy wsX2_knownBy) := goodIn_app (goodIn_of _ (by decide +kernel)) ggX2_stableAt_X2_knownBy
set_option maxRecDepth 20000 in
theorem ggX2_tagsAt_X2_stableAt : GoodIn wsX2_tagsAt wsX2_stableAt := goodIn_r _ [8, 1, 2, 9, 10, 11, 7, 12, 13, 14, 15, 16, 17, 18, 19, 20, 21, 22, 23, 24, 25] (by decide +kernel) (by decide +kernel)
set_option maxRecDepth 20000 in
theorem gX2_tagsAt_X2_stableAt : GoodIn wsX2_tagsAt (wsV RX2 91 RX2 yX2_stableAt wsX2_stableAt) := goodIn_app (goodIn_of _ (by decide +kernel)) ggX2_tagsAt_X2_stableAt
set_option maxRecDepth 20000 in
theorem ggX2_tagsInAll_X2_tagsAt : GoodIn wsX2_tagsInAll wsX2_tagsAt := goodIn_r _ [5, 6, 7, 8, 9, 10, 11, 4, 12, 13, 14, 15, 16, 17, 18, 19, 20, 28, 29, 30, 31, 32, 33, 34, 35, 36] (by decide +kernel) (by decide +kernel)
set_option maxRecDepth 20000 in
theorem gX2_tagsInAll_X2_tagsAt : GoodIn wsX2_tagsInAll (wsV RX2 94 RX2 yX2_tagsAt wsX2_tagsAt) := goodIn_app (goodIn_of _ (by decide +kernel)) ggX2_tagsInAll_X2_tagsAt
set_option maxRecDepth 20000 in
theorem ggX2_tagsInAll_J6_bitCount_0f7a4 : GoodIn wsX2_tagsInAll wsJ6_bitCount_0f7a4 := goodIn_r _ [24, 25, 26, 27] (by decide +kernel) (by decide +kernel)
set_option maxRecDepth 20000 in
theorem gX2_tagsInAll_J6_bitCount_0f7a4 : GoodIn wsX2_tagsInAll (va_wsS RX2 97 yJ6_bitCount_0f7a4 wsJ6_bitCount_0f7a4) := goodIn_app (goodIn_of _ (by decide +kernel)) ggX2_tagsInAll_J6_bitCount_0f7a4
set_option maxRecDepth 20000 in
theorem ggX2_worthIn_X0_worthAs : GoodIn wsX2_worthIn wsX0_worthAs := goodIn_r _ [7, 8, 9, 10, 6, 11, 12, 13, 14, 15, 16, 17, 18, 19, 20, 21, 22, 23, 24, 25, 26, 27, 28, 29, 30, 31, 32, 33, 34, 35, 36, 37, 38, 39, 40, 41, 42, 43, 44, 45, 53, 54, 55, 56, 57, 58, 59] (by decide +kernel) (by decide +kernel)
set_option maxRecDepth 20000 in
theorem gX2_worthIn_X0_worthAs : GoodIn wsX2_worthIn (wsV RX2 103 RX0 yX0_worthAs wsX0_worthAs) := goodIn_app (goodIn_of _ (by decide +kernel)) ggX2_worthIn_X0_worthAs
set_option maxRecDepth 20000 in
theorem ggX4_isSame_X5_otherwise : GoodIn wsX4_isSame wsX5_otherwise := goodIn_r _ [5, 6, 7, 8, 9, 10, 11, 12] (by decide +kernel) (by decide +kernel)
set_option maxRecDepth 20000 in
theorem gX4_isSame_X5_otherwise_n18 : GoodIn wsX4_isSame (wsX5_otherwise) := ggX4_isSame_X5_otherwise
set_option maxRecDepth 20000 in
theorem ggX4_heardInAll_X4_bitsIn : GoodIn wsX4_heardInAll wsX4_bitsIn := goodIn_r _ [5, 6, 7, 8, 9, 10, 11, 12] (by decide +kernel) (by decide +kernel)
set_option maxRecDepth 20000 in
theorem gX4_heardInAll_X4_bitsIn : GoodIn wsX4_heardInAll (va_wsS RX4 22 yX4_bitsIn wsX4_bitsIn) := goodIn_app (goodIn_of _ (by decide +kernel)) ggX4_heardInAll_X4_bitsIn
set_option maxRecDepth 20000 in
theorem ggX4_aliveInAll_X4_bitsIn : GoodIn wsX4_aliveInAll wsX4_bitsIn := goodIn_r _ [5, 6, 7, 8, 9, 10, 11, 12] (by decide +kernel) (by decide +kernel)
set_option maxRecDepth 20000 in
theorem gX4_aliveInAll_X4_bitsIn : GoodIn wsX4_aliveInAll (va_wsS RX4 22 yX4_bitsIn wsX4_bitsIn) := goodIn_app (goodIn_of _ (by decide +kernel)) ggX4_aliveInAll_X4_bitsIn
set_option maxRecDepth 20000 in
theorem ggX4_bitsIn_J6_bitCount_0f7a4 : GoodIn wsX4_bitsIn wsJ6_bitCount_0f7a4 := goodIn_r _ [4, 5, 6, 7] (by decide +kernel) (by decide +kernel)
set_option maxRecDepth 20000 in
theorem gX4_bitsIn_J6_bitCount_0f7a4 : GoodIn wsX4_bitsIn (va_wsS RX4 26 yJ6_bitCount_0f7a4 wsJ6_bitCount_0f7a4) := goodIn_app (goodIn_of _ (by decide +kernel)) ggX4_bitsIn_J6_bitCount_0f7a4
set_option maxRecDepth 20000 in
theorem ggX5_init_X2_init : GoodIn wsX5_init wsX2_init := goodIn_r _ [22, 23, 2, 3, 24, 25, 26, 27, 28, 29, 30, 31, 32, 33, 34, 35, 12, 13, 36, 37, 38, 39, 40, 41, 42, 43, 44, 45, 46, 47, 48, 49, 50, 51, 52, 53, 54, 55, 56, 82, 83, 84, 85, 86, 62, 63, 64, 65, 66, 67, 68, 77, 78, 87, 88, 89, 90] (by decide +kernel) (by decide +kernel)
set_option maxRecDepth 20000 in
theorem gX5_init_X2_init : GoodIn wsX5_init (wsX2_init) := ggX5_init_X2_init
set_option maxRecDepth 20000 in
theorem ggX5_init_X4_init : GoodIn wsX5_init wsX4_init := goodIn_r _ [47, 48, 2, 3, 28, 49, 50, 77, 78] (by decide +kernel) (by decide +kernel)
set_option maxRecDepth 20000 in
theorem gX5_init_X4_init_n27 : GoodIn wsX5_init (wsX4_init) := ggX5_init_X4_init
set_option maxRecDepth 20000 in
theorem ggX5_init_X3_init : GoodIn wsX5_init wsX3_init := goodIn_r _ [58, 59, 2, 3, 60, 28, 61, 79, 80, 81] (by decide +kernel) (by decide +kernel)
set_option maxRecDepth 20000 in
theorem gX5_init_X3_init_n42 : GoodIn wsX5_init (wsX3_init) := ggX5_init_X3_init
set_option maxRecDepth 20000 in
theorem ggX5_add_X5_isReplica : GoodIn wsX5_add wsX5_isReplica := goodIn_r _ [9] (by decide +kernel) (by decide +kernel)
set_option maxRecDepth 20000 in
theorem gX5_add_X5_isReplica : GoodIn wsX5_add (va_wsS RX5 43 yX5_isReplica wsX5_isReplica) := goodIn_app (goodIn_of _ (by decide +kernel)) ggX5_add_X5_isReplica
set_option maxRecDepth 20000 in
theorem ggX5_add_X5_isObject : GoodIn wsX5_add wsX5_isObject := goodIn_r _ [12, 13, 14, 8, 15] (by decide +kernel) (by decide +kernel)
set_option maxRecDepth 20000 in
theorem gX5_add_X5_isObject : GoodIn wsX5_add (va_wsS RX5 47 yX5_isObject wsX5_isObject) := goodIn_app (goodIn_of _ (by decide +kernel)) ggX5_add_X5_isObject
set_option maxRecDepth 20000 in
theorem ggX5_add_X5_objectAt : GoodIn wsX5_add wsX5_objectAt := goodIn_r _ [18] (by decide +kernel) (by decide +kernel)
set_option maxRecDepth 20000 in
theorem gX5_add_X5_objectAt : GoodIn wsX5_add (va_wsS RX5 61 yX5_objectAt wsX5_objectAt) := goodIn_app (goodIn_of _ (by decide +kernel)) ggX5_add_X5_objectAt
set_option maxRecDepth 20000 in
theorem ggX5_add_X4_empty : GoodIn wsX5_add wsX4_empty := goodIn_r _ [23, 24, 25, 115, 116] (by decide +kernel) (by decide +kernel)
set_option maxRecDepth 20000 in
theorem gX5_add_X4_empty : GoodIn wsX5_add (wsV RX5 65 RX4 yX4_empty wsX4_empty) := goodIn_app (goodIn_of _ (by decide +kernel)) ggX5_add_X4_empty
set_option maxRecDepth 20000 in
theorem ggX5_add_X5_markGoneByAdding : GoodIn wsX5_add wsX5_markGoneByAdding := goodIn_r _ [29, 1, 30, 2, 4, 31, 32, 33, 34, 35, 36, 37, 38, 39, 40, 41, 42, 43, 44, 45, 46, 47, 48, 49, 50, 8, 51, 52, 53, 54, 22, 55, 24, 56, 57, 58, 59, 60, 61, 62, 95, 96, 97, 98, 99, 100, 101, 102, 103, 104, 105, 106, 107, 108, 109, 110, 111, 112, 113, 114, 115, 116] (by decide +kernel) (by decide +kernel)
set_option maxRecDepth 20000 in
theorem gX5_add_X5_markGoneByAdding : GoodIn wsX5_add (wsV RX5 71 RX5 yX5_markGoneByAdding wsX5_markGoneByAdding) := goodIn_app (goodIn_of _ (by decide +kernel)) ggX5_add_X5_markGoneByAdding
set_option maxRecDepth 20000 in
theorem ggX5_add_X0_make : GoodIn wsX5_add wsX0_make := goodIn_r _ [66, 47, 67, 41, 49, 50, 8, 51, 68, 69, 70, 35, 71, 72, 73, 74, 75, 76, 110, 111, 112, 113, 114, 115, 116] (by decide +kernel) (by decide +kernel)
set_option maxRecDepth 20000 in
theorem gX5_add_X0_make : GoodIn wsX5_add (wsV RX5 75 RX0 yX0_make wsX0_make) := goodIn_app (goodIn_of _ (by decide +kernel)) ggX5_add_X0_make
set_option maxRecDepth 20000 in
theorem ggX5_add_X4_hear : GoodIn wsX5_add wsX4_hear := goodIn_r _ [55, 24, 115, 116] (by decide +kernel) (by decide +kernel)
set_option maxRecDepth 20000 in
theorem gX5_add_X4_hear : GoodIn wsX5_add (wsV RX5 79 RX4 yX4_hear wsX4_hear) := goodIn_app (goodIn_of _ (by decide +kernel)) ggX5_add_X4_hear
set_option maxRecDepth 20000 in
theorem ggX5_add_X4_enliven : GoodIn wsX5_add wsX4_enliven := goodIn_r _ [81, 25, 115, 116] (by decide +kernel) (by decide +kernel)
set_option maxRecDepth 20000 in
theorem gX5_add_X4_enliven : GoodIn wsX5_add (wsV RX5 83 RX4 yX4_enliven wsX4_enliven) := goodIn_app (goodIn_of _ (by decide +kernel)) ggX5_add_X4_enliven
set_option maxRecDepth 20000 in
theorem ggX5_add_X2_joinWithNew : GoodIn wsX5_add wsX2_joinWithNew := goodIn_r _ [86, 87, 88, 89, 90, 91, 22, 92, 25, 24, 93, 8, 94, 103, 104, 105, 106, 107, 108, 109, 115, 116] (by decide +kernel) (by decide +kernel)
set_option maxRecDepth 20000 in
theorem gX5_add_X2_joinWithNew : GoodIn wsX5_add (wsV RX5 86 RX2 yX2_joinWithNew wsX2_joinWithNew) := goodIn_app (goodIn_of _ (by decide +kernel)) ggX5_add_X2_joinWithNew
set_option maxRecDepth 20000 in
theorem ggX5_take_X5_isReplica : GoodIn wsX5_take wsX5_isReplica := goodIn_r _ [8] (by decide +kernel) (by decide +kernel)
set_option maxRecDepth 20000 in
theorem gX5_take_X5_isReplica : GoodIn wsX5_take (va_wsS RX5 43 yX5_isReplica wsX5_isReplica) := goodIn_app (goodIn_of _ (by decide +kernel)) ggX5_take_X5_isReplica
set_option maxRecDepth 20000 in
theorem ggX5_take_X5_isObject : GoodIn wsX5_take wsX5_isObject := goodIn_r _ [11, 12, 13, 7, 14] (by decide +kernel) (by decide +kernel)
set_option maxRecDepth 20000 in
theorem gX5_take_X5_isObject : GoodIn wsX5_take (va_wsS RX5 47 yX5_isObject wsX5_isObject) := goodIn_app (goodIn_of _ (by decide +kernel)) ggX5_take_X5_isObject
set_option maxRecDepth 20000 in
theorem ggX5_take_X4_empty : GoodIn wsX5_take wsX4_empty := goodIn_r _ [19, 20, 21, 91, 92] (by decide +kernel) (by decide +kernel)
set_option maxRecDepth 20000 in
theorem gX5_take_X4_empty : GoodIn wsX5_take (wsV RX5 65 RX4 yX4_empty wsX4_empty) := goodIn_app (goodIn_of _ (by decide +kernel)) ggX5_take_X4_empty
set_option maxRecDepth 20000 in
theorem ggX5_take_X5_objectAt : GoodIn wsX5_take wsX5_objectAt := goodIn_r _ [24] (by decide +kernel) (by decide +kernel)
set_option maxRecDepth 20000 in
theorem gX5_take_X5_objectAt : GoodIn wsX5_take (va_wsS RX5 61 yX5_objectAt wsX5_objectAt) := goodIn_app (goodIn_of _ (by decide +kernel)) ggX5_take_X5_objectAt
set_option maxRecDepth 20000 in
theorem ggX5_take_X0_markOfValue : GoodIn wsX5_take wsX0_markOfValue := goodIn_r _ [29, 30, 31, 32, 28, 33, 34, 35, 36, 37, 38, 39, 40, 41, 42, 43, 7, 44, 45, 46, 47, 18, 48, 20, 93, 94, 95, 96, 97, 91, 92] (by decide +kernel) (by decide +kernel)
set_option maxRecDepth 20000 in
theorem gX5_take_X0_markOfValue : GoodIn wsX5_take (wsV RX5 90 RX0 yX0_markOfValue wsX0_markOfValue) := goodIn_app (goodIn_of _ (by decide +kernel)) ggX5_take_X0_markOfValue
set_option maxRecDepth 20000 in
theorem ggX5_take_X2_joinWithNew : GoodIn wsX5_take wsX2_joinWithNew := goodIn_r _ [53, 54, 55, 56, 57, 58, 18, 59, 21, 20, 60, 7, 61, 84, 85, 86, 87, 88, 89, 90, 91, 92] (by decide +kernel) (by decide +kernel)
set_option maxRecDepth 20000 in
theorem gX5_take_X2_joinWithNew : GoodIn wsX5_take (wsV RX5 86 RX2 yX2_joinWithNew wsX2_joinWithNew) := goodIn_app (goodIn_of _ (by decide +kernel)) ggX5_take_X2_joinWithNew
set_option maxRecDepth 20000 in
theorem ggX5_take_X4_heardInAll : GoodIn wsX5_take wsX4_heardInAll := goodIn_r _ [65, 20, 66, 67, 18, 68, 69, 70, 71, 72, 73, 74, 75, 91, 92] (by decide +kernel) (by decide +kernel)
set_option maxRecDepth 20000 in
theorem gX5_take_X4_heardInAll : GoodIn wsX5_take (wsV RX5 94 RX4 yX4_heardInAll wsX4_heardInAll) := goodIn_app (goodIn_of _ (by decide +kernel)) ggX5_take_X4_heardInAll
set_option maxRecDepth 20000 in
theorem ggX5_reset_X5_isReplica : GoodIn wsX5_reset wsX5_isReplica := goodIn_r _ [8] (by decide +kernel) (by decide +kernel)
set_option maxRecDepth 20000 in
theorem gX5_reset_X5_isReplica : GoodIn wsX5_reset (va_wsS RX5 43 yX5_isReplica wsX5_isReplica) := goodIn_app (goodIn_of _ (by decide +kernel)) ggX5_reset_X5_isReplica
set_option maxRecDepth 20000 in
theorem ggX5_reset_X5_isRoom : GoodIn wsX5_reset wsX5_isRoom := goodIn_r _ [11] (by decide +kernel) (by decide +kernel)
set_option maxRecDepth 20000 in
theorem gX5_reset_X5_isRoom : GoodIn wsX5_reset (va_wsS RX5 98 yX5_isRoom wsX5_isRoom) := goodIn_app (goodIn_of _ (by decide +kernel)) ggX5_reset_X5_isRoom
set_option maxRecDepth 20000 in
theorem ggX5_reset_X4_empty : GoodIn wsX5_reset wsX4_empty := goodIn_r _ [16, 17, 18, 90, 91] (by decide +kernel) (by decide +kernel)
set_option maxRecDepth 20000 in
theorem gX5_reset_X4_empty : GoodIn wsX5_reset (wsV RX5 65 RX4 yX4_empty wsX4_empty) := goodIn_app (goodIn_of _ (by decide +kernel)) ggX5_reset_X4_empty
set_option maxRecDepth 20000 in
theorem ggX5_reset_X5_objectAt : GoodIn wsX5_reset wsX5_objectAt := goodIn_r _ [21] (by decide +kernel) (by decide +kernel)
set_option maxRecDepth 20000 in
theorem gX5_reset_X5_objectAt : GoodIn wsX5_reset (va_wsS RX5 61 yX5_objectAt wsX5_objectAt) := goodIn_app (goodIn_of _ (by decide +kernel)) ggX5_reset_X5_objectAt
set_option maxRecDepth 20000 in
theorem ggX5_reset_X0_markAll : GoodIn wsX5_reset wsX0_markAll := goodIn_r _ [26, 27, 28, 29, 30, 31, 25, 32, 33, 34, 35, 36, 37, 38, 39, 40, 41, 42, 7, 43, 44, 45, 46, 15, 47, 17, 92, 93, 94, 95, 96, 90, 91] (by decide +kernel) (by decide +kernel)
set_option maxRecDepth 20000 in
theorem gX5_reset_X0_markAll : GoodIn wsX5_reset (wsV RX5 101 RX0 yX0_markAll wsX0_markAll) := goodIn_app (goodIn_of _ (by decide +kernel)) ggX5_reset_X0_markAll
set_option maxRecDepth 20000 in
theorem ggX5_reset_X2_joinWithNew : GoodIn wsX5_reset wsX2_joinWithNew := goodIn_r _ [52, 53, 54, 55, 56, 57, 15, 58, 18, 17, 59, 7, 60, 83, 84, 85, 86, 87, 88, 89, 90, 91] (by decide +kernel) (by decide +kernel)
set_option maxRecDepth 20000 in
theorem gX5_reset_X2_joinWithNew : GoodIn wsX5_reset (wsV RX5 86 RX2 yX2_joinWithNew wsX2_joinWithNew) := goodIn_app (goodIn_of _ (by decide +kernel)) ggX5_reset_X2_joinWithNew
set_option maxRecDepth 20000 in
theorem ggX5_reset_X4_heardInAll : GoodIn wsX5_reset wsX4_heardInAll := goodIn_r _ [64, 17, 65, 66, 15, 67, 68, 69, 70, 71, 72, 73, 74, 90, 91] (by decide +kernel) (by decide +kernel)
set_option maxRecDepth 20000 in
theorem gX5_reset_X4_heardInAll : GoodIn wsX5_reset (wsV RX5 94 RX4 yX4_heardInAll wsX4_heardInAll) := goodIn_app (goodIn_of _ (by decide +kernel)) ggX5_reset_X4_heardInAll
set_option maxRecDepth 20000 in
theorem ggX5_kind_X5_isObject : GoodIn wsX5_kind wsX5_isObject := goodIn_r _ [6, 7, 8, 5, 9] (by decide +kernel) (by decide +kernel)
set_option maxRecDepth 20000 in
theorem gX5_kind_X5_isObject : GoodIn wsX5_kind (va_wsS RX5 47 yX5_isObject wsX5_isObject) := goodIn_app (goodIn_of _ (by decide +kernel)) ggX5_kind_X5_isObject
set_option maxRecDepth 20000 in
theorem ggX5_kind_X5_isKind : GoodIn wsX5_kind wsX5_isKind := goodIn_r _ [12] (by decide +kernel) (by decide +kernel)
set_option maxRecDepth 20000 in
theorem gX5_kind_X5_isKind : GoodIn wsX5_kind (va_wsS RX5 105 yX5_isKind wsX5_isKind) := goodIn_app (goodIn_of _ (by decide +kernel)) ggX5_kind_X5_isKind
set_option maxRecDepth 20000 in
theorem ggX5_kind_X5_objectAt : GoodIn wsX5_kind wsX5_objectAt := goodIn_r _ [15] (by decide +kernel) (by decide +kernel)
set_option maxRecDepth 20000 in
theorem gX5_kind_X5_objectAt : GoodIn wsX5_kind (va_wsS RX5 61 yX5_objectAt wsX5_objectAt) := goodIn_app (goodIn_of _ (by decide +kernel)) ggX5_kind_X5_objectAt
set_option maxRecDepth 20000 in
theorem ggX5_taken_X5_isObject : GoodIn wsX5_taken wsX5_isObject := goodIn_r _ [6, 7, 8, 5, 9] (by decide +kernel) (by decide +kernel)
set_option maxRecDepth 20000 in
theorem gX5_taken_X5_isObject : GoodIn wsX5_taken (va_wsS RX5 47 yX5_isObject wsX5_isObject) := goodIn_app (goodIn_of _ (by decide +kernel)) ggX5_taken_X5_isObject
set_option maxRecDepth 20000 in
theorem ggX5_taken_X5_isKind : GoodIn wsX5_taken wsX5_isKind := goodIn_r _ [12] (by decide +kernel) (by decide +kernel)
set_option maxRecDepth 20000 in
theorem gX5_taken_X5_isKind : GoodIn wsX5_taken (va_wsS RX5 105 yX5_isKind wsX5_isKind) := goodIn_app (goodIn_of _ (by decide +kernel)) ggX5_taken_X5_isKind
set_option maxRecDepth 20000 in
theorem ggX5_taken_X5_objectAt : GoodIn wsX5_taken wsX5_objectAt := goodIn_r _ [15] (by decide +kernel) (by decide +kernel)
set_option maxRecDepth 20000 in
theorem gX5_taken_X5_objectAt : GoodIn wsX5_taken (va_wsS RX5 61 yX5_objectAt wsX5_objectAt) := goodIn_app (goodIn_of _ (by decide +kernel)) ggX5_taken_X5_objectAt
set_option maxRecDepth 20000 in
theorem ggX5_taken_X5_isOrIsUnder : GoodIn wsX5_taken wsX5_isOrIsUnder := goodIn_r _ [18, 19] (by decide +kernel) (by decide +kernel)
set_option maxRecDepth 20000 in
theorem gX5_taken_X5_isOrIsUnder : GoodIn wsX5_taken (va_wsS RX5 111 yX5_isOrIsUnder wsX5_isOrIsUnder) := goodIn_app (goodIn_of _ (by decide +kernel)) ggX5_taken_X5_isOrIsUnder
set_option maxRecDepth 20000 in
theorem ggX5_worth_X5_isReplica : GoodIn wsX5_worth wsX5_isReplica := goodIn_r _ [7] (by decide +kernel) (by decide +kernel)
set_option maxRecDepth 20000 in
theorem gX5_worth_X5_isReplica : GoodIn wsX5_worth (va_wsS RX5 43 yX5_isReplica wsX5_isReplica) := goodIn_app (goodIn_of _ (by decide +kernel)) ggX5_worth_X5_isReplica
set_option maxRecDepth 20000 in
theorem ggX5_worth_X5_isObject : GoodIn wsX5_worth wsX5_isObject := goodIn_r _ [10, 11, 12, 6, 13] (by decide +kernel) (by decide +kernel)
set_option maxRecDepth 20000 in
theorem gX5_worth_X5_isObject : GoodIn wsX5_worth (va_wsS RX5 47 yX5_isObject wsX5_isObject) := goodIn_app (goodIn_of _ (by decide +kernel)) ggX5_worth_X5_isObject
set_option maxRecDepth 20000 in
theorem ggX5_worth_X5_objectAt : GoodIn wsX5_worth wsX5_objectAt := goodIn_r _ [16] (by decide +kernel) (by decide +kernel)
set_option maxRecDepth 20000 in
theorem gX5_worth_X5_objectAt : GoodIn wsX5_worth (va_wsS RX5 61 yX5_objectAt wsX5_objectAt) := goodIn_app (goodIn_of _ (by decide +kernel)) ggX5_worth_X5_objectAt
set_option maxRecDepth 20000 in
theorem ggX5_worth_X2_worthIn : GoodIn wsX5_worth wsX2_worthIn := goodIn_r _ [21, 22, 23, 24, 25, 26, 27, 28, 29, 30, 31, 32, 33, 34, 35, 36, 37, 6, 38, 39, 40, 41, 42, 43, 44, 45, 46, 47, 48, 49, 50, 51, 52, 53, 54, 55, 56, 57, 58, 59, 60, 61, 62, 63, 64, 65, 74, 75, 76, 77, 78, 79, 80, 81, 82, 83, 84, 85, 86, 87] (by decide +kernel) (by decide +kernel)
set_option maxRecDepth 20000 in
theorem gX5_worth_X2_worthIn : GoodIn wsX5_worth (wsV RX5 116 RX2 yX2_worthIn wsX2_worthIn) := goodIn_app (goodIn_of _ (by decide +kernel)) ggX5_worth_X2_worthIn
set_option maxRecDepth 20000 in
theorem ggX5_told_X5_isReplica : GoodIn wsX5_told wsX5_isReplica := goodIn_r _ [8] (by decide +kernel) (by decide +kernel)
set_option maxRecDepth 20000 in
theorem gX5_told_X5_isReplica : GoodIn wsX5_told (va_wsS RX5 43 yX5_isReplica wsX5_isReplica) := goodIn_app (goodIn_of _ (by decide +kernel)) ggX5_told_X5_isReplica
set_option maxRecDepth 20000 in
theorem ggX5_told_X2_stableAt : GoodIn wsX5_told wsX2_stableAt := goodIn_r _ [13, 14, 15, 16, 17, 18, 12, 19, 20, 21, 7, 22, 38, 39, 40, 41, 42, 43, 44, 45, 46] (by decide +kernel) (by decide +kernel)
set_option maxRecDepth 20000 in
theorem gX5_told_X2_stableAt : GoodIn wsX5_told (wsV RX5 126 RX2 yX2_stableAt wsX2_stableAt) := goodIn_app (goodIn_of _ (by decide +kernel)) ggX5_told_X2_stableAt
set_option maxRecDepth 20000 in
theorem ggX5_told_X2_tagsAt : GoodIn wsX5_told wsX2_tagsAt := goodIn_r _ [26, 14, 15, 27, 28, 10, 11, 12, 13, 16, 17, 18, 19, 20, 21, 7, 22, 38, 39, 40, 41, 42, 43, 44, 45, 46] (by decide +kernel) (by decide +kernel)
set_option maxRecDepth 20000 in
theorem gX5_told_X2_tagsAt : GoodIn wsX5_told (wsV RX5 129 RX2 yX2_tagsAt wsX2_tagsAt) := goodIn_app (goodIn_of _ (by decide +kernel)) ggX5_told_X2_tagsAt
set_option maxRecDepth 20000 in
theorem ggX5_told_X2_knownBy : GoodIn wsX5_told wsX2_knownBy := goodIn_r _ [19, 14, 15, 20, 21, 7, 22, 38, 39, 40, 41, 42, 43, 44, 45, 46] (by decide +kernel) (by decide +kernel)
set_option maxRecDepth 20000 in
theorem gX5_told_X2_knownBy : GoodIn wsX5_told (wsV RX5 132 RX2 yX2_knownBy wsX2_knownBy) := goodIn_app (goodIn_of _ (by decide +kernel)) ggX5_told_X2_knownBy
set_option maxRecDepth 20000 in
theorem ggX5_dot_X5_isReplica : GoodIn wsX5_dot wsX5_isReplica := goodIn_r _ [10] (by decide +kernel) (by decide +kernel)
set_option maxRecDepth 20000 in
theorem gX5_dot_X5_isReplica : GoodIn wsX5_dot (va_wsS RX5 43 yX5_isReplica wsX5_isReplica) := goodIn_app (goodIn_of _ (by decide +kernel)) ggX5_dot_X5_isReplica
set_option maxRecDepth 20000 in
theorem ggX5_dot_X5_placeOf : GoodIn wsX5_dot wsX5_placeOf := goodIn_r _ [13] (by decide +kernel) (by decide +kernel)
set_option maxRecDepth 20000 in
theorem gX5_dot_X5_placeOf : GoodIn wsX5_dot (va_wsS RX5 136 yX5_placeOf wsX5_placeOf) := goodIn_app (goodIn_of _ (by decide +kernel)) ggX5_dot_X5_placeOf
set_option maxRecDepth 20000 in
theorem ggX5_has_X5_isReplica : GoodIn wsX5_has wsX5_isReplica := goodIn_r _ [8] (by decide +kernel) (by decide +kernel)
set_option maxRecDepth 20000 in
theorem gX5_has_X5_isReplica : GoodIn wsX5_has (va_wsS RX5 43 yX5_isReplica wsX5_isReplica) := goodIn_app (goodIn_of _ (by decide +kernel)) ggX5_has_X5_isReplica
set_option maxRecDepth 20000 in
theorem ggX5_has_X5_isObject : GoodIn wsX5_has wsX5_isObject := goodIn_r _ [11, 12, 13, 7, 14] (by decide +kernel) (by decide +kernel)
set_option maxRecDepth 20000 in
theorem gX5_has_X5_isObject : GoodIn wsX5_has (va_wsS RX5 47 yX5_isObject wsX5_isObject) := goodIn_app (goodIn_of _ (by decide +kernel)) ggX5_has_X5_isObject
set_option maxRecDepth 20000 in
theorem ggX5_has_X4_empty : GoodIn wsX5_has wsX4_empty := goodIn_r _ [19, 20, 21, 78, 79] (by decide +kernel) (by decide +kernel)
set_option maxRecDepth 20000 in
theorem gX5_has_X4_empty : GoodIn wsX5_has (wsV RX5 65 RX4 yX4_empty wsX4_empty) := goodIn_app (goodIn_of _ (by decide +kernel)) ggX5_has_X4_empty
set_option maxRecDepth 20000 in
theorem ggX5_has_X5_objectAt : GoodIn wsX5_has wsX5_objectAt := goodIn_r _ [24] (by decide +kernel) (by decide +kernel)
set_option maxRecDepth 20000 in
theorem gX5_has_X5_objectAt : GoodIn wsX5_has (va_wsS RX5 61 yX5_objectAt wsX5_objectAt) := goodIn_app (goodIn_of _ (by decide +kernel)) ggX5_has_X5_objectAt
set_option maxRecDepth 20000 in
theorem ggX5_has_X0_markOfValue : GoodIn wsX5_has wsX0_markOfValue := goodIn_r _ [29, 30, 31, 32, 28, 33, 34, 35, 36, 37, 38, 39, 40, 41, 42, 43, 7, 44, 45, 46, 47, 18, 48, 20, 80, 81, 82, 83, 84, 78, 79] (by decide +kernel) (by decide +kernel)
set_option maxRecDepth 20000 in
theorem gX5_has_X0_markOfValue : GoodIn wsX5_has (wsV RX5 90 RX0 yX0_markOfValue wsX0_markOfValue) := goodIn_app (goodIn_of _ (by decide +kernel)) ggX5_has_X0_markOfValue
set_option maxRecDepth 20000 in
theorem ggX5_has_X4_heardInAll : GoodIn wsX5_has wsX4_heardInAll := goodIn_r _ [52, 20, 53, 54, 18, 55, 56, 57, 58, 59, 60, 61, 62, 78, 79] (by decide +kernel) (by decide +kernel)
set_option maxRecDepth 20000 in
theorem gX5_has_X4_heardInAll : GoodIn wsX5_has (wsV RX5 94 RX4 yX4_heardInAll wsX4_heardInAll) := goodIn_app (goodIn_of _ (by decide +kernel)) ggX5_has_X4_heardInAll
set_option maxRecDepth 20000 in
theorem ggX5_send_X5_isReplica : GoodIn wsX5_send wsX5_isReplica := goodIn_r _ [8] (by decide +kernel) (by decide +kernel)
set_option maxRecDepth 20000 in
theorem gX5_send_X5_isReplica : GoodIn wsX5_send (va_wsS RX5 43 yX5_isReplica wsX5_isReplica) := goodIn_app (goodIn_of _ (by decide +kernel)) ggX5_send_X5_isReplica
set_option maxRecDepth 20000 in
theorem ggX5_send_X5_pairOf : GoodIn wsX5_send wsX5_pairOf := goodIn_r _ [11] (by decide +kernel) (by decide +kernel)
set_option maxRecDepth 20000 in
theorem gX5_send_X5_pairOf : GoodIn wsX5_send (va_wsS RX5 155 yX5_pairOf wsX5_pairOf) := goodIn_app (goodIn_of _ (by decide +kernel)) ggX5_send_X5_pairOf
set_option maxRecDepth 20000 in
theorem ggX5_send_X2_post : GoodIn wsX5_send wsX2_post := goodIn_r _ [16, 17, 18, 19, 20, 21, 22, 23, 24, 25, 26, 27, 28, 29, 30, 31, 32, 33, 34, 35, 36, 37, 38, 39, 40, 53, 54, 55, 56, 57, 58, 59, 60, 61, 62, 63, 64, 65] (by decide +kernel) (by decide +kernel)
set_option maxRecDepth 20000 in
theorem gX5_send_X2_post : GoodIn wsX5_send (wsV RX5 158 RX2 yX2_post wsX2_post) := goodIn_app (goodIn_of _ (by decide +kernel)) ggX5_send_X2_post
set_option maxRecDepth 20000 in
theorem ggX5_send_X4_empty : GoodIn wsX5_send wsX4_empty := goodIn_r _ [44, 39, 40, 60, 61] (by decide +kernel) (by decide +kernel)
set_option maxRecDepth 20000 in
theorem gX5_send_X4_empty : GoodIn wsX5_send (wsV RX5 65 RX4 yX4_empty wsX4_empty) := goodIn_app (goodIn_of _ (by decide +kernel)) ggX5_send_X4_empty
set_option maxRecDepth 20000 in
theorem ggX5_come_X5_isMessage : GoodIn wsX5_come wsX5_isMessage := goodIn_r _ [10, 1, 11, 50, 51, 52, 53, 54, 55, 56, 57, 58, 59, 60, 61, 62, 63, 64] (by decide +kernel) (by decide +kernel)
set_option maxRecDepth 20000 in
theorem gX5_come_X5_isMessage : GoodIn wsX5_come (wsV RX5 162 RX5 yX5_isMessage wsX5_isMessage) := goodIn_app (goodIn_of _ (by decide +kernel)) ggX5_come_X5_isMessage
set_option maxRecDepth 20000 in
theorem ggX5_come_X4_heardInAll : GoodIn wsX5_come wsX4_heardInAll := goodIn_r _ [16, 17, 18, 19, 15, 20, 21, 22, 23, 24, 25, 26, 27, 69, 70] (by decide +kernel) (by decide +kernel)
set_option maxRecDepth 20000 in
theorem gX5_come_X4_heardInAll : GoodIn wsX5_come (wsV RX5 94 RX4 yX4_heardInAll wsX4_heardInAll) := goodIn_app (goodIn_of _ (by decide +kernel)) ggX5_come_X4_heardInAll
set_option maxRecDepth 20000 in
theorem ggX5_come_X4_join : GoodIn wsX5_come wsX4_join := goodIn_r _ [31, 32, 17, 69, 70] (by decide +kernel) (by decide +kernel)
set_option maxRecDepth 20000 in
theorem gX5_come_X4_join : GoodIn wsX5_come (wsV RX5 177 RX4 yX4_join wsX4_join) := goodIn_app (goodIn_of _ (by decide +kernel)) ggX5_come_X4_join
set_option maxRecDepth 20000 in
theorem ggX5_come_X2_learn : GoodIn wsX5_come wsX2_learn := goodIn_r _ [37, 38, 39, 40, 41, 42, 9, 43, 65, 66, 67, 68, 58, 59, 60, 61, 62, 63, 64] (by decide +kernel) (by decide +kernel)
set_option maxRecDepth 20000 in
theorem gX5_come_X2_learn : GoodIn wsX5_come (wsV RX5 181 RX2 yX2_learn wsX2_learn) := goodIn_app (goodIn_of _ (by decide +kernel)) ggX5_come_X2_learn
set_option maxRecDepth 20000 in
theorem ggX5_come_X2_drop : GoodIn wsX5_come wsX2_drop := goodIn_r _ [47, 48, 49, 58, 59, 60, 61, 62, 63, 64] (by decide +kernel) (by decide +kernel)
set_option maxRecDepth 20000 in
theorem gX5_come_X2_drop : GoodIn wsX5_come (wsV RX5 185 RX2 yX2_drop wsX2_drop) := goodIn_app (goodIn_of _ (by decide +kernel)) ggX5_come_X2_drop
set_option maxRecDepth 20000 in
theorem ggX5_lose_X5_isMessage : GoodIn wsX5_lose wsX5_isMessage := goodIn_r _ [6, 1, 7, 15, 16, 17, 18, 19, 20, 21, 22, 23, 24, 25, 26, 27, 28, 29] (by decide +kernel) (by decide +kernel)
set_option maxRecDepth 20000 in
theorem gX5_lose_X5_isMessage : GoodIn wsX5_lose (wsV RX5 162 RX5 yX5_isMessage wsX5_isMessage) := goodIn_app (goodIn_of _ (by decide +kernel)) ggX5_lose_X5_isMessage
set_option maxRecDepth 20000 in
theorem ggX5_lose_X2_drop : GoodIn wsX5_lose wsX2_drop := goodIn_r _ [12, 13, 14, 23, 24, 25, 26, 27, 28, 29] (by decide +kernel) (by decide +kernel)
set_option maxRecDepth 20000 in
theorem gX5_lose_X2_drop : GoodIn wsX5_lose (wsV RX5 185 RX2 yX2_drop wsX2_drop) := goodIn_app (goodIn_of _ (by decide +kernel)) ggX5_lose_X2_drop
set_option maxRecDepth 20000 in
theorem ggX5_twice_X5_isMessage : GoodIn wsX5_twice wsX5_isMessage := goodIn_r _ [8, 1, 2, 33, 34, 35, 36, 37, 38, 39, 40, 41, 42, 43, 44, 45, 46, 47] (by decide +kernel) (by decide +kernel)
set_option maxRecDepth 20000 in
theorem gX5_twice_X5_isMessage : GoodIn wsX5_twice (wsV RX5 162 RX5 yX5_isMessage wsX5_isMessage) := goodIn_app (goodIn_of _ (by decide +kernel)) ggX5_twice_X5_isMessage
set_option maxRecDepth 20000 in
theorem ggX5_twice_X1_become_ : GoodIn wsX5_twice wsX1_become_ := goodIn_r _ [13, 14, 15, 16, 17, 18, 19, 20, 12, 21, 22, 23, 24, 25, 26, 27, 28, 29, 30, 31, 32, 48, 49, 50, 51, 52, 53] (by decide +kernel) (by decide +kernel)
set_option maxRecDepth 20000 in
theorem gX5_twice_X1_become_ : GoodIn wsX5_twice (wsV RX5 189 RX1 yX1_become_ wsX1_become_) := goodIn_app (goodIn_of _ (by decide +kernel)) ggX5_twice_X1_become_
set_option maxRecDepth 20000 in
theorem ggX5_letter_X5_isMessage : GoodIn wsX5_letter wsX5_isMessage := goodIn_r _ [10, 1, 11, 33, 34, 35, 36, 37, 38, 39, 40, 41, 42, 43, 44, 45, 46, 47] (by decide +kernel) (by decide +kernel)
set_option maxRecDepth 20000 in
theorem gX5_letter_X5_isMessage : GoodIn wsX5_letter (wsV RX5 162 RX5 yX5_isMessage wsX5_isMessage) := goodIn_app (goodIn_of _ (by decide +kernel)) ggX5_letter_X5_isMessage
set_option maxRecDepth 20000 in
theorem ggX5_letter_X4_heardInAll : GoodIn wsX5_letter wsX4_heardInAll := goodIn_r _ [16, 17, 18, 19, 15, 20, 21, 22, 23, 24, 25, 26, 27, 52, 53] (by decide +kernel) (by decide +kernel)
set_option maxRecDepth 20000 in
theorem gX5_letter_X4_heardInAll : GoodIn wsX5_letter (wsV RX5 94 RX4 yX4_heardInAll wsX4_heardInAll) := goodIn_app (goodIn_of _ (by decide +kernel)) ggX5_letter_X4_heardInAll
set_option maxRecDepth 20000 in
theorem ggX5_letter_X4_aliveInAll : GoodIn wsX5_letter wsX4_aliveInAll := goodIn_r _ [31, 32, 18, 19, 15, 20, 21, 22, 23, 24, 25, 26, 27, 52, 53] (by decide +kernel) (by decide +kernel)
set_option maxRecDepth 20000 in
theorem gX5_letter_X4_aliveInAll : GoodIn wsX5_letter (wsV RX5 195 RX4 yX4_aliveInAll wsX4_aliveInAll) := goodIn_app (goodIn_of _ (by decide +kernel)) ggX5_letter_X4_aliveInAll
set_option maxRecDepth 20000 in
theorem ggX5_met_X5_isObject : GoodIn wsX5_met wsX5_isObject := goodIn_r _ [8, 9, 10, 7, 11] (by decide +kernel) (by decide +kernel)
set_option maxRecDepth 20000 in
theorem gX5_met_X5_isObject : GoodIn wsX5_met (va_wsS RX5 47 yX5_isObject wsX5_isObject) := goodIn_app (goodIn_of _ (by decide +kernel)) ggX5_met_X5_isObject
set_option maxRecDepth 20000 in
theorem ggX5_met_X5_meet : GoodIn wsX5_met wsX5_meet := goodIn_r _ [15, 4, 16, 17, 18, 19, 20, 21, 22, 23, 24, 25, 26, 79, 80, 81, 82, 83, 84, 85, 86, 94, 95] (by decide +kernel) (by decide +kernel)
set_option maxRecDepth 20000 in
theorem gX5_met_X5_meet : GoodIn wsX5_met (wsV RX5 198 RX5 yX5_meet wsX5_meet) := goodIn_app (goodIn_of _ (by decide +kernel)) ggX5_met_X5_meet
set_option maxRecDepth 20000 in
theorem ggX5_met_X5_objectAt : GoodIn wsX5_met wsX5_objectAt := goodIn_r _ [29] (by decide +kernel) (by decide +kernel)
set_option maxRecDepth 20000 in
theorem gX5_met_X5_objectAt : GoodIn wsX5_met (va_wsS RX5 61 yX5_objectAt wsX5_objectAt) := goodIn_app (goodIn_of _ (by decide +kernel)) ggX5_met_X5_objectAt
set_option maxRecDepth 20000 in
theorem ggX5_met_X2_worthIn : GoodIn wsX5_met wsX2_worthIn := goodIn_r _ [34, 35, 36, 37, 38, 39, 40, 41, 42, 43, 44, 45, 46, 47, 48, 49, 50, 7, 51, 52, 53, 54, 55, 56, 57, 58, 59, 60, 61, 62, 63, 64, 65, 66, 67, 68, 69, 70, 71, 72, 73, 74, 75, 76, 77, 78, 87, 88, 89, 90, 91, 92, 93, 96, 97, 98, 99, 100, 94, 95] (by decide +kernel) (by decide +kernel)
set_option maxRecDepth 20000 in
theorem gX5_met_X2_worthIn : GoodIn wsX5_met (wsV RX5 116 RX2 yX2_worthIn wsX2_worthIn) := goodIn_app (goodIn_of _ (by decide +kernel)) ggX5_met_X2_worthIn
set_option maxRecDepth 20000 in
theorem ggX5_apart_X5_isReplica : GoodIn wsX5_apart wsX5_isReplica := goodIn_r _ [8] (by decide +kernel) (by decide +kernel)
set_option maxRecDepth 20000 in
theorem gX5_apart_X5_isReplica : GoodIn wsX5_apart (va_wsS RX5 43 yX5_isReplica wsX5_isReplica) := goodIn_app (goodIn_of _ (by decide +kernel)) ggX5_apart_X5_isReplica
set_option maxRecDepth 20000 in
theorem ggX5_apart_X5_isAhead : GoodIn wsX5_apart wsX5_isAhead := goodIn_r _ [12, 13, 14, 15, 16, 17, 18, 19, 20, 21, 22, 23, 24, 25, 26, 27, 28, 29, 7, 30, 31, 32, 33, 34, 35, 36, 37, 39, 40, 41, 42, 43, 44, 45, 46, 54, 55] (by decide +kernel) (by decide +kernel)
set_option maxRecDepth 20000 in
theorem gX5_apart_X5_isAhead : GoodIn wsX5_apart (wsV RX5 202 RX5 yX5_isAhead wsX5_isAhead) := goodIn_app (goodIn_of _ (by decide +kernel)) ggX5_apart_X5_isAhead
set_option maxRecDepth 20000 in
theorem ggX5_apart_X5_otherwise : GoodIn wsX5_apart wsX5_otherwise := goodIn_r _ [30, 31, 32, 33, 34, 35, 36, 37] (by decide +kernel) (by decide +kernel)
set_option maxRecDepth 20000 in
theorem gX5_apart_X5_otherwise : GoodIn wsX5_apart (va_wsS RX5 206 yX5_otherwise wsX5_otherwise) := goodIn_app (goodIn_of _ (by decide +kernel)) ggX5_apart_X5_otherwise
set_option maxRecDepth 20000 in
theorem ggX5_needs_X5_isReplica : GoodIn wsX5_needs wsX5_isReplica := goodIn_r _ [4] (by decide +kernel) (by decide +kernel)
set_option maxRecDepth 20000 in
theorem gX5_needs_X5_isReplica : GoodIn wsX5_needs (va_wsS RX5 43 yX5_isReplica wsX5_isReplica) := goodIn_app (goodIn_of _ (by decide +kernel)) ggX5_needs_X5_isReplica
set_option maxRecDepth 20000 in
theorem ggX5_needs_X5_isObject : GoodIn wsX5_needs wsX5_isObject := goodIn_r _ [7, 8, 9, 3, 10] (by decide +kernel) (by decide +kernel)
set_option maxRecDepth 20000 in
theorem gX5_needs_X5_isObject : GoodIn wsX5_needs (va_wsS RX5 47 yX5_isObject wsX5_isObject) := goodIn_app (goodIn_of _ (by decide +kernel)) ggX5_needs_X5_isObject
set_option maxRecDepth 20000 in
theorem ggX5_needs_X5_objectAt : GoodIn wsX5_needs wsX5_objectAt := goodIn_r _ [13] (by decide +kernel) (by decide +kernel)
set_option maxRecDepth 20000 in
theorem gX5_needs_X5_objectAt : GoodIn wsX5_needs (va_wsS RX5 61 yX5_objectAt wsX5_objectAt) := goodIn_app (goodIn_of _ (by decide +kernel)) ggX5_needs_X5_objectAt
set_option maxRecDepth 20000 in
theorem ggX5_needs_X5_fewestToTell : GoodIn wsX5_needs wsX5_fewestToTell := goodIn_r _ [17, 18, 19, 20, 21, 22, 3, 23, 24, 25, 26, 27, 28, 29, 30, 31, 32, 33, 34, 35, 36, 37, 38, 39, 40, 41, 42, 43, 44, 45, 46, 47, 48, 49, 50, 51, 52, 53, 54, 55, 56, 57, 58, 59, 60, 61, 62, 63, 64, 65, 66, 67, 68, 69, 70, 71, 72, 73, 74, 75, 76, 77, 78, 79, 80, 81, 82, 83, 84, 85, 86, 87, 88, 89, 90, 91, 92, 93, 94, 95, 96, 97, 98, 99, 100, 101, 102, 103, 104, 105, 106, 107, 108, 109, 110, 111, 112, 113, 114, 115, 116, 117, 118, 119, 120, 121, 122, 123, 124, 125] (by decide +kernel) (by decide +kernel)
set_option maxRecDepth 20000 in
theorem gX5_needs_X5_fewestToTell : GoodIn wsX5_needs (wsV RX5 210 RX5 yX5_fewestToTell wsX5_fewestToTell) := goodIn_app (goodIn_of _ (by decide +kernel)) ggX5_needs_X5_fewestToTell
set_option maxRecDepth 20000 in
theorem ggX5_needs_J6_bitCount_0f7a4 : GoodIn wsX5_needs wsJ6_bitCount_0f7a4 := goodIn_r _ [30, 31, 32, 33] (by decide +kernel) (by decide +kernel)
set_option maxRecDepth 20000 in
theorem gX5_needs_J6_bitCount_0f7a4 : GoodIn wsX5_needs (va_wsS RX5 214 yJ6_bitCount_0f7a4 wsJ6_bitCount_0f7a4) := goodIn_app (goodIn_of _ (by decide +kernel)) ggX5_needs_J6_bitCount_0f7a4
set_option maxRecDepth 20000 in
theorem ggX5_drawn_X5_alikeAfterDrawing : GoodIn wsX5_drawn wsX5_alikeAfterDrawing := goodIn_r _ [5, 6, 7, 8, 9, 10, 11, 12, 13, 14, 15, 16, 17, 4, 18, 19, 20, 21, 22, 23, 24, 25, 26, 27, 28, 29, 30, 31, 32, 33, 34, 35, 36, 37, 38, 39, 40, 41, 42, 43, 44, 45, 46, 47, 48, 49, 50, 51, 52, 53, 54, 55, 56, 57, 58, 59, 60, 61, 62, 63, 64, 65, 66, 67, 68, 69] (by decide +kernel) (by decide +kernel)
set_option maxRecDepth 20000 in
theorem gX5_drawn_X5_alikeAfterDrawing : GoodIn wsX5_drawn (wsV RX5 220 RX5 yX5_alikeAfterDrawing wsX5_alikeAfterDrawing) := goodIn_app (goodIn_of _ (by decide +kernel)) ggX5_drawn_X5_alikeAfterDrawing
set_option maxRecDepth 20000 in
theorem ggX5_chance_X5_alikeAfterDrawing : GoodIn wsX5_chance wsX5_alikeAfterDrawing := goodIn_r _ [5, 6, 7, 8, 9, 10, 11, 12, 13, 14, 15, 16, 17, 4, 18, 19, 20, 21, 22, 23, 24, 25, 26, 27, 28, 29, 30, 31, 32, 33, 34, 35, 36, 37, 38, 39, 40, 41, 42, 43, 44, 45, 46, 47, 48, 49, 50, 51, 52, 56, 57, 58, 59, 60, 61, 62, 63, 64, 65, 66, 67, 68, 69, 70, 71, 72] (by decide +kernel) (by decide +kernel)
set_option maxRecDepth 20000 in
theorem gX5_chance_X5_alikeAfterDrawing : GoodIn wsX5_chance (wsV RX5 220 RX5 yX5_alikeAfterDrawing wsX5_alikeAfterDrawing) := goodIn_app (goodIn_of _ (by decide +kernel)) ggX5_chance_X5_alikeAfterDrawing
set_option maxRecDepth 20000 in
theorem ggX5_chance_X5_greatestDivisorOfBoth : GoodIn wsX5_chance wsX5_greatestDivisorOfBoth := goodIn_r _ [55] (by decide +kernel) (by decide +kernel)
set_option maxRecDepth 20000 in
theorem gX5_chance_X5_greatestDivisorOfBoth : GoodIn wsX5_chance (va_wsS RX5 223 yX5_greatestDivisorOfBoth wsX5_greatestDivisorOfBoth) := goodIn_app (goodIn_of _ (by decide +kernel)) ggX5_chance_X5_greatestDivisorOfBoth
set_option maxRecDepth 20000 in
theorem ggX5_tells_X5_isSheet : GoodIn wsX5_tells wsX5_isSheet := goodIn_r _ [8] (by decide +kernel) (by decide +kernel)
set_option maxRecDepth 20000 in
theorem gX5_tells_X5_isSheet : GoodIn wsX5_tells (va_wsS RX5 226 yX5_isSheet wsX5_isSheet) := goodIn_app (goodIn_of _ (by decide +kernel)) ggX5_tells_X5_isSheet
set_option maxRecDepth 20000 in
theorem ggX5_tells_X5_isReplica : GoodIn wsX5_tells wsX5_isReplica := goodIn_r _ [11] (by decide +kernel) (by decide +kernel)
set_option maxRecDepth 20000 in
theorem gX5_tells_X5_isReplica : GoodIn wsX5_tells (va_wsS RX5 43 yX5_isReplica wsX5_isReplica) := goodIn_app (goodIn_of _ (by decide +kernel)) ggX5_tells_X5_isReplica
set_option maxRecDepth 20000 in
theorem ggX5_tells_X5_isRoom : GoodIn wsX5_tells wsX5_isRoom := goodIn_r _ [14] (by decide +kernel) (by decide +kernel)
set_option maxRecDepth 20000 in
theorem gX5_tells_X5_isRoom : GoodIn wsX5_tells (va_wsS RX5 98 yX5_isRoom wsX5_isRoom) := goodIn_app (goodIn_of _ (by decide +kernel)) ggX5_tells_X5_isRoom
set_option maxRecDepth 20000 in
theorem ggX5_tells_X3_isMissing : GoodIn wsX5_tells wsX3_isMissing := goodIn_r _ [19, 20, 121, 122, 123] (by decide +kernel) (by decide +kernel)
set_option maxRecDepth 20000 in
theorem gX5_tells_X3_isMissing : GoodIn wsX5_tells (wsV RX5 229 RX3 yX3_isMissing wsX3_isMissing) := goodIn_app (goodIn_of _ (by decide +kernel)) ggX5_tells_X3_isMissing
set_option maxRecDepth 20000 in
theorem ggX5_tells_X5_kindOfFirst : GoodIn wsX5_tells wsX5_kindOfFirst := goodIn_r _ [24, 3, 25, 26, 27, 7, 28, 113, 114, 115, 116, 117, 118, 119, 120, 124, 125, 126, 127, 128, 129, 130] (by decide +kernel) (by decide +kernel)
set_option maxRecDepth 20000 in
theorem gX5_tells_X5_kindOfFirst : GoodIn wsX5_tells (wsV RX5 236 RX5 yX5_kindOfFirst wsX5_kindOfFirst) := goodIn_app (goodIn_of _ (by decide +kernel)) ggX5_tells_X5_kindOfFirst
set_option maxRecDepth 20000 in
theorem ggX5_tells_X5_firstOtherwise : GoodIn wsX5_tells wsX5_firstOtherwise := goodIn_r _ [32, 2, 3, 25, 33, 34, 26, 27, 7, 28, 35, 36, 37, 38, 39, 40, 41, 42, 43, 44, 45, 46, 47, 48, 49, 50, 51, 52, 53, 54, 55, 56, 57, 58, 59, 60, 61, 62, 63, 64, 65, 66, 67, 68, 69, 70, 71, 72, 73, 74, 75, 76, 121, 122, 123, 113, 114, 115, 116, 117, 118, 119, 120, 124, 125, 126, 127, 128, 129, 130, 131, 132, 133, 134, 135, 136, 137] (by decide +kernel) (by decide +kernel)
set_option maxRecDepth 20000 in
theorem gX5_tells_X5_firstOtherwise : GoodIn wsX5_tells (wsV RX5 239 RX5 yX5_firstOtherwise wsX5_firstOtherwise) := goodIn_app (goodIn_of _ (by decide +kernel)) ggX5_tells_X5_firstOtherwise
set_option maxRecDepth 20000 in
theorem ggX5_tells_X5_replicasThatTell : GoodIn wsX5_tells wsX5_replicasThatTell := goodIn_r _ [80, 3, 4, 21, 22, 23, 7, 24, 25, 26, 27, 28, 29, 30, 31, 32, 2, 33, 34, 35, 36, 37, 38, 39, 40, 41, 42, 43, 44, 45, 46, 47, 48, 49, 50, 51, 52, 53, 54, 55, 56, 57, 58, 59, 60, 61, 62, 63, 64, 65, 66, 67, 68, 69, 70, 71, 72, 73, 74, 75, 76, 113, 114, 115, 116, 117, 118, 119, 120, 124, 125, 126, 127, 128, 129, 130, 121, 122, 123, 131, 132, 133, 134, 135, 136, 137] (by decide +kernel) (by decide +kernel)
set_option maxRecDepth 20000 in
theorem gX5_tells_X5_replicasThatTell : GoodIn wsX5_tells (wsV RX5 243 RX5 yX5_replicasThatTell wsX5_replicasThatTell) := goodIn_app (goodIn_of _ (by decide +kernel)) ggX5_tells_X5_replicasThatTell
set_option maxRecDepth 20000 in
theorem ggX5_tells_X5_kindsThatTell : GoodIn wsX5_tells wsX5_kindsThatTell := goodIn_r _ [84, 3, 4, 29, 30, 31, 7, 32, 2, 25, 33, 34, 26, 27, 28, 35, 36, 37, 38, 39, 40, 41, 42, 43, 44, 45, 46, 47, 48, 49, 50, 51, 52, 53, 54, 55, 56, 57, 58, 59, 60, 61, 62, 63, 64, 65, 66, 67, 68, 69, 70, 71, 72, 73, 74, 75, 76, 113, 114, 115, 116, 117, 118, 119, 120, 124, 125, 126, 127, 128, 129, 130, 121, 122, 123, 131, 132, 133, 134, 135, 136, 137] (by decide +kernel) (by decide +kernel)
set_option maxRecDepth 20000 in
theorem gX5_tells_X5_kindsThatTell : GoodIn wsX5_tells (wsV RX5 247 RX5 yX5_kindsThatTell wsX5_kindsThatTell) := goodIn_app (goodIn_of _ (by decide +kernel)) ggX5_tells_X5_kindsThatTell
set_option maxRecDepth 20000 in
theorem ggX5_tells_X5_messagesThatTell : GoodIn wsX5_tells wsX5_messagesThatTell := goodIn_r _ [88, 3, 89, 90, 91, 92, 93, 7, 94, 95, 96, 97, 98, 99, 100, 4, 101, 102, 103, 104, 105, 106, 107, 108, 109, 110, 111, 112, 21, 22, 23, 24, 25, 26, 27, 28, 29, 30, 31, 32, 2, 33, 34, 35, 36, 37, 38, 39, 40, 41, 42, 43, 44, 45, 46, 47, 48, 49, 50, 51, 52, 53, 54, 55, 56, 57, 58, 59, 60, 61, 62, 63, 64, 65, 66, 67, 68, 69, 70, 71, 72, 73, 74, 75, 76, 113, 114, 115, 116, 117, 118, 119, 120, 124, 125, 126, 127, 128, 129, 130, 138, 139, 140, 141, 136, 137, 121, 122, 123, 131, 132, 133, 134, 135] (by decide +kernel) (by decide +kernel)
set_option maxRecDepth 20000 in
theorem gX5_tells_X5_messagesThatTell : GoodIn wsX5_tells (wsV RX5 251 RX5 yX5_messagesThatTell wsX5_messagesThatTell) := goodIn_app (goodIn_of _ (by decide +kernel)) ggX5_tells_X5_messagesThatTell
set_option maxRecDepth 20000 in
theorem ggX5_film_X5_isSheet : GoodIn wsX5_film wsX5_isSheet := goodIn_r _ [8] (by decide +kernel) (by decide +kernel)
set_option maxRecDepth 20000 in
theorem gX5_film_X5_isSheet : GoodIn wsX5_film (va_wsS RX5 226 yX5_isSheet wsX5_isSheet) := goodIn_app (goodIn_of _ (by decide +kernel)) ggX5_film_X5_isSheet
set_option maxRecDepth 20000 in
theorem ggX5_film_X5_isReplica : GoodIn wsX5_film wsX5_isReplica := goodIn_r _ [11] (by decide +kernel) (by decide +kernel)
set_option maxRecDepth 20000 in
theorem gX5_film_X5_isReplica : GoodIn wsX5_film (va_wsS RX5 43 yX5_isReplica wsX5_isReplica) := goodIn_app (goodIn_of _ (by decide +kernel)) ggX5_film_X5_isReplica
set_option maxRecDepth 20000 in
theorem ggX5_film_X5_isRoom : GoodIn wsX5_film wsX5_isRoom := goodIn_r _ [14] (by decide +kernel) (by decide +kernel)
set_option maxRecDepth 20000 in
theorem gX5_film_X5_isRoom : GoodIn wsX5_film (va_wsS RX5 98 yX5_isRoom wsX5_isRoom) := goodIn_app (goodIn_of _ (by decide +kernel)) ggX5_film_X5_isRoom
set_option maxRecDepth 20000 in
theorem ggX5_film_X3_become : GoodIn wsX5_film wsX3_become := goodIn_r _ [19, 20, 21, 22, 83, 84, 85] (by decide +kernel) (by decide +kernel)
set_option maxRecDepth 20000 in
theorem gX5_film_X3_become : GoodIn wsX5_film (wsV RX5 254 RX3 yX3_become wsX3_become) := goodIn_app (goodIn_of _ (by decide +kernel)) ggX5_film_X3_become
set_option maxRecDepth 20000 in
theorem ggX5_film_X5_objectAt : GoodIn wsX5_film wsX5_objectAt := goodIn_r _ [25] (by decide +kernel) (by decide +kernel)
set_option maxRecDepth 20000 in
theorem gX5_film_X5_objectAt : GoodIn wsX5_film (va_wsS RX5 61 yX5_objectAt wsX5_objectAt) := goodIn_app (goodIn_of _ (by decide +kernel)) ggX5_film_X5_objectAt
set_option maxRecDepth 20000 in
theorem ggX5_film_X2_worthIn : GoodIn wsX5_film wsX2_worthIn := goodIn_r _ [30, 31, 32, 33, 34, 35, 36, 37, 38, 39, 40, 41, 42, 43, 44, 45, 46, 7, 47, 48, 49, 50, 51, 52, 53, 54, 55, 56, 57, 58, 59, 60, 61, 62, 63, 64, 65, 66, 67, 68, 69, 70, 71, 72, 73, 74, 86, 87, 88, 89, 90, 91, 92, 93, 94, 95, 96, 97, 98, 99] (by decide +kernel) (by decide +kernel)
set_option maxRecDepth 20000 in
theorem gX5_film_X2_worthIn : GoodIn wsX5_film (wsV RX5 116 RX2 yX2_worthIn wsX2_worthIn) := goodIn_app (goodIn_of _ (by decide +kernel)) ggX5_film_X2_worthIn
set_option maxRecDepth 20000 in
theorem ggX5_image_X2_become : GoodIn wsX5_image wsX2_become := goodIn_r _ [9, 10, 11, 12, 13, 14, 15, 16, 17, 18, 19, 20, 21, 22, 23, 24, 25, 26, 27, 28, 29, 30, 31, 32, 33, 34, 35, 36, 37, 38, 39, 40, 41, 42, 43, 44, 45, 46, 47, 48, 49, 50, 51, 52, 61, 62, 63, 64, 65, 66, 67, 68, 69, 70, 71, 72, 73, 74, 75, 76, 77, 78] (by decide +kernel) (by decide +kernel)
set_option maxRecDepth 20000 in
theorem gX5_image_X2_become : GoodIn wsX5_image (wsV RX5 259 RX2 yX2_become wsX2_become) := goodIn_app (goodIn_of _ (by decide +kernel)) ggX5_image_X2_become
set_option maxRecDepth 20000 in
theorem ggX5_back_X2_become : GoodIn wsX5_back wsX2_become := goodIn_r _ [9, 10, 11, 12, 13, 14, 15, 16, 17, 18, 19, 20, 21, 22, 23, 24, 25, 26, 27, 28, 29, 30, 31, 32, 33, 34, 35, 36, 37, 38, 39, 40, 41, 42, 43, 44, 45, 46, 47, 48, 49, 50, 51, 52, 61, 62, 63, 64, 65, 66, 67, 68, 69, 70, 71, 72, 73, 74, 75, 76, 77, 78] (by decide +kernel) (by decide +kernel)
set_option maxRecDepth 20000 in
theorem gX5_back_X2_become : GoodIn wsX5_back (wsV RX5 259 RX2 yX2_become wsX2_become) := goodIn_app (goodIn_of _ (by decide +kernel)) ggX5_back_X2_become
set_option maxRecDepth 20000 in
theorem ggX5_count_X0_madeInAll : GoodIn wsX5_count wsX0_madeInAll := goodIn_r _ [10, 11, 92, 93, 94, 95, 96] (by decide +kernel) (by decide +kernel)
set_option maxRecDepth 20000 in
theorem gX5_count_X0_madeInAll : GoodIn wsX5_count (wsV RX5 266 RX0 yX0_madeInAll wsX0_madeInAll) := goodIn_app (goodIn_of _ (by decide +kernel)) ggX5_count_X0_madeInAll
set_option maxRecDepth 20000 in
theorem ggX5_count_X5_alikeAll : GoodIn wsX5_count wsX5_alikeAll := goodIn_r _ [16, 5, 17, 18, 19, 15, 20, 21, 22, 23, 24, 25, 26, 27, 28, 29, 30, 31, 32, 33, 34, 35, 36, 37, 38, 39, 40, 41, 42, 43, 44, 77, 78, 79, 80, 81, 82, 83, 84, 97, 98] (by decide +kernel) (by decide +kernel)
set_option maxRecDepth 20000 in
theorem gX5_count_X5_alikeAll : GoodIn wsX5_count (wsV RX5 269 RX5 yX5_alikeAll wsX5_alikeAll) := goodIn_app (goodIn_of _ (by decide +kernel)) ggX5_count_X5_alikeAll
set_option maxRecDepth 20000 in
theorem ggX5_count_X5_meet : GoodIn wsX5_count wsX5_meet := goodIn_r _ [20, 5, 21, 22, 23, 24, 25, 26, 27, 28, 29, 30, 31, 77, 78, 79, 80, 81, 82, 83, 84, 97, 98] (by decide +kernel) (by decide +kernel)
set_option maxRecDepth 20000 in
theorem gX5_count_X5_meet : GoodIn wsX5_count (wsV RX5 198 RX5 yX5_meet wsX5_meet) := goodIn_app (goodIn_of _ (by decide +kernel)) ggX5_count_X5_meet
set_option maxRecDepth 20000 in
theorem ggX5_count_X4_aliveInAll : GoodIn wsX5_count wsX4_aliveInAll := goodIn_r _ [48, 27, 49, 50, 24, 51, 52, 39, 40, 41, 42, 43, 44, 97, 98] (by decide +kernel) (by decide +kernel)
set_option maxRecDepth 20000 in
theorem gX5_count_X4_aliveInAll : GoodIn wsX5_count (wsV RX5 195 RX4 yX4_aliveInAll wsX4_aliveInAll) := goodIn_app (goodIn_of _ (by decide +kernel)) ggX5_count_X4_aliveInAll
set_option maxRecDepth 20000 in
theorem ggX5_count_X2_tagsInAll : GoodIn wsX5_count wsX2_tagsInAll := goodIn_r _ [57, 58, 59, 60, 56, 61, 62, 63, 64, 65, 66, 67, 68, 69, 70, 71, 72, 73, 74, 15, 75, 76, 39, 40, 41, 42, 43, 44, 85, 86, 87, 88, 89, 90, 91, 97, 98] (by decide +kernel) (by decide +kernel)
set_option maxRecDepth 20000 in
theorem gX5_count_X2_tagsInAll : GoodIn wsX5_count (wsV RX5 273 RX2 yX2_tagsInAll wsX2_tagsInAll) := goodIn_app (goodIn_of _ (by decide +kernel)) ggX5_count_X2_tagsInAll
set_option maxRecDepth 20000 in
theorem ggX5_sheet_X5_isSheet : GoodIn wsX5_sheet wsX5_isSheet := goodIn_r _ [5] (by decide +kernel) (by decide +kernel)
set_option maxRecDepth 20000 in
theorem gX5_sheet_X5_isSheet : GoodIn wsX5_sheet (va_wsS RX5 226 yX5_isSheet wsX5_isSheet) := goodIn_app (goodIn_of _ (by decide +kernel)) ggX5_sheet_X5_isSheet
set_option maxRecDepth 20000 in
theorem ggX5_sheet_X3_become : GoodIn wsX5_sheet wsX3_become := goodIn_r _ [10, 11, 12, 13, 22, 23, 24] (by decide +kernel) (by decide +kernel)
set_option maxRecDepth 20000 in
theorem gX5_sheet_X3_become : GoodIn wsX5_sheet (wsV RX5 254 RX3 yX3_become wsX3_become) := goodIn_app (goodIn_of _ (by decide +kernel)) ggX5_sheet_X3_become
set_option maxRecDepth 20000 in
theorem ggX5_put_X5_refusalOfItem : GoodIn wsX5_put wsX5_refusalOfItem := goodIn_r _ [9, 1, 10, 11, 12, 8, 13, 14, 15, 16, 17, 18, 19, 25, 26, 27, 28, 29, 30, 31, 32, 33, 34, 35] (by decide +kernel) (by decide +kernel)
set_option maxRecDepth 20000 in
theorem gX5_put_X5_refusalOfItem : GoodIn wsX5_put (wsV RX5 276 RX5 yX5_refusalOfItem wsX5_refusalOfItem) := goodIn_app (goodIn_of _ (by decide +kernel)) ggX5_put_X5_refusalOfItem
set_option maxRecDepth 20000 in
theorem ggX5_put_X5_bitsOf : GoodIn wsX5_put wsX5_bitsOf := goodIn_r _ [22, 23, 24] (by decide +kernel) (by decide +kernel)
set_option maxRecDepth 20000 in
theorem gX5_put_X5_bitsOf : GoodIn wsX5_put (va_wsS RX5 283 yX5_bitsOf wsX5_bitsOf) := goodIn_app (goodIn_of _ (by decide +kernel)) ggX5_put_X5_bitsOf
set_option maxRecDepth 20000 in
theorem ggX5_item_X5_refusalOfItem : GoodIn wsX5_item wsX5_refusalOfItem := goodIn_r _ [8, 2, 9, 10, 11, 7, 12, 13, 14, 15, 16, 17, 18, 19, 20, 21, 22, 23, 24, 25, 26, 27, 28, 29] (by decide +kernel) (by decide +kernel)
set_option maxRecDepth 20000 in
theorem gX5_item_X5_refusalOfItem : GoodIn wsX5_item (wsV RX5 276 RX5 yX5_refusalOfItem wsX5_refusalOfItem) := goodIn_app (goodIn_of _ (by decide +kernel)) ggX5_item_X5_refusalOfItem
set_option maxRecDepth 20000 in
theorem ggX5_copy_X5_isSheet : GoodIn wsX5_copy wsX5_isSheet := goodIn_r _ [11] (by decide +kernel) (by decide +kernel)
set_option maxRecDepth 20000 in
theorem gX5_copy_X5_isSheet : GoodIn wsX5_copy (va_wsS RX5 226 yX5_isSheet wsX5_isSheet) := goodIn_app (goodIn_of _ (by decide +kernel)) ggX5_copy_X5_isSheet
set_option maxRecDepth 20000 in
theorem ggX5_copy_X3_isMissing : GoodIn wsX5_copy wsX3_isMissing := goodIn_r _ [16, 17, 31, 32, 33] (by decide +kernel) (by decide +kernel)
set_option maxRecDepth 20000 in
theorem gX5_copy_X3_isMissing : GoodIn wsX5_copy (wsV RX5 229 RX3 yX3_isMissing wsX3_isMissing) := goodIn_app (goodIn_of _ (by decide +kernel)) ggX5_copy_X3_isMissing
set_option maxRecDepth 20000 in
theorem ggX5_copy_X3_holds : GoodIn wsX5_copy wsX3_holds := goodIn_r _ [21, 22, 31, 32, 33] (by decide +kernel) (by decide +kernel)
set_option maxRecDepth 20000 in
theorem gX5_copy_X3_holds : GoodIn wsX5_copy (wsV RX5 289 RX3 yX3_holds wsX3_holds) := goodIn_app (goodIn_of _ (by decide +kernel)) ggX5_copy_X3_holds
set_option maxRecDepth 20000 in
theorem ggX5_isObject_X5_isRoom : GoodIn wsX5_isObject wsX5_isRoom := goodIn_r _ [4] (by decide +kernel) (by decide +kernel)
set_option maxRecDepth 20000 in
theorem gX5_isObject_X5_isRoom : GoodIn wsX5_isObject (va_wsS RX5 98 yX5_isRoom wsX5_isRoom) := goodIn_app (goodIn_of _ (by decide +kernel)) ggX5_isObject_X5_isRoom
set_option maxRecDepth 20000 in
theorem ggX5_refusalOfItem_X5_isSheet : GoodIn wsX5_refusalOfItem wsX5_isSheet := goodIn_r _ [6] (by decide +kernel) (by decide +kernel)
set_option maxRecDepth 20000 in
theorem gX5_refusalOfItem_X5_isSheet : GoodIn wsX5_refusalOfItem (va_wsS RX5 226 yX5_isSheet wsX5_isSheet) := goodIn_app (goodIn_of _ (by decide +kernel)) ggX5_refusalOfItem_X5_isSheet
set_option maxRecDepth 20000 in
theorem ggX5_refusalOfItem_X3_isMissing : GoodIn wsX5_refusalOfItem wsX3_isMissing := goodIn_r _ [11, 12, 21, 22, 23] (by decide +kernel) (by decide +kernel)
set_option maxRecDepth 20000 in
theorem gX5_refusalOfItem_X3_isMissing : GoodIn wsX5_refusalOfItem (wsV RX5 229 RX3 yX3_isMissing wsX3_isMissing) := goodIn_app (goodIn_of _ (by decide +kernel)) ggX5_refusalOfItem_X3_isMissing
set_option maxRecDepth 20000 in
theorem ggX5_markGoneByAdding_X0_markOfValue : GoodIn wsX5_markGoneByAdding wsX0_markOfValue := goodIn_r _ [10, 11, 12, 13, 9, 14, 15, 16, 17, 18, 19, 20, 21, 22, 23, 24, 25, 26, 27, 28, 29, 30, 31, 32, 55, 56, 57, 58, 59, 60, 61] (by decide +kernel) (by decide +kernel)
set_option maxRecDepth 20000 in
theorem gX5_markGoneByAdding_X0_markOfValue : GoodIn wsX5_markGoneByAdding (wsV RX5 90 RX0 yX0_markOfValue wsX0_markOfValue) := goodIn_app (goodIn_of _ (by decide +kernel)) ggX5_markGoneByAdding_X0_markOfValue
set_option maxRecDepth 20000 in
theorem ggX5_markGoneByAdding_X0_markBetween : GoodIn wsX5_markGoneByAdding wsX0_markBetween := goodIn_r _ [14, 15, 16, 17, 18, 19, 9, 20, 21, 22, 23, 24, 25, 26, 27, 28, 29, 30, 31, 32, 55, 56, 57, 58, 59, 60, 61] (by decide +kernel) (by decide +kernel)
set_option maxRecDepth 20000 in
theorem gX5_markGoneByAdding_X0_markBetween : GoodIn wsX5_markGoneByAdding (wsV RX5 302 RX0 yX0_markBetween wsX0_markBetween) := goodIn_app (goodIn_of _ (by decide +kernel)) ggX5_markGoneByAdding_X0_markBetween
set_option maxRecDepth 20000 in
theorem ggX5_markGoneByAdding_X0_markAll : GoodIn wsX5_markGoneByAdding wsX0_markAll := goodIn_r _ [37, 38, 39, 11, 12, 13, 9, 14, 15, 16, 17, 18, 19, 20, 21, 22, 23, 24, 25, 26, 27, 28, 29, 30, 31, 32, 55, 56, 57, 58, 59, 60, 61] (by decide +kernel) (by decide +kernel)
set_option maxRecDepth 20000 in
theorem gX5_markGoneByAdding_X0_markAll : GoodIn wsX5_markGoneByAdding (wsV RX5 101 RX0 yX0_markAll wsX0_markAll) := goodIn_app (goodIn_of _ (by decide +kernel)) ggX5_markGoneByAdding_X0_markAll
set_option maxRecDepth 20000 in
theorem ggX5_meet_X4_empty : GoodIn wsX5_meet wsX4_empty := goodIn_r _ [6, 7, 8, 21, 22] (by decide +kernel) (by decide +kernel)
set_option maxRecDepth 20000 in
theorem gX5_meet_X4_empty : GoodIn wsX5_meet (wsV RX5 65 RX4 yX4_empty wsX4_empty) := goodIn_app (goodIn_of _ (by decide +kernel)) ggX5_meet_X4_empty
set_option maxRecDepth 20000 in
theorem ggX5_meet_X4_join : GoodIn wsX5_meet wsX4_join := goodIn_r _ [12, 8, 7, 21, 22] (by decide +kernel) (by decide +kernel)
set_option maxRecDepth 20000 in
theorem gX5_meet_X4_join : GoodIn wsX5_meet (wsV RX5 177 RX4 yX4_join wsX4_join) := goodIn_app (goodIn_of _ (by decide +kernel)) ggX5_meet_X4_join
set_option maxRecDepth 20000 in
theorem ggX5_alikeAll_X5_meet : GoodIn wsX5_alikeAll wsX5_meet := goodIn_r _ [6, 1, 7, 8, 9, 10, 11, 12, 13, 14, 15, 16, 17, 31, 32, 33, 34, 35, 36, 37, 38, 39, 40] (by decide +kernel) (by decide +kernel)
set_option maxRecDepth 20000 in
theorem gX5_alikeAll_X5_meet : GoodIn wsX5_alikeAll (wsV RX5 198 RX5 yX5_meet wsX5_meet) := goodIn_app (goodIn_of _ (by decide +kernel)) ggX5_alikeAll_X5_meet
set_option maxRecDepth 20000 in
theorem ggX5_alikeAll_X4_isSame : GoodIn wsX5_alikeAll wsX4_isSame := goodIn_r _ [21, 12, 13, 22, 5, 23, 24, 25, 26, 27, 28, 29, 30, 39, 40] (by decide +kernel) (by decide +kernel)
set_option maxRecDepth 20000 in
theorem gX5_alikeAll_X4_isSame : GoodIn wsX5_alikeAll (wsV RX5 306 RX4 yX4_isSame wsX4_isSame) := goodIn_app (goodIn_of _ (by decide +kernel)) ggX5_alikeAll_X4_isSame
set_option maxRecDepth 20000 in
theorem ggX5_isAhead_X4_become : GoodIn wsX5_isAhead wsX4_become := goodIn_r _ [6, 7, 8, 35, 36] (by decide +kernel) (by decide +kernel)
set_option maxRecDepth 20000 in
theorem gX5_isAhead_X4_become : GoodIn wsX5_isAhead (wsV RX5 310 RX4 yX4_become wsX4_become) := goodIn_app (goodIn_of _ (by decide +kernel)) ggX5_isAhead_X4_become
set_option maxRecDepth 20000 in
theorem ggX5_isAhead_X4_join : GoodIn wsX5_isAhead wsX4_join := goodIn_r _ [12, 8, 7, 35, 36] (by decide +kernel) (by decide +kernel)
set_option maxRecDepth 20000 in
theorem gX5_isAhead_X4_join : GoodIn wsX5_isAhead (wsV RX5 177 RX4 yX4_join wsX4_join) := goodIn_app (goodIn_of _ (by decide +kernel)) ggX5_isAhead_X4_join
set_option maxRecDepth 20000 in
theorem ggX5_isAhead_X4_isSame : GoodIn wsX5_isAhead wsX4_isSame := goodIn_r _ [16, 7, 8, 17, 18, 19, 20, 21, 22, 23, 24, 25, 26, 35, 36] (by decide +kernel) (by decide +kernel)
set_option maxRecDepth 20000 in
theorem gX5_isAhead_X4_isSame : GoodIn wsX5_isAhead (wsV RX5 306 RX4 yX4_isSame wsX4_isSame) := goodIn_app (goodIn_of _ (by decide +kernel)) ggX5_isAhead_X4_isSame
set_option maxRecDepth 20000 in
theorem ggX5_otherwise_J6_bitCount_0f7a4 : GoodIn wsX5_otherwise wsJ6_bitCount_0f7a4 := goodIn_r _ [4, 5, 6, 7] (by decide +kernel) (by decide +kernel)
set_option maxRecDepth 20000 in
theorem gX5_otherwise_J6_bitCount_0f7a4 : GoodIn wsX5_otherwise (va_wsS RX5 214 yJ6_bitCount_0f7a4 wsJ6_bitCount_0f7a4) := goodIn_app (goodIn_of _ (by decide +kernel)) ggX5_otherwise_J6_bitCount_0f7a4
set_option maxRecDepth 20000 in
theorem ggX5_fewestToTell_X5_messagesTo : GoodIn wsX5_fewestToTell wsX5_messagesTo := goodIn_r _ [7, 1, 8, 9, 10, 84, 85, 86, 87, 88, 89, 90, 91, 92, 93, 94, 95, 96, 97, 98, 99, 100, 101, 102] (by decide +kernel) (by decide +kernel)
set_option maxRecDepth 20000 in
theorem gX5_fewestToTell_X5_messagesTo : GoodIn wsX5_fewestToTell (wsV RX5 312 RX5 yX5_messagesTo wsX5_messagesTo) := goodIn_app (goodIn_of _ (by decide +kernel)) ggX5_fewestToTell_X5_messagesTo
set_option maxRecDepth 20000 in
theorem ggX5_fewestToTell_J6_bitCount_0f7a4 : GoodIn wsX5_fewestToTell wsJ6_bitCount_0f7a4 := goodIn_r _ [14, 15, 16, 17] (by decide +kernel) (by decide +kernel)
set_option maxRecDepth 20000 in
theorem gX5_fewestToTell_J6_bitCount_0f7a4 : GoodIn wsX5_fewestToTell (va_wsS RX5 214 yJ6_bitCount_0f7a4 wsJ6_bitCount_0f7a4) := goodIn_app (goodIn_of _ (by decide +kernel)) ggX5_fewestToTell_J6_bitCount_0f7a4
set_option maxRecDepth 20000 in
theorem ggX5_fewestToTell_X5_thinkComing : GoodIn wsX5_fewestToTell wsX5_thinkComing := goodIn_r _ [21, 2, 1, 22, 8, 9, 23, 24, 25, 26, 27, 28, 29, 30, 31, 32, 33, 34, 84, 85, 86, 87, 88, 89, 90, 91, 92, 93, 94, 95, 96, 97, 98, 99, 100, 101, 102, 103, 104] (by decide +kernel) (by decide +kernel)
set_option maxRecDepth 20000 in
theorem gX5_fewestToTell_X5_thinkComing : GoodIn wsX5_fewestToTell (wsV RX5 315 RX5 yX5_thinkComing wsX5_thinkComing) := goodIn_app (goodIn_of _ (by decide +kernel)) ggX5_fewestToTell_X5_thinkComing
set_option maxRecDepth 20000 in
theorem ggX5_fewestToTell_X2_worthIn : GoodIn wsX5_fewestToTell wsX2_worthIn := goodIn_r _ [39, 40, 41, 42, 43, 44, 45, 46, 47, 48, 49, 50, 51, 52, 53, 54, 55, 6, 56, 57, 58, 59, 60, 61, 62, 63, 64, 65, 66, 67, 68, 69, 70, 71, 72, 73, 74, 75, 76, 77, 78, 79, 80, 81, 82, 83, 92, 93, 94, 95, 96, 97, 98, 105, 106, 107, 108, 109, 103, 104] (by decide +kernel) (by decide +kernel)
set_option maxRecDepth 20000 in
theorem gX5_fewestToTell_X2_worthIn : GoodIn wsX5_fewestToTell (wsV RX5 116 RX2 yX2_worthIn wsX2_worthIn) := goodIn_app (goodIn_of _ (by decide +kernel)) ggX5_fewestToTell_X2_worthIn
set_option maxRecDepth 20000 in
theorem ggX5_thinkComing_X4_become : GoodIn wsX5_thinkComing wsX4_become := goodIn_r _ [11, 12, 13, 37, 38] (by decide +kernel) (by decide +kernel)
set_option maxRecDepth 20000 in
theorem gX5_thinkComing_X4_become : GoodIn wsX5_thinkComing (wsV RX5 310 RX4 yX4_become wsX4_become) := goodIn_app (goodIn_of _ (by decide +kernel)) ggX5_thinkComing_X4_become
set_option maxRecDepth 20000 in
theorem ggX5_thinkComing_X4_join : GoodIn wsX5_thinkComing wsX4_join := goodIn_r _ [17, 13, 12, 37, 38] (by decide +kernel) (by decide +kernel)
set_option maxRecDepth 20000 in
theorem gX5_thinkComing_X4_join : GoodIn wsX5_thinkComing (wsV RX5 177 RX4 yX4_join wsX4_join) := goodIn_app (goodIn_of _ (by decide +kernel)) ggX5_thinkComing_X4_join
set_option maxRecDepth 20000 in
theorem ggX5_alikeAfterDrawing_X4_become : GoodIn wsX5_alikeAfterDrawing wsX4_become := goodIn_r _ [8, 9, 10, 64, 65] (by decide +kernel) (by decide +kernel)
set_option maxRecDepth 20000 in
theorem gX5_alikeAfterDrawing_X4_become : GoodIn wsX5_alikeAfterDrawing (wsV RX5 310 RX4 yX4_become wsX4_become) := goodIn_app (goodIn_of _ (by decide +kernel)) ggX5_alikeAfterDrawing_X4_become
set_option maxRecDepth 20000 in
theorem ggX5_alikeAfterDrawing_X5_nextDrawn : GoodIn wsX5_alikeAfterDrawing wsX5_nextDrawn := goodIn_r _ [14, 15] (by decide +kernel) (by decide +kernel)
set_option maxRecDepth 20000 in
theorem gX5_alikeAfterDrawing_X5_nextDrawn : GoodIn wsX5_alikeAfterDrawing (va_wsS RX5 318 yX5_nextDrawn wsX5_nextDrawn) := goodIn_app (goodIn_of _ (by decide +kernel)) ggX5_alikeAfterDrawing_X5_nextDrawn
set_option maxRecDepth 20000 in
theorem ggX5_alikeAfterDrawing_X5_replicaDrawn : GoodIn wsX5_alikeAfterDrawing wsX5_replicaDrawn := goodIn_r _ [18] (by decide +kernel) (by decide +kernel)
set_option maxRecDepth 20000 in
theorem gX5_alikeAfterDrawing_X5_replicaDrawn : GoodIn wsX5_alikeAfterDrawing (va_wsS RX5 321 yX5_replicaDrawn wsX5_replicaDrawn) := goodIn_app (goodIn_of _ (by decide +kernel)) ggX5_alikeAfterDrawing_X5_replicaDrawn
set_option maxRecDepth 20000 in
theorem ggX5_alikeAfterDrawing_X4_join : GoodIn wsX5_alikeAfterDrawing wsX4_join := goodIn_r _ [22, 10, 9, 64, 65] (by decide +kernel) (by decide +kernel)
set_option maxRecDepth 20000 in
theorem gX5_alikeAfterDrawing_X4_join : GoodIn wsX5_alikeAfterDrawing (wsV RX5 177 RX4 yX4_join wsX4_join) := goodIn_app (goodIn_of _ (by decide +kernel)) ggX5_alikeAfterDrawing_X4_join
set_option maxRecDepth 20000 in
theorem ggX5_alikeAfterDrawing_X5_alikeAll : GoodIn wsX5_alikeAfterDrawing wsX5_alikeAll := goodIn_r _ [26, 27, 28, 29, 30, 13, 31, 32, 33, 34, 7, 35, 9, 10, 19, 20, 21, 22, 36, 37, 38, 39, 40, 41, 42, 43, 44, 45, 46, 47, 48, 49, 50, 51, 52, 53, 54, 55, 56, 64, 65] (by decide +kernel) (by decide +kernel)
set_option maxRecDepth 20000 in
theorem gX5_alikeAfterDrawing_X5_alikeAll : GoodIn wsX5_alikeAfterDrawing (wsV RX5 269 RX5 yX5_alikeAll wsX5_alikeAll) := goodIn_app (goodIn_of _ (by decide +kernel)) ggX5_alikeAfterDrawing_X5_alikeAll
set_option maxRecDepth 20000 in
theorem ggX5_kindOfFirst_X5_objectAt : GoodIn wsX5_kindOfFirst wsX5_objectAt := goodIn_r _ [6] (by decide +kernel) (by decide +kernel)
set_option maxRecDepth 20000 in
theorem gX5_kindOfFirst_X5_objectAt : GoodIn wsX5_kindOfFirst (va_wsS RX5 61 yX5_objectAt wsX5_objectAt) := goodIn_app (goodIn_of _ (by decide +kernel)) ggX5_kindOfFirst_X5_objectAt
set_option maxRecDepth 20000 in
theorem ggX5_firstOtherwise_X5_objectAt : GoodIn wsX5_firstOtherwise wsX5_objectAt := goodIn_r _ [9] (by decide +kernel) (by decide +kernel)
set_option maxRecDepth 20000 in
theorem gX5_firstOtherwise_X5_objectAt : GoodIn wsX5_firstOtherwise (va_wsS RX5 61 yX5_objectAt wsX5_objectAt) := goodIn_app (goodIn_of _ (by decide +kernel)) ggX5_firstOtherwise_X5_objectAt
set_option maxRecDepth 20000 in
theorem ggX5_firstOtherwise_X0_worthAs : GoodIn wsX5_firstOtherwise wsX0_worthAs := goodIn_r _ [14, 15, 16, 17, 13, 18, 19, 20, 21, 22, 23, 8, 24, 25, 26, 27, 28, 29, 30, 31, 32, 33, 34, 35, 36, 37, 38, 39, 40, 41, 42, 43, 44, 45, 46, 47, 48, 49, 50, 51, 70, 71, 72, 73, 74, 75, 76] (by decide +kernel) (by decide +kernel)
set_option maxRecDepth 20000 in
theorem gX5_firstOtherwise_X0_worthAs : GoodIn wsX5_firstOtherwise (wsV RX5 325 RX0 yX0_worthAs wsX0_worthAs) := goodIn_app (goodIn_of _ (by decide +kernel)) ggX5_firstOtherwise_X0_worthAs
set_option maxRecDepth 20000 in
theorem ggX5_replicasThatTell_X5_kindOfFirst : GoodIn wsX5_replicasThatTell wsX5_kindOfFirst := goodIn_r _ [7, 1, 8, 9, 10, 6, 11, 61, 62, 63, 64, 65, 66, 67, 68, 69, 70, 71, 72, 73, 74, 75] (by decide +kernel) (by decide +kernel)
set_option maxRecDepth 20000 in
theorem gX5_replicasThatTell_X5_kindOfFirst : GoodIn wsX5_replicasThatTell (wsV RX5 236 RX5 yX5_kindOfFirst wsX5_kindOfFirst) := goodIn_app (goodIn_of _ (by decide +kernel)) ggX5_replicasThatTell_X5_kindOfFirst
set_option maxRecDepth 20000 in
theorem ggX5_replicasThatTell_X5_firstOtherwise : GoodIn wsX5_replicasThatTell wsX5_firstOtherwise := goodIn_r _ [15, 16, 1, 8, 17, 18, 9, 10, 6, 11, 19, 20, 21, 22, 23, 24, 25, 26, 27, 28, 29, 30, 31, 32, 33, 34, 35, 36, 37, 38, 39, 40, 41, 42, 43, 44, 45, 46, 47, 48, 49, 50, 51, 52, 53, 54, 55, 56, 57, 58, 59, 60, 76, 77, 78, 61, 62, 63, 64, 65, 66, 67, 68, 69, 70, 71, 72, 73, 74, 75, 79, 80, 81, 82, 83, 84, 85] (by decide +kernel) (by decide +kernel)
set_option maxRecDepth 20000 in
theorem gX5_replicasThatTell_X5_firstOtherwise : GoodIn wsX5_replicasThatTell (wsV RX5 239 RX5 yX5_firstOtherwise wsX5_firstOtherwise) := goodIn_app (goodIn_of _ (by decide +kernel)) ggX5_replicasThatTell_X5_firstOtherwise
set_option maxRecDepth 20000 in
theorem ggX5_kindsThatTell_X5_firstOtherwise : GoodIn wsX5_kindsThatTell wsX5_firstOtherwise := goodIn_r _ [7, 8, 1, 9, 10, 11, 12, 13, 6, 14, 15, 16, 17, 18, 19, 20, 21, 22, 23, 24, 25, 26, 27, 28, 29, 30, 31, 32, 33, 34, 35, 36, 37, 38, 39, 40, 41, 42, 43, 44, 45, 46, 47, 48, 49, 50, 51, 52, 53, 54, 55, 56, 72, 73, 74, 57, 58, 59, 60, 61, 62, 63, 64, 65, 66, 67, 68, 69, 70, 71, 75, 76, 77, 78, 79, 80, 81] (by decide +kernel) (by decide +kernel)
set_option maxRecDepth 20000 in
theorem gX5_kindsThatTell_X5_firstOtherwise : GoodIn wsX5_kindsThatTell (wsV RX5 239 RX5 yX5_firstOtherwise wsX5_firstOtherwise) := goodIn_app (goodIn_of _ (by decide +kernel)) ggX5_kindsThatTell_X5_firstOtherwise
set_option maxRecDepth 20000 in
theorem ggX5_messagesThatTell_X5_messagesTo : GoodIn wsX5_messagesThatTell wsX5_messagesTo := goodIn_r _ [8, 1, 2, 9, 10, 85, 86, 87, 88, 89, 90, 91, 92, 93, 94, 95, 96, 97, 98, 99, 100, 101, 102, 103] (by decide +kernel) (by decide +kernel)
set_option maxRecDepth 20000 in
theorem gX5_messagesThatTell_X5_messagesTo : GoodIn wsX5_messagesThatTell (wsV RX5 312 RX5 yX5_messagesTo wsX5_messagesTo) := goodIn_app (goodIn_of _ (by decide +kernel)) ggX5_messagesThatTell_X5_messagesTo
set_option maxRecDepth 20000 in
theorem ggX5_messagesThatTell_X5_thinkComing : GoodIn wsX5_messagesThatTell wsX5_thinkComing := goodIn_r _ [14, 3, 1, 15, 2, 9, 16, 17, 18, 19, 20, 21, 22, 23, 24, 25, 26, 27, 85, 86, 87, 88, 89, 90, 91, 92, 93, 94, 95, 96, 97, 98, 99, 100, 101, 102, 103, 104, 105] (by decide +kernel) (by decide +kernel)
set_option maxRecDepth 20000 in
theorem gX5_messagesThatTell_X5_thinkComing : GoodIn wsX5_messagesThatTell (wsV RX5 315 RX5 yX5_thinkComing wsX5_thinkComing) := goodIn_app (goodIn_of _ (by decide +kernel)) ggX5_messagesThatTell_X5_thinkComing
set_option maxRecDepth 20000 in
theorem ggX5_messagesThatTell_X5_kindOfFirst : GoodIn wsX5_messagesThatTell wsX5_kindOfFirst := goodIn_r _ [31, 1, 32, 33, 34, 7, 35, 85, 86, 87, 88, 89, 90, 91, 92, 93, 94, 95, 96, 97, 98, 99] (by decide +kernel) (by decide +kernel)
set_option maxRecDepth 20000 in
theorem gX5_messagesThatTell_X5_kindOfFirst : GoodIn wsX5_messagesThatTell (wsV RX5 236 RX5 yX5_kindOfFirst wsX5_kindOfFirst) := goodIn_app (goodIn_of _ (by decide +kernel)) ggX5_messagesThatTell_X5_kindOfFirst
set_option maxRecDepth 20000 in
theorem ggX5_messagesThatTell_X5_firstOtherwise : GoodIn wsX5_messagesThatTell wsX5_firstOtherwise := goodIn_r _ [39, 40, 1, 32, 41, 42, 33, 34, 7, 35, 43, 44, 45, 46, 47, 48, 49, 50, 51, 52, 53, 54, 55, 56, 57, 58, 59, 60, 61, 62, 63, 64, 65, 66, 67, 68, 69, 70, 71, 72, 73, 74, 75, 76, 77, 78, 79, 80, 81, 82, 83, 84, 106, 107, 108, 85, 86, 87, 88, 89, 90, 91, 92, 93, 94, 95, 96, 97, 98, 99, 109, 110, 111, 112, 113, 104, 105] (by decide +kernel) (by decide +kernel)
set_option maxRecDepth 20000 in
theorem gX5_messagesThatTell_X5_firstOtherwise : GoodIn wsX5_messagesThatTell (wsV RX5 239 RX5 yX5_firstOtherwise wsX5_firstOtherwise) := goodIn_app (goodIn_of _ (by decide +kernel)) ggX5_messagesThatTell_X5_firstOtherwise
set_option maxRecDepth 20000 in
theorem ggX6_isReplica_X6_in : GoodIn wsX6_isReplica wsX6_in := goodIn_r _ [5] (by decide +kernel) (by decide +kernel)
set_option maxRecDepth 20000 in
theorem gX6_isReplica_X6_in : GoodIn wsX6_isReplica (va_wsS RX6 86 yX6_in wsX6_in) := goodIn_app (goodIn_of _ (by decide +kernel)) ggX6_isReplica_X6_in
set_option maxRecDepth 20000 in
theorem ggX6_isObject_X6_in : GoodIn wsX6_isObject wsX6_in := goodIn_r _ [6] (by decide +kernel) (by decide +kernel)
set_option maxRecDepth 20000 in
theorem gX6_isObject_X6_in : GoodIn wsX6_isObject (va_wsS RX6 86 yX6_in wsX6_in) := goodIn_app (goodIn_of _ (by decide +kernel)) ggX6_isObject_X6_in
set_option maxRecDepth 20000 in
theorem ggX6_isLetter_X6_in : GoodIn wsX6_isLetter wsX6_in := goodIn_r _ [5] (by decide +kernel) (by decide +kernel)
set_option maxRecDepth 20000 in
theorem gX6_isLetter_X6_in : GoodIn wsX6_isLetter (va_wsS RX6 86 yX6_in wsX6_in) := goodIn_app (goodIn_of _ (by decide +kernel)) ggX6_isLetter_X6_in
set_option maxRecDepth 20000 in
theorem ggX6_bitsOf_J6_bitCount_0f7a4 : GoodIn wsX6_bitsOf wsJ6_bitCount_0f7a4 := goodIn_r _ [4, 5, 6, 7] (by decide +kernel) (by decide +kernel)
set_option maxRecDepth 20000 in
theorem gX6_bitsOf_J6_bitCount_0f7a4 : GoodIn wsX6_bitsOf (va_wsS RX6 104 yJ6_bitCount_0f7a4 wsJ6_bitCount_0f7a4) := goodIn_app (goodIn_of _ (by decide +kernel)) ggX6_bitsOf_J6_bitCount_0f7a4
set_option maxRecDepth 20000 in
theorem ggX6_meets_X6_again : GoodIn wsX6_meets wsX6_again := goodIn_r _ [5, 6, 7, 8, 9, 10, 11, 16, 17, 18, 19, 20, 21, 22, 23, 24, 25, 26, 27, 28, 29, 30, 31, 32, 33, 34, 35, 36, 37, 38, 39, 40, 41, 42] (by decide +kernel) (by decide +kernel)
set_option maxRecDepth 20000 in
theorem gX6_meets_X6_again : GoodIn wsX6_meets (wsV RX6 110 RX6 yX6_again wsX6_again) := goodIn_app (goodIn_of _ (by decide +kernel)) ggX6_meets_X6_again
set_option maxRecDepth 20000 in
theorem ggX6_meets_X6_join : GoodIn wsX6_meets wsX6_join := goodIn_r _ [15, 11, 6, 16, 17, 18, 19, 20, 21, 22, 23, 24, 25, 26, 27, 28, 29, 30, 31, 32, 33, 34, 35, 36, 37, 38, 39, 40, 41, 42] (by decide +kernel) (by decide +kernel)
set_option maxRecDepth 20000 in
theorem gX6_meets_X6_join : GoodIn wsX6_meets (wsV RX6 114 RX6 yX6_join wsX6_join) := goodIn_app (goodIn_of _ (by decide +kernel)) ggX6_meets_X6_join
set_option maxRecDepth 20000 in
theorem ggX6_goes_X6_clear : GoodIn wsX6_goes wsX6_clear := goodIn_r _ [10, 5, 3, 15, 16, 17, 18, 19, 20, 21, 22, 23, 24, 25, 26, 27, 28, 29, 30, 31, 32, 33, 34, 35, 36, 37, 38, 39, 40, 41] (by decide +kernel) (by decide +kernel)
set_option maxRecDepth 20000 in
theorem gX6_goes_X6_clear : GoodIn wsX6_goes (wsV RX6 117 RX6 yX6_clear wsX6_clear) := goodIn_app (goodIn_of _ (by decide +kernel)) ggX6_goes_X6_clear
set_option maxRecDepth 20000 in
theorem ggX6_goes_X6_isGone : GoodIn wsX6_goes wsX6_isGone := goodIn_r _ [14] (by decide +kernel) (by decide +kernel)
set_option maxRecDepth 20000 in
theorem gX6_goes_X6_isGone : GoodIn wsX6_goes (wsV RX6 121 RX6 yX6_isGone wsX6_isGone) := goodIn_app (goodIn_of _ (by decide +kernel)) ggX6_goes_X6_isGone
set_option maxRecDepth 20000 in
theorem ggX6_isNew_X6_join : GoodIn wsX6_isNew wsX6_join := goodIn_r _ [5, 6, 7, 8, 9, 10, 11, 12, 13, 14, 15, 16, 17, 18, 19, 20, 21, 22, 23, 24, 25, 26, 27, 28, 29, 30, 31, 32, 33, 34] (by decide +kernel) (by decide +kernel)
set_option maxRecDepth 20000 in
theorem gX6_isNew_X6_join : GoodIn wsX6_isNew (wsV RX6 114 RX6 yX6_join wsX6_join) := goodIn_app (goodIn_of _ (by decide +kernel)) ggX6_isNew_X6_join
set_option maxRecDepth 20000 in
theorem ggX6_add_X6_isReplica : GoodIn wsX6_add wsX6_isReplica := goodIn_r _ [11, 12, 13, 14, 10, 15] (by decide +kernel) (by decide +kernel)
set_option maxRecDepth 20000 in
theorem gX6_add_X6_isReplica : GoodIn wsX6_add (va_wsS RX6 131 yX6_isReplica wsX6_isReplica) := goodIn_app (goodIn_of _ (by decide +kernel)) ggX6_add_X6_isReplica
set_option maxRecDepth 20000 in
theorem ggX6_add_X6_isObject : GoodIn wsX6_add wsX6_isObject := goodIn_r _ [18, 19, 12, 13, 14, 10, 15] (by decide +kernel) (by decide +kernel)
set_option maxRecDepth 20000 in
theorem gX6_add_X6_isObject : GoodIn wsX6_add (va_wsS RX6 135 yX6_isObject wsX6_isObject) := goodIn_app (goodIn_of _ (by decide +kernel)) ggX6_add_X6_isObject
set_option maxRecDepth 20000 in
theorem ggX6_add_X6_goes : GoodIn wsX6_add wsX6_goes := goodIn_r _ [23, 1, 5, 7, 4, 6, 24, 25, 26, 10, 27, 28, 29, 30, 31, 48, 49, 50, 51, 52, 53, 54, 55, 56, 57, 58, 59, 60, 61, 62, 63, 64, 65, 66, 67, 68, 69, 70, 71, 72, 73, 74] (by decide +kernel) (by decide +kernel)
set_option maxRecDepth 20000 in
theorem gX6_add_X6_goes : GoodIn wsX6_add (wsV RX6 139 RX6 yX6_goes wsX6_goes) := goodIn_app (goodIn_of _ (by decide +kernel)) ggX6_add_X6_goes
set_option maxRecDepth 20000 in
theorem ggX6_add_X6_stampAbove : GoodIn wsX6_add wsX6_stampAbove := goodIn_r _ [35, 1, 6, 3, 36, 37, 38, 39, 48, 49, 50, 51, 52, 53, 54, 55, 56, 57, 58, 59, 60, 61, 62, 63, 64, 65, 66, 67, 68, 69, 70, 71, 72, 73, 74] (by decide +kernel) (by decide +kernel)
set_option maxRecDepth 20000 in
theorem gX6_add_X6_stampAbove : GoodIn wsX6_add (wsV RX6 143 RX6 yX6_stampAbove wsX6_stampAbove) := goodIn_app (goodIn_of _ (by decide +kernel)) ggX6_add_X6_stampAbove
set_option maxRecDepth 20000 in
theorem ggX6_add_X6_isNew : GoodIn wsX6_add wsX6_isNew := goodIn_r _ [43, 44, 45, 46, 10, 47, 7, 6, 48, 49, 50, 51, 52, 53, 54, 55, 56, 57, 58, 59, 60, 61, 62, 63, 64, 65, 66, 67, 68, 69, 70, 71, 72, 73, 74] (by decide +kernel) (by decide +kernel)
set_option maxRecDepth 20000 in
theorem gX6_add_X6_isNew : GoodIn wsX6_add (wsV RX6 146 RX6 yX6_isNew wsX6_isNew) := goodIn_app (goodIn_of _ (by decide +kernel)) ggX6_add_X6_isNew
set_option maxRecDepth 20000 in
theorem ggX6_take_X6_isReplica : GoodIn wsX6_take wsX6_isReplica := goodIn_r _ [4, 5, 6, 7, 3, 8] (by decide +kernel) (by decide +kernel)
set_option maxRecDepth 20000 in
theorem gX6_take_X6_isReplica : GoodIn wsX6_take (va_wsS RX6 131 yX6_isReplica wsX6_isReplica) := goodIn_app (goodIn_of _ (by decide +kernel)) ggX6_take_X6_isReplica
set_option maxRecDepth 20000 in
theorem ggX6_take_X6_isObject : GoodIn wsX6_take wsX6_isObject := goodIn_r _ [11, 12, 5, 6, 7, 3, 8] (by decide +kernel) (by decide +kernel)
set_option maxRecDepth 20000 in
theorem gX6_take_X6_isObject : GoodIn wsX6_take (va_wsS RX6 135 yX6_isObject wsX6_isObject) := goodIn_app (goodIn_of _ (by decide +kernel)) ggX6_take_X6_isObject
set_option maxRecDepth 20000 in
theorem ggX6_take_X6_goes : GoodIn wsX6_take wsX6_goes := goodIn_r _ [16, 17, 18, 19, 20, 21, 22, 23, 24, 3, 25, 26, 27, 28, 29, 38, 39, 40, 41, 42, 43, 44, 45, 46, 47, 48, 49, 50, 51, 52, 53, 54, 55, 56, 57, 58, 59, 60, 61, 62, 63, 64] (by decide +kernel) (by decide +kernel)
set_option maxRecDepth 20000 in
theorem gX6_take_X6_goes : GoodIn wsX6_take (wsV RX6 139 RX6 yX6_goes wsX6_goes) := goodIn_app (goodIn_of _ (by decide +kernel)) ggX6_take_X6_goes
set_option maxRecDepth 20000 in
theorem ggX6_take_X6_isNew : GoodIn wsX6_take wsX6_isNew := goodIn_r _ [33, 34, 35, 36, 3, 37, 19, 21, 38, 39, 40, 41, 42, 43, 44, 45, 46, 47, 48, 49, 50, 51, 52, 53, 54, 55, 56, 57, 58, 59, 60, 61, 62, 63, 64] (by decide +kernel) (by decide +kernel)
set_option maxRecDepth 20000 in
theorem gX6_take_X6_isNew : GoodIn wsX6_take (wsV RX6 146 RX6 yX6_isNew wsX6_isNew) := goodIn_app (goodIn_of _ (by decide +kernel)) ggX6_take_X6_isNew
set_option maxRecDepth 20000 in
theorem ggX6_reset_X6_isReplica : GoodIn wsX6_reset wsX6_isReplica := goodIn_r _ [4, 5, 6, 7, 3, 8] (by decide +kernel) (by decide +kernel)
set_option maxRecDepth 20000 in
theorem gX6_reset_X6_isReplica : GoodIn wsX6_reset (va_wsS RX6 131 yX6_isReplica wsX6_isReplica) := goodIn_app (goodIn_of _ (by decide +kernel)) ggX6_reset_X6_isReplica
set_option maxRecDepth 20000 in
theorem ggX6_reset_X6_isObject : GoodIn wsX6_reset wsX6_isObject := goodIn_r _ [11, 12, 5, 6, 7, 3, 8] (by decide +kernel) (by decide +kernel)
set_option maxRecDepth 20000 in
theorem gX6_reset_X6_isObject : GoodIn wsX6_reset (va_wsS RX6 135 yX6_isObject wsX6_isObject) := goodIn_app (goodIn_of _ (by decide +kernel)) ggX6_reset_X6_isObject
set_option maxRecDepth 20000 in
theorem ggX6_reset_X6_goes : GoodIn wsX6_reset wsX6_goes := goodIn_r _ [16, 17, 18, 19, 20, 21, 22, 23, 24, 3, 25, 26, 27, 28, 29, 38, 39, 40, 41, 42, 43, 44, 45, 46, 47, 48, 49, 50, 51, 52, 53, 54, 55, 56, 57, 58, 59, 60, 61, 62, 63, 64] (by decide +kernel) (by decide +kernel)
set_option maxRecDepth 20000 in
theorem gX6_reset_X6_goes : GoodIn wsX6_reset (wsV RX6 139 RX6 yX6_goes wsX6_goes) := goodIn_app (goodIn_of _ (by decide +kernel)) ggX6_reset_X6_goes
set_option maxRecDepth 20000 in
theorem ggX6_reset_X6_isNew : GoodIn wsX6_reset wsX6_isNew := goodIn_r _ [33, 34, 35, 36, 3, 37, 19, 21, 38, 39, 40, 41, 42, 43, 44, 45, 46, 47, 48, 49, 50, 51, 52, 53, 54, 55, 56, 57, 58, 59, 60, 61, 62, 63, 64] (by decide +kernel) (by decide +kernel)
set_option maxRecDepth 20000 in
theorem gX6_reset_X6_isNew : GoodIn wsX6_reset (wsV RX6 146 RX6 yX6_isNew wsX6_isNew) := goodIn_app (goodIn_of _ (by decide +kernel)) ggX6_reset_X6_isNew
set_option maxRecDepth 20000 in
theorem ggX6_kind_X6_isObject : GoodIn wsX6_kind wsX6_isObject := goodIn_r _ [6, 7, 8, 9, 10, 5, 11] (by decide +kernel) (by decide +kernel)
set_option maxRecDepth 20000 in
theorem gX6_kind_X6_isObject : GoodIn wsX6_kind (va_wsS RX6 135 yX6_isObject wsX6_isObject) := goodIn_app (goodIn_of _ (by decide +kernel)) ggX6_kind_X6_isObject
set_option maxRecDepth 20000 in
theorem ggX6_kind_X6_in : GoodIn wsX6_kind wsX6_in := goodIn_r _ [11] (by decide +kernel) (by decide +kernel)
set_option maxRecDepth 20000 in
theorem gX6_kind_X6_in : GoodIn wsX6_kind (va_wsS RX6 86 yX6_in wsX6_in) := goodIn_app (goodIn_of _ (by decide +kernel)) ggX6_kind_X6_in
set_option maxRecDepth 20000 in
theorem ggX6_taken_X6_isObject : GoodIn wsX6_taken wsX6_isObject := goodIn_r _ [6, 7, 8, 9, 10, 5, 11] (by decide +kernel) (by decide +kernel)
set_option maxRecDepth 20000 in
theorem gX6_taken_X6_isObject : GoodIn wsX6_taken (va_wsS RX6 135 yX6_isObject wsX6_isObject) := goodIn_app (goodIn_of _ (by decide +kernel)) ggX6_taken_X6_isObject
set_option maxRecDepth 20000 in
theorem ggX6_taken_X6_in : GoodIn wsX6_taken wsX6_in := goodIn_r _ [11] (by decide +kernel) (by decide +kernel)
set_option maxRecDepth 20000 in
theorem gX6_taken_X6_in : GoodIn wsX6_taken (va_wsS RX6 86 yX6_in wsX6_in) := goodIn_app (goodIn_of _ (by decide +kernel)) ggX6_taken_X6_in
set_option maxRecDepth 20000 in
theorem ggX6_worthOf_Jxf58ca_floatToIntBits_5c35a : GoodIn wsX6_worthOf wsJxf58ca_floatToIntBits_5c35a := goodIn_r _ [13, 14, 15, 16, 17, 18, 19, 20, 12, 21] (by decide +kernel) (by decide +kernel)
set_option maxRecDepth 20000 in
theorem gX6_worthOf_Jxf58ca_floatToIntBits_5c35a : GoodIn wsX6_worthOf (va_wsS RX6 151 yJxf58ca_floatToIntBits_5c35a wsJxf58ca_floatToIntBits_5c35a) := goodIn_app (goodIn_of _ (by decide +kernel)) ggX6_worthOf_Jxf58ca_floatToIntBits_5c35a
set_option maxRecDepth 20000 in
theorem ggX6_worthNow_X6_worthOf : GoodIn wsX6_worthNow wsX6_worthOf := goodIn_r _ [6, 7, 8, 9, 10, 11, 12, 13, 14, 15, 16, 17, 18, 19, 20, 21, 22, 23, 24, 25, 26, 27, 28, 29, 30, 31, 32, 33, 34, 35, 36, 37, 38, 39, 40, 41, 42, 43, 44, 45, 46, 47, 48, 49, 50, 51, 52, 53, 54] (by decide +kernel) (by decide +kernel)
set_option maxRecDepth 20000 in
theorem gX6_worthNow_X6_worthOf : GoodIn wsX6_worthNow (wsV RX6 157 RX6 yX6_worthOf wsX6_worthOf) := goodIn_app (goodIn_of _ (by decide +kernel)) ggX6_worthNow_X6_worthOf
set_option maxRecDepth 20000 in
theorem ggX6_worth_X6_isReplica : GoodIn wsX6_worth wsX6_isReplica := goodIn_r _ [4, 5, 6, 7, 3, 8] (by decide +kernel) (by decide +kernel)
set_option maxRecDepth 20000 in
theorem gX6_worth_X6_isReplica : GoodIn wsX6_worth (va_wsS RX6 131 yX6_isReplica wsX6_isReplica) := goodIn_app (goodIn_of _ (by decide +kernel)) ggX6_worth_X6_isReplica
set_option maxRecDepth 20000 in
theorem ggX6_worth_X6_isObject : GoodIn wsX6_worth wsX6_isObject := goodIn_r _ [11, 12, 5, 6, 7, 3, 8] (by decide +kernel) (by decide +kernel)
set_option maxRecDepth 20000 in
theorem gX6_worth_X6_isObject : GoodIn wsX6_worth (va_wsS RX6 135 yX6_isObject wsX6_isObject) := goodIn_app (goodIn_of _ (by decide +kernel)) ggX6_worth_X6_isObject
set_option maxRecDepth 20000 in
theorem ggX6_worth_X6_worthNow : GoodIn wsX6_worth wsX6_worthNow := goodIn_r _ [16, 17, 18, 19, 20, 3, 21, 22, 23, 24, 25, 26, 27, 28, 29, 30, 31, 32, 33, 34, 35, 36, 37, 38, 39, 40, 41, 42, 47, 48, 49, 50, 51, 52, 53, 54, 55, 56, 57, 58, 59, 60, 61, 62, 63, 64, 65, 66, 67, 68, 69, 70, 71, 72, 73] (by decide +kernel) (by decide +kernel)
set_option maxRecDepth 20000 in
theorem gX6_worth_X6_worthNow : GoodIn wsX6_worth (wsV RX6 161 RX6 yX6_worthNow wsX6_worthNow) := goodIn_app (goodIn_of _ (by decide +kernel)) ggX6_worth_X6_worthNow
set_option maxRecDepth 20000 in
theorem ggX6_worth_X6_asLong : GoodIn wsX6_worth wsX6_asLong := goodIn_r _ [45, 46] (by decide +kernel) (by decide +kernel)
set_option maxRecDepth 20000 in
theorem gX6_worth_X6_asLong : GoodIn wsX6_worth (va_wsS RX6 165 yX6_asLong wsX6_asLong) := goodIn_app (goodIn_of _ (by decide +kernel)) ggX6_worth_X6_asLong
set_option maxRecDepth 20000 in
theorem ggX6_tags_X6_stable : GoodIn wsX6_tags wsX6_stable := goodIn_r _ [7, 1, 8, 9, 10, 11, 12, 13, 14, 15, 16, 17, 18, 19, 20, 21, 22, 23, 24, 25, 26, 27, 28, 29, 30, 31, 32, 33, 34, 35] (by decide +kernel) (by decide +kernel)
set_option maxRecDepth 20000 in
theorem gX6_tags_X6_stable : GoodIn wsX6_tags (wsV RX6 169 RX6 yX6_stable wsX6_stable) := goodIn_app (goodIn_of _ (by decide +kernel)) ggX6_tags_X6_stable
set_option maxRecDepth 20000 in
theorem ggX6_told_X6_isReplica : GoodIn wsX6_told wsX6_isReplica := goodIn_r _ [10, 1, 11, 12, 9, 13] (by decide +kernel) (by decide +kernel)
set_option maxRecDepth 20000 in
theorem gX6_told_X6_isReplica : GoodIn wsX6_told (va_wsS RX6 131 yX6_isReplica wsX6_isReplica) := goodIn_app (goodIn_of _ (by decide +kernel)) ggX6_told_X6_isReplica
set_option maxRecDepth 20000 in
theorem ggX6_told_X6_in : GoodIn wsX6_told wsX6_in := goodIn_r _ [13] (by decide +kernel) (by decide +kernel)
set_option maxRecDepth 20000 in
theorem gX6_told_X6_in : GoodIn wsX6_told (va_wsS RX6 86 yX6_in wsX6_in) := goodIn_app (goodIn_of _ (by decide +kernel)) ggX6_told_X6_in
set_option maxRecDepth 20000 in
theorem ggX6_told_X6_stable : GoodIn wsX6_told wsX6_stable := goodIn_r _ [17, 4, 5, 22, 23, 24, 25, 26, 27, 28, 29, 30, 31, 32, 33, 34, 35, 36, 37, 38, 39, 40, 41, 42, 43, 44, 45, 46, 47, 48] (by decide +kernel) (by decide +kernel)
set_option maxRecDepth 20000 in
theorem gX6_told_X6_stable : GoodIn wsX6_told (wsV RX6 169 RX6 yX6_stable wsX6_stable) := goodIn_app (goodIn_of _ (by decide +kernel)) ggX6_told_X6_stable
set_option maxRecDepth 20000 in
theorem ggX6_told_X6_tags : GoodIn wsX6_told wsX6_tags := goodIn_r _ [21, 4, 6, 14, 15, 16, 9, 17, 5, 22, 23, 24, 25, 26, 27, 28, 29, 30, 31, 32, 33, 34, 35, 36, 37, 38, 39, 40, 41, 42, 43, 44, 45, 46, 47, 48] (by decide +kernel) (by decide +kernel)
set_option maxRecDepth 20000 in
theorem gX6_told_X6_tags : GoodIn wsX6_told (wsV RX6 176 RX6 yX6_tags wsX6_tags) := goodIn_app (goodIn_of _ (by decide +kernel)) ggX6_told_X6_tags
set_option maxRecDepth 20000 in
theorem ggX6_dot_X6_in : GoodIn wsX6_dot wsX6_in := goodIn_r _ [9] (by decide +kernel) (by decide +kernel)
set_option maxRecDepth 20000 in
theorem gX6_dot_X6_in : GoodIn wsX6_dot (va_wsS RX6 86 yX6_in wsX6_in) := goodIn_app (goodIn_of _ (by decide +kernel)) ggX6_dot_X6_in
set_option maxRecDepth 20000 in
theorem ggX6_dot_X6_isReplica : GoodIn wsX6_dot wsX6_isReplica := goodIn_r _ [12, 13, 6, 7, 8, 9] (by decide +kernel) (by decide +kernel)
set_option maxRecDepth 20000 in
theorem gX6_dot_X6_isReplica : GoodIn wsX6_dot (va_wsS RX6 131 yX6_isReplica wsX6_isReplica) := goodIn_app (goodIn_of _ (by decide +kernel)) ggX6_dot_X6_isReplica
set_option maxRecDepth 20000 in
theorem ggX6_has_X6_isReplica : GoodIn wsX6_has wsX6_isReplica := goodIn_r _ [4, 5, 6, 7, 3, 8] (by decide +kernel) (by decide +kernel)
set_option maxRecDepth 20000 in
theorem gX6_has_X6_isReplica : GoodIn wsX6_has (va_wsS RX6 131 yX6_isReplica wsX6_isReplica) := goodIn_app (goodIn_of _ (by decide +kernel)) ggX6_has_X6_isReplica
set_option maxRecDepth 20000 in
theorem ggX6_has_X6_isObject : GoodIn wsX6_has wsX6_isObject := goodIn_r _ [11, 12, 5, 6, 7, 3, 8] (by decide +kernel) (by decide +kernel)
set_option maxRecDepth 20000 in
theorem gX6_has_X6_isObject : GoodIn wsX6_has (va_wsS RX6 135 yX6_isObject wsX6_isObject) := goodIn_app (goodIn_of _ (by decide +kernel)) ggX6_has_X6_isObject
set_option maxRecDepth 20000 in
theorem ggX6_has_X6_goes : GoodIn wsX6_has wsX6_goes := goodIn_r _ [16, 17, 18, 19, 20, 21, 22, 23, 24, 3, 25, 26, 27, 28, 29, 30, 31, 32, 33, 34, 35, 36, 37, 38, 39, 40, 41, 42, 43, 44, 45, 46, 47, 48, 49, 50, 51, 52, 53, 54, 55, 56] (by decide +kernel) (by decide +kernel)
set_option maxRecDepth 20000 in
theorem gX6_has_X6_goes : GoodIn wsX6_has (wsV RX6 139 RX6 yX6_goes wsX6_goes) := goodIn_app (goodIn_of _ (by decide +kernel)) ggX6_has_X6_goes
set_option maxRecDepth 20000 in
theorem ggX6_handOn_X6_again : GoodIn wsX6_handOn wsX6_again := goodIn_r _ [12, 13, 4, 5, 6, 7, 14, 15, 16, 17, 18, 19, 20, 21, 22, 23, 24, 25, 26, 27, 28, 29, 30, 31, 32, 33, 34, 35, 36, 37, 38, 39, 40, 41] (by decide +kernel) (by decide +kernel)
set_option maxRecDepth 20000 in
theorem gX6_handOn_X6_again : GoodIn wsX6_handOn (wsV RX6 110 RX6 yX6_again wsX6_again) := goodIn_app (goodIn_of _ (by decide +kernel)) ggX6_handOn_X6_again
set_option maxRecDepth 20000 in
theorem ggX6_send_X6_isReplica : GoodIn wsX6_send wsX6_isReplica := goodIn_r _ [13, 14, 15, 16, 12, 17] (by decide +kernel) (by decide +kernel)
set_option maxRecDepth 20000 in
theorem gX6_send_X6_isReplica : GoodIn wsX6_send (va_wsS RX6 131 yX6_isReplica wsX6_isReplica) := goodIn_app (goodIn_of _ (by decide +kernel)) ggX6_send_X6_isReplica
set_option maxRecDepth 20000 in
theorem ggX6_send_X6_in : GoodIn wsX6_send wsX6_in := goodIn_r _ [17] (by decide +kernel) (by decide +kernel)
set_option maxRecDepth 20000 in
theorem gX6_send_X6_in : GoodIn wsX6_send (va_wsS RX6 86 yX6_in wsX6_in) := goodIn_app (goodIn_of _ (by decide +kernel)) ggX6_send_X6_in
set_option maxRecDepth 20000 in
theorem ggX6_send_X6_again : GoodIn wsX6_send wsX6_again := goodIn_r _ [21, 4, 6, 7, 8, 9, 22, 27, 28, 29, 30, 31, 32, 33, 34, 35, 36, 37, 38, 39, 40, 41, 42, 43, 44, 45, 46, 47, 48, 49, 50, 51, 52, 53] (by decide +kernel) (by decide +kernel)
set_option maxRecDepth 20000 in
theorem gX6_send_X6_again : GoodIn wsX6_send (wsV RX6 110 RX6 yX6_again wsX6_again) := goodIn_app (goodIn_of _ (by decide +kernel)) ggX6_send_X6_again
set_option maxRecDepth 20000 in
theorem ggX6_send_X6_clear : GoodIn wsX6_send wsX6_clear := goodIn_r _ [26, 4, 22, 27, 28, 29, 30, 31, 32, 33, 34, 35, 36, 37, 38, 39, 40, 41, 42, 43, 44, 45, 46, 47, 48, 49, 50, 51, 52, 53] (by decide +kernel) (by decide +kernel)
set_option maxRecDepth 20000 in
theorem gX6_send_X6_clear : GoodIn wsX6_send (wsV RX6 117 RX6 yX6_clear wsX6_clear) := goodIn_app (goodIn_of _ (by decide +kernel)) ggX6_send_X6_clear
set_option maxRecDepth 20000 in
theorem ggX6_goesAway_X6_handOn : GoodIn wsX6_goesAway wsX6_handOn := goodIn_r _ [6, 7, 8, 9, 10, 11, 12, 13, 14, 15, 16, 5, 17, 18, 19, 20, 21, 22, 23, 24, 25, 26, 27, 28, 29, 30, 31, 32, 33, 34, 35, 36, 37, 38, 39, 40, 41, 42, 43, 44, 45, 46] (by decide +kernel) (by decide +kernel)
set_option maxRecDepth 20000 in
theorem gX6_goesAway_X6_handOn : GoodIn wsX6_goesAway (wsV RX6 179 RX6 yX6_handOn wsX6_handOn) := goodIn_app (goodIn_of _ (by decide +kernel)) ggX6_goesAway_X6_handOn
set_option maxRecDepth 20000 in
theorem ggX6_come_X6_isLetter : GoodIn wsX6_come wsX6_isLetter := goodIn_r _ [10, 11, 12, 13, 9, 14, 47, 48, 49, 50, 51, 52, 53, 54, 55, 56, 57, 58, 59, 60, 61, 62, 63, 64, 65, 66, 67, 68, 69, 70, 71, 72, 73] (by decide +kernel) (by decide +kernel)
set_option maxRecDepth 20000 in
theorem gX6_come_X6_isLetter : GoodIn wsX6_come (wsV RX6 182 RX6 yX6_isLetter wsX6_isLetter) := goodIn_app (goodIn_of _ (by decide +kernel)) ggX6_come_X6_isLetter
set_option maxRecDepth 20000 in
theorem ggX6_come_X6_bitsOf : GoodIn wsX6_come wsX6_bitsOf := goodIn_r _ [18, 19, 20, 21, 22, 23, 24, 25] (by decide +kernel) (by decide +kernel)
set_option maxRecDepth 20000 in
theorem gX6_come_X6_bitsOf : GoodIn wsX6_come (wsV RX6 185 RX6 yX6_bitsOf wsX6_bitsOf) := goodIn_app (goodIn_of _ (by decide +kernel)) ggX6_come_X6_bitsOf
set_option maxRecDepth 20000 in
theorem ggX6_come_X6_join : GoodIn wsX6_come wsX6_join := goodIn_r _ [29, 30, 2, 47, 48, 49, 50, 51, 52, 53, 54, 55, 56, 57, 58, 59, 60, 61, 62, 63, 64, 65, 66, 67, 68, 69, 70, 71, 72, 73] (by decide +kernel) (by decide +kernel)
set_option maxRecDepth 20000 in
theorem gX6_come_X6_join : GoodIn wsX6_come (wsV RX6 114 RX6 yX6_join wsX6_join) := goodIn_app (goodIn_of _ (by decide +kernel)) ggX6_come_X6_join
set_option maxRecDepth 20000 in
theorem ggX6_come_X6_goesAway : GoodIn wsX6_come wsX6_goesAway := goodIn_r _ [34, 11, 35, 36, 37, 9, 38, 4, 1, 5, 39, 40, 41, 42, 43, 44, 45, 46, 2, 30, 47, 48, 49, 50, 51, 52, 53, 54, 55, 56, 57, 58, 59, 60, 61, 62, 63, 64, 65, 66, 67, 68, 69, 70, 71, 72, 73] (by decide +kernel) (by decide +kernel)
set_option maxRecDepth 20000 in
theorem gX6_come_X6_goesAway : GoodIn wsX6_come (wsV RX6 189 RX6 yX6_goesAway wsX6_goesAway) := goodIn_app (goodIn_of _ (by decide +kernel)) ggX6_come_X6_goesAway
set_option maxRecDepth 20000 in
theorem ggX6_lose_X6_isLetter : GoodIn wsX6_lose wsX6_isLetter := goodIn_r _ [5, 6, 7, 8, 4, 9, 31, 32, 33, 34, 35, 36, 37, 38, 39, 40, 41, 42, 43, 44, 45, 46, 47, 48, 49, 50, 51, 52, 53, 54, 55, 56, 57] (by decide +kernel) (by decide +kernel)
set_option maxRecDepth 20000 in
theorem gX6_lose_X6_isLetter : GoodIn wsX6_lose (wsV RX6 182 RX6 yX6_isLetter wsX6_isLetter) := goodIn_app (goodIn_of _ (by decide +kernel)) ggX6_lose_X6_isLetter
set_option maxRecDepth 20000 in
theorem ggX6_lose_X6_goesAway : GoodIn wsX6_lose wsX6_goesAway := goodIn_r _ [13, 6, 14, 15, 16, 4, 17, 18, 19, 20, 21, 22, 23, 24, 25, 26, 27, 28, 29, 30, 31, 32, 33, 34, 35, 36, 37, 38, 39, 40, 41, 42, 43, 44, 45, 46, 47, 48, 49, 50, 51, 52, 53, 54, 55, 56, 57] (by decide +kernel) (by decide +kernel)
set_option maxRecDepth 20000 in
theorem gX6_lose_X6_goesAway : GoodIn wsX6_lose (wsV RX6 189 RX6 yX6_goesAway wsX6_goesAway) := goodIn_app (goodIn_of _ (by decide +kernel)) ggX6_lose_X6_goesAway
set_option maxRecDepth 20000 in
theorem ggX6_twice_X6_isLetter : GoodIn wsX6_twice wsX6_isLetter := goodIn_r _ [6, 1, 7, 8, 5, 9, 27, 28, 29, 30, 31, 32, 33, 34, 35, 36, 37, 38, 39, 40, 41, 42, 43, 44, 45, 46, 47, 48, 49, 50, 51, 52, 53] (by decide +kernel) (by decide +kernel)
set_option maxRecDepth 20000 in
theorem gX6_twice_X6_isLetter : GoodIn wsX6_twice (wsV RX6 182 RX6 yX6_isLetter wsX6_isLetter) := goodIn_app (goodIn_of _ (by decide +kernel)) ggX6_twice_X6_isLetter
set_option maxRecDepth 20000 in
theorem ggX6_twice_X6_handOn : GoodIn wsX6_twice wsX6_handOn := goodIn_r _ [13, 14, 15, 16, 17, 18, 19, 20, 21, 22, 23, 5, 24, 25, 26, 27, 28, 29, 30, 31, 32, 33, 34, 35, 36, 37, 38, 39, 40, 41, 42, 43, 44, 45, 46, 47, 48, 49, 50, 51, 52, 53] (by decide +kernel) (by decide +kernel)
set_option maxRecDepth 20000 in
theorem gX6_twice_X6_handOn : GoodIn wsX6_twice (wsV RX6 179 RX6 yX6_handOn wsX6_handOn) := goodIn_app (goodIn_of _ (by decide +kernel)) ggX6_twice_X6_handOn
set_option maxRecDepth 20000 in
theorem ggX6_letter_X6_isLetter : GoodIn wsX6_letter wsX6_isLetter := goodIn_r _ [10, 11, 12, 13, 9, 14, 26, 27, 28, 29, 30, 31, 32, 33, 34, 35, 36, 37, 38, 39, 40, 41, 42, 43, 44, 45, 46, 47, 48, 49, 50, 51, 52] (by decide +kernel) (by decide +kernel)
set_option maxRecDepth 20000 in
theorem gX6_letter_X6_isLetter : GoodIn wsX6_letter (wsV RX6 182 RX6 yX6_isLetter wsX6_isLetter) := goodIn_app (goodIn_of _ (by decide +kernel)) ggX6_letter_X6_isLetter
set_option maxRecDepth 20000 in
theorem ggX6_letter_X6_in : GoodIn wsX6_letter wsX6_in := goodIn_r _ [14] (by decide +kernel) (by decide +kernel)
set_option maxRecDepth 20000 in
theorem gX6_letter_X6_in : GoodIn wsX6_letter (va_wsS RX6 86 yX6_in wsX6_in) := goodIn_app (goodIn_of _ (by decide +kernel)) ggX6_letter_X6_in
set_option maxRecDepth 20000 in
theorem ggX6_letter_X6_bitsOf : GoodIn wsX6_letter wsX6_bitsOf := goodIn_r _ [18, 19, 20, 21, 22, 23, 24, 25] (by decide +kernel) (by decide +kernel)
set_option maxRecDepth 20000 in
theorem gX6_letter_X6_bitsOf : GoodIn wsX6_letter (wsV RX6 185 RX6 yX6_bitsOf wsX6_bitsOf) := goodIn_app (goodIn_of _ (by decide +kernel)) ggX6_letter_X6_bitsOf
set_option maxRecDepth 20000 in
theorem ggX6_met_X6_isObject : GoodIn wsX6_met wsX6_isObject := goodIn_r _ [4, 5, 6, 7, 8, 3, 9] (by decide +kernel) (by decide +kernel)
set_option maxRecDepth 20000 in
theorem gX6_met_X6_isObject : GoodIn wsX6_met (va_wsS RX6 135 yX6_isObject wsX6_isObject) := goodIn_app (goodIn_of _ (by decide +kernel)) ggX6_met_X6_isObject
set_option maxRecDepth 20000 in
theorem ggX6_met_X6_asLong : GoodIn wsX6_met wsX6_asLong := goodIn_r _ [12, 13] (by decide +kernel) (by decide +kernel)
set_option maxRecDepth 20000 in
theorem gX6_met_X6_asLong : GoodIn wsX6_met (va_wsS RX6 165 yX6_asLong wsX6_asLong) := goodIn_app (goodIn_of _ (by decide +kernel)) ggX6_met_X6_asLong
set_option maxRecDepth 20000 in
theorem ggX6_met_X6_meets : GoodIn wsX6_met wsX6_meets := goodIn_r _ [17, 18, 19, 20, 3, 21, 22, 23, 24, 25, 26, 27, 28, 29, 30, 31, 61, 62, 63, 64, 65, 66, 67, 68, 69, 70, 71, 72, 73, 74, 75, 76, 77, 78, 79, 80, 81, 82, 83, 84, 85, 86, 87] (by decide +kernel) (by decide +kernel)
set_option maxRecDepth 20000 in
theorem gX6_met_X6_meets : GoodIn wsX6_met (wsV RX6 192 RX6 yX6_meets wsX6_meets) := goodIn_app (goodIn_of _ (by decide +kernel)) ggX6_met_X6_meets
set_option maxRecDepth 20000 in
theorem ggX6_met_X6_worthNow : GoodIn wsX6_met wsX6_worthNow := goodIn_r _ [35, 36, 37, 38, 39, 3, 40, 41, 27, 42, 43, 44, 45, 46, 47, 48, 49, 50, 51, 52, 53, 54, 55, 56, 57, 58, 59, 60, 61, 62, 63, 64, 65, 66, 67, 68, 69, 70, 71, 72, 73, 74, 75, 76, 77, 78, 79, 80, 81, 82, 83, 84, 85, 86, 87] (by decide +kernel) (by decide +kernel)
set_option maxRecDepth 20000 in
theorem gX6_met_X6_worthNow : GoodIn wsX6_met (wsV RX6 161 RX6 yX6_worthNow wsX6_worthNow) := goodIn_app (goodIn_of _ (by decide +kernel)) ggX6_met_X6_worthNow
set_option maxRecDepth 20000 in
theorem ggX6_isAhead_X6_again : GoodIn wsX6_isAhead wsX6_again := goodIn_r _ [5, 6, 7, 8, 9, 10, 11, 20, 21, 22, 23, 24, 25, 26, 27, 28, 29, 30, 31, 32, 33, 34, 35, 36, 37, 38, 39, 40, 41, 42, 43, 44, 45, 46] (by decide +kernel) (by decide +kernel)
set_option maxRecDepth 20000 in
theorem gX6_isAhead_X6_again : GoodIn wsX6_isAhead (wsV RX6 110 RX6 yX6_again wsX6_again) := goodIn_app (goodIn_of _ (by decide +kernel)) ggX6_isAhead_X6_again
set_option maxRecDepth 20000 in
theorem ggX6_isAhead_X6_join : GoodIn wsX6_isAhead wsX6_join := goodIn_r _ [15, 11, 6, 20, 21, 22, 23, 24, 25, 26, 27, 28, 29, 30, 31, 32, 33, 34, 35, 36, 37, 38, 39, 40, 41, 42, 43, 44, 45, 46] (by decide +kernel) (by decide +kernel)
set_option maxRecDepth 20000 in
theorem gX6_isAhead_X6_join : GoodIn wsX6_isAhead (wsV RX6 114 RX6 yX6_join wsX6_join) := goodIn_app (goodIn_of _ (by decide +kernel)) ggX6_isAhead_X6_join
set_option maxRecDepth 20000 in
theorem ggX6_isAhead_X6_areAlike : GoodIn wsX6_isAhead wsX6_areAlike := goodIn_r _ [19, 6, 11, 20, 21, 22, 23, 24, 25, 26, 27, 28, 29, 30, 31, 32, 33, 34, 35, 36, 37, 38, 39, 40, 41, 42, 43, 44, 45, 46] (by decide +kernel) (by decide +kernel)
set_option maxRecDepth 20000 in
theorem gX6_isAhead_X6_areAlike : GoodIn wsX6_isAhead (wsV RX6 195 RX6 yX6_areAlike wsX6_areAlike) := goodIn_app (goodIn_of _ (by decide +kernel)) ggX6_isAhead_X6_areAlike
set_option maxRecDepth 20000 in
theorem ggX6_unlike_J6_bitCount_0f7a4 : GoodIn wsX6_unlike wsJ6_bitCount_0f7a4 := goodIn_r _ [4, 5, 6, 7] (by decide +kernel) (by decide +kernel)
set_option maxRecDepth 20000 in
theorem gX6_unlike_J6_bitCount_0f7a4 : GoodIn wsX6_unlike (va_wsS RX6 104 yJ6_bitCount_0f7a4 wsJ6_bitCount_0f7a4) := goodIn_app (goodIn_of _ (by decide +kernel)) ggX6_unlike_J6_bitCount_0f7a4
set_option maxRecDepth 20000 in
theorem ggX6_apart_X6_isReplica : GoodIn wsX6_apart wsX6_isReplica := goodIn_r _ [7, 1, 8, 9, 6, 10] (by decide +kernel) (by decide +kernel)
set_option maxRecDepth 20000 in
theorem gX6_apart_X6_isReplica : GoodIn wsX6_apart (va_wsS RX6 131 yX6_isReplica wsX6_isReplica) := goodIn_app (goodIn_of _ (by decide +kernel)) ggX6_apart_X6_isReplica
set_option maxRecDepth 20000 in
theorem ggX6_apart_X6_in : GoodIn wsX6_apart wsX6_in := goodIn_r _ [10] (by decide +kernel) (by decide +kernel)
set_option maxRecDepth 20000 in
theorem gX6_apart_X6_in : GoodIn wsX6_apart (va_wsS RX6 86 yX6_in wsX6_in) := goodIn_app (goodIn_of _ (by decide +kernel)) ggX6_apart_X6_in
set_option maxRecDepth 20000 in
theorem ggX6_apart_X6_isAhead : GoodIn wsX6_apart wsX6_isAhead := goodIn_r _ [14, 15, 16, 17, 6, 18, 2, 19, 20, 21, 22, 3, 23, 24, 25, 26, 27, 28, 29, 30, 42, 43, 44, 45, 46, 47, 48, 49, 50, 51, 52, 53, 54, 55, 56, 57, 58, 59, 60, 61, 62, 63, 64, 65, 66, 67, 68] (by decide +kernel) (by decide +kernel)
set_option maxRecDepth 20000 in
theorem gX6_apart_X6_isAhead : GoodIn wsX6_apart (wsV RX6 198 RX6 yX6_isAhead wsX6_isAhead) := goodIn_app (goodIn_of _ (by decide +kernel)) ggX6_apart_X6_isAhead
set_option maxRecDepth 20000 in
theorem ggX6_apart_X6_unlike : GoodIn wsX6_apart wsX6_unlike := goodIn_r _ [34, 35, 36, 37, 38, 39, 40, 41] (by decide +kernel) (by decide +kernel)
set_option maxRecDepth 20000 in
theorem gX6_apart_X6_unlike : GoodIn wsX6_apart (wsV RX6 201 RX6 yX6_unlike wsX6_unlike) := goodIn_app (goodIn_of _ (by decide +kernel)) ggX6_apart_X6_unlike
set_option maxRecDepth 20000 in
theorem ggX6_isByLetters_X6_again : GoodIn wsX6_isByLetters wsX6_again := goodIn_r _ [6, 7, 8, 9, 10, 11, 12, 46, 47, 48, 49, 50, 51, 52, 53, 54, 55, 56, 57, 58, 59, 60, 61, 62, 63, 64, 65, 66, 67, 68, 69, 70, 71, 72] (by decide +kernel) (by decide +kernel)
set_option maxRecDepth 20000 in
theorem gX6_isByLetters_X6_again : GoodIn wsX6_isByLetters (wsV RX6 110 RX6 yX6_again wsX6_again) := goodIn_app (goodIn_of _ (by decide +kernel)) ggX6_isByLetters_X6_again
set_option maxRecDepth 20000 in
theorem ggX6_isByLetters_X6_join : GoodIn wsX6_isByLetters wsX6_join := goodIn_r _ [16, 12, 7, 46, 47, 48, 49, 50, 51, 52, 53, 54, 55, 56, 57, 58, 59, 60, 61, 62, 63, 64, 65, 66, 67, 68, 69, 70, 71, 72] (by decide +kernel) (by decide +kernel)
set_option maxRecDepth 20000 in
theorem gX6_isByLetters_X6_join : GoodIn wsX6_isByLetters (wsV RX6 114 RX6 yX6_join wsX6_join) := goodIn_app (goodIn_of _ (by decide +kernel)) ggX6_isByLetters_X6_join
set_option maxRecDepth 20000 in
theorem ggX6_isByLetters_X6_worthNow : GoodIn wsX6_isByLetters wsX6_worthNow := goodIn_r _ [20, 21, 22, 23, 24, 5, 25, 26, 12, 27, 28, 29, 30, 31, 32, 33, 34, 35, 36, 37, 38, 39, 40, 41, 42, 43, 44, 45, 46, 47, 48, 49, 50, 51, 52, 53, 54, 55, 56, 57, 58, 59, 60, 61, 62, 63, 64, 65, 66, 67, 68, 69, 70, 71, 72] (by decide +kernel) (by decide +kernel)
set_option maxRecDepth 20000 in
theorem gX6_isByLetters_X6_worthNow : GoodIn wsX6_isByLetters (wsV RX6 161 RX6 yX6_worthNow wsX6_worthNow) := goodIn_app (goodIn_of _ (by decide +kernel)) ggX6_isByLetters_X6_worthNow
set_option maxRecDepth 20000 in
theorem ggX6_needs_X6_isReplica : GoodIn wsX6_needs wsX6_isReplica := goodIn_r _ [6, 7, 8, 9, 5, 10] (by decide +kernel) (by decide +kernel)
set_option maxRecDepth 20000 in
theorem gX6_needs_X6_isReplica : GoodIn wsX6_needs (va_wsS RX6 131 yX6_isReplica wsX6_isReplica) := goodIn_app (goodIn_of _ (by decide +kernel)) ggX6_needs_X6_isReplica
set_option maxRecDepth 20000 in
theorem ggX6_needs_X6_isObject : GoodIn wsX6_needs wsX6_isObject := goodIn_r _ [13, 14, 7, 8, 9, 5, 10] (by decide +kernel) (by decide +kernel)
set_option maxRecDepth 20000 in
theorem gX6_needs_X6_isObject : GoodIn wsX6_needs (va_wsS RX6 135 yX6_isObject wsX6_isObject) := goodIn_app (goodIn_of _ (by decide +kernel)) ggX6_needs_X6_isObject
set_option maxRecDepth 20000 in
theorem ggX6_needs_X6_in : GoodIn wsX6_needs wsX6_in := goodIn_r _ [10] (by decide +kernel) (by decide +kernel)
set_option maxRecDepth 20000 in
theorem gX6_needs_X6_in : GoodIn wsX6_needs (va_wsS RX6 86 yX6_in wsX6_in) := goodIn_app (goodIn_of _ (by decide +kernel)) ggX6_needs_X6_in
set_option maxRecDepth 20000 in
theorem ggX6_needs_J6_bitCount_0f7a4 : GoodIn wsX6_needs wsJ6_bitCount_0f7a4 := goodIn_r _ [18, 19, 20, 21] (by decide +kernel) (by decide +kernel)
set_option maxRecDepth 20000 in
theorem gX6_needs_J6_bitCount_0f7a4 : GoodIn wsX6_needs (va_wsS RX6 104 yJ6_bitCount_0f7a4 wsJ6_bitCount_0f7a4) := goodIn_app (goodIn_of _ (by decide +kernel)) ggX6_needs_J6_bitCount_0f7a4
set_option maxRecDepth 20000 in
theorem ggX6_needs_X6_isByLetters : GoodIn wsX6_needs wsX6_isByLetters := goodIn_r _ [25, 1, 26, 27, 28, 5, 29, 30, 31, 32, 33, 34, 35, 36, 37, 38, 39, 40, 41, 42, 43, 44, 45, 46, 47, 48, 49, 50, 51, 52, 53, 54, 55, 56, 57, 58, 59, 60, 61, 62, 63, 64, 65, 66, 67, 68, 69, 70, 71, 72, 73, 74, 75, 76, 77, 78, 79, 80, 81, 82, 83, 84, 85, 86, 87, 88, 89, 90, 91, 92, 93, 94, 95] (by decide +kernel) (by decide +kernel)
set_option maxRecDepth 20000 in
theorem gX6_needs_X6_isByLetters : GoodIn wsX6_needs (wsV RX6 205 RX6 yX6_isByLetters wsX6_isByLetters) := goodIn_app (goodIn_of _ (by decide +kernel)) ggX6_needs_X6_isByLetters
set_option maxRecDepth 20000 in
theorem ggX6_alikeMet_X6_areAlike : GoodIn wsX6_alikeMet wsX6_areAlike := goodIn_r _ [5, 6, 7, 8, 9, 10, 11, 12, 13, 14, 15, 16, 17, 18, 19, 20, 21, 22, 23, 24, 25, 26, 27, 28, 29, 30, 31, 32, 33, 34] (by decide +kernel) (by decide +kernel)
set_option maxRecDepth 20000 in
theorem gX6_alikeMet_X6_areAlike : GoodIn wsX6_alikeMet (wsV RX6 195 RX6 yX6_areAlike wsX6_areAlike) := goodIn_app (goodIn_of _ (by decide +kernel)) ggX6_alikeMet_X6_areAlike
set_option maxRecDepth 20000 in
theorem ggX6_byLot_X6_meets : GoodIn wsX6_byLot wsX6_meets := goodIn_r _ [6, 7, 8, 9, 5, 10, 11, 12, 13, 14, 15, 16, 17, 18, 19, 20, 29, 30, 31, 32, 33, 34, 35, 36, 37, 38, 39, 40, 41, 42, 43, 44, 45, 46, 47, 48, 49, 50, 51, 52, 53, 54, 55] (by decide +kernel) (by decide +kernel)
set_option maxRecDepth 20000 in
theorem gX6_byLot_X6_meets : GoodIn wsX6_byLot (wsV RX6 192 RX6 yX6_meets wsX6_meets) := goodIn_app (goodIn_of _ (by decide +kernel)) ggX6_byLot_X6_meets
set_option maxRecDepth 20000 in
theorem ggX6_byLot_X6_again : GoodIn wsX6_byLot wsX6_again := goodIn_r _ [10, 11, 12, 13, 14, 15, 16, 29, 30, 31, 32, 33, 34, 35, 36, 37, 38, 39, 40, 41, 42, 43, 44, 45, 46, 47, 48, 49, 50, 51, 52, 53, 54, 55] (by decide +kernel) (by decide +kernel)
set_option maxRecDepth 20000 in
theorem gX6_byLot_X6_again : GoodIn wsX6_byLot (wsV RX6 110 RX6 yX6_again wsX6_again) := goodIn_app (goodIn_of _ (by decide +kernel)) ggX6_byLot_X6_again
set_option maxRecDepth 20000 in
theorem ggX6_byLot_X6_join : GoodIn wsX6_byLot wsX6_join := goodIn_r _ [20, 16, 11, 29, 30, 31, 32, 33, 34, 35, 36, 37, 38, 39, 40, 41, 42, 43, 44, 45, 46, 47, 48, 49, 50, 51, 52, 53, 54, 55] (by decide +kernel) (by decide +kernel)
set_option maxRecDepth 20000 in
theorem gX6_byLot_X6_join : GoodIn wsX6_byLot (wsV RX6 114 RX6 yX6_join wsX6_join) := goodIn_app (goodIn_of _ (by decide +kernel)) ggX6_byLot_X6_join
set_option maxRecDepth 20000 in
theorem ggX6_byLot_X6_alikeMet : GoodIn wsX6_byLot wsX6_alikeMet := goodIn_r _ [24, 25, 26, 27, 5, 28, 11, 16, 29, 30, 31, 32, 33, 34, 35, 36, 37, 38, 39, 40, 41, 42, 43, 44, 45, 46, 47, 48, 49, 50, 51, 52, 53, 54, 55] (by decide +kernel) (by decide +kernel)
set_option maxRecDepth 20000 in
theorem gX6_byLot_X6_alikeMet : GoodIn wsX6_byLot (wsV RX6 210 RX6 yX6_alikeMet wsX6_alikeMet) := goodIn_app (goodIn_of _ (by decide +kernel)) ggX6_byLot_X6_alikeMet
set_option maxRecDepth 20000 in
theorem ggX6_drawn_X6_in : GoodIn wsX6_drawn wsX6_in := goodIn_r _ [5] (by decide +kernel) (by decide +kernel)
set_option maxRecDepth 20000 in
theorem gX6_drawn_X6_in : GoodIn wsX6_drawn (va_wsS RX6 86 yX6_in wsX6_in) := goodIn_app (goodIn_of _ (by decide +kernel)) ggX6_drawn_X6_in
set_option maxRecDepth 20000 in
theorem ggX6_drawn_X6_byLot : GoodIn wsX6_drawn wsX6_byLot := goodIn_r _ [9, 10, 11, 12, 13, 4, 14, 15, 16, 17, 18, 19, 20, 21, 22, 23, 24, 25, 26, 27, 28, 29, 30, 31, 32, 33, 34, 35, 36, 37, 38, 39, 40, 41, 42, 43, 44, 45, 46, 47, 48, 49, 50, 51, 52, 53, 54, 55, 56, 57, 58, 59, 60, 61, 62, 63] (by decide +kernel) (by decide +kernel)
set_option maxRecDepth 20000 in
theorem gX6_drawn_X6_byLot : GoodIn wsX6_drawn (wsV RX6 215 RX6 yX6_byLot wsX6_byLot) := goodIn_app (goodIn_of _ (by decide +kernel)) ggX6_drawn_X6_byLot
set_option maxRecDepth 20000 in
theorem ggX6_common_X6_common : GoodIn wsX6_common wsX6_common := goodIn_r _ [0, 1, 2, 3] (by decide +kernel) (by decide +kernel)
set_option maxRecDepth 20000 in
theorem gX6_common_X6_common : GoodIn wsX6_common (va_wsS RX6 218 yX6_common wsX6_common) := goodIn_app (goodIn_of _ (by decide +kernel)) ggX6_common_X6_common
set_option maxRecDepth 20000 in
theorem ggX6_chance_X6_in : GoodIn wsX6_chance wsX6_in := goodIn_r _ [5] (by decide +kernel) (by decide +kernel)
set_option maxRecDepth 20000 in
theorem gX6_chance_X6_in : GoodIn wsX6_chance (va_wsS RX6 86 yX6_in wsX6_in) := goodIn_app (goodIn_of _ (by decide +kernel)) ggX6_chance_X6_in
set_option maxRecDepth 20000 in
theorem ggX6_chance_X6_byLot : GoodIn wsX6_chance wsX6_byLot := goodIn_r _ [9, 10, 11, 12, 13, 4, 14, 15, 16, 17, 18, 19, 20, 21, 22, 23, 24, 25, 26, 27, 28, 29, 30, 31, 32, 33, 34, 35, 36, 40, 41, 42, 43, 44, 45, 46, 47, 48, 49, 50, 51, 52, 53, 54, 55, 56, 57, 58, 59, 60, 61, 62, 63, 64, 65, 66] (by decide +kernel) (by decide +kernel)
set_option maxRecDepth 20000 in
theorem gX6_chance_X6_byLot : GoodIn wsX6_chance (wsV RX6 215 RX6 yX6_byLot wsX6_byLot) := goodIn_app (goodIn_of _ (by decide +kernel)) ggX6_chance_X6_byLot
set_option maxRecDepth 20000 in
theorem ggX6_chance_X6_common : GoodIn wsX6_chance wsX6_common := goodIn_r _ [39, 37, 38, 4] (by decide +kernel) (by decide +kernel)
set_option maxRecDepth 20000 in
theorem gX6_chance_X6_common : GoodIn wsX6_chance (va_wsS RX6 218 yX6_common wsX6_common) := goodIn_app (goodIn_of _ (by decide +kernel)) ggX6_chance_X6_common
set_option maxRecDepth 20000 in
theorem ggX6_otherwise_X6_worthNow : GoodIn wsX6_otherwise wsX6_worthNow := goodIn_r _ [7, 8, 9, 10, 11, 6, 12, 13, 14, 15, 16, 17, 18, 19, 20, 21, 22, 23, 24, 25, 26, 27, 28, 29, 30, 31, 32, 33, 34, 35, 36, 37, 38, 39, 40, 41, 42, 43, 44, 45, 46, 47, 48, 49, 50, 51, 52, 53, 54, 55, 56, 57, 58, 59, 60] (by decide +kernel) (by decide +kernel)
set_option maxRecDepth 20000 in
theorem gX6_otherwise_X6_worthNow : GoodIn wsX6_otherwise (wsV RX6 161 RX6 yX6_worthNow wsX6_worthNow) := goodIn_app (goodIn_of _ (by decide +kernel)) ggX6_otherwise_X6_worthNow
set_option maxRecDepth 20000 in
theorem ggX6_kindsBy_X6_otherwise : GoodIn wsX6_kindsBy wsX6_otherwise := goodIn_r _ [6, 7, 8, 9, 10, 11, 5, 12, 1, 13, 14, 15, 16, 17, 18, 19, 20, 21, 22, 23, 24, 25, 26, 27, 28, 29, 30, 31, 32, 33, 34, 35, 36, 37, 38, 39, 40, 41, 42, 43, 44, 45, 46, 47, 48, 49, 50, 51, 52, 53, 54, 55, 56, 57, 58, 59, 60, 61, 62, 63, 64] (by decide +kernel) (by decide +kernel)
set_option maxRecDepth 20000 in
theorem gX6_kindsBy_X6_otherwise : GoodIn wsX6_kindsBy (wsV RX6 223 RX6 yX6_otherwise wsX6_otherwise) := goodIn_app (goodIn_of _ (by decide +kernel)) ggX6_kindsBy_X6_otherwise
set_option maxRecDepth 20000 in
theorem ggX6_tells_X6_isSheet : GoodIn wsX6_tells wsX6_isSheet := goodIn_r _ [9, 1, 10, 11, 8, 12] (by decide +kernel) (by decide +kernel)
set_option maxRecDepth 20000 in
theorem gX6_tells_X6_isSheet : GoodIn wsX6_tells (va_wsS RX6 227 yX6_isSheet wsX6_isSheet) := goodIn_app (goodIn_of _ (by decide +kernel)) ggX6_tells_X6_isSheet
set_option maxRecDepth 20000 in
theorem ggX6_tells_X6_isReplica : GoodIn wsX6_tells wsX6_isReplica := goodIn_r _ [15, 1, 10, 11, 8, 12] (by decide +kernel) (by decide +kernel)
set_option maxRecDepth 20000 in
theorem gX6_tells_X6_isReplica : GoodIn wsX6_tells (va_wsS RX6 131 yX6_isReplica wsX6_isReplica) := goodIn_app (goodIn_of _ (by decide +kernel)) ggX6_tells_X6_isReplica
set_option maxRecDepth 20000 in
theorem ggX6_tells_X6_isObject : GoodIn wsX6_tells wsX6_isObject := goodIn_r _ [18, 19, 1, 10, 11, 8, 12] (by decide +kernel) (by decide +kernel)
set_option maxRecDepth 20000 in
theorem gX6_tells_X6_isObject : GoodIn wsX6_tells (va_wsS RX6 135 yX6_isObject wsX6_isObject) := goodIn_app (goodIn_of _ (by decide +kernel)) ggX6_tells_X6_isObject
set_option maxRecDepth 20000 in
theorem ggX6_tells_X6_in : GoodIn wsX6_tells wsX6_in := goodIn_r _ [12] (by decide +kernel) (by decide +kernel)
set_option maxRecDepth 20000 in
theorem gX6_tells_X6_in : GoodIn wsX6_tells (va_wsS RX6 86 yX6_in wsX6_in) := goodIn_app (goodIn_of _ (by decide +kernel)) ggX6_tells_X6_in
set_option maxRecDepth 20000 in
theorem ggX6_tells_X6_otherwise : GoodIn wsX6_tells wsX6_otherwise := goodIn_r _ [23, 3, 24, 25, 26, 27, 8, 28, 29, 30, 31, 32, 33, 34, 35, 36, 37, 38, 39, 40, 41, 42, 43, 44, 45, 46, 47, 48, 49, 50, 51, 52, 53, 54, 72, 73, 74, 75, 76, 77, 78, 79, 80, 81, 82, 83, 84, 85, 86, 87, 88, 89, 90, 91, 92, 93, 94, 95, 96, 97, 98] (by decide +kernel) (by decide +kernel)
set_option maxRecDepth 20000 in
theorem gX6_tells_X6_otherwise : GoodIn wsX6_tells (wsV RX6 223 RX6 yX6_otherwise wsX6_otherwise) := goodIn_app (goodIn_of _ (by decide +kernel)) ggX6_tells_X6_otherwise
set_option maxRecDepth 20000 in
theorem ggX6_tells_X6_kindsBy : GoodIn wsX6_tells wsX6_kindsBy := goodIn_r _ [58, 29, 20, 21, 22, 8, 23, 3, 24, 25, 26, 27, 28, 30, 31, 32, 33, 34, 35, 36, 37, 38, 39, 40, 41, 42, 43, 44, 45, 46, 47, 48, 49, 50, 51, 52, 53, 54, 72, 73, 74, 75, 76, 77, 78, 79, 80, 81, 82, 83, 84, 85, 86, 87, 88, 89, 90, 91, 92, 93, 94, 95, 96, 97, 98] (by decide +kernel) (by decide +kernel)
set_option maxRecDepth 20000 in
theorem gX6_tells_X6_kindsBy : GoodIn wsX6_tells (wsV RX6 230 RX6 yX6_kindsBy wsX6_kindsBy) := goodIn_app (goodIn_of _ (by decide +kernel)) ggX6_tells_X6_kindsBy
set_option maxRecDepth 20000 in
theorem ggX6_tells_X6_again : GoodIn wsX6_tells wsX6_again := goodIn_r _ [62, 63, 64, 65, 66, 67, 35, 72, 73, 74, 75, 76, 77, 78, 79, 80, 81, 82, 83, 84, 85, 86, 87, 88, 89, 90, 91, 92, 93, 94, 95, 96, 97, 98] (by decide +kernel) (by decide +kernel)
set_option maxRecDepth 20000 in
theorem gX6_tells_X6_again : GoodIn wsX6_tells (wsV RX6 110 RX6 yX6_again wsX6_again) := goodIn_app (goodIn_of _ (by decide +kernel)) ggX6_tells_X6_again
set_option maxRecDepth 20000 in
theorem ggX6_tells_X6_join : GoodIn wsX6_tells wsX6_join := goodIn_r _ [71, 35, 63, 72, 73, 74, 75, 76, 77, 78, 79, 80, 81, 82, 83, 84, 85, 86, 87, 88, 89, 90, 91, 92, 93, 94, 95, 96, 97, 98] (by decide +kernel) (by decide +kernel)
set_option maxRecDepth 20000 in
theorem gX6_tells_X6_join : GoodIn wsX6_tells (wsV RX6 114 RX6 yX6_join wsX6_join) := goodIn_app (goodIn_of _ (by decide +kernel)) ggX6_tells_X6_join
set_option maxRecDepth 20000 in
theorem ggX6_film_X6_isSheet : GoodIn wsX6_film wsX6_isSheet := goodIn_r _ [8, 9, 10, 11, 7, 12] (by decide +kernel) (by decide +kernel)
set_option maxRecDepth 20000 in
theorem gX6_film_X6_isSheet : GoodIn wsX6_film (va_wsS RX6 227 yX6_isSheet wsX6_isSheet) := goodIn_app (goodIn_of _ (by decide +kernel)) ggX6_film_X6_isSheet
set_option maxRecDepth 20000 in
theorem ggX6_film_X6_isReplica : GoodIn wsX6_film wsX6_isReplica := goodIn_r _ [15, 9, 10, 11, 7, 12] (by decide +kernel) (by decide +kernel)
set_option maxRecDepth 20000 in
theorem gX6_film_X6_isReplica : GoodIn wsX6_film (va_wsS RX6 131 yX6_isReplica wsX6_isReplica) := goodIn_app (goodIn_of _ (by decide +kernel)) ggX6_film_X6_isReplica
set_option maxRecDepth 20000 in
theorem ggX6_film_X6_isObject : GoodIn wsX6_film wsX6_isObject := goodIn_r _ [18, 19, 9, 10, 11, 7, 12] (by decide +kernel) (by decide +kernel)
set_option maxRecDepth 20000 in
theorem gX6_film_X6_isObject : GoodIn wsX6_film (va_wsS RX6 135 yX6_isObject wsX6_isObject) := goodIn_app (goodIn_of _ (by decide +kernel)) ggX6_film_X6_isObject
set_option maxRecDepth 20000 in
theorem ggX6_film_X6_in : GoodIn wsX6_film wsX6_in := goodIn_r _ [12] (by decide +kernel) (by decide +kernel)
set_option maxRecDepth 20000 in
theorem gX6_film_X6_in : GoodIn wsX6_film (va_wsS RX6 86 yX6_in wsX6_in) := goodIn_app (goodIn_of _ (by decide +kernel)) ggX6_film_X6_in
set_option maxRecDepth 20000 in
theorem ggX6_film_X6_worthNow : GoodIn wsX6_film wsX6_worthNow := goodIn_r _ [23, 24, 25, 26, 27, 7, 28, 29, 30, 31, 32, 33, 34, 35, 36, 37, 38, 39, 40, 41, 42, 43, 44, 45, 46, 47, 48, 49, 50, 51, 52, 53, 54, 55, 56, 57, 58, 59, 60, 61, 62, 63, 64, 65, 66, 67, 68, 69, 70, 71, 72, 73, 74, 75, 76] (by decide +kernel) (by decide +kernel)
set_option maxRecDepth 20000 in
theorem gX6_film_X6_worthNow : GoodIn wsX6_film (wsV RX6 161 RX6 yX6_worthNow wsX6_worthNow) := goodIn_app (goodIn_of _ (by decide +kernel)) ggX6_film_X6_worthNow
set_option maxRecDepth 20000 in
theorem ggX6_image_X6_all : GoodIn wsX6_image wsX6_all := goodIn_r _ [31, 6, 7, 8, 9] (by decide +kernel) (by decide +kernel)
set_option maxRecDepth 20000 in
theorem gX6_image_X6_all : GoodIn wsX6_image (va_wsS RX6 242 yX6_all wsX6_all) := goodIn_app (goodIn_of _ (by decide +kernel)) ggX6_image_X6_all
set_option maxRecDepth 20000 in
theorem ggX6_back_X6_all : GoodIn wsX6_back wsX6_all := goodIn_r _ [31, 6, 7, 8, 9] (by decide +kernel) (by decide +kernel)
set_option maxRecDepth 20000 in
theorem gX6_back_X6_all : GoodIn wsX6_back (va_wsS RX6 242 yX6_all wsX6_all) := goodIn_app (goodIn_of _ (by decide +kernel)) ggX6_back_X6_all
set_option maxRecDepth 20000 in
theorem ggX6_count_X6_meets : GoodIn wsX6_count wsX6_meets := goodIn_r _ [8, 9, 10, 11, 7, 12, 13, 14, 15, 16, 17, 3, 18, 19, 20, 21, 50, 51, 52, 53, 54, 55, 56, 57, 58, 59, 60, 61, 62, 63, 64, 65, 66, 67, 68, 69, 70, 71, 72, 73, 74, 75, 76] (by decide +kernel) (by decide +kernel)
set_option maxRecDepth 20000 in
theorem gX6_count_X6_meets : GoodIn wsX6_count (wsV RX6 192 RX6 yX6_meets wsX6_meets) := goodIn_app (goodIn_of _ (by decide +kernel)) ggX6_count_X6_meets
set_option maxRecDepth 20000 in
theorem ggX6_count_X6_alikeMet : GoodIn wsX6_count wsX6_alikeMet := goodIn_r _ [25, 26, 27, 28, 7, 29, 13, 3, 50, 51, 52, 53, 54, 55, 56, 57, 58, 59, 60, 61, 62, 63, 64, 65, 66, 67, 68, 69, 70, 71, 72, 73, 74, 75, 76] (by decide +kernel) (by decide +kernel)
set_option maxRecDepth 20000 in
theorem gX6_count_X6_alikeMet : GoodIn wsX6_count (wsV RX6 210 RX6 yX6_alikeMet wsX6_alikeMet) := goodIn_app (goodIn_of _ (by decide +kernel)) ggX6_count_X6_alikeMet
set_option maxRecDepth 20000 in
theorem ggX6_count_X6_bitsOf : GoodIn wsX6_count wsX6_bitsOf := goodIn_r _ [33, 34, 35, 36, 37, 38, 39, 40] (by decide +kernel) (by decide +kernel)
set_option maxRecDepth 20000 in
theorem gX6_count_X6_bitsOf : GoodIn wsX6_count (wsV RX6 185 RX6 yX6_bitsOf wsX6_bitsOf) := goodIn_app (goodIn_of _ (by decide +kernel)) ggX6_count_X6_bitsOf
set_option maxRecDepth 20000 in
theorem ggX6_count_X6_tags : GoodIn wsX6_count wsX6_tags := goodIn_r _ [44, 13, 3, 45, 46, 47, 7, 48, 49, 50, 51, 52, 53, 54, 55, 56, 57, 58, 59, 60, 61, 62, 63, 64, 65, 66, 67, 68, 69, 70, 71, 72, 73, 74, 75, 76] (by decide +kernel) (by decide +kernel)
set_option maxRecDepth 20000 in
theorem gX6_count_X6_tags : GoodIn wsX6_count (wsV RX6 176 RX6 yX6_tags wsX6_tags) := goodIn_app (goodIn_of _ (by decide +kernel)) ggX6_count_X6_tags
set_option maxRecDepth 20000 in
theorem ggX6_count_J6_bitCount_0f7a4 : GoodIn wsX6_count wsJ6_bitCount_0f7a4 := goodIn_r _ [37, 38, 39, 40] (by decide +kernel) (by decide +kernel)
set_option maxRecDepth 20000 in
theorem gX6_count_J6_bitCount_0f7a4 : GoodIn wsX6_count (va_wsS RX6 104 yJ6_bitCount_0f7a4 wsJ6_bitCount_0f7a4) := goodIn_app (goodIn_of _ (by decide +kernel)) ggX6_count_J6_bitCount_0f7a4
set_option maxRecDepth 20000 in
theorem ggX6_isSheet_X6_in : GoodIn wsX6_isSheet wsX6_in := goodIn_r _ [5] (by decide +kernel) (by decide +kernel)
set_option maxRecDepth 20000 in
theorem gX6_isSheet_X6_in : GoodIn wsX6_isSheet (va_wsS RX6 86 yX6_in wsX6_in) := goodIn_app (goodIn_of _ (by decide +kernel)) ggX6_isSheet_X6_in
set_option maxRecDepth 20000 in
theorem ggX6_sheet_X6_isSheet : GoodIn wsX6_sheet wsX6_isSheet := goodIn_r _ [8, 9, 10, 11, 7, 12] (by decide +kernel) (by decide +kernel)
set_option maxRecDepth 20000 in
theorem gX6_sheet_X6_isSheet : GoodIn wsX6_sheet (va_wsS RX6 227 yX6_isSheet wsX6_isSheet) := goodIn_app (goodIn_of _ (by decide +kernel)) ggX6_sheet_X6_isSheet
set_option maxRecDepth 20000 in
theorem ggX6_sheet_X6_in : GoodIn wsX6_sheet wsX6_in := goodIn_r _ [12] (by decide +kernel) (by decide +kernel)
set_option maxRecDepth 20000 in
theorem gX6_sheet_X6_in : GoodIn wsX6_sheet (va_wsS RX6 86 yX6_in wsX6_in) := goodIn_app (goodIn_of _ (by decide +kernel)) ggX6_sheet_X6_in
set_option maxRecDepth 20000 in
theorem ggX6_refusal_X6_isSheet : GoodIn wsX6_refusal wsX6_isSheet := goodIn_r _ [6, 7, 8, 9, 5, 10] (by decide +kernel) (by decide +kernel)
set_option maxRecDepth 20000 in
theorem gX6_refusal_X6_isSheet : GoodIn wsX6_refusal (va_wsS RX6 227 yX6_isSheet wsX6_isSheet) := goodIn_app (goodIn_of _ (by decide +kernel)) ggX6_refusal_X6_isSheet
set_option maxRecDepth 20000 in
theorem ggX6_refusal_X6_in : GoodIn wsX6_refusal wsX6_in := goodIn_r _ [10] (by decide +kernel) (by decide +kernel)
set_option maxRecDepth 20000 in
theorem gX6_refusal_X6_in : GoodIn wsX6_refusal (va_wsS RX6 86 yX6_in wsX6_in) := goodIn_app (goodIn_of _ (by decide +kernel)) ggX6_refusal_X6_in
set_option maxRecDepth 20000 in
theorem ggX6_put_X6_refusal : GoodIn wsX6_put wsX6_refusal := goodIn_r _ [8, 2, 9, 10, 11, 7, 12, 13, 14, 15, 16, 29, 30, 31, 32, 33, 34, 35, 36, 37, 38, 39, 40, 41, 42, 43, 44, 45, 46, 47, 48, 49, 50, 51, 52, 53, 54, 55] (by decide +kernel) (by decide +kernel)
set_option maxRecDepth 20000 in
theorem gX6_put_X6_refusal : GoodIn wsX6_put (wsV RX6 248 RX6 yX6_refusal wsX6_refusal) := goodIn_app (goodIn_of _ (by decide +kernel)) ggX6_put_X6_refusal
set_option maxRecDepth 20000 in
theorem ggX6_put_Jxf58ca_floatToIntBits_5c35a : GoodIn wsX6_put wsJxf58ca_floatToIntBits_5c35a := goodIn_r _ [20, 21, 22, 23, 24, 25, 26, 27, 19, 28] (by decide +kernel) (by decide +kernel)
set_option maxRecDepth 20000 in
theorem gX6_put_Jxf58ca_floatToIntBits_5c35a : GoodIn wsX6_put (va_wsS RX6 151 yJxf58ca_floatToIntBits_5c35a wsJxf58ca_floatToIntBits_5c35a) := goodIn_app (goodIn_of _ (by decide +kernel)) ggX6_put_Jxf58ca_floatToIntBits_5c35a
set_option maxRecDepth 20000 in
theorem ggX6_item_X6_refusal : GoodIn wsX6_item wsX6_refusal := goodIn_r _ [6, 7, 8, 9, 10, 5, 11, 12, 13, 14, 15, 20, 21, 22, 23, 24, 25, 26, 27, 28, 29, 30, 31, 32, 33, 34, 35, 36, 37, 38, 39, 40, 41, 42, 43, 44, 45, 46] (by decide +kernel) (by decide +kernel)
set_option maxRecDepth 20000 in
theorem gX6_item_X6_refusal : GoodIn wsX6_item (wsV RX6 248 RX6 yX6_refusal wsX6_refusal) := goodIn_app (goodIn_of _ (by decide +kernel)) ggX6_item_X6_refusal
set_option maxRecDepth 20000 in
theorem ggX6_item_X6_asLong : GoodIn wsX6_item wsX6_asLong := goodIn_r _ [18, 19] (by decide +kernel) (by decide +kernel)
set_option maxRecDepth 20000 in
theorem gX6_item_X6_asLong : GoodIn wsX6_item (va_wsS RX6 165 yX6_asLong wsX6_asLong) := goodIn_app (goodIn_of _ (by decide +kernel)) ggX6_item_X6_asLong
set_option maxRecDepth 20000 in
theorem ggX6_copy_X6_isSheet : GoodIn wsX6_copy wsX6_isSheet := goodIn_r _ [12, 13, 14, 15, 11, 16] (by decide +kernel) (by decide +kernel)
set_option maxRecDepth 20000 in
theorem gX6_copy_X6_isSheet : GoodIn wsX6_copy (va_wsS RX6 227 yX6_isSheet wsX6_isSheet) := goodIn_app (goodIn_of _ (by decide +kernel)) ggX6_copy_X6_isSheet
set_option maxRecDepth 20000 in
theorem ggJxf58ca_floatToIntBits_5c35a_Jxf58ca_isNaN_12338 : GoodIn wsJxf58ca_floatToIntBits_5c35a wsJxf58ca_isNaN_12338 := goodIn_r _ [9] (by decide +kernel) (by decide +kernel)
set_option maxRecDepth 20000 in
theorem gJxf58ca_floatToIntBits_5c35a_Jxf58ca_isNaN_12338 : GoodIn wsJxf58ca_floatToIntBits_5c35a (va_wsS RJxf58ca 59 yJxf58ca_isNaN_12338 wsJxf58ca_isNaN_12338) := goodIn_app (goodIn_of _ (by decide +kernel)) ggJxf58ca_floatToIntBits_5c35a_Jxf58ca_isNaN_12338