def wCc (x : Nat) (cI cZ : ClassId) (xGo xFo xPk xSk xAi xSh xJo : Nat → Nat) (gGo gFo gPk : St) (qPk : Int64) (gSk gAi gSh gJo : St) : va_W := (x, .inr (7, [.ref (xGo 0), .ref (xFo 0), .ref (xPk 0), .ref (xSk 0), .ref (xAi 0), .ref (xSh 0), .ref (xJo 0)])) :: (wGo xGo cI cZ gGo ++ (wFo xFo cI cZ gFo ++ (wPk xPk cI cZ gPk qPk ++ (wSk xSk cI cZ gSk ++ (wAi xAi cI cZ gAi ++ (wSh xSh cI cZ gSh ++ wJo xJo cI cZ gJo))))))
set_option maxRecDepth 20000 in
theorem k_Cc_requireRoom : YS y_Cc_requireRoom b_Cc_requireRoom 2 (Option.none : Option Jvm.ClassFile.FieldType) 2 := ⟨m_243, m_23, m_242, by decide +kernel⟩
set_option maxRecDepth 20000 in
theorem k_Cc_requireRange : YS y_Cc_requireRange b_Cc_requireRange 3 (Option.none : Option Jvm.ClassFile.FieldType) 3 := ⟨m_314, m_23, m_313, by decide +kernel⟩
set_option maxRecDepth 20000 in
theorem k_Go_add : YV y_Go_add b_Go_add 6 (some .int) 4 := ⟨m_240, m_24, m_238, m_239, by decide +kernel⟩
set_option maxRecDepth 20000 in
theorem k_Cc_object : YV y_Cc_object b_Cc_object 5 (some .int) 4 := ⟨m_236, m_23, m_234, m_235, by decide +kernel⟩
set_option maxRecDepth 20000 in
theorem k_Cc_requireIndex : YS y_Cc_requireIndex b_Cc_requireIndex 2 (Option.none : Option Jvm.ClassFile.FieldType) 2 := ⟨m_346, m_23, m_345, by decide +kernel⟩
set_option maxRecDepth 20000 in
theorem k_Go_setWeak : YV y_Go_setWeak b_Go_setWeak 6 (some .boolean) 3 := ⟨m_343, m_24, m_341, m_342, by decide +kernel⟩
set_option maxRecDepth 20000 in
theorem k_Cc_weak : YV y_Cc_weak b_Cc_weak 4 (some .boolean) 3 := ⟨m_339, m_23, m_337, m_338, by decide +kernel⟩
set_option maxRecDepth 20000 in
theorem k_Fo_addRow : YV y_Fo_addRow b_Fo_addRow 6 (some .int) 2 := ⟨m_373, m_25, m_371, m_372, by decide +kernel⟩
set_option maxRecDepth 20000 in
theorem k_Cc_foam : YV y_Cc_foam b_Cc_foam 3 (some .int) 2 := ⟨m_369, m_23, m_367, m_368, by decide +kernel⟩
set_option maxRecDepth 20000 in
theorem k_Fo_placeOf : YV y_Fo_placeOf b_Fo_placeOf 3 (some .int) 2 := ⟨m_391, m_25, m_390, m_1, by decide +kernel⟩
set_option maxRecDepth 20000 in
theorem k_Fo_addPoint : YV y_Fo_addPoint b_Fo_addPoint 9 (some .int) 4 := ⟨m_387, m_25, m_385, m_386, by decide +kernel⟩
set_option maxRecDepth 20000 in
theorem k_Cc_point : YV y_Cc_point b_Cc_point 5 (some .int) 4 := ⟨m_383, m_23, m_381, m_382, by decide +kernel⟩
set_option maxRecDepth 20000 in
theorem k_Ma_floorDiv : YS y_Ma_floorDiv b_Ma_floorDiv 3 (some .int) 2 := ⟨m_409, m_38, m_408, by decide +kernel⟩
set_option maxRecDepth 20000 in
theorem k_Fo_valueBetween : YV y_Fo_valueBetween b_Fo_valueBetween 6 (some .int) 3 := ⟨m_406, m_25, m_405, m_2, by decide +kernel⟩
set_option maxRecDepth 20000 in
theorem k_Fo_valueAt : YV y_Fo_valueAt b_Fo_valueAt 8 (some .int) 3 := ⟨m_402, m_25, m_400, m_401, by decide +kernel⟩
set_option maxRecDepth 20000 in
theorem k_Cc_value : YV y_Cc_value b_Cc_value 4 (some .int) 3 := ⟨m_398, m_23, m_396, m_397, by decide +kernel⟩
set_option maxRecDepth 20000 in
theorem k_Fo_leastThickness : YV y_Fo_leastThickness b_Fo_leastThickness 9 (some .int) 3 := ⟨m_420, m_25, m_418, m_419, by decide +kernel⟩
set_option maxRecDepth 20000 in
theorem k_Cc_thickness : YV y_Cc_thickness b_Cc_thickness 4 (some .int) 3 := ⟨m_416, m_23, m_414, m_415, by decide +kernel⟩
set_option maxRecDepth 20000 in
theorem k_Pk_isIn : YS y_Pk_isIn b_Pk_isIn 2 (some .boolean) 2 := ⟨m_442, m_26, m_441, by decide +kernel⟩
set_option maxRecDepth 20000 in
theorem k_Go_mayStandAnyhow : YV y_Go_mayStandAnyhow b_Go_mayStandAnyhow 2 (some .boolean) 1 := ⟨m_446, m_24, m_444, m_445, by decide +kernel⟩
set_option maxRecDepth 20000 in
theorem k_Go_sizeOf : YV y_Go_sizeOf b_Go_sizeOf 4 (some .int) 3 := ⟨m_463, m_24, m_461, m_462, by decide +kernel⟩
set_option maxRecDepth 20000 in
theorem k_Go_mayStand : YV y_Go_mayStand b_Go_mayStand 3 (some .boolean) 2 := ⟨m_469, m_24, m_467, m_468, by decide +kernel⟩
set_option maxRecDepth 20000 in
theorem k_Go_shortestWay : YV y_Go_shortestWay b_Go_shortestWay 9 (some .int) 3 := ⟨m_459, m_24, m_457, m_458, by decide +kernel⟩
set_option maxRecDepth 20000 in
theorem k_Pk_triedIsLower : YV y_Pk_triedIsLower b_Pk_triedIsLower 2 (some .boolean) 0 := ⟨m_474, m_26, m_473, m_5, by decide +kernel⟩
set_option maxRecDepth 20000 in
theorem k_Pk_keep : YV y_Pk_keep b_Pk_keep 4 (Option.none : Option Jvm.ClassFile.FieldType) 3 := ⟨m_478, m_26, m_477, m_6, by decide +kernel⟩
set_option maxRecDepth 20000 in
theorem k_Pk_tryWithin : YV y_Pk_tryWithin b_Pk_tryWithin 7 (Option.none : Option Jvm.ClassFile.FieldType) 3 := ⟨m_455, m_26, m_454, m_4, by decide +kernel⟩
set_option maxRecDepth 20000 in
theorem k_Pk_findLeast : YV y_Pk_findLeast b_Pk_findLeast 5 (Option.none : Option Jvm.ClassFile.FieldType) 1 := ⟨m_450, m_26, m_449, m_3, by decide +kernel⟩
set_option maxRecDepth 20000 in
theorem k_Pk_placeInRow : YV y_Pk_placeInRow b_Pk_placeInRow 4 (Option.none : Option Jvm.ClassFile.FieldType) 1 := ⟨m_485, m_26, m_484, m_7, by decide +kernel⟩
set_option maxRecDepth 20000 in
theorem k_In_bitCount : YS y_In_bitCount b_In_bitCount 1 (some .int) 1 := ⟨m_488, m_40, m_487, by decide +kernel⟩
set_option maxRecDepth 20000 in
theorem k_Pk_packSet : YV y_Pk_packSet b_Pk_packSet 5 (some .int) 3 := ⟨m_432, m_26, m_430, m_431, by decide +kernel⟩
set_option maxRecDepth 20000 in
theorem k_Cc_pack : YV y_Cc_pack b_Cc_pack 3 (some .int) 2 := ⟨m_428, m_23, m_426, m_427, by decide +kernel⟩
set_option maxRecDepth 20000 in
theorem k_Pk_requirePacked : YV y_Pk_requirePacked b_Pk_requirePacked 1 (Option.none : Option Jvm.ClassFile.FieldType) 0 := ⟨m_507, m_26, m_506, m_8, by decide +kernel⟩
set_option maxRecDepth 20000 in
theorem k_Pk_sizeAlong : YV y_Pk_sizeAlong b_Pk_sizeAlong 2 (some .int) 1 := ⟨m_502, m_26, m_500, m_501, by decide +kernel⟩
set_option maxRecDepth 20000 in
theorem k_Cc_size : YV y_Cc_size b_Cc_size 2 (some .int) 1 := ⟨m_498, m_23, m_496, m_497, by decide +kernel⟩
set_option maxRecDepth 20000 in
theorem k_Pk_tell : YV y_Pk_tell b_Pk_tell 3 (some .int) 2 := ⟨m_522, m_26, m_520, m_521, by decide +kernel⟩
set_option maxRecDepth 20000 in
theorem k_Cc_at : YV y_Cc_at b_Cc_at 3 (some .int) 2 := ⟨m_517, m_23, m_515, m_516, by decide +kernel⟩
set_option maxRecDepth 20000 in
theorem k_Sk_add : YV y_Sk_add b_Sk_add 4 (some .int) 3 := ⟨m_534, m_27, m_532, m_533, by decide +kernel⟩
set_option maxRecDepth 20000 in
theorem k_Cc_crate : YV y_Cc_crate b_Cc_crate 4 (some .int) 3 := ⟨m_530, m_23, m_528, m_529, by decide +kernel⟩
set_option maxRecDepth 20000 in
theorem k_Sk_hasRoom : YV y_Sk_hasRoom b_Sk_hasRoom 7 (some .boolean) 4 := ⟨m_552, m_27, m_551, m_9, by decide +kernel⟩
set_option maxRecDepth 20000 in
theorem k_Sk_takeFor : YV y_Sk_takeFor b_Sk_takeFor 10 (some .int) 3 := ⟨m_547, m_27, m_545, m_546, by decide +kernel⟩
set_option maxRecDepth 20000 in
theorem k_Cc_match : YV y_Cc_match b_Cc_match 1 (some .int) 0 := ⟨m_543, m_23, m_541, m_542, by decide +kernel⟩
set_option maxRecDepth 20000 in
theorem k_Sk_release : YV y_Sk_release b_Sk_release 3 (some .boolean) 1 := ⟨m_563, m_27, m_561, m_562, by decide +kernel⟩
set_option maxRecDepth 20000 in
theorem k_Cc_free : YV y_Cc_free b_Cc_free 2 (some .boolean) 1 := ⟨m_559, m_23, m_557, m_558, by decide +kernel⟩
set_option maxRecDepth 20000 in
theorem k_Go_partSet : YV y_Go_partSet b_Go_partSet 10 (Option.none : Option Jvm.ClassFile.FieldType) 2 := ⟨m_582, m_24, m_581, m_10, by decide +kernel⟩
set_option maxRecDepth 20000 in
theorem k_Go_leastCrates : YV y_Go_leastCrates b_Go_leastCrates 4 (some .int) 1 := ⟨m_575, m_24, m_573, m_574, by decide +kernel⟩
set_option maxRecDepth 20000 in
theorem k_Cc_split : YV y_Cc_split b_Cc_split 2 (some .int) 1 := ⟨m_571, m_23, m_569, m_570, by decide +kernel⟩
set_option maxRecDepth 20000 in
theorem k_Ai_setLag : YV y_Ai_setLag b_Ai_setLag 3 (some .int) 1 := ⟨m_593, m_28, m_591, m_592, by decide +kernel⟩
set_option maxRecDepth 20000 in
theorem k_Cc_lag : YV y_Cc_lag b_Cc_lag 2 (some .int) 1 := ⟨m_589, m_23, m_587, m_588, by decide +kernel⟩
set_option maxRecDepth 20000 in
theorem k_Ma_max : YS y_Ma_max b_Ma_max 2 (some .int) 2 := ⟨m_609, m_38, m_608, by decide +kernel⟩
set_option maxRecDepth 20000 in
theorem k_Ai_nextHour : YV y_Ai_nextHour b_Ai_nextHour 4 (some .int) 1 := ⟨m_605, m_28, m_603, m_604, by decide +kernel⟩
set_option maxRecDepth 20000 in
theorem k_Cc_climate : YV y_Cc_climate b_Cc_climate 2 (some .int) 1 := ⟨m_601, m_23, m_599, m_600, by decide +kernel⟩
set_option maxRecDepth 20000 in
theorem k_Ai_afterHour : YV y_Ai_afterHour b_Ai_afterHour 2 (some .int) 1 := ⟨m_621, m_28, m_619, m_620, by decide +kernel⟩
set_option maxRecDepth 20000 in
theorem k_Cc_inside : YV y_Cc_inside b_Cc_inside 2 (some .int) 1 := ⟨m_617, m_23, m_615, m_616, by decide +kernel⟩
set_option maxRecDepth 20000 in
theorem k_Ai_longestWithin : YV y_Ai_longestWithin b_Ai_longestWithin 7 (some .int) 2 := ⟨m_633, m_28, m_631, m_632, by decide +kernel⟩
set_option maxRecDepth 20000 in
theorem k_Cc_steady : YV y_Cc_steady b_Cc_steady 3 (some .int) 2 := ⟨m_629, m_23, m_627, m_628, by decide +kernel⟩
set_option maxRecDepth 20000 in
theorem k_Sh_allow : YV y_Sh_allow b_Sh_allow 3 (Option.none : Option Jvm.ClassFile.FieldType) 2 := ⟨m_647, m_29, m_645, m_646, by decide +kernel⟩
set_option maxRecDepth 20000 in
theorem k_Cc_limit : YV y_Cc_limit b_Cc_limit 3 (Option.none : Option Jvm.ClassFile.FieldType) 2 := ⟨m_643, m_23, m_641, m_642, by decide +kernel⟩
set_option maxRecDepth 20000 in
theorem k_Sh_add : YV y_Sh_add b_Sh_add 4 (some .boolean) 2 := ⟨m_659, m_29, m_657, m_658, by decide +kernel⟩
set_option maxRecDepth 20000 in
theorem k_Cc_shock : YV y_Cc_shock b_Cc_shock 3 (some .boolean) 2 := ⟨m_655, m_23, m_653, m_654, by decide +kernel⟩
set_option maxRecDepth 20000 in
theorem k_Jo_plan : YV y_Jo_plan b_Jo_plan 6 (some .int) 2 := ⟨m_670, m_30, m_668, m_669, by decide +kernel⟩
set_option maxRecDepth 20000 in
theorem k_Cc_route : YV y_Cc_route b_Cc_route 3 (some .int) 2 := ⟨m_666, m_23, m_664, m_665, by decide +kernel⟩
set_option maxRecDepth 20000 in
theorem k_Jo_dropOf : YV y_Jo_dropOf b_Jo_dropOf 2 (some .int) 1 := ⟨m_684, m_30, m_682, m_683, by decide +kernel⟩
set_option maxRecDepth 20000 in
theorem k_Cc_drop : YV y_Cc_drop b_Cc_drop 2 (some .int) 1 := ⟨m_680, m_23, m_678, m_679, by decide +kernel⟩
set_option maxRecDepth 20000 in
theorem k_Sk_takenCount : YV y_Sk_takenCount b_Sk_takenCount 3 (some .int) 0 := ⟨m_696, m_27, m_694, m_695, by decide +kernel⟩
set_option maxRecDepth 20000 in
theorem k_Cc_count : YV y_Cc_count b_Cc_count 2 (some .int) 1 := ⟨m_692, m_23, m_690, m_691, by decide +kernel⟩
set_option maxRecDepth 20000 in
theorem k_Mo_thrown : YV y_Mo_thrown b_Mo_thrown 1 (some .int) 0 := ⟨m_801, m_31, m_799, m_800, by decide +kernel⟩
set_option maxRecDepth 20000 in
theorem k_Mo_within : YS y_Mo_within b_Mo_within 3 (some .boolean) 3 := ⟨m_808, m_31, m_807, by decide +kernel⟩
set_option maxRecDepth 20000 in
theorem k_Mo_goes : YV y_Mo_goes b_Mo_goes 4 (some .boolean) 3 := ⟨m_813, m_31, m_812, m_11, by decide +kernel⟩
set_option maxRecDepth 20000 in
theorem k_Mo_object : YV y_Mo_object b_Mo_object 5 (some .int) 4 := ⟨m_805, m_31, m_803, m_804, by decide +kernel⟩
set_option maxRecDepth 20000 in
theorem k_Mo_isObject : YV y_Mo_isObject b_Mo_isObject 2 (some .boolean) 1 := ⟨m_821, m_31, m_820, m_12, by decide +kernel⟩
set_option maxRecDepth 20000 in
theorem k_Mo_weak : YV y_Mo_weak b_Mo_weak 5 (some .boolean) 3 := ⟨m_817, m_31, m_815, m_816, by decide +kernel⟩
set_option maxRecDepth 20000 in
theorem k_Mo_foam : YV y_Mo_foam b_Mo_foam 5 (some .int) 2 := ⟨m_825, m_31, m_823, m_824, by decide +kernel⟩
set_option maxRecDepth 20000 in
theorem k_Mo_isRow : YV y_Mo_isRow b_Mo_isRow 3 (some .boolean) 2 := ⟨m_833, m_31, m_832, m_13, by decide +kernel⟩
set_option maxRecDepth 20000 in
theorem k_Mo_point : YV y_Mo_point b_Mo_point 9 (some .int) 4 := ⟨m_829, m_31, m_827, m_828, by decide +kernel⟩
set_option maxRecDepth 20000 in
theorem k_Mo_up : YS y_Mo_up b_Mo_up 3 (some .int) 2 := ⟨m_844, m_31, m_843, by decide +kernel⟩
set_option maxRecDepth 20000 in
theorem k_Mo_valueOf : YV y_Mo_valueOf b_Mo_valueOf 4 (some .int) 2 := ⟨m_841, m_31, m_840, m_14, by decide +kernel⟩
set_option maxRecDepth 20000 in
theorem k_Mo_value : YV y_Mo_value b_Mo_value 4 (some .int) 3 := ⟨m_837, m_31, m_835, m_836, by decide +kernel⟩
set_option maxRecDepth 20000 in
theorem k_Mo_thickness : YV y_Mo_thickness b_Mo_thickness 9 (some .int) 3 := ⟨m_848, m_31, m_846, m_847, by decide +kernel⟩
set_option maxRecDepth 20000 in
theorem k_Mo_isIn : YS y_Mo_isIn b_Mo_isIn 2 (some .boolean) 2 := ⟨m_855, m_31, m_854, by decide +kernel⟩
set_option maxRecDepth 20000 in
theorem k_Mo_turn : YV y_Mo_turn b_Mo_turn 5 (Option.none : Option Jvm.ClassFile.FieldType) 2 := ⟨m_860, m_31, m_859, m_15, by decide +kernel⟩
set_option maxRecDepth 20000 in
theorem k_Mo_stands : YV y_Mo_stands b_Mo_stands 4 (some .boolean) 1 := ⟨m_864, m_31, m_863, m_16, by decide +kernel⟩
set_option maxRecDepth 20000 in
theorem k_Mo_along : YV y_Mo_along b_Mo_along 6 (some .int) 3 := ⟨m_872, m_31, m_871, m_18, by decide +kernel⟩
set_option maxRecDepth 20000 in
theorem k_Mo_lengthOf : YV y_Mo_lengthOf b_Mo_lengthOf 5 (some .int) 2 := ⟨m_868, m_31, m_867, m_17, by decide +kernel⟩
set_option maxRecDepth 20000 in
theorem k_Mo_widest : YV y_Mo_widest b_Mo_widest 7 (some .int) 3 := ⟨m_876, m_31, m_875, m_19, by decide +kernel⟩
set_option maxRecDepth 20000 in
theorem k_Mo_pack : YV y_Mo_pack b_Mo_pack 11 (some .int) 2 := ⟨m_852, m_31, m_850, m_851, by decide +kernel⟩
set_option maxRecDepth 20000 in
theorem k_Mo_size : YV y_Mo_size b_Mo_size 2 (some .int) 1 := ⟨m_880, m_31, m_878, m_879, by decide +kernel⟩
set_option maxRecDepth 20000 in
theorem k_Mo_at : YV y_Mo_at b_Mo_at 5 (some .int) 2 := ⟨m_884, m_31, m_882, m_883, by decide +kernel⟩
set_option maxRecDepth 20000 in
theorem k_Mo_crate : YV y_Mo_crate b_Mo_crate 4 (some .int) 3 := ⟨m_888, m_31, m_886, m_887, by decide +kernel⟩
set_option maxRecDepth 20000 in
theorem k_Mo_hasRoom : YV y_Mo_hasRoom b_Mo_hasRoom 6 (some .boolean) 1 := ⟨m_896, m_31, m_895, m_20, by decide +kernel⟩
set_option maxRecDepth 20000 in
theorem k_Mo_match : YV y_Mo_match b_Mo_match 7 (some .int) 0 := ⟨m_892, m_31, m_890, m_891, by decide +kernel⟩
set_option maxRecDepth 20000 in
theorem k_Mo_free : YV y_Mo_free b_Mo_free 3 (some .boolean) 1 := ⟨m_900, m_31, m_898, m_899, by decide +kernel⟩
set_option maxRecDepth 20000 in
theorem k_Mo_weight : YV y_Mo_weight b_Mo_weight 4 (some .int) 1 := ⟨m_908, m_31, m_907, m_21, by decide +kernel⟩
set_option maxRecDepth 20000 in
theorem k_Mo_split : YV y_Mo_split b_Mo_split 6 (some .int) 1 := ⟨m_904, m_31, m_902, m_903, by decide +kernel⟩
set_option maxRecDepth 20000 in
theorem k_Mo_lag : YV y_Mo_lag b_Mo_lag 3 (some .int) 1 := ⟨m_912, m_31, m_910, m_911, by decide +kernel⟩
set_option maxRecDepth 20000 in
theorem k_Mo_climate : YV y_Mo_climate b_Mo_climate 3 (some .int) 1 := ⟨m_916, m_31, m_914, m_915, by decide +kernel⟩
set_option maxRecDepth 20000 in
theorem k_Mo_inside : YV y_Mo_inside b_Mo_inside 2 (some .int) 1 := ⟨m_920, m_31, m_918, m_919, by decide +kernel⟩
set_option maxRecDepth 20000 in
theorem k_Mo_steady : YV y_Mo_steady b_Mo_steady 6 (some .int) 2 := ⟨m_924, m_31, m_922, m_923, by decide +kernel⟩
set_option maxRecDepth 20000 in
theorem k_Mo_limit : YV y_Mo_limit b_Mo_limit 3 (Option.none : Option Jvm.ClassFile.FieldType) 2 := ⟨m_928, m_31, m_926, m_927, by decide +kernel⟩
set_option maxRecDepth 20000 in
theorem k_Mo_shock : YV y_Mo_shock b_Mo_shock 4 (some .boolean) 2 := ⟨m_932, m_31, m_930, m_931, by decide +kernel⟩
set_option maxRecDepth 20000 in
theorem k_Mo_route : YV y_Mo_route b_Mo_route 6 (some .int) 2 := ⟨m_936, m_31, m_934, m_935, by decide +kernel⟩
set_option maxRecDepth 20000 in
theorem k_Mo_drop : YV y_Mo_drop b_Mo_drop 2 (some .int) 1 := ⟨m_942, m_31, m_940, m_941, by decide +kernel⟩
set_option maxRecDepth 20000 in
theorem k_Mo_count : YV y_Mo_count b_Mo_count 4 (some .int) 1 := ⟨m_946, m_31, m_944, m_945, by decide +kernel⟩
set_option maxRecDepth 20000 in
theorem t_Cc_149 : YT R_Cc 147 149 151 "java/lang/IndexOutOfBoundsException" "no such count" := ⟨m_347, m_37, List.mem_of_getElem? (i := 9) rfl, by decide, by decide +kernel, by decide +kernel, by decide +kernel, by decide +kernel, by decide +kernel⟩
set_option maxRecDepth 20000 in
theorem t_Cc_154 : YT R_Cc 147 154 151 "java/lang/IndexOutOfBoundsException" "no such number" := ⟨m_347, m_37, List.mem_of_getElem? (i := 2) rfl, by decide, by decide +kernel, by decide +kernel, by decide +kernel, by decide +kernel, by decide +kernel⟩
set_option maxRecDepth 20000 in
theorem t_Cc_158 : YT R_Cc 156 158 160 "java/lang/IllegalArgumentException" "out of range" := ⟨m_315, m_36, List.mem_of_getElem? (i := 1) rfl, by decide, by decide +kernel, by decide +kernel, by decide +kernel, by decide +kernel, by decide +kernel⟩
set_option maxRecDepth 20000 in
theorem t_Cc_163 : YT R_Cc 161 163 165 "java/lang/IllegalStateException" "no room for more" := ⟨m_244, m_35, List.mem_of_getElem? (i := 0) rfl, by decide, by decide +kernel, by decide +kernel, by decide +kernel, by decide +kernel, by decide +kernel⟩
set_option maxRecDepth 20000 in
theorem t_Ai_44 : YT R_Ai 42 44 46 "java/lang/IllegalArgumentException" "low above high" := ⟨m_634, m_36, List.mem_of_getElem? (i := 8) rfl, by decide, by decide +kernel, by decide +kernel, by decide +kernel, by decide +kernel, by decide +kernel⟩
set_option maxRecDepth 20000 in
theorem t_Go_56 : YT R_Go 54 56 58 "java/lang/IllegalArgumentException" "grams below 1" := ⟨m_576, m_36, List.mem_of_getElem? (i := 7) rfl, by decide, by decide +kernel, by decide +kernel, by decide +kernel, by decide +kernel, by decide +kernel⟩
set_option maxRecDepth 20000 in
theorem t_Pk_36 : YT R_Pk 34 36 38 "java/lang/IndexOutOfBoundsException" "no such object" := ⟨m_433, m_37, List.mem_of_getElem? (i := 3) rfl, by decide, by decide +kernel, by decide +kernel, by decide +kernel, by decide +kernel, by decide +kernel⟩
set_option maxRecDepth 20000 in
theorem t_Pk_84 : YT R_Pk 34 84 38 "java/lang/IndexOutOfBoundsException" "no such place" := ⟨m_433, m_37, List.mem_of_getElem? (i := 6) rfl, by decide, by decide +kernel, by decide +kernel, by decide +kernel, by decide +kernel, by decide +kernel⟩
set_option maxRecDepth 20000 in
theorem t_Pk_43 : YT R_Pk 41 43 45 "java/lang/IllegalArgumentException" "empty set" := ⟨m_436, m_36, List.mem_of_getElem? (i := 4) rfl, by decide, by decide +kernel, by decide +kernel, by decide +kernel, by decide +kernel, by decide +kernel⟩
set_option maxRecDepth 20000 in
theorem t_Pk_88 : YT R_Pk 86 88 90 "java/lang/IllegalStateException" "nothing was packed" := ⟨m_508, m_35, List.mem_of_getElem? (i := 5) rfl, by decide, by decide +kernel, by decide +kernel, by decide +kernel, by decide +kernel, by decide +kernel⟩
