/-! the methods' code words, by their places (by program) -/
set_option maxRecDepth 100000 in
theorem am_cd0 : lw_tbl[178]? = some (.code yX0_init cX0_init 2 (none)) := rfl
set_option maxRecDepth 100000 in
theorem am_cd1 : lw_tbl[633]? = some (.code yX0_goesOn cX0_goesOn 1 (some .boolean)) := rfl
set_option maxRecDepth 100000 in
theorem am_cd2 : lw_tbl[427]? = some (.code yX0_finish cX0_finish 2 (none)) := rfl
set_option maxRecDepth 100000 in
theorem am_cd3 : lw_tbl[406]? = some (.code yX0_mostNamed cX0_mostNamed 1 (some .int)) := rfl
set_option maxRecDepth 100000 in
theorem am_cd4 : lw_tbl[410]? = some (.code yX0_addDigest cX0_addDigest 4 (some .int)) := rfl
set_option maxRecDepth 100000 in
theorem am_cd5 : lw_tbl[449]? = some (.code yX0_digestAt cX0_digestAt 2 (some .long)) := rfl
set_option maxRecDepth 100000 in
theorem am_cd6 : lw_tbl[737]? = some (.code yX0_comeSoFar cX0_comeSoFar 1 (some .int)) := rfl
set_option maxRecDepth 100000 in
theorem am_cd7 : lw_tbl[769]? = some (.code yX0_missingPlace cX0_missingPlace 4 (some .int)) := rfl
set_option maxRecDepth 100000 in
theorem am_cd8 : lw_tbl[653]? = some (.code yX0_takeAnswer cX0_takeAnswer 3 (none)) := rfl
set_option maxRecDepth 100000 in
theorem am_cd9 : lw_tbl[171]? = some (.code yX1_init cX1_init 3 (none)) := rfl
set_option maxRecDepth 100000 in
theorem am_cd10 : lw_tbl[376]? = some (.code yX1_makeCall cX1_makeCall 4 (some .int)) := rfl
set_option maxRecDepth 100000 in
theorem am_cd11 : lw_tbl[388]? = some (.code yX1_callAt cX1_callAt 2 (some (.object "FarCacheLine$Call"))) := rfl
set_option maxRecDepth 100000 in
theorem am_cd12 : lw_tbl[384]? = some (.code yX1_writeAt cX1_writeAt 3 (some (.object "FarCacheLine$Call"))) := rfl
set_option maxRecDepth 100000 in
theorem am_cd13 : lw_tbl[419]? = some (.code yX1_open cX1_open 2 (none)) := rfl
set_option maxRecDepth 100000 in
theorem am_cd14 : lw_tbl[423]? = some (.code yX1_openFind cX1_openFind 3 (none)) := rfl
set_option maxRecDepth 100000 in
theorem am_cd15 : lw_tbl[454]? = some (.code yX1_openTell cX1_openTell 3 (none)) := rfl
set_option maxRecDepth 100000 in
theorem am_cd16 : lw_tbl[628]? = some (.code yX1_act cX1_act 3 (none)) := rfl
set_option maxRecDepth 100000 in
theorem am_cd17 : lw_tbl[638]? = some (.code yX1_takeError cX1_takeError 4 (none)) := rfl
set_option maxRecDepth 100000 in
theorem am_cd18 : lw_tbl[644]? = some (.code yX1_makeWait cX1_makeWait 2 (none)) := rfl
set_option maxRecDepth 100000 in
theorem am_cd19 : lw_tbl[648]? = some (.code yX1_actForFind cX1_actForFind 3 (none)) := rfl
set_option maxRecDepth 100000 in
theorem am_cd20 : lw_tbl[658]? = some (.code yX1_actForWrite cX1_actForWrite 3 (none)) := rfl
set_option maxRecDepth 100000 in
theorem am_cd21 : lw_tbl[663]? = some (.code yX1_actForRead cX1_actForRead 3 (none)) := rfl
set_option maxRecDepth 100000 in
theorem am_cd22 : lw_tbl[669]? = some (.code yX1_actForAsk cX1_actForAsk 3 (none)) := rfl
set_option maxRecDepth 100000 in
theorem am_cd23 : lw_tbl[676]? = some (.code yX1_actForTell cX1_actForTell 3 (none)) := rfl
set_option maxRecDepth 100000 in
theorem am_cd24 : lw_tbl[746]? = some (.code yX1_nextDue cX1_nextDue 5 (some .int)) := rfl
set_option maxRecDepth 100000 in
theorem am_cd25 : lw_tbl[751]? = some (.code yX1_runTick cX1_runTick 4 (some .int)) := rfl
set_option maxRecDepth 100000 in
theorem am_cd26 : lw_tbl[290]? = some (.code yX2_init cX2_init 1 (none)) := rfl
set_option maxRecDepth 100000 in
theorem am_cd27 : lw_tbl[155]? = some (.code yX3_init cX3_init 2 (none)) := rfl
set_option maxRecDepth 100000 in
theorem am_cd28 : lw_tbl[494]? = some (.code yX3_clear cX3_clear 1 (none)) := rfl
set_option maxRecDepth 100000 in
theorem am_cd29 : lw_tbl[481]? = some (.code yX3_gather cX3_gather 2 (some .int)) := rfl
set_option maxRecDepth 100000 in
theorem am_cd30 : lw_tbl[502]? = some (.code yX3_number cX3_number 1 (some .int)) := rfl
set_option maxRecDepth 100000 in
theorem am_cd31 : lw_tbl[506]? = some (.code yX3_kind cX3_kind 1 (some .int)) := rfl
set_option maxRecDepth 100000 in
theorem am_cd32 : lw_tbl[526]? = some (.code yX3_place cX3_place 1 (some .int)) := rfl
set_option maxRecDepth 100000 in
theorem am_cd33 : lw_tbl[514]? = some (.code yX3_dataSize cX3_dataSize 1 (some .int)) := rfl
set_option maxRecDepth 100000 in
theorem am_cd34 : lw_tbl[522]? = some (.code yX3_dataAt cX3_dataAt 2 (some .int)) := rfl
set_option maxRecDepth 100000 in
theorem am_cd35 : lw_tbl[510]? = some (.code yX3_hasNumber cX3_hasNumber 1 (some .boolean)) := rfl
set_option maxRecDepth 100000 in
theorem am_cd36 : lw_tbl[518]? = some (.code yX3_numberData cX3_numberData 4 (some .long)) := rfl
set_option maxRecDepth 100000 in
theorem am_cd37 : lw_tbl[308]? = some (.code yX4_init cX4_init 1 (none)) := rfl
set_option maxRecDepth 100000 in
theorem am_cd38 : lw_tbl[577]? = some (.code yX4_start cX4_start 3 (none)) := rfl
set_option maxRecDepth 100000 in
theorem am_cd39 : lw_tbl[581]? = some (.code yX4_addDigest cX4_addDigest 4 (none)) := rfl
set_option maxRecDepth 100000 in
theorem am_cd40 : lw_tbl[593]? = some (.code yX4_copyOf cX4_copyOf 2 (none)) := rfl
set_option maxRecDepth 100000 in
theorem am_cd41 : lw_tbl[184]? = some (.code yX5_init cX5_init 1 (none)) := rfl
set_option maxRecDepth 100000 in
theorem am_cd42 : lw_tbl[392]? = some (.code yX5_append cX5_append 2 (some .boolean)) := rfl
set_option maxRecDepth 100000 in
theorem am_cd43 : lw_tbl[602]? = some (.code yX5_appendPiece cX5_appendPiece 4 (none)) := rfl
set_option maxRecDepth 100000 in
theorem am_cd44 : lw_tbl[623]? = some (.code yX5_copyOf cX5_copyOf 2 (none)) := rfl
set_option maxRecDepth 100000 in
theorem am_cd45 : lw_tbl[401]? = some (.code yX5_digest cX5_digest 4 (some .long)) := rfl
set_option maxRecDepth 100000 in
theorem am_cd46 : lw_tbl[281]? = some (.code yX6_init cX6_init 3 (none)) := rfl
set_option maxRecDepth 100000 in
theorem am_cd47 : lw_tbl[798]? = some (.code yX6_blobCount cX6_blobCount 3 (some .int)) := rfl
set_option maxRecDepth 100000 in
theorem am_cd48 : lw_tbl[802]? = some (.code yX6_resultCount cX6_resultCount 3 (some .int)) := rfl
set_option maxRecDepth 100000 in
theorem am_cd49 : lw_tbl[777]? = some (.code yX6_partialSize cX6_partialSize 2 (some .int)) := rfl
set_option maxRecDepth 100000 in
theorem am_cd50 : lw_tbl[789]? = some (.code yX6_dropBlob cX6_dropBlob 4 (some .boolean)) := rfl
set_option maxRecDepth 100000 in
theorem am_cd51 : lw_tbl[534]? = some (.code yX6_blobOf cX6_blobOf 4 (some (.object "FarCacheLine$Content"))) := rfl
set_option maxRecDepth 100000 in
theorem am_cd52 : lw_tbl[619]? = some (.code yX6_freeBlob cX6_freeBlob 2 (some (.object "FarCacheLine$Content"))) := rfl
set_option maxRecDepth 100000 in
theorem am_cd53 : lw_tbl[568]? = some (.code yX6_resultOf cX6_resultOf 4 (some (.object "FarCacheLine$Pledge"))) := rfl
set_option maxRecDepth 100000 in
theorem am_cd54 : lw_tbl[589]? = some (.code yX6_freeResult cX6_freeResult 2 (some (.object "FarCacheLine$Pledge"))) := rfl
set_option maxRecDepth 100000 in
theorem am_cd55 : lw_tbl[498]? = some (.code yX6_act cX6_act 3 (none)) := rfl
set_option maxRecDepth 100000 in
theorem am_cd56 : lw_tbl[547]? = some (.code yX6_sendVerdict cX6_sendVerdict 3 (none)) := rfl
set_option maxRecDepth 100000 in
theorem am_cd57 : lw_tbl[555]? = some (.code yX6_putsOff cX6_putsOff 1 (some .boolean)) := rfl
set_option maxRecDepth 100000 in
theorem am_cd58 : lw_tbl[530]? = some (.code yX6_answerFind cX6_answerFind 5 (none)) := rfl
set_option maxRecDepth 100000 in
theorem am_cd59 : lw_tbl[542]? = some (.code yX6_startWrite cX6_startWrite 5 (some .int)) := rfl
set_option maxRecDepth 100000 in
theorem am_cd60 : lw_tbl[598]? = some (.code yX6_takePiece cX6_takePiece 3 (none)) := rfl
set_option maxRecDepth 100000 in
theorem am_cd61 : lw_tbl[610]? = some (.code yX6_finishWrite cX6_finishWrite 3 (some .int)) := rfl
set_option maxRecDepth 100000 in
theorem am_cd62 : lw_tbl[615]? = some (.code yX6_keepBlob cX6_keepBlob 3 (some .int)) := rfl
set_option maxRecDepth 100000 in
theorem am_cd63 : lw_tbl[551]? = some (.code yX6_answerRead cX6_answerRead 6 (some .int)) := rfl
set_option maxRecDepth 100000 in
theorem am_cd64 : lw_tbl[564]? = some (.code yX6_answerAsk cX6_answerAsk 6 (some .int)) := rfl
set_option maxRecDepth 100000 in
theorem am_cd65 : lw_tbl[572]? = some (.code yX6_hasAllBlobs cX6_hasAllBlobs 3 (some .boolean)) := rfl
set_option maxRecDepth 100000 in
theorem am_cd66 : lw_tbl[585]? = some (.code yX6_finishTell cX6_finishTell 5 (some .int)) := rfl
set_option maxRecDepth 100000 in
theorem am_cd67 : lw_tbl[115]? = some (.code yX7_init cX7_init 2 (none)) := rfl
set_option maxRecDepth 100000 in
theorem am_cd68 : lw_tbl[490]? = some (.code yX7_clear cX7_clear 1 (none)) := rfl
set_option maxRecDepth 100000 in
theorem am_cd69 : lw_tbl[458]? = some (.code yX7_sendEmpty cX7_sendEmpty 4 (none)) := rfl
set_option maxRecDepth 100000 in
theorem am_cd70 : lw_tbl[538]? = some (.code yX7_sendByte cX7_sendByte 5 (none)) := rfl
set_option maxRecDepth 100000 in
theorem am_cd71 : lw_tbl[431]? = some (.code yX7_sendNumber cX7_sendNumber 7 (none)) := rfl
set_option maxRecDepth 100000 in
theorem am_cd72 : lw_tbl[559]? = some (.code yX7_sendPieces cX7_sendPieces 5 (none)) := rfl
set_option maxRecDepth 100000 in
theorem am_cd73 : lw_tbl[435]? = some (.code yX7_send cX7_send 10 (none)) := rfl
set_option maxRecDepth 100000 in
theorem am_cd74 : lw_tbl[439]? = some (.code yX7_makeRoom cX7_makeRoom 2 (some .boolean)) := rfl
set_option maxRecDepth 100000 in
theorem am_cd75 : lw_tbl[477]? = some (.code yX7_nextByte cX7_nextByte 2 (some .int)) := rfl
set_option maxRecDepth 100000 in
theorem am_cd76 : lw_tbl[696]? = some (.code yX7_untouched cX7_untouched 1 (some .int)) := rfl
set_option maxRecDepth 100000 in
theorem am_cd77 : lw_tbl[692]? = some (.code yX7_isUntouched cX7_isUntouched 2 (some .boolean)) := rfl
set_option maxRecDepth 100000 in
theorem am_cd78 : lw_tbl[700]? = some (.code yX7_frameIndex cX7_frameIndex 2 (some .int)) := rfl
set_option maxRecDepth 100000 in
theorem am_cd79 : lw_tbl[704]? = some (.code yX7_startOf cX7_startOf 4 (some .int)) := rfl
set_option maxRecDepth 100000 in
theorem am_cd80 : lw_tbl[688]? = some (.code yX7_dropFrame cX7_dropFrame 6 (some .boolean)) := rfl
set_option maxRecDepth 100000 in
theorem am_cd81 : lw_tbl[712]? = some (.code yX7_repeatFrame cX7_repeatFrame 5 (some .boolean)) := rfl
set_option maxRecDepth 100000 in
theorem am_cd82 : lw_tbl[720]? = some (.code yX7_changeByte cX7_changeByte 3 (some .boolean)) := rfl
set_option maxRecDepth 100000 in
theorem am_cd83 : lw_tbl[728]? = some (.code yX7_byteAt cX7_byteAt 2 (some .int)) := rfl
set_option maxRecDepth 100000 in
theorem am_cd84 : lw_tbl[101]? = some (.code yX8_init cX8_init 3 (none)) := rfl
set_option maxRecDepth 100000 in
theorem am_cd85 : lw_tbl[372]? = some (.code yX8_call cX8_call 4 (some .int)) := rfl
set_option maxRecDepth 100000 in
theorem am_cd86 : lw_tbl[380]? = some (.code yX8_data cX8_data 4 (some .int)) := rfl
set_option maxRecDepth 100000 in
theorem am_cd87 : lw_tbl[396]? = some (.code yX8_name cX8_name 7 (some .int)) := rfl
set_option maxRecDepth 100000 in
theorem am_cd88 : lw_tbl[414]? = some (.code yX8_begin cX8_begin 4 (some .boolean)) := rfl
set_option maxRecDepth 100000 in
theorem am_cd89 : lw_tbl[462]? = some (.code yX8_carry cX8_carry 3 (some .int)) := rfl
set_option maxRecDepth 100000 in
theorem am_cd90 : lw_tbl[680]? = some (.code yX8_cut cX8_cut 4 (some .int)) := rfl
set_option maxRecDepth 100000 in
theorem am_cd91 : lw_tbl[684]? = some (.code yX8_lose cX8_lose 3 (some .boolean)) := rfl
set_option maxRecDepth 100000 in
theorem am_cd92 : lw_tbl[708]? = some (.code yX8_twice cX8_twice 3 (some .boolean)) := rfl
set_option maxRecDepth 100000 in
theorem am_cd93 : lw_tbl[716]? = some (.code yX8_lie cX8_lie 4 (some .boolean)) := rfl
set_option maxRecDepth 100000 in
theorem am_cd94 : lw_tbl[724]? = some (.code yX8_underway cX8_underway 3 (some .int)) := rfl
set_option maxRecDepth 100000 in
theorem am_cd95 : lw_tbl[732]? = some (.code yX8_resume cX8_resume 3 (some .int)) := rfl
set_option maxRecDepth 100000 in
theorem am_cd96 : lw_tbl[741]? = some (.code yX8_tick cX8_tick 5 (some .int)) := rfl
set_option maxRecDepth 100000 in
theorem am_cd97 : lw_tbl[756]? = some (.code yX8_end cX8_end 3 (some .int)) := rfl
set_option maxRecDepth 100000 in
theorem am_cd98 : lw_tbl[813]? = some (.code yX8_got cX8_got 4 (some .int)) := rfl
set_option maxRecDepth 100000 in
theorem am_cd99 : lw_tbl[760]? = some (.code yX8_named cX8_named 4 (some .long)) := rfl
set_option maxRecDepth 100000 in
theorem am_cd100 : lw_tbl[765]? = some (.code yX8_missing cX8_missing 4 (some .int)) := rfl
set_option maxRecDepth 100000 in
theorem am_cd101 : lw_tbl[773]? = some (.code yX8_about cX8_about 4 (some .int)) := rfl
set_option maxRecDepth 100000 in
theorem am_cd102 : lw_tbl[781]? = some (.code yX8_busy cX8_busy 2 (some .boolean)) := rfl
set_option maxRecDepth 100000 in
theorem am_cd103 : lw_tbl[785]? = some (.code yX8_forget cX8_forget 3 (some .boolean)) := rfl
set_option maxRecDepth 100000 in
theorem am_cd104 : lw_tbl[793]? = some (.code yX8_count cX8_count 2 (some .int)) := rfl
set_option maxRecDepth 100000 in
theorem am_cd105 : lw_tbl[465]? = some (.code yX8_isEnd cX8_isEnd 1 (some .boolean)) := rfl
set_option maxRecDepth 100000 in
theorem am_cd106 : lw_tbl[473]? = some (.code yX8_wayFrom cX8_wayFrom 2 (some (.object "FarCacheLine$Way"))) := rfl
set_option maxRecDepth 100000 in
theorem am_cd107 : lw_tbl[469]? = some (.code yX8_carryFrom cX8_carryFrom 8 (some .int)) := rfl
set_option maxRecDepth 100000 in
theorem am_cd108 : lw_tbl[486]? = some (.code yX8_clearLine cX8_clearLine 1 (none)) := rfl
set_option maxRecDepth 100000 in
theorem am_cd109 : lw_tbl[445]? = some (.code yX8_sumOf cX8_sumOf 5 (some .int)) := rfl
set_option maxRecDepth 100000 in
theorem am_cd110 : lw_tbl[889]? = some (.code yX9_init cX9_init 2 (none)) := rfl
set_option maxRecDepth 100000 in
theorem am_cd111 : lw_tbl[1046]? = some (.code yX9_thrown cX9_thrown 1 (some .int)) := rfl
set_option maxRecDepth 100000 in
theorem am_cd112 : lw_tbl[1058]? = some (.code yX9_isCall cX9_isCall 2 (some .boolean)) := rfl
set_option maxRecDepth 100000 in
theorem am_cd113 : lw_tbl[1208]? = some (.code yX9_goesOn cX9_goesOn 2 (some .boolean)) := rfl
set_option maxRecDepth 100000 in
theorem am_cd114 : lw_tbl[1069]? = some (.code yX9_digestOf cX9_digestOf 6 (some .long)) := rfl
set_option maxRecDepth 100000 in
theorem am_cd115 : lw_tbl[1066]? = some (.code yX9_digestTold cX9_digestTold 2 (some .long)) := rfl
set_option maxRecDepth 100000 in
theorem am_cd116 : lw_tbl[1087]? = some (.code yX9_frameOf cX9_frameOf 4 (none)) := rfl
set_option maxRecDepth 100000 in
theorem am_cd117 : lw_tbl[1096]? = some (.code yX9_put cX9_put 2 (none)) := rfl
set_option maxRecDepth 100000 in
theorem am_cd118 : lw_tbl[1091]? = some (.code yX9_putLong cX9_putLong 4 (none)) := rfl
set_option maxRecDepth 100000 in
theorem am_cd119 : lw_tbl[1100]? = some (.code yX9_send cX9_send 6 (none)) := rfl
set_option maxRecDepth 100000 in
theorem am_cd120 : lw_tbl[1083]? = some (.code yX9_sendLong cX9_sendLong 7 (none)) := rfl
set_option maxRecDepth 100000 in
theorem am_cd121 : lw_tbl[1112]? = some (.code yX9_sendPlain cX9_sendPlain 5 (none)) := rfl
set_option maxRecDepth 100000 in
theorem am_cd122 : lw_tbl[1152]? = some (.code yX9_sendByte cX9_sendByte 6 (none)) := rfl
set_option maxRecDepth 100000 in
theorem am_cd123 : lw_tbl[1168]? = some (.code yX9_error cX9_error 3 (none)) := rfl
set_option maxRecDepth 100000 in
theorem am_cd124 : lw_tbl[1172]? = some (.code yX9_pieces cX9_pieces 9 (none)) := rfl
set_option maxRecDepth 100000 in
theorem am_cd125 : lw_tbl[1104]? = some (.code yX9_ends cX9_ends 3 (none)) := rfl
set_option maxRecDepth 100000 in
theorem am_cd126 : lw_tbl[1216]? = some (.code yX9_answers cX9_answers 4 (some .int)) := rfl
set_option maxRecDepth 100000 in
theorem am_cd127 : lw_tbl[1108]? = some (.code yX9_namedBy cX9_namedBy 2 (some .long)) := rfl
set_option maxRecDepth 100000 in
theorem am_cd128 : lw_tbl[1079]? = some (.code yX9_open cX9_open 3 (none)) := rfl
set_option maxRecDepth 100000 in
theorem am_cd129 : lw_tbl[1228]? = some (.code yX9_hold cX9_hold 2 (none)) := rfl
set_option maxRecDepth 100000 in
theorem am_cd130 : lw_tbl[1148]? = some (.code yX9_blobOf cX9_blobOf 5 (some .int)) := rfl
set_option maxRecDepth 100000 in
theorem am_cd131 : lw_tbl[1164]? = some (.code yX9_isBusy cX9_isBusy 2 (some .boolean)) := rfl
set_option maxRecDepth 100000 in
theorem am_cd132 : lw_tbl[1156]? = some (.code yX9_beginWrite cX9_beginWrite 4 (none)) := rfl
set_option maxRecDepth 100000 in
theorem am_cd133 : lw_tbl[1196]? = some (.code yX9_moreOfPartial cX9_moreOfPartial 5 (none)) := rfl
set_option maxRecDepth 100000 in
theorem am_cd134 : lw_tbl[1200]? = some (.code yX9_endWrite cX9_endWrite 6 (none)) := rfl
set_option maxRecDepth 100000 in
theorem am_cd135 : lw_tbl[1160]? = some (.code yX9_readBlob cX9_readBlob 6 (none)) := rfl
set_option maxRecDepth 100000 in
theorem am_cd136 : lw_tbl[1180]? = some (.code yX9_resultOf cX9_resultOf 5 (some .int)) := rfl
set_option maxRecDepth 100000 in
theorem am_cd137 : lw_tbl[1176]? = some (.code yX9_tellResult cX9_tellResult 7 (none)) := rfl
set_option maxRecDepth 100000 in
theorem am_cd138 : lw_tbl[1184]? = some (.code yX9_beginNote cX9_beginNote 4 (none)) := rfl
set_option maxRecDepth 100000 in
theorem am_cd139 : lw_tbl[1188]? = some (.code yX9_moreOfNote cX9_moreOfNote 5 (none)) := rfl
set_option maxRecDepth 100000 in
theorem am_cd140 : lw_tbl[1192]? = some (.code yX9_endNote cX9_endNote 5 (none)) := rfl
set_option maxRecDepth 100000 in
theorem am_cd141 : lw_tbl[1144]? = some (.code yX9_longOf cX9_longOf 5 (some .long)) := rfl
set_option maxRecDepth 100000 in
theorem am_cd142 : lw_tbl[1140]? = some (.code yX9_serve cX9_serve 7 (none)) := rfl
set_option maxRecDepth 100000 in
theorem am_cd143 : lw_tbl[1220]? = some (.code yX9_comeBytesOf cX9_comeBytesOf 5 (none)) := rfl
set_option maxRecDepth 100000 in
theorem am_cd144 : lw_tbl[1224]? = some (.code yX9_endRead cX9_endRead 3 (none)) := rfl
set_option maxRecDepth 100000 in
theorem am_cd145 : lw_tbl[1212]? = some (.code yX9_answer cX9_answer 4 (none)) := rfl
set_option maxRecDepth 100000 in
theorem am_cd146 : lw_tbl[1232]? = some (.code yX9_comeDigest cX9_comeDigest 4 (none)) := rfl
set_option maxRecDepth 100000 in
theorem am_cd147 : lw_tbl[1236]? = some (.code yX9_failed cX9_failed 4 (none)) := rfl
set_option maxRecDepth 100000 in
theorem am_cd148 : lw_tbl[1204]? = some (.code yX9_heed cX9_heed 6 (none)) := rfl
set_option maxRecDepth 100000 in
theorem am_cd149 : lw_tbl[1136]? = some (.code yX9_gone cX9_gone 2 (none)) := rfl
set_option maxRecDepth 100000 in
theorem am_cd150 : lw_tbl[1128]? = some (.code yX9_dropFrame cX9_dropFrame 4 (none)) := rfl
set_option maxRecDepth 100000 in
theorem am_cd151 : lw_tbl[1132]? = some (.code yX9_breaks cX9_breaks 1 (none)) := rfl
set_option maxRecDepth 100000 in
theorem am_cd152 : lw_tbl[1124]? = some (.code yX9_arrives cX9_arrives 8 (some .boolean)) := rfl
set_option maxRecDepth 100000 in
theorem am_cd153 : lw_tbl[1120]? = some (.code yX9_carried cX9_carried 5 (some .int)) := rfl
set_option maxRecDepth 100000 in
theorem am_cd154 : lw_tbl[1050]? = some (.code yX9_call cX9_call 4 (some .int)) := rfl
set_option maxRecDepth 100000 in
theorem am_cd155 : lw_tbl[1054]? = some (.code yX9_data cX9_data 3 (some .int)) := rfl
set_option maxRecDepth 100000 in
theorem am_cd156 : lw_tbl[1062]? = some (.code yX9_name cX9_name 5 (some .int)) := rfl
set_option maxRecDepth 100000 in
theorem am_cd157 : lw_tbl[1074]? = some (.code yX9_begin cX9_begin 3 (some .boolean)) := rfl
set_option maxRecDepth 100000 in
theorem am_cd158 : lw_tbl[1116]? = some (.code yX9_carry cX9_carry 3 (some .int)) := rfl
set_option maxRecDepth 100000 in
theorem am_cd159 : lw_tbl[1240]? = some (.code yX9_cut cX9_cut 6 (some .int)) := rfl
set_option maxRecDepth 100000 in
theorem am_cd160 : lw_tbl[1252]? = some (.code yX9_firstWhole cX9_firstWhole 2 (some .int)) := rfl
set_option maxRecDepth 100000 in
theorem am_cd161 : lw_tbl[1248]? = some (.code yX9_isWhole cX9_isWhole 3 (some .boolean)) := rfl
set_option maxRecDepth 100000 in
theorem am_cd162 : lw_tbl[1256]? = some (.code yX9_placeOf cX9_placeOf 5 (some .int)) := rfl
set_option maxRecDepth 100000 in
theorem am_cd163 : lw_tbl[1244]? = some (.code yX9_lose cX9_lose 7 (some .boolean)) := rfl
set_option maxRecDepth 100000 in
theorem am_cd164 : lw_tbl[1260]? = some (.code yX9_twice cX9_twice 7 (some .boolean)) := rfl
set_option maxRecDepth 100000 in
theorem am_cd165 : lw_tbl[1264]? = some (.code yX9_settle cX9_settle 5 (none)) := rfl
set_option maxRecDepth 100000 in
theorem am_cd166 : lw_tbl[1268]? = some (.code yX9_lie cX9_lie 5 (some .boolean)) := rfl
set_option maxRecDepth 100000 in
theorem am_cd167 : lw_tbl[1272]? = some (.code yX9_underway cX9_underway 3 (some .int)) := rfl
set_option maxRecDepth 100000 in
theorem am_cd168 : lw_tbl[1280]? = some (.code yX9_cameTo cX9_cameTo 2 (some .int)) := rfl
set_option maxRecDepth 100000 in
theorem am_cd169 : lw_tbl[1276]? = some (.code yX9_resume cX9_resume 2 (some .int)) := rfl
set_option maxRecDepth 100000 in
theorem am_cd170 : lw_tbl[1284]? = some (.code yX9_tick cX9_tick 5 (some .int)) := rfl
set_option maxRecDepth 100000 in
theorem am_cd171 : lw_tbl[1289]? = some (.code yX9_end cX9_end 2 (some .int)) := rfl
set_option maxRecDepth 100000 in
theorem am_cd172 : lw_tbl[1293]? = some (.code yX9_got cX9_got 3 (some .int)) := rfl
set_option maxRecDepth 100000 in
theorem am_cd173 : lw_tbl[1297]? = some (.code yX9_named cX9_named 3 (some .long)) := rfl
set_option maxRecDepth 100000 in
theorem am_cd174 : lw_tbl[1301]? = some (.code yX9_missing cX9_missing 5 (some .int)) := rfl
set_option maxRecDepth 100000 in
theorem am_cd175 : lw_tbl[1305]? = some (.code yX9_about cX9_about 3 (some .int)) := rfl
set_option maxRecDepth 100000 in
theorem am_cd176 : lw_tbl[1309]? = some (.code yX9_busy cX9_busy 2 (some .boolean)) := rfl
set_option maxRecDepth 100000 in
theorem am_cd177 : lw_tbl[1313]? = some (.code yX9_forget cX9_forget 4 (some .boolean)) := rfl
set_option maxRecDepth 100000 in
theorem am_cd178 : lw_tbl[1317]? = some (.code yX9_count cX9_count 2 (some .int)) := rfl
set_option maxRecDepth 100000 in
theorem am_cd179 : lw_tbl[805]? = some (.code yL_cell cL_cell 2 (some .int)) := rfl
theorem am_cd (y : Nat) (h : y < 180) : Cond.code (am_my y) (am_mc y) (am_ml y) (am_mr y) ∈ lw_tbl := by
  rcases Nat.lt_or_ge y 90 with h90 | h90
  · rcases Nat.lt_or_ge y 45 with h45 | h45
    · rcases Nat.lt_or_ge y 22 with h22 | h22
      · rcases Nat.lt_or_ge y 11 with h11 | h11
        · rcases Nat.lt_or_ge y 5 with h5 | h5
          · rcases Nat.lt_or_ge y 2 with h2 | h2
            · rcases Nat.lt_or_ge y 1 with h1 | h1
              · obtain rfl : y = 0 := by omega
                exact List.mem_of_getElem? am_cd0
              · obtain rfl : y = 1 := by omega
                exact List.mem_of_getElem? am_cd1
            · rcases Nat.lt_or_ge y 3 with h3 | h3
              · obtain rfl : y = 2 := by omega
                exact List.mem_of_getElem? am_cd2
              · rcases Nat.lt_or_ge y 4 with h4 | h4
                · obtain rfl : y = 3 := by omega
                  exact List.mem_of_getElem? am_cd3
                · obtain rfl : y = 4 := by omega
                  exact List.mem_of_getElem? am_cd4
          · rcases Nat.lt_or_ge y 8 with h8 | h8
            · rcases Nat.lt_or_ge y 6 with h6 | h6
              · obtain rfl : y = 5 := by omega
                exact List.mem_of_getElem? am_cd5
              · rcases Nat.lt_or_ge y 7 with h7 | h7
                · obtain rfl : y = 6 := by omega
                  exact List.mem_of_getElem? am_cd6
                · obtain rfl : y = 7 := by omega
                  exact List.mem_of_getElem? am_cd7
            · rcases Nat.lt_or_ge y 9 with h9 | h9
              · obtain rfl : y = 8 := by omega
                exact List.mem_of_getElem? am_cd8
              · rcases Nat.lt_or_ge y 10 with h10 | h10
                · obtain rfl : y = 9 := by omega
                  exact List.mem_of_getElem? am_cd9
                · obtain rfl : y = 10 := by omega
                  exact List.mem_of_getElem? am_cd10
        · rcases Nat.lt_or_ge y 16 with h16 | h16
          · rcases Nat.lt_or_ge y 13 with h13 | h13
            · rcases Nat.lt_or_ge y 12 with h12 | h12
              · obtain rfl : y = 11 := by omega
                exact List.mem_of_getElem? am_cd11
              · obtain rfl : y = 12 := by omega
                exact List.mem_of_getElem? am_cd12
            · rcases Nat.lt_or_ge y 14 with h14 | h14
              · obtain rfl : y = 13 := by omega
                exact List.mem_of_getElem? am_cd13
              · rcases Nat.lt_or_ge y 15 with h15 | h15
                · obtain rfl : y = 14 := by omega
                  exact List.mem_of_getElem? am_cd14
                · obtain rfl : y = 15 := by omega
                  exact List.mem_of_getElem? am_cd15
          · rcases Nat.lt_or_ge y 19 with h19 | h19
            · rcases Nat.lt_or_ge y 17 with h17 | h17
              · obtain rfl : y = 16 := by omega
                exact List.mem_of_getElem? am_cd16
              · rcases Nat.lt_or_ge y 18 with h18 | h18
                · obtain rfl : y = 17 := by omega
                  exact List.mem_of_getElem? am_cd17
                · obtain rfl : y = 18 := by omega
                  exact List.mem_of_getElem? am_cd18
            · rcases Nat.lt_or_ge y 20 with h20 | h20
              · obtain rfl : y = 19 := by omega
                exact List.mem_of_getElem? am_cd19
              · rcases Nat.lt_or_ge y 21 with h21 | h21
                · obtain rfl : y = 20 := by omega
                  exact List.mem_of_getElem? am_cd20
                · obtain rfl : y = 21 := by omega
                  exact List.mem_of_getElem? am_cd21
      · rcases Nat.lt_or_ge y 33 with h33 | h33
        · rcases Nat.lt_or_ge y 27 with h27 | h27
          · rcases Nat.lt_or_ge y 24 with h24 | h24
            · rcases Nat.lt_or_ge y 23 with h23 | h23
              · obtain rfl : y = 22 := by omega
                exact List.mem_of_getElem? am_cd22
              · obtain rfl : y = 23 := by omega
                exact List.mem_of_getElem? am_cd23
            · rcases Nat.lt_or_ge y 25 with h25 | h25
              · obtain rfl : y = 24 := by omega
                exact List.mem_of_getElem? am_cd24
              · rcases Nat.lt_or_ge y 26 with h26 | h26
                · obtain rfl : y = 25 := by omega
                  exact List.mem_of_getElem? am_cd25
                · obtain rfl : y = 26 := by omega
                  exact List.mem_of_getElem? am_cd26
          · rcases Nat.lt_or_ge y 30 with h30 | h30
            · rcases Nat.lt_or_ge y 28 with h28 | h28
              · obtain rfl : y = 27 := by omega
                exact List.mem_of_getElem? am_cd27
              · rcases Nat.lt_or_ge y 29 with h29 | h29
                · obtain rfl : y = 28 := by omega
                  exact List.mem_of_getElem? am_cd28
                · obtain rfl : y = 29 := by omega
                  exact List.mem_of_getElem? am_cd29
            · rcases Nat.lt_or_ge y 31 with h31 | h31
              · obtain rfl : y = 30 := by omega
                exact List.mem_of_getElem? am_cd30
              · rcases Nat.lt_or_ge y 32 with h32 | h32
                · obtain rfl : y = 31 := by omega
                  exact List.mem_of_getElem? am_cd31
                · obtain rfl : y = 32 := by omega
                  exact List.mem_of_getElem? am_cd32
        · rcases Nat.lt_or_ge y 39 with h39 | h39
          · rcases Nat.lt_or_ge y 36 with h36 | h36
            · rcases Nat.lt_or_ge y 34 with h34 | h34
              · obtain rfl : y = 33 := by omega
                exact List.mem_of_getElem? am_cd33
              · rcases Nat.lt_or_ge y 35 with h35 | h35
                · obtain rfl : y = 34 := by omega
                  exact List.mem_of_getElem? am_cd34
                · obtain rfl : y = 35 := by omega
                  exact List.mem_of_getElem? am_cd35
            · rcases Nat.lt_or_ge y 37 with h37 | h37
              · obtain rfl : y = 36 := by omega
                exact List.mem_of_getElem? am_cd36
              · rcases Nat.lt_or_ge y 38 with h38 | h38
                · obtain rfl : y = 37 := by omega
                  exact List.mem_of_getElem? am_cd37
                · obtain rfl : y = 38 := by omega
                  exact List.mem_of_getElem? am_cd38
          · rcases Nat.lt_or_ge y 42 with h42 | h42
            · rcases Nat.lt_or_ge y 40 with h40 | h40
              · obtain rfl : y = 39 := by omega
                exact List.mem_of_getElem? am_cd39
              · rcases Nat.lt_or_ge y 41 with h41 | h41
                · obtain rfl : y = 40 := by omega
                  exact List.mem_of_getElem? am_cd40
                · obtain rfl : y = 41 := by omega
                  exact List.mem_of_getElem? am_cd41
            · rcases Nat.lt_or_ge y 43 with h43 | h43
              · obtain rfl : y = 42 := by omega
                exact List.mem_of_getElem? am_cd42
              · rcases Nat.lt_or_ge y 44 with h44 | h44
                · obtain rfl : y = 43 := by omega
                  exact List.mem_of_getElem? am_cd43
                · obtain rfl : y = 44 := by omega
                  exact List.mem_of_getElem? am_cd44
    · rcases Nat.lt_or_ge y 67 with h67 | h67
      · rcases Nat.lt_or_ge y 56 with h56 | h56
        · rcases Nat.lt_or_ge y 50 with h50 | h50
          · rcases Nat.lt_or_ge y 47 with h47 | h47
            · rcases Nat.lt_or_ge y 46 with h46 | h46
              · obtain rfl : y = 45 := by omega
                exact List.mem_of_getElem? am_cd45
              · obtain rfl : y = 46 := by omega
                exact List.mem_of_getElem? am_cd46
            · rcases Nat.lt_or_ge y 48 with h48 | h48
              · obtain rfl : y = 47 := by omega
                exact List.mem_of_getElem? am_cd47
              · rcases Nat.lt_or_ge y 49 with h49 | h49
                · obtain rfl : y = 48 := by omega
                  exact List.mem_of_getElem? am_cd48
                · obtain rfl : y = 49 := by omega
                  exact List.mem_of_getElem? am_cd49
          · rcases Nat.lt_or_ge y 53 with h53 | h53
            · rcases Nat.lt_or_ge y 51 with h51 | h51
              · obtain rfl : y = 50 := by omega
                exact List.mem_of_getElem? am_cd50
              · rcases Nat.lt_or_ge y 52 with h52 | h52
                · obtain rfl : y = 51 := by omega
                  exact List.mem_of_getElem? am_cd51
                · obtain rfl : y = 52 := by omega
                  exact List.mem_of_getElem? am_cd52
            · rcases Nat.lt_or_ge y 54 with h54 | h54
              · obtain rfl : y = 53 := by omega
                exact List.mem_of_getElem? am_cd53
              · rcases Nat.lt_or_ge y 55 with h55 | h55
                · obtain rfl : y = 54 := by omega
                  exact List.mem_of_getElem? am_cd54
                · obtain rfl : y = 55 := by omega
                  exact List.mem_of_getElem? am_cd55
        · rcases Nat.lt_or_ge y 61 with h61 | h61
          · rcases Nat.lt_or_ge y 58 with h58 | h58
            · rcases Nat.lt_or_ge y 57 with h57 | h57
              · obtain rfl : y = 56 := by omega
                exact List.mem_of_getElem? am_cd56
              · obtain rfl : y = 57 := by omega
                exact List.mem_of_getElem? am_cd57
            · rcases Nat.lt_or_ge y 59 with h59 | h59
              · obtain rfl : y = 58 := by omega
                exact List.mem_of_getElem? am_cd58
              · rcases Nat.lt_or_ge y 60 with h60 | h60
                · obtain rfl : y = 59 := by omega
                  exact List.mem_of_getElem? am_cd59
                · obtain rfl : y = 60 := by omega
                  exact List.mem_of_getElem? am_cd60
          · rcases Nat.lt_or_ge y 64 with h64 | h64
            · rcases Nat.lt_or_ge y 62 with h62 | h62
              · obtain rfl : y = 61 := by omega
                exact List.mem_of_getElem? am_cd61
              · rcases Nat.lt_or_ge y 63 with h63 | h63
                · obtain rfl : y = 62 := by omega
                  exact List.mem_of_getElem? am_cd62
                · obtain rfl : y = 63 := by omega
                  exact List.mem_of_getElem? am_cd63
            · rcases Nat.lt_or_ge y 65 with h65 | h65
              · obtain rfl : y = 64 := by omega
                exact List.mem_of_getElem? am_cd64
              · rcases Nat.lt_or_ge y 66 with h66 | h66
                · obtain rfl : y = 65 := by omega
                  exact List.mem_of_getElem? am_cd65
                · obtain rfl : y = 66 := by omega
                  exact List.mem_of_getElem? am_cd66
      · rcases Nat.lt_or_ge y 78 with h78 | h78
        · rcases Nat.lt_or_ge y 72 with h72 | h72
          · rcases Nat.lt_or_ge y 69 with h69 | h69
            · rcases Nat.lt_or_ge y 68 with h68 | h68
              · obtain rfl : y = 67 := by omega
                exact List.mem_of_getElem? am_cd67
              · obtain rfl : y = 68 := by omega
                exact List.mem_of_getElem? am_cd68
            · rcases Nat.lt_or_ge y 70 with h70 | h70
              · obtain rfl : y = 69 := by omega
                exact List.mem_of_getElem? am_cd69
              · rcases Nat.lt_or_ge y 71 with h71 | h71
                · obtain rfl : y = 70 := by omega
                  exact List.mem_of_getElem? am_cd70
                · obtain rfl : y = 71 := by omega
                  exact List.mem_of_getElem? am_cd71
          · rcases Nat.lt_or_ge y 75 with h75 | h75
            · rcases Nat.lt_or_ge y 73 with h73 | h73
              · obtain rfl : y = 72 := by omega
                exact List.mem_of_getElem? am_cd72
              · rcases Nat.lt_or_ge y 74 with h74 | h74
                · obtain rfl : y = 73 := by omega
                  exact List.mem_of_getElem? am_cd73
                · obtain rfl : y = 74 := by omega
                  exact List.mem_of_getElem? am_cd74
            · rcases Nat.lt_or_ge y 76 with h76 | h76
              · obtain rfl : y = 75 := by omega
                exact List.mem_of_getElem? am_cd75
              · rcases Nat.lt_or_ge y 77 with h77 | h77
                · obtain rfl : y = 76 := by omega
                  exact List.mem_of_getElem? am_cd76
                · obtain rfl : y = 77 := by omega
                  exact List.mem_of_getElem? am_cd77
        · rcases Nat.lt_or_ge y 84 with h84 | h84
          · rcases Nat.lt_or_ge y 81 with h81 | h81
            · rcases Nat.lt_or_ge y 79 with h79 | h79
              · obtain rfl : y = 78 := by omega
                exact List.mem_of_getElem? am_cd78
              · rcases Nat.lt_or_ge y 80 with h80 | h80
                · obtain rfl : y = 79 := by omega
                  exact List.mem_of_getElem? am_cd79
                · obtain rfl : y = 80 := by omega
                  exact List.mem_of_getElem? am_cd80
            · rcases Nat.lt_or_ge y 82 with h82 | h82
              · obtain rfl : y = 81 := by omega
                exact List.mem_of_getElem? am_cd81
              · rcases Nat.lt_or_ge y 83 with h83 | h83
                · obtain rfl : y = 82 := by omega
                  exact List.mem_of_getElem? am_cd82
                · obtain rfl : y = 83 := by omega
                  exact List.mem_of_getElem? am_cd83
          · rcases Nat.lt_or_ge y 87 with h87 | h87
            · rcases Nat.lt_or_ge y 85 with h85 | h85
              · obtain rfl : y = 84 := by omega
                exact List.mem_of_getElem? am_cd84
              · rcases Nat.lt_or_ge y 86 with h86 | h86
                · obtain rfl : y = 85 := by omega
                  exact List.mem_of_getElem? am_cd85
                · obtain rfl : y = 86 := by omega
                  exact List.mem_of_getElem? am_cd86
            · rcases Nat.lt_or_ge y 88 with h88 | h88
              · obtain rfl : y = 87 := by omega
                exact List.mem_of_getElem? am_cd87
              · rcases Nat.lt_or_ge y 89 with h89 | h89
                · obtain rfl : y = 88 := by omega
                  exact List.mem_of_getElem? am_cd88
                · obtain rfl : y = 89 := by omega
                  exact List.mem_of_getElem? am_cd89
  · rcases Nat.lt_or_ge y 135 with h135 | h135
    · rcases Nat.lt_or_ge y 112 with h112 | h112
      · rcases Nat.lt_or_ge y 101 with h101 | h101
        · rcases Nat.lt_or_ge y 95 with h95 | h95
          · rcases Nat.lt_or_ge y 92 with h92 | h92
            · rcases Nat.lt_or_ge y 91 with h91 | h91
              · obtain rfl : y = 90 := by omega
                exact List.mem_of_getElem? am_cd90
              · obtain rfl : y = 91 := by omega
                exact List.mem_of_getElem? am_cd91
            · rcases Nat.lt_or_ge y 93 with h93 | h93
              · obtain rfl : y = 92 := by omega
                exact List.mem_of_getElem? am_cd92
              · rcases Nat.lt_or_ge y 94 with h94 | h94
                · obtain rfl : y = 93 := by omega
                  exact List.mem_of_getElem? am_cd93
                · obtain rfl : y = 94 := by omega
                  exact List.mem_of_getElem? am_cd94
          · rcases Nat.lt_or_ge y 98 with h98 | h98
            · rcases Nat.lt_or_ge y 96 with h96 | h96
              · obtain rfl : y = 95 := by omega
                exact List.mem_of_getElem? am_cd95
              · rcases Nat.lt_or_ge y 97 with h97 | h97
                · obtain rfl : y = 96 := by omega
                  exact List.mem_of_getElem? am_cd96
                · obtain rfl : y = 97 := by omega
                  exact List.mem_of_getElem? am_cd97
            · rcases Nat.lt_or_ge y 99 with h99 | h99
              · obtain rfl : y = 98 := by omega
                exact List.mem_of_getElem? am_cd98
              · rcases Nat.lt_or_ge y 100 with h100 | h100
                · obtain rfl : y = 99 := by omega
                  exact List.mem_of_getElem? am_cd99
                · obtain rfl : y = 100 := by omega
                  exact List.mem_of_getElem? am_cd100
        · rcases Nat.lt_or_ge y 106 with h106 | h106
          · rcases Nat.lt_or_ge y 103 with h103 | h103
            · rcases Nat.lt_or_ge y 102 with h102 | h102
              · obtain rfl : y = 101 := by omega
                exact List.mem_of_getElem? am_cd101
              · obtain rfl : y = 102 := by omega
                exact List.mem_of_getElem? am_cd102
            · rcases Nat.lt_or_ge y 104 with h104 | h104
              · obtain rfl : y = 103 := by omega
                exact List.mem_of_getElem? am_cd103
              · rcases Nat.lt_or_ge y 105 with h105 | h105
                · obtain rfl : y = 104 := by omega
                  exact List.mem_of_getElem? am_cd104
                · obtain rfl : y = 105 := by omega
                  exact List.mem_of_getElem? am_cd105
          · rcases Nat.lt_or_ge y 109 with h109 | h109
            · rcases Nat.lt_or_ge y 107 with h107 | h107
              · obtain rfl : y = 106 := by omega
                exact List.mem_of_getElem? am_cd106
              · rcases Nat.lt_or_ge y 108 with h108 | h108
                · obtain rfl : y = 107 := by omega
                  exact List.mem_of_getElem? am_cd107
                · obtain rfl : y = 108 := by omega
                  exact List.mem_of_getElem? am_cd108
            · rcases Nat.lt_or_ge y 110 with h110 | h110
              · obtain rfl : y = 109 := by omega
                exact List.mem_of_getElem? am_cd109
              · rcases Nat.lt_or_ge y 111 with h111 | h111
                · obtain rfl : y = 110 := by omega
                  exact List.mem_of_getElem? am_cd110
                · obtain rfl : y = 111 := by omega
                  exact List.mem_of_getElem? am_cd111
      · rcases Nat.lt_or_ge y 123 with h123 | h123
        · rcases Nat.lt_or_ge y 117 with h117 | h117
          · rcases Nat.lt_or_ge y 114 with h114 | h114
            · rcases Nat.lt_or_ge y 113 with h113 | h113
              · obtain rfl : y = 112 := by omega
                exact List.mem_of_getElem? am_cd112
              · obtain rfl : y = 113 := by omega
                exact List.mem_of_getElem? am_cd113
            · rcases Nat.lt_or_ge y 115 with h115 | h115
              · obtain rfl : y = 114 := by omega
                exact List.mem_of_getElem? am_cd114
              · rcases Nat.lt_or_ge y 116 with h116 | h116
                · obtain rfl : y = 115 := by omega
                  exact List.mem_of_getElem? am_cd115
                · obtain rfl : y = 116 := by omega
                  exact List.mem_of_getElem? am_cd116
          · rcases Nat.lt_or_ge y 120 with h120 | h120
            · rcases Nat.lt_or_ge y 118 with h118 | h118
              · obtain rfl : y = 117 := by omega
                exact List.mem_of_getElem? am_cd117
              · rcases Nat.lt_or_ge y 119 with h119 | h119
                · obtain rfl : y = 118 := by omega
                  exact List.mem_of_getElem? am_cd118
                · obtain rfl : y = 119 := by omega
                  exact List.mem_of_getElem? am_cd119
            · rcases Nat.lt_or_ge y 121 with h121 | h121
              · obtain rfl : y = 120 := by omega
                exact List.mem_of_getElem? am_cd120
              · rcases Nat.lt_or_ge y 122 with h122 | h122
                · obtain rfl : y = 121 := by omega
                  exact List.mem_of_getElem? am_cd121
                · obtain rfl : y = 122 := by omega
                  exact List.mem_of_getElem? am_cd122
        · rcases Nat.lt_or_ge y 129 with h129 | h129
          · rcases Nat.lt_or_ge y 126 with h126 | h126
            · rcases Nat.lt_or_ge y 124 with h124 | h124
              · obtain rfl : y = 123 := by omega
                exact List.mem_of_getElem? am_cd123
              · rcases Nat.lt_or_ge y 125 with h125 | h125
                · obtain rfl : y = 124 := by omega
                  exact List.mem_of_getElem? am_cd124
                · obtain rfl : y = 125 := by omega
                  exact List.mem_of_getElem? am_cd125
            · rcases Nat.lt_or_ge y 127 with h127 | h127
              · obtain rfl : y = 126 := by omega
                exact List.mem_of_getElem? am_cd126
              · rcases Nat.lt_or_ge y 128 with h128 | h128
                · obtain rfl : y = 127 := by omega
                  exact List.mem_of_getElem? am_cd127
                · obtain rfl : y = 128 := by omega
                  exact List.mem_of_getElem? am_cd128
          · rcases Nat.lt_or_ge y 132 with h132 | h132
            · rcases Nat.lt_or_ge y 130 with h130 | h130
              · obtain rfl : y = 129 := by omega
                exact List.mem_of_getElem? am_cd129
              · rcases Nat.lt_or_ge y 131 with h131 | h131
                · obtain rfl : y = 130 := by omega
                  exact List.mem_of_getElem? am_cd130
                · obtain rfl : y = 131 := by omega
                  exact List.mem_of_getElem? am_cd131
            · rcases Nat.lt_or_ge y 133 with h133 | h133
              · obtain rfl : y = 132 := by omega
                exact List.mem_of_getElem? am_cd132
              · rcases Nat.lt_or_ge y 134 with h134 | h134
                · obtain rfl : y = 133 := by omega
                  exact List.mem_of_getElem? am_cd133
                · obtain rfl : y = 134 := by omega
                  exact List.mem_of_getElem? am_cd134
    · rcases Nat.lt_or_ge y 157 with h157 | h157
      · rcases Nat.lt_or_ge y 146 with h146 | h146
        · rcases Nat.lt_or_ge y 140 with h140 | h140
          · rcases Nat.lt_or_ge y 137 with h137 | h137
            · rcases Nat.lt_or_ge y 136 with h136 | h136
              · obtain rfl : y = 135 := by omega
                exact List.mem_of_getElem? am_cd135
              · obtain rfl : y = 136 := by omega
                exact List.mem_of_getElem? am_cd136
            · rcases Nat.lt_or_ge y 138 with h138 | h138
              · obtain rfl : y = 137 := by omega
                exact List.mem_of_getElem? am_cd137
              · rcases Nat.lt_or_ge y 139 with h139 | h139
                · obtain rfl : y = 138 := by omega
                  exact List.mem_of_getElem? am_cd138
                · obtain rfl : y = 139 := by omega
                  exact List.mem_of_getElem? am_cd139
          · rcases Nat.lt_or_ge y 143 with h143 | h143
            · rcases Nat.lt_or_ge y 141 with h141 | h141
              · obtain rfl : y = 140 := by omega
                exact List.mem_of_getElem? am_cd140
              · rcases Nat.lt_or_ge y 142 with h142 | h142
                · obtain rfl : y = 141 := by omega
                  exact List.mem_of_getElem? am_cd141
                · obtain rfl : y = 142 := by omega
                  exact List.mem_of_getElem? am_cd142
            · rcases Nat.lt_or_ge y 144 with h144 | h144
              · obtain rfl : y = 143 := by omega
                exact List.mem_of_getElem? am_cd143
              · rcases Nat.lt_or_ge y 145 with h145 | h145
                · obtain rfl : y = 144 := by omega
                  exact List.mem_of_getElem? am_cd144
                · obtain rfl : y = 145 := by omega
                  exact List.mem_of_getElem? am_cd145
        · rcases Nat.lt_or_ge y 151 with h151 | h151
          · rcases Nat.lt_or_ge y 148 with h148 | h148
            · rcases Nat.lt_or_ge y 147 with h147 | h147
              · obtain rfl : y = 146 := by omega
                exact List.mem_of_getElem? am_cd146
              · obtain rfl : y = 147 := by omega
                exact List.mem_of_getElem? am_cd147
            · rcases Nat.lt_or_ge y 149 with h149 | h149
              · obtain rfl : y = 148 := by omega
                exact List.mem_of_getElem? am_cd148
              · rcases Nat.lt_or_ge y 150 with h150 | h150
                · obtain rfl : y = 149 := by omega
                  exact List.mem_of_getElem? am_cd149
                · obtain rfl : y = 150 := by omega
                  exact List.mem_of_getElem? am_cd150
          · rcases Nat.lt_or_ge y 154 with h154 | h154
            · rcases Nat.lt_or_ge y 152 with h152 | h152
              · obtain rfl : y = 151 := by omega
                exact List.mem_of_getElem? am_cd151
              · rcases Nat.lt_or_ge y 153 with h153 | h153
                · obtain rfl : y = 152 := by omega
                  exact List.mem_of_getElem? am_cd152
                · obtain rfl : y = 153 := by omega
                  exact List.mem_of_getElem? am_cd153
            · rcases Nat.lt_or_ge y 155 with h155 | h155
              · obtain rfl : y = 154 := by omega
                exact List.mem_of_getElem? am_cd154
              · rcases Nat.lt_or_ge y 156 with h156 | h156
                · obtain rfl : y = 155 := by omega
                  exact List.mem_of_getElem? am_cd155
                · obtain rfl : y = 156 := by omega
                  exact List.mem_of_getElem? am_cd156
      · rcases Nat.lt_or_ge y 168 with h168 | h168
        · rcases Nat.lt_or_ge y 162 with h162 | h162
          · rcases Nat.lt_or_ge y 159 with h159 | h159
            · rcases Nat.lt_or_ge y 158 with h158 | h158
              · obtain rfl : y = 157 := by omega
                exact List.mem_of_getElem? am_cd157
              · obtain rfl : y = 158 := by omega
                exact List.mem_of_getElem? am_cd158
            · rcases Nat.lt_or_ge y 160 with h160 | h160
              · obtain rfl : y = 159 := by omega
                exact List.mem_of_getElem? am_cd159
              · rcases Nat.lt_or_ge y 161 with h161 | h161
                · obtain rfl : y = 160 := by omega
                  exact List.mem_of_getElem? am_cd160
                · obtain rfl : y = 161 := by omega
                  exact List.mem_of_getElem? am_cd161
          · rcases Nat.lt_or_ge y 165 with h165 | h165
            · rcases Nat.lt_or_ge y 163 with h163 | h163
              · obtain rfl : y = 162 := by omega
                exact List.mem_of_getElem? am_cd162
              · rcases Nat.lt_or_ge y 164 with h164 | h164
                · obtain rfl : y = 163 := by omega
                  exact List.mem_of_getElem? am_cd163
                · obtain rfl : y = 164 := by omega
                  exact List.mem_of_getElem? am_cd164
            · rcases Nat.lt_or_ge y 166 with h166 | h166
              · obtain rfl : y = 165 := by omega
                exact List.mem_of_getElem? am_cd165
              · rcases Nat.lt_or_ge y 167 with h167 | h167
                · obtain rfl : y = 166 := by omega
                  exact List.mem_of_getElem? am_cd166
                · obtain rfl : y = 167 := by omega
                  exact List.mem_of_getElem? am_cd167
        · rcases Nat.lt_or_ge y 174 with h174 | h174
          · rcases Nat.lt_or_ge y 171 with h171 | h171
            · rcases Nat.lt_or_ge y 169 with h169 | h169
              · obtain rfl : y = 168 := by omega
                exact List.mem_of_getElem? am_cd168
              · rcases Nat.lt_or_ge y 170 with h170 | h170
                · obtain rfl : y = 169 := by omega
                  exact List.mem_of_getElem? am_cd169
                · obtain rfl : y = 170 := by omega
                  exact List.mem_of_getElem? am_cd170
            · rcases Nat.lt_or_ge y 172 with h172 | h172
              · obtain rfl : y = 171 := by omega
                exact List.mem_of_getElem? am_cd171
              · rcases Nat.lt_or_ge y 173 with h173 | h173
                · obtain rfl : y = 172 := by omega
                  exact List.mem_of_getElem? am_cd172
                · obtain rfl : y = 173 := by omega
                  exact List.mem_of_getElem? am_cd173
          · rcases Nat.lt_or_ge y 177 with h177 | h177
            · rcases Nat.lt_or_ge y 175 with h175 | h175
              · obtain rfl : y = 174 := by omega
                exact List.mem_of_getElem? am_cd174
              · rcases Nat.lt_or_ge y 176 with h176 | h176
                · obtain rfl : y = 175 := by omega
                  exact List.mem_of_getElem? am_cd175
                · obtain rfl : y = 176 := by omega
                  exact List.mem_of_getElem? am_cd176
            · rcases Nat.lt_or_ge y 178 with h178 | h178
              · obtain rfl : y = 177 := by omega
                exact List.mem_of_getElem? am_cd177
              · rcases Nat.lt_or_ge y 179 with h179 | h179
                · obtain rfl : y = 178 := by omega
                  exact List.mem_of_getElem? am_cd178
                · obtain rfl : y = 179 := by omega
                  exact List.mem_of_getElem? am_cd179
