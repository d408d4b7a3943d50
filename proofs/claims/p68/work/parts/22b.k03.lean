set_option maxRecDepth 100000 in
theorem ok_X12_net : (tX12_net).all (eok mth mX12_net) = true := ewk0_ok (by decide +kernel)
theorem cw_X12_net : (wdq 8 171 (.code mX12_net.1 mX12_net.2.1 mX12_net.2.2.1 mX12_net.2.2.2.1) && plainName mX12_net.1.cls) = true := cwq_ok (by decide +kernel)
set_option maxRecDepth 100000 in
theorem ok_X12_isHaunted : (tX12_isHaunted).all (eok mth mX12_isHaunted) = true := ewk0_ok (by decide +kernel)
theorem cw_X12_isHaunted : (wdq 8 183 (.code mX12_isHaunted.1 mX12_isHaunted.2.1 mX12_isHaunted.2.2.1 mX12_isHaunted.2.2.2.1) && plainName mX12_isHaunted.1.cls) = true := cwq_ok (by decide +kernel)
set_option maxRecDepth 100000 in
theorem ok_X12_weddingOf : (tX12_weddingOf).all (eok mth mX12_weddingOf) = true := ewk0_ok (by decide +kernel)
theorem cw_X12_weddingOf : (wdq 8 179 (.code mX12_weddingOf.1 mX12_weddingOf.2.1 mX12_weddingOf.2.2.1 mX12_weddingOf.2.2.2.1) && plainName mX12_weddingOf.1.cls) = true := cwq_ok (by decide +kernel)
set_option maxRecDepth 100000 in
theorem ok_X12_wedding : (tX12_wedding).all (eok mth mX12_wedding) = true := ewk0_ok (by decide +kernel)
theorem cw_X12_wedding : (wdq 8 175 (.code mX12_wedding.1 mX12_wedding.2.1 mX12_wedding.2.2.1 mX12_wedding.2.2.2.1) && plainName mX12_wedding.1.cls) = true := cwq_ok (by decide +kernel)
set_option maxRecDepth 100000 in
theorem ok_X12_weddingSet : (tX12_weddingSet).all (eok mth mX12_weddingSet) = true := ewk0_ok (by decide +kernel)
theorem cw_X12_weddingSet : (wdq 8 187 (.code mX12_weddingSet.1 mX12_weddingSet.2.1 mX12_weddingSet.2.2.1 mX12_weddingSet.2.2.2.1) && plainName mX12_weddingSet.1.cls) = true := cwq_ok (by decide +kernel)
set_option maxRecDepth 100000 in
theorem ok_X12_pardonOf : (tX12_pardonOf).all (eok mth mX12_pardonOf) = true := ewk0_ok (by decide +kernel)
theorem cw_X12_pardonOf : (wdq 8 200 (.code mX12_pardonOf.1 mX12_pardonOf.2.1 mX12_pardonOf.2.2.1 mX12_pardonOf.2.2.2.1) && plainName mX12_pardonOf.1.cls) = true := cwq_ok (by decide +kernel)
set_option maxRecDepth 100000 in
theorem ok_X12_isPardon : (tX12_isPardon).all (eok mth mX12_isPardon) = true := ewk0_ok (by decide +kernel)
theorem cw_X12_isPardon : (wdq 8 195 (.code mX12_isPardon.1 mX12_isPardon.2.1 mX12_isPardon.2.2.1 mX12_isPardon.2.2.2.1) && plainName mX12_isPardon.1.cls) = true := cwq_ok (by decide +kernel)
set_option maxRecDepth 100000 in
theorem ok_X12_pardon : (tX12_pardon).all (eok mth mX12_pardon) = true := ewk0_ok (by decide +kernel)
theorem cw_X12_pardon : (wdq 8 191 (.code mX12_pardon.1 mX12_pardon.2.1 mX12_pardon.2.2.1 mX12_pardon.2.2.2.1) && plainName mX12_pardon.1.cls) = true := cwq_ok (by decide +kernel)
set_option maxRecDepth 100000 in
theorem ok_X12_pardonSet : (tX12_pardonSet).all (eok mth mX12_pardonSet) = true := ewk0_ok (by decide +kernel)
theorem cw_X12_pardonSet : (wdq 8 204 (.code mX12_pardonSet.1 mX12_pardonSet.2.1 mX12_pardonSet.2.2.1 mX12_pardonSet.2.2.2.1) && plainName mX12_pardonSet.1.cls) = true := cwq_ok (by decide +kernel)
set_option maxRecDepth 100000 in
theorem ok_X12_areMutual : (tX12_areMutual).all (eok mth mX12_areMutual) = true := ewk0_ok (by decide +kernel)
theorem cw_X12_areMutual : (wdq 8 212 (.code mX12_areMutual.1 mX12_areMutual.2.1 mX12_areMutual.2.2.1 mX12_areMutual.2.2.2.1) && plainName mX12_areMutual.1.cls) = true := cwq_ok (by decide +kernel)
set_option maxRecDepth 100000 in
theorem ok_X12_pair : (tX12_pair).all (eok mth mX12_pair) = true := ewk0_ok (by decide +kernel)
theorem cw_X12_pair : (wdq 8 208 (.code mX12_pair.1 mX12_pair.2.1 mX12_pair.2.2.1 mX12_pair.2.2.2.1) && plainName mX12_pair.1.cls) = true := cwq_ok (by decide +kernel)
set_option maxRecDepth 100000 in
theorem ok_X12_share : (tX12_share).all (eok mth mX12_share) = true := ewk0_ok (by decide +kernel)
theorem cw_X12_share : (wdq 8 216 (.code mX12_share.1 mX12_share.2.1 mX12_share.2.2.1 mX12_share.2.2.2.1) && plainName mX12_share.1.cls) = true := cwq_ok (by decide +kernel)
set_option maxRecDepth 100000 in
theorem ok_X12_gracious : (tX12_gracious).all (eok mth mX12_gracious) = true := ewk0_ok (by decide +kernel)
theorem cw_X12_gracious : (wdq 8 220 (.code mX12_gracious.1 mX12_gracious.2.1 mX12_gracious.2.2.1 mX12_gracious.2.2.2.1) && plainName mX12_gracious.1.cls) = true := cwq_ok (by decide +kernel)
set_option maxRecDepth 100000 in
theorem ok_X12_deepest : (tX12_deepest).all (eok mth mX12_deepest) = true := ewk0_ok (by decide +kernel)
theorem cw_X12_deepest : (wdq 8 224 (.code mX12_deepest.1 mX12_deepest.2.1 mX12_deepest.2.2.1 mX12_deepest.2.2.2.1) && plainName mX12_deepest.1.cls) = true := cwq_ok (by decide +kernel)
set_option maxRecDepth 100000 in
theorem ok_X12_weight : (tX12_weight).all (eok mth mX12_weight) = true := ewk0_ok (by decide +kernel)
theorem cw_X12_weight : (wdq 8 228 (.code mX12_weight.1 mX12_weight.2.1 mX12_weight.2.2.1 mX12_weight.2.2.2.1) && plainName mX12_weight.1.cls) = true := cwq_ok (by decide +kernel)
set_option maxRecDepth 100000 in
theorem ok_X12_mutual : (tX12_mutual).all (eok mth mX12_mutual) = true := ewk0_ok (by decide +kernel)
theorem cw_X12_mutual : (wdq 8 236 (.code mX12_mutual.1 mX12_mutual.2.1 mX12_mutual.2.2.1 mX12_mutual.2.2.2.1) && plainName mX12_mutual.1.cls) = true := cwq_ok (by decide +kernel)
set_option maxRecDepth 100000 in
theorem ok_X12_chain : (tX12_chain).all (eok mth mX12_chain) = true := ewk0_ok (by decide +kernel)
theorem cw_X12_chain : (wdq 9 0 (.code mX12_chain.1 mX12_chain.2.1 mX12_chain.2.2.1 mX12_chain.2.2.2.1) && plainName mX12_chain.1.cls) = true := cwq_ok (by decide +kernel)
set_option maxRecDepth 100000 in
theorem ok_X12_circle : (tX12_circle).all (eok mth mX12_circle) = true := ewk0_ok (by decide +kernel)
theorem cw_X12_circle : (wdq 9 7 (.code mX12_circle.1 mX12_circle.2.1 mX12_circle.2.2.1 mX12_circle.2.2.2.1) && plainName mX12_circle.1.cls) = true := cwq_ok (by decide +kernel)
set_option maxRecDepth 100000 in
theorem ok_X12_bestSalt : (tX12_bestSalt).all (eok mth mX12_bestSalt) = true := ewk0_ok (by decide +kernel)
theorem cw_X12_bestSalt : (wdq 9 11 (.code mX12_bestSalt.1 mX12_bestSalt.2.1 mX12_bestSalt.2.2.1 mX12_bestSalt.2.2.2.1) && plainName mX12_bestSalt.1.cls) = true := cwq_ok (by decide +kernel)
set_option maxRecDepth 100000 in
theorem ok_X12_draw : (tX12_draw).all (eok mth mX12_draw) = true := ewk0_ok (by decide +kernel)
theorem cw_X12_draw : (wdq 9 39 (.code mX12_draw.1 mX12_draw.2.1 mX12_draw.2.2.1 mX12_draw.2.2.2.1) && plainName mX12_draw.1.cls) = true := cwq_ok (by decide +kernel)
set_option maxRecDepth 100000 in
theorem ok_X12_diesBy : (tX12_diesBy).all (eok mth mX12_diesBy) = true := ewk0_ok (by decide +kernel)
theorem cw_X12_diesBy : (wdq 9 31 (.code mX12_diesBy.1 mX12_diesBy.2.1 mX12_diesBy.2.2.1 mX12_diesBy.2.2.2.1) && plainName mX12_diesBy.1.cls) = true := cwq_ok (by decide +kernel)
set_option maxRecDepth 100000 in
theorem ok_X12_diesAny : (tX12_diesAny).all (eok mth mX12_diesAny) = true := ewk0_ok (by decide +kernel)
theorem cw_X12_diesAny : (wdq 9 35 (.code mX12_diesAny.1 mX12_diesAny.2.1 mX12_diesAny.2.2.1 mX12_diesAny.2.2.2.1) && plainName mX12_diesAny.1.cls) = true := cwq_ok (by decide +kernel)
set_option maxRecDepth 100000 in
theorem ok_X12_nightsBy : (tX12_nightsBy).all (eok mth mX12_nightsBy) = true := ewk0_ok (by decide +kernel)
theorem cw_X12_nightsBy : (wdq 9 27 (.code mX12_nightsBy.1 mX12_nightsBy.2.1 mX12_nightsBy.2.2.1 mX12_nightsBy.2.2.2.1) && plainName mX12_nightsBy.1.cls) = true := cwq_ok (by decide +kernel)
set_option maxRecDepth 100000 in
theorem ok_X12_does : (tX12_does).all (eok mth mX12_does) = true := ewk0_ok (by decide +kernel)
theorem cw_X12_does : (wdq 9 23 (.code mX12_does.1 mX12_does.2.1 mX12_does.2.2.1 mX12_does.2.2.2.1) && plainName mX12_does.1.cls) = true := cwq_ok (by decide +kernel)
set_option maxRecDepth 100000 in
theorem ok_X12_holds : (tX12_holds).all (eok mth mX12_holds) = true := ewk0_ok (by decide +kernel)
theorem cw_X12_holds : (wdq 9 44 (.code mX12_holds.1 mX12_holds.2.1 mX12_holds.2.2.1 mX12_holds.2.2.2.1) && plainName mX12_holds.1.cls) = true := cwq_ok (by decide +kernel)
set_option maxRecDepth 100000 in
theorem ok_X12_behindEnds : (tX12_behindEnds).all (eok mth mX12_behindEnds) = true := ewk0_ok (by decide +kernel)
theorem cw_X12_behindEnds : (wdq 9 48 (.code mX12_behindEnds.1 mX12_behindEnds.2.1 mX12_behindEnds.2.2.1 mX12_behindEnds.2.2.2.1) && plainName mX12_behindEnds.1.cls) = true := cwq_ok (by decide +kernel)
set_option maxRecDepth 100000 in
theorem ok_X12_lives : (tX12_lives).all (eok mth mX12_lives) = true := ewk0_ok (by decide +kernel)
theorem cw_X12_lives : (wdq 9 19 (.code mX12_lives.1 mX12_lives.2.1 mX12_lives.2.2.1 mX12_lives.2.2.2.1) && plainName mX12_lives.1.cls) = true := cwq_ok (by decide +kernel)
set_option maxRecDepth 100000 in
theorem ok_X12_live : (tX12_live).all (eok mth mX12_live) = true := ewk0_ok (by decide +kernel)
theorem cw_X12_live : (wdq 9 15 (.code mX12_live.1 mX12_live.2.1 mX12_live.2.2.1 mX12_live.2.2.2.1) && plainName mX12_live.1.cls) = true := cwq_ok (by decide +kernel)
set_option maxRecDepth 100000 in
theorem ok_X12_lived : (tX12_lived).all (eok mth mX12_lived) = true := ewk0_ok (by decide +kernel)
theorem cw_X12_lived : (wdq 9 52 (.code mX12_lived.1 mX12_lived.2.1 mX12_lived.2.2.1 mX12_lived.2.2.2.1) && plainName mX12_lived.1.cls) = true := cwq_ok (by decide +kernel)
set_option maxRecDepth 100000 in
theorem ok_X12_mean : (tX12_mean).all (eok mth mX12_mean) = true := ewk0_ok (by decide +kernel)
theorem cw_X12_mean : (wdq 9 56 (.code mX12_mean.1 mX12_mean.2.1 mX12_mean.2.2.1 mX12_mean.2.2.2.1) && plainName mX12_mean.1.cls) = true := cwq_ok (by decide +kernel)
set_option maxRecDepth 100000 in
theorem ok_X12_copies : (tX12_copies).all (eok mth mX12_copies) = true := ewk0_ok (by decide +kernel)
theorem cw_X12_copies : (wdq 9 64 (.code mX12_copies.1 mX12_copies.2.1 mX12_copies.2.2.1 mX12_copies.2.2.2.1) && plainName mX12_copies.1.cls) = true := cwq_ok (by decide +kernel)
set_option maxRecDepth 100000 in
theorem ok_X12_mark : (tX12_mark).all (eok mth mX12_mark) = true := ewk0_ok (by decide +kernel)
theorem cw_X12_mark : (wdq 9 60 (.code mX12_mark.1 mX12_mark.2.1 mX12_mark.2.2.1 mX12_mark.2.2.2.1) && plainName mX12_mark.1.cls) = true := cwq_ok (by decide +kernel)
set_option maxRecDepth 100000 in
theorem ok_X12_undo : (tX12_undo).all (eok mth mX12_undo) = true := ewk0_ok (by decide +kernel)
theorem cw_X12_undo : (wdq 9 68 (.code mX12_undo.1 mX12_undo.2.1 mX12_undo.2.2.1 mX12_undo.2.2.2.1) && plainName mX12_undo.1.cls) = true := cwq_ok (by decide +kernel)
set_option maxRecDepth 100000 in
theorem ok_J6_bitCount_0f7a4 : (tJ6_bitCount_0f7a4).all (eok mth mJ6_bitCount_0f7a4) = true := ewk0_ok (by decide +kernel)
theorem cw_J6_bitCount_0f7a4 : (wdq 3 159 (.code mJ6_bitCount_0f7a4.1 mJ6_bitCount_0f7a4.2.1 mJ6_bitCount_0f7a4.2.2.1 mJ6_bitCount_0f7a4.2.2.2.1) && plainName mJ6_bitCount_0f7a4.1.cls) = true := cwq_ok (by decide +kernel)
set_option maxRecDepth 100000 in
theorem ok_J0_length_8abf5 : (tJ0_length_8abf5).all (eok mth mJ0_length_8abf5) = true := ewk0_ok (by decide +kernel)
theorem cw_J0_length_8abf5 : (wdq 0 42 (.code mJ0_length_8abf5.1 mJ0_length_8abf5.2.1 mJ0_length_8abf5.2.2.1 mJ0_length_8abf5.2.2.2.1) && plainName mJ0_length_8abf5.1.cls) = true := cwq_ok (by decide +kernel)
set_option maxRecDepth 100000 in
theorem ok_J0_charAt_5068e : (tJ0_charAt_5068e).all (eok mth mJ0_charAt_5068e) = true := ewk0_ok (by decide +kernel)
theorem cw_J0_charAt_5068e : (wdq 0 52 (.code mJ0_charAt_5068e.1 mJ0_charAt_5068e.2.1 mJ0_charAt_5068e.2.2.1 mJ0_charAt_5068e.2.2.2.1) && plainName mJ0_charAt_5068e.1.cls) = true := cwq_ok (by decide +kernel)
set_option maxRecDepth 100000 in
theorem ok_J0_coder_7d493 : (tJ0_coder_7d493).all (eok mth mJ0_coder_7d493) = true := ewk0_ok (by decide +kernel)
theorem cw_J0_coder_7d493 : (wdq 0 46 (.code mJ0_coder_7d493.1 mJ0_coder_7d493.2.1 mJ0_coder_7d493.2.2.1 mJ0_coder_7d493.2.2.2.1) && plainName mJ0_coder_7d493.1.cls) = true := cwq_ok (by decide +kernel)
set_option maxRecDepth 100000 in
theorem ok_J0_isLatin1_aae02 : (tJ0_isLatin1_aae02).all (eok mth mJ0_isLatin1_aae02) = true := ewk0_ok (by decide +kernel)
theorem cw_J0_isLatin1_aae02 : (wdq 0 56 (.code mJ0_isLatin1_aae02.1 mJ0_isLatin1_aae02.2.1 mJ0_isLatin1_aae02.2.2.1 mJ0_isLatin1_aae02.2.2.2.1) && plainName mJ0_isLatin1_aae02.1.cls) = true := cwq_ok (by decide +kernel)
set_option maxRecDepth 100000 in
theorem ok_J0_checkIndex_df160 : (tJ0_checkIndex_df160).all (eok mth mJ0_checkIndex_df160) = true := ewk0_ok (by decide +kernel)
theorem cw_J0_checkIndex_df160 : (wdq 0 62 (.code mJ0_checkIndex_df160.1 mJ0_checkIndex_df160.2.1 mJ0_checkIndex_df160.2.2.1 mJ0_checkIndex_df160.2.2.2.1) && plainName mJ0_checkIndex_df160.1.cls) = true := cwq_ok (by decide +kernel)
set_option maxRecDepth 100000 in
theorem ok_J1_charAt_3b067 : (tJ1_charAt_3b067).all (eok mth mJ1_charAt_3b067) = true := ewk0_ok (by decide +kernel)
theorem cw_J1_charAt_3b067 : (wdq 0 59 (.code mJ1_charAt_3b067.1 mJ1_charAt_3b067.2.1 mJ1_charAt_3b067.2.2.1 mJ1_charAt_3b067.2.2.2.1) && plainName mJ1_charAt_3b067.1.cls) = true := cwq_ok (by decide +kernel)
set_option maxRecDepth 100000 in
theorem ok_J2_getChar_3b067 : (tJ2_getChar_3b067).all (eok mth mJ2_getChar_3b067) = true := by decide +kernel
theorem cw_J2_getChar_3b067 : (wdq 0 80 (.code mJ2_getChar_3b067.1 mJ2_getChar_3b067.2.1 mJ2_getChar_3b067.2.2.1 mJ2_getChar_3b067.2.2.2.1) && plainName mJ2_getChar_3b067.1.cls) = true := cwq_ok (by decide +kernel)
set_option maxRecDepth 100000 in
theorem ok_J2_length_9d52b : (tJ2_length_9d52b).all (eok mth mJ2_length_9d52b) = true := ewk0_ok (by decide +kernel)
theorem cw_J2_length_9d52b : (wdq 0 76 (.code mJ2_length_9d52b.1 mJ2_length_9d52b.2.1 mJ2_length_9d52b.2.2.1 mJ2_length_9d52b.2.2.2.1) && plainName mJ2_length_9d52b.1.cls) = true := cwq_ok (by decide +kernel)
set_option maxRecDepth 100000 in
theorem ok_J2_charAt_3b067 : (tJ2_charAt_3b067).all (eok mth mJ2_charAt_3b067) = true := ewk0_ok (by decide +kernel)
theorem cw_J2_charAt_3b067 : (wdq 0 70 (.code mJ2_charAt_3b067.1 mJ2_charAt_3b067.2.1 mJ2_charAt_3b067.2.2.1 mJ2_charAt_3b067.2.2.2.1) && plainName mJ2_charAt_3b067.1.cls) = true := cwq_ok (by decide +kernel)
set_option maxRecDepth 100000 in
theorem ok_J2_checkIndex_2214a : (tJ2_checkIndex_2214a).all (eok mth mJ2_checkIndex_2214a) = true := ewk0_ok (by decide +kernel)
theorem cw_J2_checkIndex_2214a : (wdq 0 73 (.code mJ2_checkIndex_2214a.1 mJ2_checkIndex_2214a.2.1 mJ2_checkIndex_2214a.2.2.1 mJ2_checkIndex_2214a.2.2.2.1) && plainName mJ2_checkIndex_2214a.1.cls) = true := cwq_ok (by decide +kernel)
set_option maxRecDepth 100000 in
theorem ok_J7_fill_d0a16 : (tJ7_fill_d0a16).all (eok mth mJ7_fill_d0a16) = true := ewk0_ok (by decide +kernel)
theorem cw_J7_fill_d0a16 : (wdq 2 56 (.code mJ7_fill_d0a16.1 mJ7_fill_d0a16.2.1 mJ7_fill_d0a16.2.2.1 mJ7_fill_d0a16.2.2.2.1) && plainName mJ7_fill_d0a16.1.cls) = true := cwq_ok (by decide +kernel)
set_option maxRecDepth 100000 in
theorem ok_J7_fill_53178 : (tJ7_fill_53178).all (eok mth mJ7_fill_53178) = true := ewk0_ok (by decide +kernel)
theorem cw_J7_fill_53178 : (wdq 2 118 (.code mJ7_fill_53178.1 mJ7_fill_53178.2.1 mJ7_fill_53178.2.2.1 mJ7_fill_53178.2.2.2.1) && plainName mJ7_fill_53178.1.cls) = true := cwq_ok (by decide +kernel)
set_option maxRecDepth 100000 in
theorem ok_J3_checkIndex_8e157 : (tJ3_checkIndex_8e157).all (eok mth mJ3_checkIndex_8e157) = true := by decide +kernel
theorem cw_J3_checkIndex_8e157 : (wdq 0 67 (.code mJ3_checkIndex_8e157.1 mJ3_checkIndex_8e157.2.1 mJ3_checkIndex_8e157.2.2.1 mJ3_checkIndex_8e157.2.2.2.1) && plainName mJ3_checkIndex_8e157.1.cls) = true := cwq_ok (by decide +kernel)
