/-! what each stretch does (by program) -/
set_option maxRecDepth 100000 in
set_option maxHeartbeats 4000000 in
theorem e_L_cell (d : Nat) (x1 : Int32) (σ : am_H) : f_L_cell d x1 σ =
    bif decide ((nI (am_sl σ)) ≤ x1) then
      some (((nI 0), 0, none), σ)
    else
      (am_ldS σ x1).bind fun v1 =>
      some ((v1, 0, none), σ) := (am_L_it d 179 12 true 0 [(0, .retAddr 0), (1, .int x1)] [] σ).symm
set_option maxRecDepth 100000 in
set_option maxHeartbeats 4000000 in
theorem e_L_got (d : Nat) (a0 : Nat) (x1 : Int32) (x2 : Int32) (a3 : Nat) (σ : am_H) : f_L_got (d + 1) a0 x1 x2 a3 σ =
    bif am_is σ a0 8 then
      (f_X8_got d a0 x1 x2 σ).bind fun r1 =>
      bif decide (r1.1.2.1 = 0) then
        (am_stJ r1.2 a3 (nI 0) (Int32.toInt64 r1.1.1)).bind fun s2 =>
        some (((nI 0), 0, none), s2)
      else
        some (((nI 1), 0, none), (am_thr r1.2))
    else none := (am_L_it (d + 1) 180 16 true 0 [(0, .ref a0), (1, .int x1), (2, .int x2), (3, .ref a3)] [] σ).symm
set_option maxRecDepth 100000 in
set_option maxHeartbeats 4000000 in
theorem e_L_law (d : Nat)  (σ : am_H) : f_L_law (d + 1)  σ =
    (am_new σ 8 7).bind fun s1 =>
    (f_L_cell d (nI 0) s1).bind fun r2 =>
    (f_X8_init d (am_n σ) r2.1.1 r2.2).bind fun r3 =>
    (am_new r3.2 9 50).bind fun s4 =>
    (f_L_cell d (nI 0) s4).bind fun r5 =>
    (f_X9_init d (am_n r3.2) r5.1.1 r5.2).bind fun r6 =>
    (am_nwa r6.2 2 (nI 1)).bind fun s7 =>
    l_L_law_33 (d + 1) (am_n σ) (am_n r3.2) (am_n r6.2) (nI 1) s7 := (am_L_it (d + 1) 181 604 true 0 [(0, .retAddr 0)] [] σ).symm
set_option maxRecDepth 100000 in
set_option maxHeartbeats 4000000 in
theorem e_l_L_law_33 (d : Nat) (a1 : Nat) (a2 : Nat) (a3 : Nat) (x4 : Int32) (σ : am_H) : l_L_law_33 (d + 1) a1 a2 a3 x4 σ =
    bif decide (((nI (am_sl σ)) - (nI 5)) < x4) then
      bif am_zb (nI 1) then some (((nI 1), 0, none), σ) else none
    else
      (am_ldS σ x4).bind fun v1 =>
      bif decide ((v1 &&& (nI 31)) = nI 0) then
        (am_ldS σ (x4 + (nI 1))).bind fun v2 =>
        (am_ldS σ (x4 + (nI 2))).bind fun v3 =>
        (am_ldS σ (x4 + (nI 3))).bind fun v4 =>
        bif am_is σ a1 8 then
          (f_X8_call d a1 v2 (((Int32.toInt64 v3) <<< (Int32.toInt64 (nI 32) &&& 63)) ||| ((Int32.toInt64 v4) &&& (lN 4294967295))) σ).bind fun r5 =>
          (am_ldS r5.2 (x4 + (nI 1))).bind fun v6 =>
          (am_ldS r5.2 (x4 + (nI 2))).bind fun v7 =>
          (am_ldS r5.2 (x4 + (nI 3))).bind fun v8 =>
          bif am_is r5.2 a2 9 then
            (f_X9_call d a2 v6 (((Int32.toInt64 v7) <<< (Int32.toInt64 (nI 32) &&& 63)) ||| ((Int32.toInt64 v8) &&& (lN 4294967295))) r5.2).bind fun r9 =>
            bif decide (r5.1.1 = r9.1.1) then
              l_L_law_33 (d + 1) a1 a2 a3 (x4 + nI 5) r9.2
            else
              bif am_zb (nI 0) then some (((nI 0), 0, none), r9.2) else none
          else none
        else none
      else
      bif decide ((v1 &&& (nI 31)) = nI 1) then
        (am_ldS σ (x4 + (nI 1))).bind fun v10 =>
        (am_ldS σ (x4 + (nI 2))).bind fun v11 =>
        bif am_is σ a1 8 then
          (f_X8_data d a1 v10 v11 σ).bind fun r12 =>
          (am_ldS r12.2 (x4 + (nI 1))).bind fun v13 =>
          (am_ldS r12.2 (x4 + (nI 2))).bind fun v14 =>
          bif am_is r12.2 a2 9 then
            (f_X9_data d a2 v13 v14 r12.2).bind fun r15 =>
            bif decide (r12.1.1 = r15.1.1) then
              l_L_law_33 (d + 1) a1 a2 a3 (x4 + nI 5) r15.2
            else
              bif am_zb (nI 0) then some (((nI 0), 0, none), r15.2) else none
          else none
        else none
      else
      bif decide ((v1 &&& (nI 31)) = nI 2) then
        (am_ldS σ (x4 + (nI 1))).bind fun v16 =>
        (am_ldS σ (x4 + (nI 2))).bind fun v17 =>
        (am_ldS σ (x4 + (nI 3))).bind fun v18 =>
        (am_ldS σ (x4 + (nI 4))).bind fun v19 =>
        bif am_is σ a1 8 then
          (f_X8_name d a1 v16 v17 (((Int32.toInt64 v18) <<< (Int32.toInt64 (nI 32) &&& 63)) ||| ((Int32.toInt64 v19) &&& (lN 4294967295))) σ).bind fun r20 =>
          (am_ldS r20.2 (x4 + (nI 1))).bind fun v21 =>
          (am_ldS r20.2 (x4 + (nI 2))).bind fun v22 =>
          (am_ldS r20.2 (x4 + (nI 3))).bind fun v23 =>
          (am_ldS r20.2 (x4 + (nI 4))).bind fun v24 =>
          bif am_is r20.2 a2 9 then
            (f_X9_name d a2 v21 v22 (((Int32.toInt64 v23) <<< (Int32.toInt64 (nI 32) &&& 63)) ||| ((Int32.toInt64 v24) &&& (lN 4294967295))) r20.2).bind fun r25 =>
            bif decide (r20.1.1 = r25.1.1) then
              l_L_law_33 (d + 1) a1 a2 a3 (x4 + nI 5) r25.2
            else
              bif am_zb (nI 0) then some (((nI 0), 0, none), r25.2) else none
          else none
        else none
      else
      bif decide ((v1 &&& (nI 31)) = nI 3) then
        (am_ldS σ (x4 + (nI 1))).bind fun v26 =>
        (am_ldS σ (x4 + (nI 2))).bind fun v27 =>
        bif am_is σ a1 8 then
          (f_X8_begin d a1 v26 v27 σ).bind fun r28 =>
          (am_ldS r28.2 (x4 + (nI 1))).bind fun v29 =>
          (am_ldS r28.2 (x4 + (nI 2))).bind fun v30 =>
          bif am_is r28.2 a2 9 then
            (f_X9_begin d a2 v29 v30 r28.2).bind fun r31 =>
            bif decide (r28.1.1 = r31.1.1) then
              l_L_law_33 (d + 1) a1 a2 a3 (x4 + nI 5) r31.2
            else
              bif am_zb (nI 0) then some (((nI 0), 0, none), r31.2) else none
          else none
        else none
      else
      bif decide ((v1 &&& (nI 31)) = nI 4) then
        (am_ldS σ (x4 + (nI 1))).bind fun v32 =>
        (am_ldS σ (x4 + (nI 2))).bind fun v33 =>
        bif am_is σ a1 8 then
          (f_X8_carry d a1 v32 v33 σ).bind fun r34 =>
          (am_ldS r34.2 (x4 + (nI 1))).bind fun v35 =>
          (am_ldS r34.2 (x4 + (nI 2))).bind fun v36 =>
          bif am_is r34.2 a2 9 then
            (f_X9_carry d a2 v35 v36 r34.2).bind fun r37 =>
            bif decide (r34.1.1 = r37.1.1) then
              l_L_law_33 (d + 1) a1 a2 a3 (x4 + nI 5) r37.2
            else
              bif am_zb (nI 0) then some (((nI 0), 0, none), r37.2) else none
          else none
        else none
      else
      bif decide ((v1 &&& (nI 31)) = nI 5) then
        (am_ldS σ (x4 + (nI 1))).bind fun v38 =>
        (am_ldS σ (x4 + (nI 2))).bind fun v39 =>
        bif am_is σ a1 8 then
          (f_X8_cut d a1 v38 v39 σ).bind fun r40 =>
          (am_ldS r40.2 (x4 + (nI 1))).bind fun v41 =>
          (am_ldS r40.2 (x4 + (nI 2))).bind fun v42 =>
          bif am_is r40.2 a2 9 then
            (f_X9_cut d a2 v41 v42 r40.2).bind fun r43 =>
            bif decide (r40.1.1 = r43.1.1) then
              l_L_law_33 (d + 1) a1 a2 a3 (x4 + nI 5) r43.2
            else
              bif am_zb (nI 0) then some (((nI 0), 0, none), r43.2) else none
          else none
        else none
      else
      bif decide ((v1 &&& (nI 31)) = nI 6) then
        (am_ldS σ (x4 + (nI 1))).bind fun v44 =>
        (am_ldS σ (x4 + (nI 2))).bind fun v45 =>
        bif am_is σ a1 8 then
          (f_X8_lose d a1 v44 v45 σ).bind fun r46 =>
          (am_ldS r46.2 (x4 + (nI 1))).bind fun v47 =>
          (am_ldS r46.2 (x4 + (nI 2))).bind fun v48 =>
          bif am_is r46.2 a2 9 then
            (f_X9_lose d a2 v47 v48 r46.2).bind fun r49 =>
            bif decide (r46.1.1 = r49.1.1) then
              l_L_law_33 (d + 1) a1 a2 a3 (x4 + nI 5) r49.2
            else
              bif am_zb (nI 0) then some (((nI 0), 0, none), r49.2) else none
          else none
        else none
      else
      bif decide ((v1 &&& (nI 31)) = nI 7) then
        (am_ldS σ (x4 + (nI 1))).bind fun v50 =>
        (am_ldS σ (x4 + (nI 2))).bind fun v51 =>
        bif am_is σ a1 8 then
          (f_X8_twice d a1 v50 v51 σ).bind fun r52 =>
          (am_ldS r52.2 (x4 + (nI 1))).bind fun v53 =>
          (am_ldS r52.2 (x4 + (nI 2))).bind fun v54 =>
          bif am_is r52.2 a2 9 then
            (f_X9_twice d a2 v53 v54 r52.2).bind fun r55 =>
            bif decide (r52.1.1 = r55.1.1) then
              l_L_law_33 (d + 1) a1 a2 a3 (x4 + nI 5) r55.2
            else
              bif am_zb (nI 0) then some (((nI 0), 0, none), r55.2) else none
          else none
        else none
      else
      bif decide ((v1 &&& (nI 31)) = nI 8) then
        (am_ldS σ (x4 + (nI 1))).bind fun v56 =>
        (am_ldS σ (x4 + (nI 2))).bind fun v57 =>
        (am_ldS σ (x4 + (nI 3))).bind fun v58 =>
        bif am_is σ a1 8 then
          (f_X8_lie d a1 v56 v57 v58 σ).bind fun r59 =>
          (am_ldS r59.2 (x4 + (nI 1))).bind fun v60 =>
          (am_ldS r59.2 (x4 + (nI 2))).bind fun v61 =>
          (am_ldS r59.2 (x4 + (nI 3))).bind fun v62 =>
          bif am_is r59.2 a2 9 then
            (f_X9_lie d a2 v60 v61 v62 r59.2).bind fun r63 =>
            bif decide (r59.1.1 = r63.1.1) then
              l_L_law_33 (d + 1) a1 a2 a3 (x4 + nI 5) r63.2
            else
              bif am_zb (nI 0) then some (((nI 0), 0, none), r63.2) else none
          else none
        else none
      else
      bif decide ((v1 &&& (nI 31)) = nI 9) then
        (am_ldS σ (x4 + (nI 1))).bind fun v64 =>
        (am_ldS σ (x4 + (nI 2))).bind fun v65 =>
        bif am_is σ a1 8 then
          (f_X8_underway d a1 v64 v65 σ).bind fun r66 =>
          (am_ldS r66.2 (x4 + (nI 1))).bind fun v67 =>
          (am_ldS r66.2 (x4 + (nI 2))).bind fun v68 =>
          bif am_is r66.2 a2 9 then
            (f_X9_underway d a2 v67 v68 r66.2).bind fun r69 =>
            bif decide (r66.1.1 = r69.1.1) then
              l_L_law_33 (d + 1) a1 a2 a3 (x4 + nI 5) r69.2
            else
              bif am_zb (nI 0) then some (((nI 0), 0, none), r69.2) else none
          else none
        else none
      else
      bif decide ((v1 &&& (nI 31)) = nI 10) then
        (am_ldS σ (x4 + (nI 1))).bind fun v70 =>
        bif am_is σ a1 8 then
          (f_X8_resume d a1 v70 σ).bind fun r71 =>
          (am_ldS r71.2 (x4 + (nI 1))).bind fun v72 =>
          bif am_is r71.2 a2 9 then
            (f_X9_resume d a2 v72 r71.2).bind fun r73 =>
            bif decide (r71.1.1 = r73.1.1) then
              l_L_law_33 (d + 1) a1 a2 a3 (x4 + nI 5) r73.2
            else
              bif am_zb (nI 0) then some (((nI 0), 0, none), r73.2) else none
          else none
        else none
      else
      bif decide ((v1 &&& (nI 31)) = nI 11) then
        (am_ldS σ (x4 + (nI 1))).bind fun v74 =>
        bif am_is σ a1 8 then
          (f_X8_tick d a1 v74 σ).bind fun r75 =>
          (am_ldS r75.2 (x4 + (nI 1))).bind fun v76 =>
          bif am_is r75.2 a2 9 then
            (f_X9_tick d a2 v76 r75.2).bind fun r77 =>
            bif decide (r75.1.1 = r77.1.1) then
              l_L_law_33 (d + 1) a1 a2 a3 (x4 + nI 5) r77.2
            else
              bif am_zb (nI 0) then some (((nI 0), 0, none), r77.2) else none
          else none
        else none
      else
      bif decide ((v1 &&& (nI 31)) = nI 12) then
        (am_ldS σ (x4 + (nI 1))).bind fun v78 =>
        bif am_is σ a1 8 then
          (f_X8_end d a1 v78 σ).bind fun r79 =>
          (am_ldS r79.2 (x4 + (nI 1))).bind fun v80 =>
          bif am_is r79.2 a2 9 then
            (f_X9_end d a2 v80 r79.2).bind fun r81 =>
            bif decide (r79.1.1 = r81.1.1) then
              l_L_law_33 (d + 1) a1 a2 a3 (x4 + nI 5) r81.2
            else
              bif am_zb (nI 0) then some (((nI 0), 0, none), r81.2) else none
          else none
        else none
      else
      bif decide ((v1 &&& (nI 31)) = nI 13) then
        (am_ldS σ (x4 + (nI 1))).bind fun v82 =>
        (am_ldS σ (x4 + (nI 2))).bind fun v83 =>
        (f_L_got d a1 v82 v83 a3 σ).bind fun r84 =>
        (am_ldS r84.2 (x4 + (nI 1))).bind fun v85 =>
        (am_ldS r84.2 (x4 + (nI 2))).bind fun v86 =>
        bif am_is r84.2 a2 9 then
          (f_X9_got d a2 v85 v86 r84.2).bind fun r87 =>
          bif am_is r87.2 a2 9 then
            (f_X9_thrown d a2 r87.2).bind fun r88 =>
            bif decide (r88.1.1 = r84.1.1) then
              bif decide (¬ r84.1.1 = nI 0) then
                l_L_law_33 (d + 1) a1 a2 a3 (x4 + nI 5) r88.2
              else
                (am_ldJ r88.2 a3 (nI 0)).bind fun w89 =>
                bif decide ((lg_cmp w89 (Int32.toInt64 r87.1.1)) = nI 0) then
                  l_L_law_33 (d + 1) a1 a2 a3 (x4 + nI 5) r88.2
                else
                  bif am_zb (nI 0) then some (((nI 0), 0, none), r88.2) else none
            else
              bif am_zb (nI 0) then some (((nI 0), 0, none), r88.2) else none
          else none
        else none
      else
      bif decide ((v1 &&& (nI 31)) = nI 14) then
        (am_ldS σ (x4 + (nI 1))).bind fun v90 =>
        (am_ldS σ (x4 + (nI 2))).bind fun v91 =>
        bif am_is σ a1 8 then
          (f_X8_named d a1 v90 v91 σ).bind fun r92 =>
          (am_ldS r92.2 (x4 + (nI 1))).bind fun v93 =>
          (am_ldS r92.2 (x4 + (nI 2))).bind fun v94 =>
          bif am_is r92.2 a2 9 then
            (f_X9_named d a2 v93 v94 r92.2).bind fun r95 =>
            bif decide ((lg_cmp r92.1.2.1 r95.1.2.1) = nI 0) then
              l_L_law_33 (d + 1) a1 a2 a3 (x4 + nI 5) r95.2
            else
              bif am_zb (nI 0) then some (((nI 0), 0, none), r95.2) else none
          else none
        else none
      else
      bif decide ((v1 &&& (nI 31)) = nI 15) then
        (am_ldS σ (x4 + (nI 1))).bind fun v96 =>
        (am_ldS σ (x4 + (nI 2))).bind fun v97 =>
        bif am_is σ a1 8 then
          (f_X8_missing d a1 v96 v97 σ).bind fun r98 =>
          (am_ldS r98.2 (x4 + (nI 1))).bind fun v99 =>
          (am_ldS r98.2 (x4 + (nI 2))).bind fun v100 =>
          bif am_is r98.2 a2 9 then
            (f_X9_missing d a2 v99 v100 r98.2).bind fun r101 =>
            bif decide (r98.1.1 = r101.1.1) then
              l_L_law_33 (d + 1) a1 a2 a3 (x4 + nI 5) r101.2
            else
              bif am_zb (nI 0) then some (((nI 0), 0, none), r101.2) else none
          else none
        else none
      else
      bif decide ((v1 &&& (nI 31)) = nI 16) then
        (am_ldS σ (x4 + (nI 1))).bind fun v102 =>
        (am_ldS σ (x4 + (nI 2))).bind fun v103 =>
        bif am_is σ a1 8 then
          (f_X8_about d a1 v102 v103 σ).bind fun r104 =>
          (am_ldS r104.2 (x4 + (nI 1))).bind fun v105 =>
          (am_ldS r104.2 (x4 + (nI 2))).bind fun v106 =>
          bif am_is r104.2 a2 9 then
            (f_X9_about d a2 v105 v106 r104.2).bind fun r107 =>
            bif decide (r104.1.1 = r107.1.1) then
              l_L_law_33 (d + 1) a1 a2 a3 (x4 + nI 5) r107.2
            else
              bif am_zb (nI 0) then some (((nI 0), 0, none), r107.2) else none
          else none
        else none
      else
      bif decide ((v1 &&& (nI 31)) = nI 17) then
        (am_ldS σ (x4 + (nI 1))).bind fun v108 =>
        bif am_is σ a1 8 then
          (f_X8_busy d a1 v108 σ).bind fun r109 =>
          (am_ldS r109.2 (x4 + (nI 1))).bind fun v110 =>
          bif am_is r109.2 a2 9 then
            (f_X9_busy d a2 v110 r109.2).bind fun r111 =>
            bif decide (r109.1.1 = r111.1.1) then
              l_L_law_33 (d + 1) a1 a2 a3 (x4 + nI 5) r111.2
            else
              bif am_zb (nI 0) then some (((nI 0), 0, none), r111.2) else none
          else none
        else none
      else
      bif decide ((v1 &&& (nI 31)) = nI 18) then
        (am_ldS σ (x4 + (nI 1))).bind fun v112 =>
        bif am_is σ a1 8 then
          (f_X8_forget d a1 v112 σ).bind fun r113 =>
          (am_ldS r113.2 (x4 + (nI 1))).bind fun v114 =>
          bif am_is r113.2 a2 9 then
            (f_X9_forget d a2 v114 r113.2).bind fun r115 =>
            bif decide (r113.1.1 = r115.1.1) then
              l_L_law_33 (d + 1) a1 a2 a3 (x4 + nI 5) r115.2
            else
              bif am_zb (nI 0) then some (((nI 0), 0, none), r115.2) else none
          else none
        else none
      else
      bif decide ((v1 &&& (nI 31)) = nI 19) then
        (am_ldS σ (x4 + (nI 1))).bind fun v116 =>
        bif am_is σ a1 8 then
          (f_X8_count d a1 v116 σ).bind fun r117 =>
          (am_ldS r117.2 (x4 + (nI 1))).bind fun v118 =>
          bif am_is r117.2 a2 9 then
            (f_X9_count d a2 v118 r117.2).bind fun r119 =>
            bif decide (r117.1.1 = r119.1.1) then
              l_L_law_33 (d + 1) a1 a2 a3 (x4 + nI 5) r119.2
            else
              bif am_zb (nI 0) then some (((nI 0), 0, none), r119.2) else none
          else none
        else none
      else
        l_L_law_33 (d + 1) a1 a2 a3 (x4 + nI 5) σ := (am_L_it (d + 1) 181 604 true 33 [(0, .retAddr 0), (1, .ref a1), (2, .ref a2), (3, .ref a3), (4, .int x4)] [] σ).symm
