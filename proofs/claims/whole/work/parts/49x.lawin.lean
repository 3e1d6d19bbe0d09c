-- the law's words are among the tables'
theorem wl_1 : ∀ w ∈ wsL_law_r1, w ∈ lw_tbl := fun w h => (goodIn_p wsL_law_r1 [52, 55] (by decide +kernel) (by decide +kernel) w h).1
theorem wl_2 : ∀ w ∈ wsL_law_r2, w ∈ lw_tbl := fun w h => (goodIn_p wsL_law_r2 [62, 411] (by decide +kernel) (by decide +kernel) w h).1
theorem wl_3 : ∀ w ∈ wsL_law_r3, w ∈ lw_tbl := fun w h => (goodIn_p wsL_law_r3 [109, 112, 118, 122] (by decide +kernel) (by decide +kernel) w h).1
theorem wl_4 : ∀ w ∈ wsL_law_r4, w ∈ lw_tbl := fun w h => (goodIn_p wsL_law_r4 [158, 162, 165, 168, 172] (by decide +kernel) (by decide +kernel) w h).1
theorem wl_5 : ∀ w ∈ wsL_law_r5, w ∈ lw_tbl := fun w h => (goodIn_p wsL_law_r5 [177, 183, 189, 193, 197, 200] (by decide +kernel) (by decide +kernel) w h).1
theorem wl_6 : ∀ w ∈ wsL_law_r6, w ∈ lw_tbl := fun w h => (goodIn_p wsL_law_r6 [204, 463, 466, 470, 474] (by decide +kernel) (by decide +kernel) w h).1
theorem wl_7 : ∀ w ∈ wsL_law_r7, w ∈ lw_tbl := fun w h => (goodIn_p wsL_law_r7 [208, 478, 213, 482, 218] (by decide +kernel) (by decide +kernel) w h).1
theorem wl_8 : ∀ w ∈ wsL_law_r8, w ∈ lw_tbl := fun w h => (goodIn_p wsL_law_r8 [486, 490, 222, 494, 226] (by decide +kernel) (by decide +kernel) w h).1
theorem wl_9 : ∀ w ∈ wsL_law_r9, w ∈ lw_tbl := fun w h => (goodIn_p wsL_law_r9 [502, 506, 510, 514, 518, 522, 525] (by decide +kernel) (by decide +kernel) w h).1
theorem wl_10 : ∀ w ∈ wsL_law_r10, w ∈ lw_tbl := fun w h => (goodIn_p wsL_law_r10 [529, 532, 535, 538, 230, 234] (by decide +kernel) (by decide +kernel) w h).1
theorem wl_11 : ∀ w ∈ wsL_law_r11, w ∈ lw_tbl := fun w h => (goodIn_p wsL_law_r11 [238, 542, 546, 551, 242, 246] (by decide +kernel) (by decide +kernel) w h).1
theorem wl_12 : ∀ w ∈ wsL_law_r12, w ∈ lw_tbl := fun w h => (goodIn_p wsL_law_r12 [250, 555, 559, 255, 260] (by decide +kernel) (by decide +kernel) w h).1
theorem wl_13 : ∀ w ∈ wsL_law_r13, w ∈ lw_tbl := fun w h => (goodIn_p wsL_law_r13 [265, 268, 272, 276, 280, 283] (by decide +kernel) (by decide +kernel) w h).1
theorem wl_14 : ∀ w ∈ wsL_law_r14, w ∈ lw_tbl := fun w h => (goodIn_p wsL_law_r14 [288, 291, 563, 568, 572, 576] (by decide +kernel) (by decide +kernel) w h).1
theorem wl_15 : ∀ w ∈ wsL_law_r15, w ∈ lw_tbl := fun w h => (goodIn_p wsL_law_r15 [580, 583, 586, 295, 299, 303] (by decide +kernel) (by decide +kernel) w h).1
theorem wl_16 : ∀ w ∈ wsL_law_r16, w ∈ lw_tbl := fun w h => (goodIn_p wsL_law_r16 [307, 590, 594, 312, 316, 598] (by decide +kernel) (by decide +kernel) w h).1
theorem wl_17 : ∀ w ∈ wsL_law_r17, w ∈ lw_tbl := fun w h => (goodIn_p wsL_law_r17 [320, 324, 602, 606, 336] (by decide +kernel) (by decide +kernel) w h).1
theorem wl_18 : ∀ w ∈ wsL_law_r18, w ∈ lw_tbl := fun w h => (goodIn_p wsL_law_r18 [610, 406, 328, 498] (by decide +kernel) (by decide +kernel) w h).1
theorem wl_X3 : ∀ w ∈ wsX30, w ∈ lw_tbl := fun w h => (goodIn_of (big := lw_tbl) wsX30 (by decide +kernel) w h).1
theorem wl_X4 : ∀ w ∈ wsX40, w ∈ lw_tbl := fun w h => (goodIn_of (big := lw_tbl) wsX40 (by decide +kernel) w h).1
theorem wl_X0 : ∀ w ∈ wsX00, w ∈ lw_tbl := fun w h => (goodIn_of (big := lw_tbl) wsX00 (by decide +kernel) w h).1
theorem wl_X2 : ∀ w ∈ wsX20, w ∈ lw_tbl := fun w h => (goodIn_of (big := lw_tbl) wsX20 (by decide +kernel) w h).1
theorem wl_J : ∀ w ∈ wsJx000600, w ∈ lw_tbl := fun w h => (goodIn_of (big := lw_tbl) wsJx000600 (by decide +kernel) w h).1
theorem ap_in {a b : List Cond} (h : ∀ w ∈ a, w ∈ lw_tbl) (k : ∀ w ∈ b, w ∈ lw_tbl) : ∀ w ∈ a ++ b, w ∈ lw_tbl := fun w q => (List.mem_append.mp q).elim (h w) (k w)
theorem wsL_law_in : ∀ w ∈ wsL_law, w ∈ lw_tbl := ap_in (ap_in (ap_in (ap_in (ap_in (ap_in (ap_in wl_1 (ap_in wl_2 (ap_in wl_3 (ap_in wl_4 (ap_in wl_5 (ap_in wl_6 (ap_in wl_7 (ap_in wl_8 (ap_in wl_9 (ap_in wl_10 (ap_in wl_11 (ap_in wl_12 (ap_in wl_13 (ap_in wl_14 (ap_in wl_15 (ap_in wl_16 (ap_in wl_17 wl_18))))))))))))))))) wl_X3) wl_X4) wl_X0) wl_X2) wl_J) (fun _ h => nomatch h)
