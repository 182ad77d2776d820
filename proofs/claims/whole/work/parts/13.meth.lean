/-! ===== the methods and their code tables (0 is the law) ===== -/
/-- L_law -/
def ab_g0 : ab_M := (yL_law, cL_law, 9, (some .boolean), [], 10)
/-- X6_init -/
def ab_g1 : ab_M := (yX6_init, cX6_init, 1, none, [], 4)
/-- X7_init -/
def ab_g2 : ab_M := (yX7_init, cX7_init, 1, none, [], 1)
/-- L_restore -/
def ab_g3 : ab_M := (yL_restore, cL_restore, 3, (some .int), [(0, 8, 11, 113)], 5)
/-- X7_restore -/
def ab_g4 : ab_M := (yX7_restore, cX7_restore, 1, (some .int), [], 2)
/-- X7_thrown -/
def ab_g5 : ab_M := (yX7_thrown, cX7_thrown, 1, (some .int), [], 1)
/-- X6_save -/
def ab_g6 : ab_M := (yX6_save, cX6_save, 1, (some .int), [], 4)
/-- X7_save -/
def ab_g7 : ab_M := (yX7_save, cX7_save, 1, (some .int), [], 2)
/-- L_undo -/
def ab_g8 : ab_M := (yL_undo, cL_undo, 3, (some .int), [(0, 8, 11, 113)], 6)
/-- X7_undo -/
def ab_g9 : ab_M := (yX7_undo, cX7_undo, 1, (some .int), [], 2)
/-- L_account -/
def ab_g10 : ab_M := (yL_account, cL_account, 4, (some .int), [(0, 9, 12, 59)], 3)
/-- X7_account -/
def ab_g11 : ab_M := (yX7_account, cX7_account, 2, (some .int), [], 3)
/-- L_meanSignatures -/
def ab_g12 : ab_M := (yL_meanSignatures, cL_meanSignatures, 3, (some .int), [(0, 7, 10, 133)], 3)
/-- X7_meanSignatures -/
def ab_g13 : ab_M := (yX7_meanSignatures, cX7_meanSignatures, 1, (some .double), [], 3)
/-- L_rightShare -/
def ab_g14 : ab_M := (yL_rightShare, cL_rightShare, 4, (some .int), [(0, 9, 12, 57), (0, 9, 15, 133)], 5)
/-- X7_rightShare -/
def ab_g15 : ab_M := (yX7_rightShare, cX7_rightShare, 2, (some .float), [], 7)
/-- L_character -/
def ab_g16 : ab_M := (yL_character, cL_character, 4, (some .int), [(0, 9, 12, 57)], 6)
/-- X7_character -/
def ab_g17 : ab_M := (yX7_character, cX7_character, 2, (some .char), [], 2)
/-- L_line -/
def ab_g18 : ab_M := (yL_line, cL_line, 4, (some .int), [(0, 9, 12, 57)], 7)
/-- X7_line -/
def ab_g19 : ab_M := (yX7_line, cX7_line, 3, (some .int), [], 4)
/-- L_reason -/
def ab_g20 : ab_M := (yL_reason, cL_reason, 4, (some .int), [(0, 9, 12, 59), (0, 9, 15, 76)], 2)
/-- X7_reason -/
def ab_g21 : ab_M := (yX7_reason, cX7_reason, 2, (some .int), [], 2)
/-- X6_faultPosition -/
def ab_g22 : ab_M := (yX6_faultPosition, cX6_faultPosition, 1, (some .int), [], 1)
/-- X7_faultPosition -/
def ab_g23 : ab_M := (yX7_faultPosition, cX7_faultPosition, 1, (some .int), [], 1)
/-- L_commands -/
def ab_g24 : ab_M := (yL_commands, cL_commands, 3, (some .int), [(0, 8, 11, 59), (0, 8, 14, 13)], 9)
/-- X7_commands -/
def ab_g25 : ab_M := (yX7_commands, cX7_commands, 4, (some .int), [], 9)
/-- L_append -/
def ab_g26 : ab_M := (yL_append, cL_append, 4, (some .int), [(0, 9, 12, 113)], 3)
/-- X7_append -/
def ab_g27 : ab_M := (yX7_append, cX7_append, 2, (some .int), [], 2)
/-- L_ranked -/
def ab_g28 : ab_M := (yL_ranked, cL_ranked, 4, (some .int), [(0, 9, 12, 76)], 5)
/-- X7_ranked -/
def ab_g29 : ab_M := (yX7_ranked, cX7_ranked, 5, (some .int), [], 8)
/-- L_readyAgain -/
def ab_g30 : ab_M := (yL_readyAgain, cL_readyAgain, 4, (some .int), [(0, 9, 12, 57), (0, 9, 15, 76)], 5)
/-- X7_readyAgain -/
def ab_g31 : ab_M := (yX7_readyAgain, cX7_readyAgain, 5, (some .int), [], 3)
/-- L_readyIn -/
def ab_g32 : ab_M := (yL_readyIn, cL_readyIn, 4, (some .int), [(0, 9, 12, 57), (0, 9, 15, 76)], 5)
/-- X7_readyIn -/
def ab_g33 : ab_M := (yX7_readyIn, cX7_readyIn, 4, (some .int), [], 3)
/-- L_inPress -/
def ab_g34 : ab_M := (yL_inPress, cL_inPress, 5, (some .int), [(0, 10, 13, 57), (0, 10, 17, 76)], 4)
/-- X7_inPress -/
def ab_g35 : ab_M := (yX7_inPress, cX7_inPress, 3, (some .int), [], 3)
/-- L_hasSlip -/
def ab_g36 : ab_M := (yL_hasSlip, cL_hasSlip, 5, (some .int), [(0, 17, 20, 57)], 6)
/-- X7_hasSlip -/
def ab_g37 : ab_M := (yX7_hasSlip, cX7_hasSlip, 3, (some .boolean), [], 7)
/-- L_threadFor -/
def ab_g38 : ab_M := (yL_threadFor, cL_threadFor, 4, (some .int), [(0, 9, 12, 57)], 4)
/-- X7_threadFor -/
def ab_g39 : ab_M := (yX7_threadFor, cX7_threadFor, 4, (some .int), [], 4)
/-- L_rightPlace -/
def ab_g40 : ab_M := (yL_rightPlace, cL_rightPlace, 5, (some .int), [(0, 10, 13, 57)], 5)
/-- X7_rightPlace -/
def ab_g41 : ab_M := (yX7_rightPlace, cX7_rightPlace, 6, (some .int), [], 3)
/-- L_twice -/
def ab_g42 : ab_M := (yL_twice, cL_twice, 4, (some .int), [(0, 9, 12, 57)], 4)
/-- X7_twice -/
def ab_g43 : ab_M := (yX7_twice, cX7_twice, 4, (some .int), [], 5)
/-- L_missingPage -/
def ab_g44 : ab_M := (yL_missingPage, cL_missingPage, 5, (some .int), [(0, 10, 13, 57), (0, 10, 17, 76)], 4)
/-- X7_missingPage -/
def ab_g45 : ab_M := (yX7_missingPage, cX7_missingPage, 5, (some .int), [], 5)
/-- L_missing -/
def ab_g46 : ab_M := (yL_missing, cL_missing, 4, (some .int), [(0, 9, 12, 57)], 4)
/-- X7_missing -/
def ab_g47 : ab_M := (yX7_missing, cX7_missing, 2, (some .int), [], 6)
/-- L_firstWrong -/
def ab_g48 : ab_M := (yL_firstWrong, cL_firstWrong, 4, (some .int), [(0, 9, 12, 57), (0, 9, 15, 76)], 4)
/-- X7_firstWrong -/
def ab_g49 : ab_M := (yX7_firstWrong, cX7_firstWrong, 4, (some .int), [], 6)
/-- L_wrongAgain -/
def ab_g50 : ab_M := (yL_wrongAgain, cL_wrongAgain, 4, (some .int), [(0, 9, 12, 57)], 5)
/-- X7_wrongAgain -/
def ab_g51 : ab_M := (yX7_wrongAgain, cX7_wrongAgain, 4, (some .int), [], 6)
/-- L_wrong -/
def ab_g52 : ab_M := (yL_wrong, cL_wrong, 4, (some .int), [(0, 9, 12, 57)], 4)
/-- X7_wrong -/
def ab_g53 : ab_M := (yX7_wrong, cX7_wrong, 2, (some .int), [], 7)
/-- L_pageAt -/
def ab_g54 : ab_M := (yL_pageAt, cL_pageAt, 5, (some .int), [(0, 10, 13, 57)], 6)
/-- X7_pageAt -/
def ab_g55 : ab_M := (yX7_pageAt, cX7_pageAt, 3, (some .int), [], 7)
/-- L_signatureOf -/
def ab_g56 : ab_M := (yL_signatureOf, cL_signatureOf, 6, (some .int), [(0, 12, 15, 57), (0, 12, 19, 59)], 5)
/-- X7_signatureOf -/
def ab_g57 : ab_M := (yX7_signatureOf, cX7_signatureOf, 4, (some .int), [], 5)
/-- L_bookOf -/
def ab_g58 : ab_M := (yL_bookOf, cL_bookOf, 5, (some .int), [(0, 10, 13, 57), (0, 10, 17, 59)], 5)
/-- X7_bookOf -/
def ab_g59 : ab_M := (yX7_bookOf, cX7_bookOf, 3, (some .int), [], 6)
/-- L_pass -/
def ab_g60 : ab_M := (yL_pass, cL_pass, 4, (some .int), [(0, 9, 12, 13)], 6)
/-- X7_pass -/
def ab_g61 : ab_M := (yX7_pass, cX7_pass, 4, (some .int), [], 4)
/-- L_deliver -/
def ab_g62 : ab_M := (yL_deliver, cL_deliver, 4, (some .int), [(0, 9, 12, 13)], 6)
/-- X7_deliver -/
def ab_g63 : ab_M := (yX7_deliver, cX7_deliver, 4, (some .int), [], 7)
/-- L_slip -/
def ab_g64 : ab_M := (yL_slip, cL_slip, 5, (some .int), [(0, 10, 13, 13)], 6)
/-- X7_slip -/
def ab_g65 : ab_M := (yX7_slip, cX7_slip, 3, (some .int), [], 6)
/-- L_lift -/
def ab_g66 : ab_M := (yL_lift, cL_lift, 4, (some .int), [(0, 9, 12, 13)], 6)
/-- X7_lift -/
def ab_g67 : ab_M := (yX7_lift, cX7_lift, 3, (some .int), [], 3)
/-- L_press -/
def ab_g68 : ab_M := (yL_press, cL_press, 5, (some .int), [(0, 10, 13, 13)], 6)
/-- X7_press -/
def ab_g69 : ab_M := (yX7_press, cX7_press, 3, (some .int), [], 4)
/-- L_glue -/
def ab_g70 : ab_M := (yL_glue, cL_glue, 5, (some .int), [(0, 10, 13, 13)], 6)
/-- X7_glue -/
def ab_g71 : ab_M := (yX7_glue, cX7_glue, 3, (some .int), [], 4)
/-- L_unpick -/
def ab_g72 : ab_M := (yL_unpick, cL_unpick, 4, (some .int), [(0, 9, 12, 13)], 6)
/-- X7_unpick -/
def ab_g73 : ab_M := (yX7_unpick, cX7_unpick, 2, (some .int), [], 4)
/-- L_sew -/
def ab_g74 : ab_M := (yL_sew, cL_sew, 4, (some .int), [(0, 9, 12, 13)], 6)
/-- X7_sew -/
def ab_g75 : ab_M := (yX7_sew, cX7_sew, 4, (some .int), [], 4)
/-- L_spool -/
def ab_g76 : ab_M := (yL_spool, cL_spool, 4, (some .int), [(0, 9, 12, 13)], 6)
/-- X7_spool -/
def ab_g77 : ab_M := (yX7_spool, cX7_spool, 2, (some .int), [], 3)
/-- L_drop -/
def ab_g78 : ab_M := (yL_drop, cL_drop, 5, (some .int), [(0, 10, 13, 13)], 6)
/-- X7_drop -/
def ab_g79 : ab_M := (yX7_drop, cX7_drop, 5, (some .int), [], 5)
/-- L_move -/
def ab_g80 : ab_M := (yL_move, cL_move, 6, (some .int), [(0, 12, 15, 13)], 6)
/-- X7_move -/
def ab_g81 : ab_M := (yX7_move, cX7_move, 5, (some .int), [], 7)
/-- L_gather -/
def ab_g82 : ab_M := (yL_gather, cL_gather, 7, (some .int), [(0, 14, 17, 13)], 6)
/-- X7_gather -/
def ab_g83 : ab_M := (yX7_gather, cX7_gather, 6, (some .int), [], 5)
/-- L_book -/
def ab_g84 : ab_M := (yL_book, cL_book, 5, (some .int), [(0, 10, 13, 13)], 6)
/-- X7_book -/
def ab_g85 : ab_M := (yX7_book, cX7_book, 5, (some .int), [], 3)
/-- X0_init -/
def ab_g86 : ab_M := (yX0_init, cX0_init, 1, none, [], 3)
/-- X3_init -/
def ab_g87 : ab_M := (yX3_init, cX3_init, 2, none, [], 3)
/-- X5_init -/
def ab_g88 : ab_M := (yX5_init, cX5_init, 2, none, [], 2)
/-- X2_init -/
def ab_g89 : ab_M := (yX2_init, cX2_init, 1, none, [], 1)
/-- J4_init_da8c8 -/
def ab_g90 : ab_M := (yJ4_init_da8c8, cJ4_init_da8c8, 1, none, [], 2)
/-- X6_restore -/
def ab_g91 : ab_M := (yX6_restore, cX6_restore, 1, (some .int), [], 4)
/-- X7_fails -/
def ab_g92 : ab_M := (yX7_fails, cX7_fails, 2, (some .boolean), [], 1)
/-- X7_copies -/
def ab_g93 : ab_M := (yX7_copies, cX7_copies, 5, none, [], 1)
/-- X5_copyFrom -/
def ab_g94 : ab_M := (yX5_copyFrom, cX5_copyFrom, 3, none, [], 3)
/-- X6_undo -/
def ab_g95 : ab_M := (yX6_undo, cX6_undo, 1, (some .int), [], 5)
/-- X6_account -/
def ab_g96 : ab_M := (yX6_account, cX6_account, 2, (some .int), [], 2)
/-- X7_in -/
def ab_g97 : ab_M := (yX7_in, cX7_in, 3, (some .boolean), [], 1)
/-- X7_sumOf -/
def ab_g98 : ab_M := (yX7_sumOf, cX7_sumOf, 4, (some .int), [], 2)
/-- X7_delivered -/
def ab_g99 : ab_M := (yX7_delivered, cX7_delivered, 3, (some .int), [], 2)
/-- X7_stacked -/
def ab_g100 : ab_M := (yX7_stacked, cX7_stacked, 2, (some .int), [], 1)
/-- X6_meanSignatures -/
def ab_g101 : ab_M := (yX6_meanSignatures, cX6_meanSignatures, 1, (some .double), [], 2)
/-- X6_rightShare -/
def ab_g102 : ab_M := (yX6_rightShare, cX6_rightShare, 4, (some .float), [], 4)
/-- X7_isBook -/
def ab_g103 : ab_M := (yX7_isBook, cX7_isBook, 2, (some .boolean), [], 2)
/-- X7_positions -/
def ab_g104 : ab_M := (yX7_positions, cX7_positions, 2, (some .int), [], 5)
/-- X7_wrongOf -/
def ab_g105 : ab_M := (yX7_wrongOf, cX7_wrongOf, 5, (some .int), [], 6)
/-- X6_character -/
def ab_g106 : ab_M := (yX6_character, cX6_character, 2, (some .char), [], 5)
/-- X6_line -/
def ab_g107 : ab_M := (yX6_line, cX6_line, 4, (some .int), [], 6)
/-- X7_writesNumber -/
def ab_g108 : ab_M := (yX7_writesNumber, cX7_writesNumber, 2, none, [], 2)
/-- X7_writes -/
def ab_g109 : ab_M := (yX7_writes, cX7_writes, 2, none, [], 1)
/-- X7_of -/
def ab_g110 : ab_M := (yX7_of, cX7_of, 3, (some .int), [], 1)
/-- X7_sign -/
def ab_g111 : ab_M := (yX7_sign, cX7_sign, 4, (some .int), [], 2)
/-- X7_pagesIn -/
def ab_g112 : ab_M := (yX7_pagesIn, cX7_pagesIn, 3, (some .int), [], 3)
/-- X6_reason -/
def ab_g113 : ab_M := (yX6_reason, cX6_reason, 2, (some .int), [], 1)
/-- X6_commands -/
def ab_g114 : ab_M := (yX6_commands, cX6_commands, 2, (some .int), [], 8)
/-- X7_isText -/
def ab_g115 : ab_M := (yX7_isText, cX7_isText, 1, (some .boolean), [], 5)
/-- X7_carries -/
def ab_g116 : ab_M := (yX7_carries, cX7_carries, 2, (some .int), [], 8)
/-- X7_keeps -/
def ab_g117 : ab_M := (yX7_keeps, cX7_keeps, 3, none, [], 2)
/-- X6_append -/
def ab_g118 : ab_M := (yX6_append, cX6_append, 2, (some .int), [], 2)
/-- X6_ranked -/
def ab_g119 : ab_M := (yX6_ranked, cX6_ranked, 3, (some .int), [], 4)
/-- X7_isAhead -/
def ab_g120 : ab_M := (yX7_isAhead, cX7_isAhead, 3, (some .boolean), [], 7)
/-- X6_readyAgain -/
def ab_g121 : ab_M := (yX6_readyAgain, cX6_readyAgain, 4, (some .int), [], 4)
/-- X7_isPress -/
def ab_g122 : ab_M := (yX7_isPress, cX7_isPress, 1, (some .boolean), [], 2)
/-- X7_inStack -/
def ab_g123 : ab_M := (yX7_inStack, cX7_inStack, 3, (some .int), [], 1)
/-- X6_readyIn -/
def ab_g124 : ab_M := (yX6_readyIn, cX6_readyIn, 5, (some .int), [], 4)
/-- X7_needs -/
def ab_g125 : ab_M := (yX7_needs, cX7_needs, 2, (some .int), [], 2)
/-- X7_more -/
def ab_g126 : ab_M := (yX7_more, cX7_more, 2, (some .int), [], 1)
/-- X6_inPress -/
def ab_g127 : ab_M := (yX6_inPress, cX6_inPress, 4, (some .int), [], 3)
/-- X6_hasSlip -/
def ab_g128 : ab_M := (yX6_hasSlip, cX6_hasSlip, 3, (some .boolean), [], 5)
/-- X7_isPosition -/
def ab_g129 : ab_M := (yX7_isPosition, cX7_isPosition, 3, (some .boolean), [], 6)
/-- X7_isSlipped -/
def ab_g130 : ab_M := (yX7_isSlipped, cX7_isSlipped, 3, (some .boolean), [], 2)
/-- X6_threadFor -/
def ab_g131 : ab_M := (yX6_threadFor, cX6_threadFor, 2, (some .int), [], 3)
/-- X7_threadOf -/
def ab_g132 : ab_M := (yX7_threadOf, cX7_threadOf, 3, (some .int), [], 3)
/-- X6_rightPlace -/
def ab_g133 : ab_M := (yX6_rightPlace, cX6_rightPlace, 3, (some .int), [], 4)
/-- X7_isPlace -/
def ab_g134 : ab_M := (yX7_isPlace, cX7_isPlace, 3, (some .boolean), [], 2)
/-- X6_twice -/
def ab_g135 : ab_M := (yX6_twice, cX6_twice, 2, (some .int), [], 3)
/-- X7_comings -/
def ab_g136 : ab_M := (yX7_comings, cX7_comings, 5, (some .int), [], 4)
/-- X6_missingPage -/
def ab_g137 : ab_M := (yX6_missingPage, cX6_missingPage, 4, (some .int), [], 3)
/-- X6_missing -/
def ab_g138 : ab_M := (yX6_missing, cX6_missing, 2, (some .int), [], 3)
/-- X7_missingOf -/
def ab_g139 : ab_M := (yX7_missingOf, cX7_missingOf, 4, (some .int), [], 5)
/-- X6_firstWrong -/
def ab_g140 : ab_M := (yX6_firstWrong, cX6_firstWrong, 3, (some .int), [], 3)
/-- X7_isRight -/
def ab_g141 : ab_M := (yX7_isRight, cX7_isRight, 3, (some .boolean), [], 5)
/-- X6_wrongAgain -/
def ab_g142 : ab_M := (yX6_wrongAgain, cX6_wrongAgain, 2, (some .int), [], 4)
/-- X7_rightIn -/
def ab_g143 : ab_M := (yX7_rightIn, cX7_rightIn, 8, (some .int), [], 5)
/-- X6_wrong -/
def ab_g144 : ab_M := (yX6_wrong, cX6_wrong, 2, (some .int), [], 3)
/-- X6_pageAt -/
def ab_g145 : ab_M := (yX6_pageAt, cX6_pageAt, 3, (some .int), [], 5)
/-- X7_page -/
def ab_g146 : ab_M := (yX7_page, cX7_page, 5, (some .int), [], 4)
/-- X6_signatureOf -/
def ab_g147 : ab_M := (yX6_signatureOf, cX6_signatureOf, 5, (some .int), [], 4)
/-- X7_beginOf -/
def ab_g148 : ab_M := (yX7_beginOf, cX7_beginOf, 5, (some .int), [], 4)
/-- X6_bookOf -/
def ab_g149 : ab_M := (yX6_bookOf, cX6_bookOf, 4, (some .int), [], 4)
/-- X7_slipsOf -/
def ab_g150 : ab_M := (yX7_slipsOf, cX7_slipsOf, 4, (some .int), [], 3)
/-- X6_pass -/
def ab_g151 : ab_M := (yX6_pass, cX6_pass, 2, (some .int), [], 5)
/-- X7_refuses -/
def ab_g152 : ab_M := (yX7_refuses, cX7_refuses, 3, (some .int), [], 1)
/-- X7_goesBy -/
def ab_g153 : ab_M := (yX7_goesBy, cX7_goesBy, 3, (some .int), [], 3)
/-- X6_deliver -/
def ab_g154 : ab_M := (yX6_deliver, cX6_deliver, 2, (some .int), [], 5)
/-- X7_isNotAt -/
def ab_g155 : ab_M := (yX7_isNotAt, cX7_isNotAt, 3, (some .boolean), [], 3)
/-- X7_withoutSlip -/
def ab_g156 : ab_M := (yX7_withoutSlip, cX7_withoutSlip, 4, (some .int), [], 6)
/-- X7_lays -/
def ab_g157 : ab_M := (yX7_lays, cX7_lays, 4, none, [], 1)
/-- X6_slip -/
def ab_g158 : ab_M := (yX6_slip, cX6_slip, 3, (some .int), [], 5)
/-- X6_lift -/
def ab_g159 : ab_M := (yX6_lift, cX6_lift, 2, (some .int), [], 5)
/-- X6_press -/
def ab_g160 : ab_M := (yX6_press, cX6_press, 3, (some .int), [], 5)
/-- X6_glue -/
def ab_g161 : ab_M := (yX6_glue, cX6_glue, 3, (some .int), [], 5)
/-- X7_setTime -/
def ab_g162 : ab_M := (yX7_setTime, cX7_setTime, 1, (some .int), [], 1)
/-- X6_unpick -/
def ab_g163 : ab_M := (yX6_unpick, cX6_unpick, 2, (some .int), [], 5)
/-- X6_sew -/
def ab_g164 : ab_M := (yX6_sew, cX6_sew, 2, (some .int), [], 5)
/-- X6_spool -/
def ab_g165 : ab_M := (yX6_spool, cX6_spool, 2, (some .int), [], 5)
/-- X6_drop -/
def ab_g166 : ab_M := (yX6_drop, cX6_drop, 3, (some .int), [], 5)
/-- X7_isHeld -/
def ab_g167 : ab_M := (yX7_isHeld, cX7_isHeld, 2, (some .boolean), [], 4)
/-- X7_swaps -/
def ab_g168 : ab_M := (yX7_swaps, cX7_swaps, 7, none, [], 3)
/-- X7_puts -/
def ab_g169 : ab_M := (yX7_puts, cX7_puts, 6, none, [], 2)
/-- X6_move -/
def ab_g170 : ab_M := (yX6_move, cX6_move, 4, (some .int), [], 5)
/-- X6_gather -/
def ab_g171 : ab_M := (yX6_gather, cX6_gather, 5, (some .int), [], 5)
/-- X6_book -/
def ab_g172 : ab_M := (yX6_book, cX6_book, 3, (some .int), [], 5)
/-- X1_init -/
def ab_g173 : ab_M := (yX1_init, cX1_init, 1, none, [], 1)
/-- X4_init -/
def ab_g174 : ab_M := (yX4_init, cX4_init, 1, none, [], 1)
/-- J5_init_d00df -/
def ab_g175 : ab_M := (yJ5_init_d00df, cJ5_init_d00df, 2, none, [], 1)
/-- X3_forget -/
def ab_g176 : ab_M := (yX3_forget, cX3_forget, 1, none, [], 1)
/-- X1_copyFrom -/
def ab_g177 : ab_M := (yX1_copyFrom, cX1_copyFrom, 3, none, [], 2)
/-- X4_copyFrom -/
def ab_g178 : ab_M := (yX4_copyFrom, cX4_copyFrom, 2, none, [], 1)
/-- X3_takeBackLatest -/
def ab_g179 : ab_M := (yX3_takeBackLatest, cX3_takeBackLatest, 2, none, [], 4)
/-- X5_countSignatures -/
def ab_g180 : ab_M := (yX5_countSignatures, cX5_countSignatures, 3, (some .int), [], 1)
/-- X5_countAtStage -/
def ab_g181 : ab_M := (yX5_countAtStage, cX5_countAtStage, 4, (some .int), [], 1)
/-- X6_existing -/
def ab_g182 : ab_M := (yX6_existing, cX6_existing, 2, (some (.object "BookBindery$Book")), [], 2)
/-- X1_positions -/
def ab_g183 : ab_M := (yX1_positions, cX1_positions, 1, (some .int), [], 3)
/-- X1_countWrong -/
def ab_g184 : ab_M := (yX1_countWrong, cX1_countWrong, 6, (some .int), [], 2)
/-- J4_length_8abf5 -/
def ab_g185 : ab_M := (yJ4_length_8abf5, cJ4_length_8abf5, 1, (some .int), [], 2)
/-- J4_charAt_5068e -/
def ab_g186 : ab_M := (yJ4_charAt_5068e, cJ4_charAt_5068e, 2, (some .char), [], 4)
/-- J4_setLength_d00df -/
def ab_g187 : ab_M := (yJ4_setLength_d00df, cJ4_setLength_d00df, 2, none, [], 5)
/-- J4_append_bf812 -/
def ab_g188 : ab_M := (yJ4_append_bf812, cJ4_append_bf812, 2, (some (.object "java/lang/StringBuilder")), [], 5)
/-- J4_append_cf468 -/
def ab_g189 : ab_M := (yJ4_append_cf468, cJ4_append_cf468, 2, (some (.object "java/lang/StringBuilder")), [], 5)
/-- X2_findFault -/
def ab_g190 : ab_M := (yX2_findFault, cX2_findFault, 2, (some .int), [], 6)
/-- X2_clear -/
def ab_g191 : ab_M := (yX2_clear, cX2_clear, 1, none, [], 1)
/-- X3_note -/
def ab_g192 : ab_M := (yX3_note, cX3_note, 2, none, [], 4)
/-- X0_carryOut -/
def ab_g193 : ab_M := (yX0_carryOut, cX0_carryOut, 5, (some .int), [], 7)
/-- X3_takeBackNoted -/
def ab_g194 : ab_M := (yX3_takeBackNoted, cX3_takeBackNoted, 2, none, [], 4)
/-- X6_changedBy -/
def ab_g195 : ab_M := (yX6_changedBy, cX6_changedBy, 2, (some .int), [], 2)
/-- X7_commandHere -/
def ab_g196 : ab_M := (yX7_commandHere, cX7_commandHere, 2, (some .boolean), [], 4)
/-- X7_skips -/
def ab_g197 : ab_M := (yX7_skips, cX7_skips, 2, (some .boolean), [], 2)
/-- X2_add -/
def ab_g198 : ab_M := (yX2_add, cX2_add, 2, (some .int), [], 1)
/-- X1_weight -/
def ab_g199 : ab_M := (yX1_weight, cX1_weight, 1, (some .int), [], 3)
/-- X6_countAheadOf -/
def ab_g200 : ab_M := (yX6_countAheadOf, cX6_countAheadOf, 5, (some .int), [], 1)
/-- X6_filledPress -/
def ab_g201 : ab_M := (yX6_filledPress, cX6_filledPress, 3, (some (.object "BookBindery$Press")), [], 3)
/-- X6_isAllSetAfter -/
def ab_g202 : ab_M := (yX6_isAllSetAfter, cX6_isAllSetAfter, 4, (some .boolean), [], 1)
/-- X6_existingPress -/
def ab_g203 : ab_M := (yX6_existingPress, cX6_existingPress, 2, (some (.object "BookBindery$Press")), [], 2)
/-- X6_withPosition -/
def ab_g204 : ab_M := (yX6_withPosition, cX6_withPosition, 4, (some (.object "BookBindery$Book")), [], 4)
/-- X1_isSlipped -/
def ab_g205 : ab_M := (yX1_isSlipped, cX1_isSlipped, 3, (some .boolean), [], 1)
/-- X1_threadLacking -/
def ab_g206 : ab_M := (yX1_threadLacking, cX1_threadLacking, 3, (some .int), [], 2)
/-- X6_withPlace -/
def ab_g207 : ab_M := (yX6_withPlace, cX6_withPlace, 4, (some (.object "BookBindery$Book")), [], 3)
/-- X1_placeByFirstPage -/
def ab_g208 : ab_M := (yX1_placeByFirstPage, cX1_placeByFirstPage, 5, (some .int), [], 1)
/-- X1_countRepeated -/
def ab_g209 : ab_M := (yX1_countRepeated, cX1_countRepeated, 3, (some .int), [], 2)
/-- X1_findMissing -/
def ab_g210 : ab_M := (yX1_findMissing, cX1_findMissing, 4, (some .int), [], 2)
/-- X1_countMissing -/
def ab_g211 : ab_M := (yX1_countMissing, cX1_countMissing, 3, (some .int), [], 2)
/-- X1_findWrong -/
def ab_g212 : ab_M := (yX1_findWrong, cX1_findWrong, 7, (some .int), [], 2)
/-- X1_countWrongBySignatures -/
def ab_g213 : ab_M := (yX1_countWrongBySignatures, cX1_countWrongBySignatures, 4, (some .int), [], 3)
/-- X1_pageOn -/
def ab_g214 : ab_M := (yX1_pageOn, cX1_pageOn, 5, (some .int), [], 2)
/-- X1_startOf -/
def ab_g215 : ab_M := (yX1_startOf, cX1_startOf, 4, (some .int), [], 2)
/-- X0_letMinutesGoBy -/
def ab_g216 : ab_M := (yX0_letMinutesGoBy, cX0_letMinutesGoBy, 4, (some .int), [], 3)
/-- X0_handOver -/
def ab_g217 : ab_M := (yX0_handOver, cX0_handOver, 6, (some .int), [], 4)
/-- X0_pasteSlip -/
def ab_g218 : ab_M := (yX0_pasteSlip, cX0_pasteSlip, 4, (some .int), [], 4)
/-- X0_liftTop -/
def ab_g219 : ab_M := (yX0_liftTop, cX0_liftTop, 5, (some .int), [], 2)
/-- X0_layInPress -/
def ab_g220 : ab_M := (yX0_layInPress, cX0_layInPress, 4, (some .int), [], 3)
/-- X0_applyGlue -/
def ab_g221 : ab_M := (yX0_applyGlue, cX0_applyGlue, 4, (some .int), [], 3)
/-- X0_unpickLatest -/
def ab_g222 : ab_M := (yX0_unpickLatest, cX0_unpickLatest, 3, (some .int), [], 3)
/-- X0_sewNext -/
def ab_g223 : ab_M := (yX0_sewNext, cX0_sewNext, 4, (some .int), [], 3)
/-- X0_addThread -/
def ab_g224 : ab_M := (yX0_addThread, cX0_addThread, 2, (some .int), [], 2)
/-- X0_dropSignature -/
def ab_g225 : ab_M := (yX0_dropSignature, cX0_dropSignature, 4, (some .int), [], 4)
/-- X0_moveSignature -/
def ab_g226 : ab_M := (yX0_moveSignature, cX0_moveSignature, 5, (some .int), [], 4)
/-- X0_addSignature -/
def ab_g227 : ab_M := (yX0_addSignature, cX0_addSignature, 8, (some .int), [], 4)
/-- X0_planBook -/
def ab_g228 : ab_M := (yX0_planBook, cX0_planBook, 5, (some .int), [], 2)
/-- X1_put -/
def ab_g229 : ab_M := (yX1_put, cX1_put, 5, none, [], 1)
/-- X5_hasBook -/
def ab_g230 : ab_M := (yX5_hasBook, cX5_hasBook, 2, (some .boolean), [], 1)
/-- X1_sizeOf -/
def ab_g231 : ab_M := (yX1_sizeOf, cX1_sizeOf, 2, (some .int), [], 1)
/-- X1_leafed -/
def ab_g232 : ab_M := (yX1_leafed, cX1_leafed, 3, (some .int), [], 1)
/-- X1_isRight -/
def ab_g233 : ab_M := (yX1_isRight, cX1_isRight, 3, (some .boolean), [], 1)
/-- J5_length_8abf5 -/
def ab_g234 : ab_M := (yJ5_length_8abf5, cJ5_length_8abf5, 1, (some .int), [], 1)
/-- J5_charAt_5068e -/
def ab_g235 : ab_M := (yJ5_charAt_5068e, cJ5_charAt_5068e, 5, (some .char), [], 3)
/-- J5_setLength_d00df -/
def ab_g236 : ab_M := (yJ5_setLength_d00df, cJ5_setLength_d00df, 2, none, [], 4)
/-- J5_append_c97b9 -/
def ab_g237 : ab_M := (yJ5_append_c97b9, cJ5_append_c97b9, 4, (some (.object "java/lang/AbstractStringBuilder")), [], 4)
/-- J5_append_3fe6f -/
def ab_g238 : ab_M := (yJ5_append_3fe6f, cJ5_append_3fe6f, 2, (some (.object "java/lang/AbstractStringBuilder")), [], 4)
/-- X2_rewind -/
def ab_g239 : ab_M := (yX2_rewind, cX2_rewind, 1, none, [], 1)
/-- X2_readCommand -/
def ab_g240 : ab_M := (yX2_readCommand, cX2_readCommand, 3, (some .boolean), [], 5)
/-- X2_take -/
def ab_g241 : ab_M := (yX2_take, cX2_take, 2, (some .boolean), [], 1)
/-- X2_readNext -/
def ab_g242 : ab_M := (yX2_readNext, cX2_readNext, 1, none, [], 6)
/-- X0_carryOutOne -/
def ab_g243 : ab_M := (yX0_carryOutOne, cX0_carryOutOne, 4, (some .int), [], 5)
/-- X3_keepNoted -/
def ab_g244 : ab_M := (yX3_keepNoted, cX3_keepNoted, 1, none, [], 1)
/-- X7_here -/
def ab_g245 : ab_M := (yX7_here, cX7_here, 1, (some .int), [], 1)
/-- X7_gatherHere -/
def ab_g246 : ab_M := (yX7_gatherHere, cX7_gatherHere, 2, (some .boolean), [], 3)
/-- X7_number -/
def ab_g247 : ab_M := (yX7_number, cX7_number, 4, (some .boolean), [], 2)
/-- X5_hasPress -/
def ab_g248 : ab_M := (yX5_hasPress, cX5_hasPress, 2, (some .boolean), [], 1)
/-- X1_hasPosition -/
def ab_g249 : ab_M := (yX1_hasPosition, cX1_hasPosition, 2, (some .boolean), [], 3)
/-- X1_threadOf -/
def ab_g250 : ab_M := (yX1_threadOf, cX1_threadOf, 3, (some .int), [], 1)
/-- X1_hasPlace -/
def ab_g251 : ab_M := (yX1_hasPlace, cX1_hasPlace, 2, (some .boolean), [], 1)
/-- X1_countSignaturesWith -/
def ab_g252 : ab_M := (yX1_countSignaturesWith, cX1_countSignaturesWith, 4, (some .int), [], 1)
/-- X1_countRightTurned -/
def ab_g253 : ab_M := (yX1_countRightTurned, cX1_countRightTurned, 5, (some .int), [], 2)
/-- X1_countRightUnturned -/
def ab_g254 : ab_M := (yX1_countRightUnturned, cX1_countRightUnturned, 3, (some .int), [], 2)
/-- X0_isWithin -/
def ab_g255 : ab_M := (yX0_isWithin, cX0_isWithin, 3, (some .boolean), [], 1)
/-- X0_refuse -/
def ab_g256 : ab_M := (yX0_refuse, cX0_refuse, 3, (some .int), [], 1)
/-- X5_letMinuteGoBy -/
def ab_g257 : ab_M := (yX5_letMinuteGoBy, cX5_letMinuteGoBy, 4, (some .int), [], 2)
/-- X0_isNotAt -/
def ab_g258 : ab_M := (yX0_isNotAt, cX0_isNotAt, 4, (some .boolean), [], 2)
/-- X1_isWrongOn -/
def ab_g259 : ab_M := (yX1_isWrongOn, cX1_isWrongOn, 3, (some .boolean), [], 3)
/-- X1_addSlip -/
def ab_g260 : ab_M := (yX1_addSlip, cX1_addSlip, 3, none, [], 1)
/-- X0_isNotLoose -/
def ab_g261 : ab_M := (yX0_isNotLoose, cX0_isNotLoose, 3, (some .boolean), [], 3)
/-- X1_shift -/
def ab_g262 : ab_M := (yX1_shift, cX1_shift, 7, none, [], 2)
/-- X1_begin -/
def ab_g263 : ab_M := (yX1_begin, cX1_begin, 3, none, [], 1)
/-- J0_checkIndex_df160 -/
def ab_g264 : ab_M := (yJ0_checkIndex_df160, cJ0_checkIndex_df160, 2, none, [], 2)
/-- J5_ensureCapacityInternal_d00df -/
def ab_g265 : ab_M := (yJ5_ensureCapacityInternal_d00df, cJ5_ensureCapacityInternal_d00df, 3, none, [], 3)
/-- J5_isLatin1_aae02 -/
def ab_g266 : ab_M := (yJ5_isLatin1_aae02, cJ5_isLatin1_aae02, 1, (some .boolean), [], 1)
/-- J6_stringSize_0f7a4 -/
def ab_g267 : ab_M := (yJ6_stringSize_0f7a4, cJ6_stringSize_0f7a4, 4, (some .int), [], 1)
/-- J6_getChars_ba4f3 -/
def ab_g268 : ab_M := (yJ6_getChars_ba4f3, cJ6_getChars_ba4f3, 7, (some .int), [], 1)
/-- J1_canEncode_fc78d -/
def ab_g269 : ab_M := (yJ1_canEncode_fc78d, cJ1_canEncode_fc78d, 1, (some .boolean), [], 1)
/-- X2_formOf -/
def ab_g270 : ab_M := (yX2_formOf, cX2_formOf, 1, (some (.object "java/lang/String")), [], 1)
/-- J0_isEmpty_aae02 -/
def ab_g271 : ab_M := (yJ0_isEmpty_aae02, cJ0_isEmpty_aae02, 1, (some .boolean), [], 1)
/-- J0_length_8abf5 -/
def ab_g272 : ab_M := (yJ0_length_8abf5, cJ0_length_8abf5, 1, (some .int), [], 2)
/-- J0_charAt_5068e -/
def ab_g273 : ab_M := (yJ0_charAt_5068e, cJ0_charAt_5068e, 2, (some .char), [], 4)
/-- X2_readPart -/
def ab_g274 : ab_M := (yX2_readPart, cX2_readPart, 2, (some .boolean), [], 3)
/-- X1_comeLoose -/
def ab_g275 : ab_M := (yX1_comeLoose, cX1_comeLoose, 1, none, [], 1)
/-- J3_checkIndex_8e157 -/
def ab_g276 : ab_M := (yJ3_checkIndex_8e157, cJ3_checkIndex_8e157, 3, (some .int), [], 1)
/-- J5_newCapacity_0f7a4 -/
def ab_g277 : ab_M := (yJ5_newCapacity_0f7a4, cJ5_newCapacity_0f7a4, 6, (some .int), [], 2)
/-- J7_copyOf_9075b -/
def ab_g278 : ab_M := (yJ7_copyOf_9075b, cJ7_copyOf_9075b, 3, (some (.array .byte)), [], 1)
/-- J0_coder_7d493 -/
def ab_g279 : ab_M := (yJ0_coder_7d493, cJ0_coder_7d493, 1, (some .byte), [], 1)
/-- J0_isLatin1_aae02 -/
def ab_g280 : ab_M := (yJ0_isLatin1_aae02, cJ0_isLatin1_aae02, 1, (some .boolean), [], 1)
/-- J1_charAt_3b067 -/
def ab_g281 : ab_M := (yJ1_charAt_3b067, cJ1_charAt_3b067, 2, (some .char), [], 3)
/-- X2_readNumber -/
def ab_g282 : ab_M := (yX2_readNumber, cX2_readNumber, 4, (some .boolean), [], 2)
/-- J8_newLength_cabcc -/
def ab_g283 : ab_M := (yJ8_newLength_cabcc, cJ8_newLength_cabcc, 4, (some .int), [], 1)
/-- X2_isAtDigit -/
def ab_g284 : ab_M := (yX2_isAtDigit, cX2_isAtDigit, 1, (some .boolean), [], 1)
def ab_l0_0 (K : ab_Kt) : List (Nat × ab_Op) := [(0, ab_newo 10 [.null, .null, .null, .null, .int 0, .null, .int 0, .null, .null] 3), (3, ab_dup 4), (4, ab_callI 1 0 7), (7, ab_astore 1 8), (8, ab_newo 11 [.null, .null, .null, .null, .int 0, .int 0, .int 0, .int 0, .int 0, .int 0, .int 0, .null, .int 0, .int 0, .null, .int 0, .int 0, .null, .int 0] 11), (11, ab_dup 12), (12, ab_callI 2 0 15), (15, ab_astore 2 16), (16, ab_iconst (1) 17), (17, ab_newa2 19), (19, ab_astore 3 20), (20, ab_iconst (1) 21), (21, ab_newa5 23), (23, ab_astore 4 25), (25, ab_iconst (0) 26), (26, ab_istore 5 28), (28, ab_iload 5 30), (30, ab_aload 0 31), (31, ab_scl K 32), (32, ab_iconst (5) 33), (33, ab_isub 34), (34, ab_icmp_gt 2676 37), (37, ab_aload 0 38), (38, ab_iload 5 40), (40, ab_scr K 41), (41, ab_iconst (63) 43), (43, ab_iand 44), (44, ab_tsw 0 [224, 292, 400, 480, 548, 604, 660, 716, 784, 852, 908, 976, 1032, 1088, 1156, 1236, 1304, 1360, 1416, 1472, 1528, 1596, 1652, 1720, 1776, 1851, 1919, 1975, 2031, 2087, 2145, 2189, 2202, 2258, 2314, 2370, 2448, 2513, 2569, 2613, 2626] 2670), (224, ab_aload 1 225), (225, ab_aload 0 226), (226, ab_iload 5 228), (228, ab_iconst (1) 229), (229, ab_iadd 230), (230, ab_scr K 231), (231, ab_aload 0 232), (232, ab_iload 5 234), (234, ab_iconst (2) 235), (235, ab_iadd 236), (236, ab_scr K 237), (237, ab_aload 3 238)]
def ab_l0_1 (K : ab_Kt) : List (Nat × ab_Op) := [(238, ab_callS 84 4 241), (241, ab_istore 6 243), (243, ab_aload 2 244), (244, ab_aload 0 245), (245, ab_iload 5 247), (247, ab_iconst (1) 248), (248, ab_iadd 249), (249, ab_scr K 250), (250, ab_aload 0 251), (251, ab_iload 5 253), (253, ab_iconst (2) 254), (254, ab_iadd 255), (255, ab_scr K 256), (256, ab_callV 11 85 2 259), (259, ab_istore 7 261), (261, ab_aload 2 262), (262, ab_callV 11 5 0 265), (265, ab_iload 6 267), (267, ab_icmp_eq 272 270), (270, ab_iconst (0) 271), (271, ab_zret), (272, ab_iload 6 274), (274, ab_if_ne 289 277), (277, ab_aload 3 278), (278, ab_iconst (0) 279), (279, ab_lald 280), (280, ab_iload 7 282), (282, ab_i2l 283), (283, ab_lcmp 284), (284, ab_if_eq 289 287), (287, ab_iconst (0) 288), (288, ab_zret), (289, ab_goto 2670), (292, ab_aload 1 293), (293, ab_aload 0 294), (294, ab_iload 5 296), (296, ab_iconst (1) 297), (297, ab_iadd 298), (298, ab_scr K 299), (299, ab_aload 0 300)]
def ab_l0_2 (K : ab_Kt) : List (Nat × ab_Op) := [(300, ab_iload 5 302), (302, ab_iconst (2) 303), (303, ab_iadd 304), (304, ab_scr K 305), (305, ab_aload 0 306), (306, ab_iload 5 308), (308, ab_iconst (3) 309), (309, ab_iadd 310), (310, ab_scr K 311), (311, ab_aload 0 312), (312, ab_iload 5 314), (314, ab_iconst (4) 315), (315, ab_iadd 316), (316, ab_scr K 317), (317, ab_if_eq 324 320), (320, ab_iconst (1) 321), (321, ab_goto 325), (324, ab_iconst (0) 325), (325, ab_aload 3 326), (326, ab_callS 82 6 329), (329, ab_istore 6 331), (331, ab_aload 2 332), (332, ab_aload 0 333), (333, ab_iload 5 335), (335, ab_iconst (1) 336), (336, ab_iadd 337), (337, ab_scr K 338), (338, ab_aload 0 339), (339, ab_iload 5 341), (341, ab_iconst (2) 342), (342, ab_iadd 343), (343, ab_scr K 344), (344, ab_aload 0 345), (345, ab_iload 5 347), (347, ab_iconst (3) 348), (348, ab_iadd 349), (349, ab_scr K 350), (350, ab_aload 0 351), (351, ab_iload 5 353), (353, ab_iconst (4) 354)]
def ab_l0_3 (K : ab_Kt) : List (Nat × ab_Op) := [(354, ab_iadd 355), (355, ab_scr K 356), (356, ab_if_eq 363 359), (359, ab_iconst (1) 360), (360, ab_goto 364), (363, ab_iconst (0) 364), (364, ab_callV 11 83 4 367), (367, ab_istore 7 369), (369, ab_aload 2 370), (370, ab_callV 11 5 0 373), (373, ab_iload 6 375), (375, ab_icmp_eq 380 378), (378, ab_iconst (0) 379), (379, ab_zret), (380, ab_iload 6 382), (382, ab_if_ne 397 385), (385, ab_aload 3 386), (386, ab_iconst (0) 387), (387, ab_lald 388), (388, ab_iload 7 390), (390, ab_i2l 391), (391, ab_lcmp 392), (392, ab_if_eq 397 395), (395, ab_iconst (0) 396), (396, ab_zret), (397, ab_goto 2670), (400, ab_aload 1 401), (401, ab_aload 0 402), (402, ab_iload 5 404), (404, ab_iconst (1) 405), (405, ab_iadd 406), (406, ab_scr K 407), (407, ab_aload 0 408), (408, ab_iload 5 410), (410, ab_iconst (2) 411), (411, ab_iadd 412), (412, ab_scr K 413), (413, ab_aload 0 414), (414, ab_iload 5 416), (416, ab_iconst (3) 417)]
def ab_l0_4 (K : ab_Kt) : List (Nat × ab_Op) := [(417, ab_iadd 418), (418, ab_scr K 419), (419, ab_aload 3 420), (420, ab_callS 80 5 423), (423, ab_istore 6 425), (425, ab_aload 2 426), (426, ab_aload 0 427), (427, ab_iload 5 429), (429, ab_iconst (1) 430), (430, ab_iadd 431), (431, ab_scr K 432), (432, ab_aload 0 433), (433, ab_iload 5 435), (435, ab_iconst (2) 436), (436, ab_iadd 437), (437, ab_scr K 438), (438, ab_aload 0 439), (439, ab_iload 5 441), (441, ab_iconst (3) 442), (442, ab_iadd 443), (443, ab_scr K 444), (444, ab_callV 11 81 3 447), (447, ab_istore 7 449), (449, ab_aload 2 450), (450, ab_callV 11 5 0 453), (453, ab_iload 6 455), (455, ab_icmp_eq 460 458), (458, ab_iconst (0) 459), (459, ab_zret), (460, ab_iload 6 462), (462, ab_if_ne 477 465), (465, ab_aload 3 466), (466, ab_iconst (0) 467), (467, ab_lald 468), (468, ab_iload 7 470), (470, ab_i2l 471), (471, ab_lcmp 472), (472, ab_if_eq 477 475), (475, ab_iconst (0) 476), (476, ab_zret)]
def ab_l0_5 (K : ab_Kt) : List (Nat × ab_Op) := [(477, ab_goto 2670), (480, ab_aload 1 481), (481, ab_aload 0 482), (482, ab_iload 5 484), (484, ab_iconst (1) 485), (485, ab_iadd 486), (486, ab_scr K 487), (487, ab_aload 0 488), (488, ab_iload 5 490), (490, ab_iconst (2) 491), (491, ab_iadd 492), (492, ab_scr K 493), (493, ab_aload 3 494), (494, ab_callS 78 4 497), (497, ab_istore 6 499), (499, ab_aload 2 500), (500, ab_aload 0 501), (501, ab_iload 5 503), (503, ab_iconst (1) 504), (504, ab_iadd 505), (505, ab_scr K 506), (506, ab_aload 0 507), (507, ab_iload 5 509), (509, ab_iconst (2) 510), (510, ab_iadd 511), (511, ab_scr K 512), (512, ab_callV 11 79 2 515), (515, ab_istore 7 517), (517, ab_aload 2 518), (518, ab_callV 11 5 0 521), (521, ab_iload 6 523), (523, ab_icmp_eq 528 526), (526, ab_iconst (0) 527), (527, ab_zret), (528, ab_iload 6 530), (530, ab_if_ne 545 533), (533, ab_aload 3 534), (534, ab_iconst (0) 535), (535, ab_lald 536), (536, ab_iload 7 538)]
def ab_l0_6 (K : ab_Kt) : List (Nat × ab_Op) := [(538, ab_i2l 539), (539, ab_lcmp 540), (540, ab_if_eq 545 543), (543, ab_iconst (0) 544), (544, ab_zret), (545, ab_goto 2670), (548, ab_aload 1 549), (549, ab_aload 0 550), (550, ab_iload 5 552), (552, ab_iconst (1) 553), (553, ab_iadd 554), (554, ab_scr K 555), (555, ab_aload 3 556), (556, ab_callS 76 3 559), (559, ab_istore 6 561), (561, ab_aload 2 562), (562, ab_aload 0 563), (563, ab_iload 5 565), (565, ab_iconst (1) 566), (566, ab_iadd 567), (567, ab_scr K 568), (568, ab_callV 11 77 1 571), (571, ab_istore 7 573), (573, ab_aload 2 574), (574, ab_callV 11 5 0 577), (577, ab_iload 6 579), (579, ab_icmp_eq 584 582), (582, ab_iconst (0) 583), (583, ab_zret), (584, ab_iload 6 586), (586, ab_if_ne 601 589), (589, ab_aload 3 590), (590, ab_iconst (0) 591), (591, ab_lald 592), (592, ab_iload 7 594), (594, ab_i2l 595), (595, ab_lcmp 596), (596, ab_if_eq 601 599), (599, ab_iconst (0) 600), (600, ab_zret)]
def ab_l0_7 (K : ab_Kt) : List (Nat × ab_Op) := [(601, ab_goto 2670), (604, ab_aload 1 605), (605, ab_aload 0 606), (606, ab_iload 5 608), (608, ab_iconst (1) 609), (609, ab_iadd 610), (610, ab_scr K 611), (611, ab_aload 3 612), (612, ab_callS 74 3 615), (615, ab_istore 6 617), (617, ab_aload 2 618), (618, ab_aload 0 619), (619, ab_iload 5 621), (621, ab_iconst (1) 622), (622, ab_iadd 623), (623, ab_scr K 624), (624, ab_callV 11 75 1 627), (627, ab_istore 7 629), (629, ab_aload 2 630), (630, ab_callV 11 5 0 633), (633, ab_iload 6 635), (635, ab_icmp_eq 640 638), (638, ab_iconst (0) 639), (639, ab_zret), (640, ab_iload 6 642), (642, ab_if_ne 657 645), (645, ab_aload 3 646), (646, ab_iconst (0) 647), (647, ab_lald 648), (648, ab_iload 7 650), (650, ab_i2l 651), (651, ab_lcmp 652), (652, ab_if_eq 657 655), (655, ab_iconst (0) 656), (656, ab_zret), (657, ab_goto 2670), (660, ab_aload 1 661), (661, ab_aload 0 662), (662, ab_iload 5 664), (664, ab_iconst (1) 665)]
def ab_l0_8 (K : ab_Kt) : List (Nat × ab_Op) := [(665, ab_iadd 666), (666, ab_scr K 667), (667, ab_aload 3 668), (668, ab_callS 72 3 671), (671, ab_istore 6 673), (673, ab_aload 2 674), (674, ab_aload 0 675), (675, ab_iload 5 677), (677, ab_iconst (1) 678), (678, ab_iadd 679), (679, ab_scr K 680), (680, ab_callV 11 73 1 683), (683, ab_istore 7 685), (685, ab_aload 2 686), (686, ab_callV 11 5 0 689), (689, ab_iload 6 691), (691, ab_icmp_eq 696 694), (694, ab_iconst (0) 695), (695, ab_zret), (696, ab_iload 6 698), (698, ab_if_ne 713 701), (701, ab_aload 3 702), (702, ab_iconst (0) 703), (703, ab_lald 704), (704, ab_iload 7 706), (706, ab_i2l 707), (707, ab_lcmp 708), (708, ab_if_eq 713 711), (711, ab_iconst (0) 712), (712, ab_zret), (713, ab_goto 2670), (716, ab_aload 1 717), (717, ab_aload 0 718), (718, ab_iload 5 720), (720, ab_iconst (1) 721), (721, ab_iadd 722), (722, ab_scr K 723), (723, ab_aload 0 724), (724, ab_iload 5 726), (726, ab_iconst (2) 727)]
def ab_l0_9 (K : ab_Kt) : List (Nat × ab_Op) := [(727, ab_iadd 728), (728, ab_scr K 729), (729, ab_aload 3 730), (730, ab_callS 70 4 733), (733, ab_istore 6 735), (735, ab_aload 2 736), (736, ab_aload 0 737), (737, ab_iload 5 739), (739, ab_iconst (1) 740), (740, ab_iadd 741), (741, ab_scr K 742), (742, ab_aload 0 743), (743, ab_iload 5 745), (745, ab_iconst (2) 746), (746, ab_iadd 747), (747, ab_scr K 748), (748, ab_callV 11 71 2 751), (751, ab_istore 7 753), (753, ab_aload 2 754), (754, ab_callV 11 5 0 757), (757, ab_iload 6 759), (759, ab_icmp_eq 764 762), (762, ab_iconst (0) 763), (763, ab_zret), (764, ab_iload 6 766), (766, ab_if_ne 781 769), (769, ab_aload 3 770), (770, ab_iconst (0) 771), (771, ab_lald 772), (772, ab_iload 7 774), (774, ab_i2l 775), (775, ab_lcmp 776), (776, ab_if_eq 781 779), (779, ab_iconst (0) 780), (780, ab_zret), (781, ab_goto 2670), (784, ab_aload 1 785), (785, ab_aload 0 786), (786, ab_iload 5 788), (788, ab_iconst (1) 789)]
def ab_l0_10 (K : ab_Kt) : List (Nat × ab_Op) := [(789, ab_iadd 790), (790, ab_scr K 791), (791, ab_aload 0 792), (792, ab_iload 5 794), (794, ab_iconst (2) 795), (795, ab_iadd 796), (796, ab_scr K 797), (797, ab_aload 3 798), (798, ab_callS 68 4 801), (801, ab_istore 6 803), (803, ab_aload 2 804), (804, ab_aload 0 805), (805, ab_iload 5 807), (807, ab_iconst (1) 808), (808, ab_iadd 809), (809, ab_scr K 810), (810, ab_aload 0 811), (811, ab_iload 5 813), (813, ab_iconst (2) 814), (814, ab_iadd 815), (815, ab_scr K 816), (816, ab_callV 11 69 2 819), (819, ab_istore 7 821), (821, ab_aload 2 822), (822, ab_callV 11 5 0 825), (825, ab_iload 6 827), (827, ab_icmp_eq 832 830), (830, ab_iconst (0) 831), (831, ab_zret), (832, ab_iload 6 834), (834, ab_if_ne 849 837), (837, ab_aload 3 838), (838, ab_iconst (0) 839), (839, ab_lald 840), (840, ab_iload 7 842), (842, ab_i2l 843), (843, ab_lcmp 844), (844, ab_if_eq 849 847), (847, ab_iconst (0) 848), (848, ab_zret)]
def ab_l0_11 (K : ab_Kt) : List (Nat × ab_Op) := [(849, ab_goto 2670), (852, ab_aload 1 853), (853, ab_aload 0 854), (854, ab_iload 5 856), (856, ab_iconst (1) 857), (857, ab_iadd 858), (858, ab_scr K 859), (859, ab_aload 3 860), (860, ab_callS 66 3 863), (863, ab_istore 6 865), (865, ab_aload 2 866), (866, ab_aload 0 867), (867, ab_iload 5 869), (869, ab_iconst (1) 870), (870, ab_iadd 871), (871, ab_scr K 872), (872, ab_callV 11 67 1 875), (875, ab_istore 7 877), (877, ab_aload 2 878), (878, ab_callV 11 5 0 881), (881, ab_iload 6 883), (883, ab_icmp_eq 888 886), (886, ab_iconst (0) 887), (887, ab_zret), (888, ab_iload 6 890), (890, ab_if_ne 905 893), (893, ab_aload 3 894), (894, ab_iconst (0) 895), (895, ab_lald 896), (896, ab_iload 7 898), (898, ab_i2l 899), (899, ab_lcmp 900), (900, ab_if_eq 905 903), (903, ab_iconst (0) 904), (904, ab_zret), (905, ab_goto 2670), (908, ab_aload 1 909), (909, ab_aload 0 910), (910, ab_iload 5 912), (912, ab_iconst (1) 913)]
def ab_l0_12 (K : ab_Kt) : List (Nat × ab_Op) := [(913, ab_iadd 914), (914, ab_scr K 915), (915, ab_aload 0 916), (916, ab_iload 5 918), (918, ab_iconst (2) 919), (919, ab_iadd 920), (920, ab_scr K 921), (921, ab_aload 3 922), (922, ab_callS 64 4 925), (925, ab_istore 6 927), (927, ab_aload 2 928), (928, ab_aload 0 929), (929, ab_iload 5 931), (931, ab_iconst (1) 932), (932, ab_iadd 933), (933, ab_scr K 934), (934, ab_aload 0 935), (935, ab_iload 5 937), (937, ab_iconst (2) 938), (938, ab_iadd 939), (939, ab_scr K 940), (940, ab_callV 11 65 2 943), (943, ab_istore 7 945), (945, ab_aload 2 946), (946, ab_callV 11 5 0 949), (949, ab_iload 6 951), (951, ab_icmp_eq 956 954), (954, ab_iconst (0) 955), (955, ab_zret), (956, ab_iload 6 958), (958, ab_if_ne 973 961), (961, ab_aload 3 962), (962, ab_iconst (0) 963), (963, ab_lald 964), (964, ab_iload 7 966), (966, ab_i2l 967), (967, ab_lcmp 968), (968, ab_if_eq 973 971), (971, ab_iconst (0) 972), (972, ab_zret)]
def ab_l0_13 (K : ab_Kt) : List (Nat × ab_Op) := [(973, ab_goto 2670), (976, ab_aload 1 977), (977, ab_aload 0 978), (978, ab_iload 5 980), (980, ab_iconst (1) 981), (981, ab_iadd 982), (982, ab_scr K 983), (983, ab_aload 3 984), (984, ab_callS 62 3 987), (987, ab_istore 6 989), (989, ab_aload 2 990), (990, ab_aload 0 991), (991, ab_iload 5 993), (993, ab_iconst (1) 994), (994, ab_iadd 995), (995, ab_scr K 996), (996, ab_callV 11 63 1 999), (999, ab_istore 7 1001), (1001, ab_aload 2 1002), (1002, ab_callV 11 5 0 1005), (1005, ab_iload 6 1007), (1007, ab_icmp_eq 1012 1010), (1010, ab_iconst (0) 1011), (1011, ab_zret), (1012, ab_iload 6 1014), (1014, ab_if_ne 1029 1017), (1017, ab_aload 3 1018), (1018, ab_iconst (0) 1019), (1019, ab_lald 1020), (1020, ab_iload 7 1022), (1022, ab_i2l 1023), (1023, ab_lcmp 1024), (1024, ab_if_eq 1029 1027), (1027, ab_iconst (0) 1028), (1028, ab_zret), (1029, ab_goto 2670), (1032, ab_aload 1 1033), (1033, ab_aload 0 1034), (1034, ab_iload 5 1036), (1036, ab_iconst (1) 1037)]
def ab_l0_14 (K : ab_Kt) : List (Nat × ab_Op) := [(1037, ab_iadd 1038), (1038, ab_scr K 1039), (1039, ab_aload 3 1040), (1040, ab_callS 60 3 1043), (1043, ab_istore 6 1045), (1045, ab_aload 2 1046), (1046, ab_aload 0 1047), (1047, ab_iload 5 1049), (1049, ab_iconst (1) 1050), (1050, ab_iadd 1051), (1051, ab_scr K 1052), (1052, ab_callV 11 61 1 1055), (1055, ab_istore 7 1057), (1057, ab_aload 2 1058), (1058, ab_callV 11 5 0 1061), (1061, ab_iload 6 1063), (1063, ab_icmp_eq 1068 1066), (1066, ab_iconst (0) 1067), (1067, ab_zret), (1068, ab_iload 6 1070), (1070, ab_if_ne 1085 1073), (1073, ab_aload 3 1074), (1074, ab_iconst (0) 1075), (1075, ab_lald 1076), (1076, ab_iload 7 1078), (1078, ab_i2l 1079), (1079, ab_lcmp 1080), (1080, ab_if_eq 1085 1083), (1083, ab_iconst (0) 1084), (1084, ab_zret), (1085, ab_goto 2670), (1088, ab_aload 1 1089), (1089, ab_aload 0 1090), (1090, ab_iload 5 1092), (1092, ab_iconst (1) 1093), (1093, ab_iadd 1094), (1094, ab_scr K 1095), (1095, ab_aload 0 1096), (1096, ab_iload 5 1098), (1098, ab_iconst (2) 1099)]
def ab_l0_15 (K : ab_Kt) : List (Nat × ab_Op) := [(1099, ab_iadd 1100), (1100, ab_scr K 1101), (1101, ab_aload 3 1102), (1102, ab_callS 58 4 1105), (1105, ab_istore 6 1107), (1107, ab_aload 2 1108), (1108, ab_aload 0 1109), (1109, ab_iload 5 1111), (1111, ab_iconst (1) 1112), (1112, ab_iadd 1113), (1113, ab_scr K 1114), (1114, ab_aload 0 1115), (1115, ab_iload 5 1117), (1117, ab_iconst (2) 1118), (1118, ab_iadd 1119), (1119, ab_scr K 1120), (1120, ab_callV 11 59 2 1123), (1123, ab_istore 7 1125), (1125, ab_aload 2 1126), (1126, ab_callV 11 5 0 1129), (1129, ab_iload 6 1131), (1131, ab_icmp_eq 1136 1134), (1134, ab_iconst (0) 1135), (1135, ab_zret), (1136, ab_iload 6 1138), (1138, ab_if_ne 1153 1141), (1141, ab_aload 3 1142), (1142, ab_iconst (0) 1143), (1143, ab_lald 1144), (1144, ab_iload 7 1146), (1146, ab_i2l 1147), (1147, ab_lcmp 1148), (1148, ab_if_eq 1153 1151), (1151, ab_iconst (0) 1152), (1152, ab_zret), (1153, ab_goto 2670), (1156, ab_aload 1 1157), (1157, ab_aload 0 1158), (1158, ab_iload 5 1160), (1160, ab_iconst (1) 1161)]
def ab_l0_16 (K : ab_Kt) : List (Nat × ab_Op) := [(1161, ab_iadd 1162), (1162, ab_scr K 1163), (1163, ab_aload 0 1164), (1164, ab_iload 5 1166), (1166, ab_iconst (2) 1167), (1167, ab_iadd 1168), (1168, ab_scr K 1169), (1169, ab_aload 0 1170), (1170, ab_iload 5 1172), (1172, ab_iconst (3) 1173), (1173, ab_iadd 1174), (1174, ab_scr K 1175), (1175, ab_aload 3 1176), (1176, ab_callS 56 5 1179), (1179, ab_istore 6 1181), (1181, ab_aload 2 1182), (1182, ab_aload 0 1183), (1183, ab_iload 5 1185), (1185, ab_iconst (1) 1186), (1186, ab_iadd 1187), (1187, ab_scr K 1188), (1188, ab_aload 0 1189), (1189, ab_iload 5 1191), (1191, ab_iconst (2) 1192), (1192, ab_iadd 1193), (1193, ab_scr K 1194), (1194, ab_aload 0 1195), (1195, ab_iload 5 1197), (1197, ab_iconst (3) 1198), (1198, ab_iadd 1199), (1199, ab_scr K 1200), (1200, ab_callV 11 57 3 1203), (1203, ab_istore 7 1205), (1205, ab_aload 2 1206), (1206, ab_callV 11 5 0 1209), (1209, ab_iload 6 1211), (1211, ab_icmp_eq 1216 1214), (1214, ab_iconst (0) 1215), (1215, ab_zret), (1216, ab_iload 6 1218)]
def ab_l0_17 (K : ab_Kt) : List (Nat × ab_Op) := [(1218, ab_if_ne 1233 1221), (1221, ab_aload 3 1222), (1222, ab_iconst (0) 1223), (1223, ab_lald 1224), (1224, ab_iload 7 1226), (1226, ab_i2l 1227), (1227, ab_lcmp 1228), (1228, ab_if_eq 1233 1231), (1231, ab_iconst (0) 1232), (1232, ab_zret), (1233, ab_goto 2670), (1236, ab_aload 1 1237), (1237, ab_aload 0 1238), (1238, ab_iload 5 1240), (1240, ab_iconst (1) 1241), (1241, ab_iadd 1242), (1242, ab_scr K 1243), (1243, ab_aload 0 1244), (1244, ab_iload 5 1246), (1246, ab_iconst (2) 1247), (1247, ab_iadd 1248), (1248, ab_scr K 1249), (1249, ab_aload 3 1250), (1250, ab_callS 54 4 1253), (1253, ab_istore 6 1255), (1255, ab_aload 2 1256), (1256, ab_aload 0 1257), (1257, ab_iload 5 1259), (1259, ab_iconst (1) 1260), (1260, ab_iadd 1261), (1261, ab_scr K 1262), (1262, ab_aload 0 1263), (1263, ab_iload 5 1265), (1265, ab_iconst (2) 1266), (1266, ab_iadd 1267), (1267, ab_scr K 1268), (1268, ab_callV 11 55 2 1271), (1271, ab_istore 7 1273), (1273, ab_aload 2 1274), (1274, ab_callV 11 5 0 1277)]
def ab_l0_18 (K : ab_Kt) : List (Nat × ab_Op) := [(1277, ab_iload 6 1279), (1279, ab_icmp_eq 1284 1282), (1282, ab_iconst (0) 1283), (1283, ab_zret), (1284, ab_iload 6 1286), (1286, ab_if_ne 1301 1289), (1289, ab_aload 3 1290), (1290, ab_iconst (0) 1291), (1291, ab_lald 1292), (1292, ab_iload 7 1294), (1294, ab_i2l 1295), (1295, ab_lcmp 1296), (1296, ab_if_eq 1301 1299), (1299, ab_iconst (0) 1300), (1300, ab_zret), (1301, ab_goto 2670), (1304, ab_aload 1 1305), (1305, ab_aload 0 1306), (1306, ab_iload 5 1308), (1308, ab_iconst (1) 1309), (1309, ab_iadd 1310), (1310, ab_scr K 1311), (1311, ab_aload 3 1312), (1312, ab_callS 52 3 1315), (1315, ab_istore 6 1317), (1317, ab_aload 2 1318), (1318, ab_aload 0 1319), (1319, ab_iload 5 1321), (1321, ab_iconst (1) 1322), (1322, ab_iadd 1323), (1323, ab_scr K 1324), (1324, ab_callV 11 53 1 1327), (1327, ab_istore 7 1329), (1329, ab_aload 2 1330), (1330, ab_callV 11 5 0 1333), (1333, ab_iload 6 1335), (1335, ab_icmp_eq 1340 1338), (1338, ab_iconst (0) 1339), (1339, ab_zret), (1340, ab_iload 6 1342)]
def ab_l0_19 (K : ab_Kt) : List (Nat × ab_Op) := [(1342, ab_if_ne 1357 1345), (1345, ab_aload 3 1346), (1346, ab_iconst (0) 1347), (1347, ab_lald 1348), (1348, ab_iload 7 1350), (1350, ab_i2l 1351), (1351, ab_lcmp 1352), (1352, ab_if_eq 1357 1355), (1355, ab_iconst (0) 1356), (1356, ab_zret), (1357, ab_goto 2670), (1360, ab_aload 1 1361), (1361, ab_aload 0 1362), (1362, ab_iload 5 1364), (1364, ab_iconst (1) 1365), (1365, ab_iadd 1366), (1366, ab_scr K 1367), (1367, ab_aload 3 1368), (1368, ab_callS 50 3 1371), (1371, ab_istore 6 1373), (1373, ab_aload 2 1374), (1374, ab_aload 0 1375), (1375, ab_iload 5 1377), (1377, ab_iconst (1) 1378), (1378, ab_iadd 1379), (1379, ab_scr K 1380), (1380, ab_callV 11 51 1 1383), (1383, ab_istore 7 1385), (1385, ab_aload 2 1386), (1386, ab_callV 11 5 0 1389), (1389, ab_iload 6 1391), (1391, ab_icmp_eq 1396 1394), (1394, ab_iconst (0) 1395), (1395, ab_zret), (1396, ab_iload 6 1398), (1398, ab_if_ne 1413 1401), (1401, ab_aload 3 1402), (1402, ab_iconst (0) 1403), (1403, ab_lald 1404), (1404, ab_iload 7 1406)]
def ab_l0_20 (K : ab_Kt) : List (Nat × ab_Op) := [(1406, ab_i2l 1407), (1407, ab_lcmp 1408), (1408, ab_if_eq 1413 1411), (1411, ab_iconst (0) 1412), (1412, ab_zret), (1413, ab_goto 2670), (1416, ab_aload 1 1417), (1417, ab_aload 0 1418), (1418, ab_iload 5 1420), (1420, ab_iconst (1) 1421), (1421, ab_iadd 1422), (1422, ab_scr K 1423), (1423, ab_aload 3 1424), (1424, ab_callS 48 3 1427), (1427, ab_istore 6 1429), (1429, ab_aload 2 1430), (1430, ab_aload 0 1431), (1431, ab_iload 5 1433), (1433, ab_iconst (1) 1434), (1434, ab_iadd 1435), (1435, ab_scr K 1436), (1436, ab_callV 11 49 1 1439), (1439, ab_istore 7 1441), (1441, ab_aload 2 1442), (1442, ab_callV 11 5 0 1445), (1445, ab_iload 6 1447), (1447, ab_icmp_eq 1452 1450), (1450, ab_iconst (0) 1451), (1451, ab_zret), (1452, ab_iload 6 1454), (1454, ab_if_ne 1469 1457), (1457, ab_aload 3 1458), (1458, ab_iconst (0) 1459), (1459, ab_lald 1460), (1460, ab_iload 7 1462), (1462, ab_i2l 1463), (1463, ab_lcmp 1464), (1464, ab_if_eq 1469 1467), (1467, ab_iconst (0) 1468), (1468, ab_zret)]
def ab_l0_21 (K : ab_Kt) : List (Nat × ab_Op) := [(1469, ab_goto 2670), (1472, ab_aload 1 1473), (1473, ab_aload 0 1474), (1474, ab_iload 5 1476), (1476, ab_iconst (1) 1477), (1477, ab_iadd 1478), (1478, ab_scr K 1479), (1479, ab_aload 3 1480), (1480, ab_callS 46 3 1483), (1483, ab_istore 6 1485), (1485, ab_aload 2 1486), (1486, ab_aload 0 1487), (1487, ab_iload 5 1489), (1489, ab_iconst (1) 1490), (1490, ab_iadd 1491), (1491, ab_scr K 1492), (1492, ab_callV 11 47 1 1495), (1495, ab_istore 7 1497), (1497, ab_aload 2 1498), (1498, ab_callV 11 5 0 1501), (1501, ab_iload 6 1503), (1503, ab_icmp_eq 1508 1506), (1506, ab_iconst (0) 1507), (1507, ab_zret), (1508, ab_iload 6 1510), (1510, ab_if_ne 1525 1513), (1513, ab_aload 3 1514), (1514, ab_iconst (0) 1515), (1515, ab_lald 1516), (1516, ab_iload 7 1518), (1518, ab_i2l 1519), (1519, ab_lcmp 1520), (1520, ab_if_eq 1525 1523), (1523, ab_iconst (0) 1524), (1524, ab_zret), (1525, ab_goto 2670), (1528, ab_aload 1 1529), (1529, ab_aload 0 1530), (1530, ab_iload 5 1532), (1532, ab_iconst (1) 1533)]
def ab_l0_22 (K : ab_Kt) : List (Nat × ab_Op) := [(1533, ab_iadd 1534), (1534, ab_scr K 1535), (1535, ab_aload 0 1536), (1536, ab_iload 5 1538), (1538, ab_iconst (2) 1539), (1539, ab_iadd 1540), (1540, ab_scr K 1541), (1541, ab_aload 3 1542), (1542, ab_callS 44 4 1545), (1545, ab_istore 6 1547), (1547, ab_aload 2 1548), (1548, ab_aload 0 1549), (1549, ab_iload 5 1551), (1551, ab_iconst (1) 1552), (1552, ab_iadd 1553), (1553, ab_scr K 1554), (1554, ab_aload 0 1555), (1555, ab_iload 5 1557), (1557, ab_iconst (2) 1558), (1558, ab_iadd 1559), (1559, ab_scr K 1560), (1560, ab_callV 11 45 2 1563), (1563, ab_istore 7 1565), (1565, ab_aload 2 1566), (1566, ab_callV 11 5 0 1569), (1569, ab_iload 6 1571), (1571, ab_icmp_eq 1576 1574), (1574, ab_iconst (0) 1575), (1575, ab_zret), (1576, ab_iload 6 1578), (1578, ab_if_ne 1593 1581), (1581, ab_aload 3 1582), (1582, ab_iconst (0) 1583), (1583, ab_lald 1584), (1584, ab_iload 7 1586), (1586, ab_i2l 1587), (1587, ab_lcmp 1588), (1588, ab_if_eq 1593 1591), (1591, ab_iconst (0) 1592), (1592, ab_zret)]
def ab_l0_23 (K : ab_Kt) : List (Nat × ab_Op) := [(1593, ab_goto 2670), (1596, ab_aload 1 1597), (1597, ab_aload 0 1598), (1598, ab_iload 5 1600), (1600, ab_iconst (1) 1601), (1601, ab_iadd 1602), (1602, ab_scr K 1603), (1603, ab_aload 3 1604), (1604, ab_callS 42 3 1607), (1607, ab_istore 6 1609), (1609, ab_aload 2 1610), (1610, ab_aload 0 1611), (1611, ab_iload 5 1613), (1613, ab_iconst (1) 1614), (1614, ab_iadd 1615), (1615, ab_scr K 1616), (1616, ab_callV 11 43 1 1619), (1619, ab_istore 7 1621), (1621, ab_aload 2 1622), (1622, ab_callV 11 5 0 1625), (1625, ab_iload 6 1627), (1627, ab_icmp_eq 1632 1630), (1630, ab_iconst (0) 1631), (1631, ab_zret), (1632, ab_iload 6 1634), (1634, ab_if_ne 1649 1637), (1637, ab_aload 3 1638), (1638, ab_iconst (0) 1639), (1639, ab_lald 1640), (1640, ab_iload 7 1642), (1642, ab_i2l 1643), (1643, ab_lcmp 1644), (1644, ab_if_eq 1649 1647), (1647, ab_iconst (0) 1648), (1648, ab_zret), (1649, ab_goto 2670), (1652, ab_aload 1 1653), (1653, ab_aload 0 1654), (1654, ab_iload 5 1656), (1656, ab_iconst (1) 1657)]
def ab_l0_24 (K : ab_Kt) : List (Nat × ab_Op) := [(1657, ab_iadd 1658), (1658, ab_scr K 1659), (1659, ab_aload 0 1660), (1660, ab_iload 5 1662), (1662, ab_iconst (2) 1663), (1663, ab_iadd 1664), (1664, ab_scr K 1665), (1665, ab_aload 3 1666), (1666, ab_callS 40 4 1669), (1669, ab_istore 6 1671), (1671, ab_aload 2 1672), (1672, ab_aload 0 1673), (1673, ab_iload 5 1675), (1675, ab_iconst (1) 1676), (1676, ab_iadd 1677), (1677, ab_scr K 1678), (1678, ab_aload 0 1679), (1679, ab_iload 5 1681), (1681, ab_iconst (2) 1682), (1682, ab_iadd 1683), (1683, ab_scr K 1684), (1684, ab_callV 11 41 2 1687), (1687, ab_istore 7 1689), (1689, ab_aload 2 1690), (1690, ab_callV 11 5 0 1693), (1693, ab_iload 6 1695), (1695, ab_icmp_eq 1700 1698), (1698, ab_iconst (0) 1699), (1699, ab_zret), (1700, ab_iload 6 1702), (1702, ab_if_ne 1717 1705), (1705, ab_aload 3 1706), (1706, ab_iconst (0) 1707), (1707, ab_lald 1708), (1708, ab_iload 7 1710), (1710, ab_i2l 1711), (1711, ab_lcmp 1712), (1712, ab_if_eq 1717 1715), (1715, ab_iconst (0) 1716), (1716, ab_zret)]
def ab_l0_25 (K : ab_Kt) : List (Nat × ab_Op) := [(1717, ab_goto 2670), (1720, ab_aload 1 1721), (1721, ab_aload 0 1722), (1722, ab_iload 5 1724), (1724, ab_iconst (1) 1725), (1725, ab_iadd 1726), (1726, ab_scr K 1727), (1727, ab_aload 3 1728), (1728, ab_callS 38 3 1731), (1731, ab_istore 6 1733), (1733, ab_aload 2 1734), (1734, ab_aload 0 1735), (1735, ab_iload 5 1737), (1737, ab_iconst (1) 1738), (1738, ab_iadd 1739), (1739, ab_scr K 1740), (1740, ab_callV 11 39 1 1743), (1743, ab_istore 7 1745), (1745, ab_aload 2 1746), (1746, ab_callV 11 5 0 1749), (1749, ab_iload 6 1751), (1751, ab_icmp_eq 1756 1754), (1754, ab_iconst (0) 1755), (1755, ab_zret), (1756, ab_iload 6 1758), (1758, ab_if_ne 1773 1761), (1761, ab_aload 3 1762), (1762, ab_iconst (0) 1763), (1763, ab_lald 1764), (1764, ab_iload 7 1766), (1766, ab_i2l 1767), (1767, ab_lcmp 1768), (1768, ab_if_eq 1773 1771), (1771, ab_iconst (0) 1772), (1772, ab_zret), (1773, ab_goto 2670), (1776, ab_aload 1 1777), (1777, ab_aload 0 1778), (1778, ab_iload 5 1780), (1780, ab_iconst (1) 1781)]
def ab_l0_26 (K : ab_Kt) : List (Nat × ab_Op) := [(1781, ab_iadd 1782), (1782, ab_scr K 1783), (1783, ab_aload 0 1784), (1784, ab_iload 5 1786), (1786, ab_iconst (2) 1787), (1787, ab_iadd 1788), (1788, ab_scr K 1789), (1789, ab_aload 3 1790), (1790, ab_callS 36 4 1793), (1793, ab_istore 6 1795), (1795, ab_aload 2 1796), (1796, ab_aload 0 1797), (1797, ab_iload 5 1799), (1799, ab_iconst (1) 1800), (1800, ab_iadd 1801), (1801, ab_scr K 1802), (1802, ab_aload 0 1803), (1803, ab_iload 5 1805), (1805, ab_iconst (2) 1806), (1806, ab_iadd 1807), (1807, ab_scr K 1808), (1808, ab_callV 11 37 2 1811), (1811, ab_istore 7 1813), (1813, ab_aload 2 1814), (1814, ab_callV 11 5 0 1817), (1817, ab_iload 6 1819), (1819, ab_icmp_eq 1824 1822), (1822, ab_iconst (0) 1823), (1823, ab_zret), (1824, ab_iload 6 1826), (1826, ab_if_ne 1848 1829), (1829, ab_aload 3 1830), (1830, ab_iconst (0) 1831), (1831, ab_lald 1832), (1832, ab_iload 7 1834), (1834, ab_if_eq 1841 1837), (1837, ab_lconst 1 1838), (1838, ab_goto 1842), (1841, ab_lconst 0 1842), (1842, ab_lcmp 1843)]
def ab_l0_27 (K : ab_Kt) : List (Nat × ab_Op) := [(1843, ab_if_eq 1848 1846), (1846, ab_iconst (0) 1847), (1847, ab_zret), (1848, ab_goto 2670), (1851, ab_aload 1 1852), (1852, ab_aload 0 1853), (1853, ab_iload 5 1855), (1855, ab_iconst (1) 1856), (1856, ab_iadd 1857), (1857, ab_scr K 1858), (1858, ab_aload 0 1859), (1859, ab_iload 5 1861), (1861, ab_iconst (2) 1862), (1862, ab_iadd 1863), (1863, ab_scr K 1864), (1864, ab_aload 3 1865), (1865, ab_callS 34 4 1868), (1868, ab_istore 6 1870), (1870, ab_aload 2 1871), (1871, ab_aload 0 1872), (1872, ab_iload 5 1874), (1874, ab_iconst (1) 1875), (1875, ab_iadd 1876), (1876, ab_scr K 1877), (1877, ab_aload 0 1878), (1878, ab_iload 5 1880), (1880, ab_iconst (2) 1881), (1881, ab_iadd 1882), (1882, ab_scr K 1883), (1883, ab_callV 11 35 2 1886), (1886, ab_istore 7 1888), (1888, ab_aload 2 1889), (1889, ab_callV 11 5 0 1892), (1892, ab_iload 6 1894), (1894, ab_icmp_eq 1899 1897), (1897, ab_iconst (0) 1898), (1898, ab_zret), (1899, ab_iload 6 1901), (1901, ab_if_ne 1916 1904), (1904, ab_aload 3 1905)]
def ab_l0_28 (K : ab_Kt) : List (Nat × ab_Op) := [(1905, ab_iconst (0) 1906), (1906, ab_lald 1907), (1907, ab_iload 7 1909), (1909, ab_i2l 1910), (1910, ab_lcmp 1911), (1911, ab_if_eq 1916 1914), (1914, ab_iconst (0) 1915), (1915, ab_zret), (1916, ab_goto 2670), (1919, ab_aload 1 1920), (1920, ab_aload 0 1921), (1921, ab_iload 5 1923), (1923, ab_iconst (1) 1924), (1924, ab_iadd 1925), (1925, ab_scr K 1926), (1926, ab_aload 3 1927), (1927, ab_callS 32 3 1930), (1930, ab_istore 6 1932), (1932, ab_aload 2 1933), (1933, ab_aload 0 1934), (1934, ab_iload 5 1936), (1936, ab_iconst (1) 1937), (1937, ab_iadd 1938), (1938, ab_scr K 1939), (1939, ab_callV 11 33 1 1942), (1942, ab_istore 7 1944), (1944, ab_aload 2 1945), (1945, ab_callV 11 5 0 1948), (1948, ab_iload 6 1950), (1950, ab_icmp_eq 1955 1953), (1953, ab_iconst (0) 1954), (1954, ab_zret), (1955, ab_iload 6 1957), (1957, ab_if_ne 1972 1960), (1960, ab_aload 3 1961), (1961, ab_iconst (0) 1962), (1962, ab_lald 1963), (1963, ab_iload 7 1965), (1965, ab_i2l 1966), (1966, ab_lcmp 1967)]
def ab_l0_29 (K : ab_Kt) : List (Nat × ab_Op) := [(1967, ab_if_eq 1972 1970), (1970, ab_iconst (0) 1971), (1971, ab_zret), (1972, ab_goto 2670), (1975, ab_aload 1 1976), (1976, ab_aload 0 1977), (1977, ab_iload 5 1979), (1979, ab_iconst (1) 1980), (1980, ab_iadd 1981), (1981, ab_scr K 1982), (1982, ab_aload 3 1983), (1983, ab_callS 30 3 1986), (1986, ab_istore 6 1988), (1988, ab_aload 2 1989), (1989, ab_aload 0 1990), (1990, ab_iload 5 1992), (1992, ab_iconst (1) 1993), (1993, ab_iadd 1994), (1994, ab_scr K 1995), (1995, ab_callV 11 31 1 1998), (1998, ab_istore 7 2000), (2000, ab_aload 2 2001), (2001, ab_callV 11 5 0 2004), (2004, ab_iload 6 2006), (2006, ab_icmp_eq 2011 2009), (2009, ab_iconst (0) 2010), (2010, ab_zret), (2011, ab_iload 6 2013), (2013, ab_if_ne 2028 2016), (2016, ab_aload 3 2017), (2017, ab_iconst (0) 2018), (2018, ab_lald 2019), (2019, ab_iload 7 2021), (2021, ab_i2l 2022), (2022, ab_lcmp 2023), (2023, ab_if_eq 2028 2026), (2026, ab_iconst (0) 2027), (2027, ab_zret), (2028, ab_goto 2670), (2031, ab_aload 1 2032)]
def ab_l0_30 (K : ab_Kt) : List (Nat × ab_Op) := [(2032, ab_aload 0 2033), (2033, ab_iload 5 2035), (2035, ab_iconst (1) 2036), (2036, ab_iadd 2037), (2037, ab_scr K 2038), (2038, ab_aload 3 2039), (2039, ab_callS 28 3 2042), (2042, ab_istore 6 2044), (2044, ab_aload 2 2045), (2045, ab_aload 0 2046), (2046, ab_iload 5 2048), (2048, ab_iconst (1) 2049), (2049, ab_iadd 2050), (2050, ab_scr K 2051), (2051, ab_callV 11 29 1 2054), (2054, ab_istore 7 2056), (2056, ab_aload 2 2057), (2057, ab_callV 11 5 0 2060), (2060, ab_iload 6 2062), (2062, ab_icmp_eq 2067 2065), (2065, ab_iconst (0) 2066), (2066, ab_zret), (2067, ab_iload 6 2069), (2069, ab_if_ne 2084 2072), (2072, ab_aload 3 2073), (2073, ab_iconst (0) 2074), (2074, ab_lald 2075), (2075, ab_iload 7 2077), (2077, ab_i2l 2078), (2078, ab_lcmp 2079), (2079, ab_if_eq 2084 2082), (2082, ab_iconst (0) 2083), (2083, ab_zret), (2084, ab_goto 2670), (2087, ab_aload 1 2088), (2088, ab_aload 0 2089), (2089, ab_iload 5 2091), (2091, ab_iconst (1) 2092), (2092, ab_iadd 2093), (2093, ab_scr K 2094)]
def ab_l0_31 (K : ab_Kt) : List (Nat × ab_Op) := [(2094, ab_i2c 2095), (2095, ab_aload 3 2096), (2096, ab_callS 26 3 2099), (2099, ab_istore 6 2101), (2101, ab_aload 2 2102), (2102, ab_aload 0 2103), (2103, ab_iload 5 2105), (2105, ab_iconst (1) 2106), (2106, ab_iadd 2107), (2107, ab_scr K 2108), (2108, ab_i2c 2109), (2109, ab_callV 11 27 1 2112), (2112, ab_istore 7 2114), (2114, ab_aload 2 2115), (2115, ab_callV 11 5 0 2118), (2118, ab_iload 6 2120), (2120, ab_icmp_eq 2125 2123), (2123, ab_iconst (0) 2124), (2124, ab_zret), (2125, ab_iload 6 2127), (2127, ab_if_ne 2142 2130), (2130, ab_aload 3 2131), (2131, ab_iconst (0) 2132), (2132, ab_lald 2133), (2133, ab_iload 7 2135), (2135, ab_i2l 2136), (2136, ab_lcmp 2137), (2137, ab_if_eq 2142 2140), (2140, ab_iconst (0) 2141), (2141, ab_zret), (2142, ab_goto 2670), (2145, ab_aload 1 2146), (2146, ab_aload 3 2147), (2147, ab_callS 24 2 2150), (2150, ab_istore 6 2152), (2152, ab_aload 2 2153), (2153, ab_callV 11 25 0 2156), (2156, ab_istore 7 2158), (2158, ab_aload 2 2159), (2159, ab_callV 11 5 0 2162)]
def ab_l0_32 (K : ab_Kt) : List (Nat × ab_Op) := [(2162, ab_iload 6 2164), (2164, ab_icmp_eq 2169 2167), (2167, ab_iconst (0) 2168), (2168, ab_zret), (2169, ab_iload 6 2171), (2171, ab_if_ne 2186 2174), (2174, ab_aload 3 2175), (2175, ab_iconst (0) 2176), (2176, ab_lald 2177), (2177, ab_iload 7 2179), (2179, ab_i2l 2180), (2180, ab_lcmp 2181), (2181, ab_if_eq 2186 2184), (2184, ab_iconst (0) 2185), (2185, ab_zret), (2186, ab_goto 2670), (2189, ab_aload 1 2190), (2190, ab_callV 10 22 0 2193), (2193, ab_aload 2 2194), (2194, ab_callV 11 23 0 2197), (2197, ab_icmp_eq 2670 2200), (2200, ab_iconst (0) 2201), (2201, ab_zret), (2202, ab_aload 1 2203), (2203, ab_aload 0 2204), (2204, ab_iload 5 2206), (2206, ab_iconst (1) 2207), (2207, ab_iadd 2208), (2208, ab_scr K 2209), (2209, ab_aload 3 2210), (2210, ab_callS 20 3 2213), (2213, ab_istore 6 2215), (2215, ab_aload 2 2216), (2216, ab_aload 0 2217), (2217, ab_iload 5 2219), (2219, ab_iconst (1) 2220), (2220, ab_iadd 2221), (2221, ab_scr K 2222), (2222, ab_callV 11 21 1 2225), (2225, ab_istore 7 2227)]
def ab_l0_33 (K : ab_Kt) : List (Nat × ab_Op) := [(2227, ab_aload 2 2228), (2228, ab_callV 11 5 0 2231), (2231, ab_iload 6 2233), (2233, ab_icmp_eq 2238 2236), (2236, ab_iconst (0) 2237), (2237, ab_zret), (2238, ab_iload 6 2240), (2240, ab_if_ne 2255 2243), (2243, ab_aload 3 2244), (2244, ab_iconst (0) 2245), (2245, ab_lald 2246), (2246, ab_iload 7 2248), (2248, ab_i2l 2249), (2249, ab_lcmp 2250), (2250, ab_if_eq 2255 2253), (2253, ab_iconst (0) 2254), (2254, ab_zret), (2255, ab_goto 2670), (2258, ab_aload 1 2259), (2259, ab_aload 0 2260), (2260, ab_iload 5 2262), (2262, ab_iconst (1) 2263), (2263, ab_iadd 2264), (2264, ab_scr K 2265), (2265, ab_aload 3 2266), (2266, ab_callS 18 3 2269), (2269, ab_istore 6 2271), (2271, ab_aload 2 2272), (2272, ab_aload 0 2273), (2273, ab_iload 5 2275), (2275, ab_iconst (1) 2276), (2276, ab_iadd 2277), (2277, ab_scr K 2278), (2278, ab_callV 11 19 1 2281), (2281, ab_istore 7 2283), (2283, ab_aload 2 2284), (2284, ab_callV 11 5 0 2287), (2287, ab_iload 6 2289), (2289, ab_icmp_eq 2294 2292), (2292, ab_iconst (0) 2293)]
def ab_l0_34 (K : ab_Kt) : List (Nat × ab_Op) := [(2293, ab_zret), (2294, ab_iload 6 2296), (2296, ab_if_ne 2311 2299), (2299, ab_aload 3 2300), (2300, ab_iconst (0) 2301), (2301, ab_lald 2302), (2302, ab_iload 7 2304), (2304, ab_i2l 2305), (2305, ab_lcmp 2306), (2306, ab_if_eq 2311 2309), (2309, ab_iconst (0) 2310), (2310, ab_zret), (2311, ab_goto 2670), (2314, ab_aload 1 2315), (2315, ab_aload 0 2316), (2316, ab_iload 5 2318), (2318, ab_iconst (1) 2319), (2319, ab_iadd 2320), (2320, ab_scr K 2321), (2321, ab_aload 3 2322), (2322, ab_callS 16 3 2325), (2325, ab_istore 6 2327), (2327, ab_aload 2 2328), (2328, ab_aload 0 2329), (2329, ab_iload 5 2331), (2331, ab_iconst (1) 2332), (2332, ab_iadd 2333), (2333, ab_scr K 2334), (2334, ab_callV 11 17 1 2337), (2337, ab_istore 7 2339), (2339, ab_aload 2 2340), (2340, ab_callV 11 5 0 2343), (2343, ab_iload 6 2345), (2345, ab_icmp_eq 2350 2348), (2348, ab_iconst (0) 2349), (2349, ab_zret), (2350, ab_iload 6 2352), (2352, ab_if_ne 2367 2355), (2355, ab_aload 3 2356), (2356, ab_iconst (0) 2357)]
def ab_l0_35 (K : ab_Kt) : List (Nat × ab_Op) := [(2357, ab_lald 2358), (2358, ab_iload 7 2360), (2360, ab_i2l 2361), (2361, ab_lcmp 2362), (2362, ab_if_eq 2367 2365), (2365, ab_iconst (0) 2366), (2366, ab_zret), (2367, ab_goto 2670), (2370, ab_aload 1 2371), (2371, ab_aload 0 2372), (2372, ab_iload 5 2374), (2374, ab_iconst (1) 2375), (2375, ab_iadd 2376), (2376, ab_scr K 2377), (2377, ab_aload 4 2379), (2379, ab_callS 14 3 2382), (2382, ab_istore 6 2384), (2384, ab_aload 2 2385), (2385, ab_aload 0 2386), (2386, ab_iload 5 2388), (2388, ab_iconst (1) 2389), (2389, ab_iadd 2390), (2390, ab_scr K 2391), (2391, ab_callV 11 15 1 2394), (2394, ab_fstore 7 2396), (2396, ab_aload 2 2397), (2397, ab_callV 11 5 0 2400), (2400, ab_iload 6 2402), (2402, ab_icmp_eq 2407 2405), (2405, ab_iconst (0) 2406), (2406, ab_zret), (2407, ab_iload 6 2409), (2409, ab_if_ne 2445 2412), (2412, ab_aload 4 2414), (2414, ab_iconst (0) 2415), (2415, ab_dald 2416), (2416, ab_fload 7 2418), (2418, ab_f2d 2419), (2419, ab_dcmp .l 2420), (2420, ab_if_eq 2445 2423)]
def ab_l0_36 (K : ab_Kt) : List (Nat × ab_Op) := [(2423, ab_aload 4 2425), (2425, ab_iconst (0) 2426), (2426, ab_dald 2427), (2427, ab_aload 4 2429), (2429, ab_iconst (0) 2430), (2430, ab_dald 2431), (2431, ab_dcmp .l 2432), (2432, ab_if_eq 2443 2435), (2435, ab_fload 7 2437), (2437, ab_fload 7 2439), (2439, ab_fcmp .l 2440), (2440, ab_if_ne 2445 2443), (2443, ab_iconst (0) 2444), (2444, ab_zret), (2445, ab_goto 2670), (2448, ab_aload 1 2449), (2449, ab_aload 4 2451), (2451, ab_callS 12 2 2454), (2454, ab_istore 6 2456), (2456, ab_aload 2 2457), (2457, ab_callV 11 13 0 2460), (2460, ab_dstore 7 2462), (2462, ab_aload 2 2463), (2463, ab_callV 11 5 0 2466), (2466, ab_iload 6 2468), (2468, ab_icmp_eq 2473 2471), (2471, ab_iconst (0) 2472), (2472, ab_zret), (2473, ab_iload 6 2475), (2475, ab_if_ne 2510 2478), (2478, ab_aload 4 2480), (2480, ab_iconst (0) 2481), (2481, ab_dald 2482), (2482, ab_dload 7 2484), (2484, ab_dcmp .l 2485), (2485, ab_if_eq 2510 2488), (2488, ab_aload 4 2490), (2490, ab_iconst (0) 2491), (2491, ab_dald 2492), (2492, ab_aload 4 2494)]
def ab_l0_37 (K : ab_Kt) : List (Nat × ab_Op) := [(2494, ab_iconst (0) 2495), (2495, ab_dald 2496), (2496, ab_dcmp .l 2497), (2497, ab_if_eq 2508 2500), (2500, ab_dload 7 2502), (2502, ab_dload 7 2504), (2504, ab_dcmp .l 2505), (2505, ab_if_ne 2510 2508), (2508, ab_iconst (0) 2509), (2509, ab_zret), (2510, ab_goto 2670), (2513, ab_aload 1 2514), (2514, ab_aload 0 2515), (2515, ab_iload 5 2517), (2517, ab_iconst (1) 2518), (2518, ab_iadd 2519), (2519, ab_scr K 2520), (2520, ab_aload 3 2521), (2521, ab_callS 10 3 2524), (2524, ab_istore 6 2526), (2526, ab_aload 2 2527), (2527, ab_aload 0 2528), (2528, ab_iload 5 2530), (2530, ab_iconst (1) 2531), (2531, ab_iadd 2532), (2532, ab_scr K 2533), (2533, ab_callV 11 11 1 2536), (2536, ab_istore 7 2538), (2538, ab_aload 2 2539), (2539, ab_callV 11 5 0 2542), (2542, ab_iload 6 2544), (2544, ab_icmp_eq 2549 2547), (2547, ab_iconst (0) 2548), (2548, ab_zret), (2549, ab_iload 6 2551), (2551, ab_if_ne 2566 2554), (2554, ab_aload 3 2555), (2555, ab_iconst (0) 2556), (2556, ab_lald 2557), (2557, ab_iload 7 2559)]
def ab_l0_38 (K : ab_Kt) : List (Nat × ab_Op) := [(2559, ab_i2l 2560), (2560, ab_lcmp 2561), (2561, ab_if_eq 2566 2564), (2564, ab_iconst (0) 2565), (2565, ab_zret), (2566, ab_goto 2670), (2569, ab_aload 1 2570), (2570, ab_aload 3 2571), (2571, ab_callS 8 2 2574), (2574, ab_istore 6 2576), (2576, ab_aload 2 2577), (2577, ab_callV 11 9 0 2580), (2580, ab_istore 7 2582), (2582, ab_aload 2 2583), (2583, ab_callV 11 5 0 2586), (2586, ab_iload 6 2588), (2588, ab_icmp_eq 2593 2591), (2591, ab_iconst (0) 2592), (2592, ab_zret), (2593, ab_iload 6 2595), (2595, ab_if_ne 2610 2598), (2598, ab_aload 3 2599), (2599, ab_iconst (0) 2600), (2600, ab_lald 2601), (2601, ab_iload 7 2603), (2603, ab_i2l 2604), (2604, ab_lcmp 2605), (2605, ab_if_eq 2610 2608), (2608, ab_iconst (0) 2609), (2609, ab_zret), (2610, ab_goto 2670), (2613, ab_aload 1 2614), (2614, ab_callV 10 6 0 2617), (2617, ab_aload 2 2618), (2618, ab_callV 11 7 0 2621), (2621, ab_icmp_eq 2670 2624), (2624, ab_iconst (0) 2625), (2625, ab_zret), (2626, ab_aload 1 2627), (2627, ab_aload 3 2628)]
def ab_l0_39 (K : ab_Kt) : List (Nat × ab_Op) := [(2628, ab_callS 3 2 2631), (2631, ab_istore 6 2633), (2633, ab_aload 2 2634), (2634, ab_callV 11 4 0 2637), (2637, ab_istore 7 2639), (2639, ab_aload 2 2640), (2640, ab_callV 11 5 0 2643), (2643, ab_iload 6 2645), (2645, ab_icmp_eq 2650 2648), (2648, ab_iconst (0) 2649), (2649, ab_zret), (2650, ab_iload 6 2652), (2652, ab_if_ne 2667 2655), (2655, ab_aload 3 2656), (2656, ab_iconst (0) 2657), (2657, ab_lald 2658), (2658, ab_iload 7 2660), (2660, ab_i2l 2661), (2661, ab_lcmp 2662), (2662, ab_if_eq 2667 2665), (2665, ab_iconst (0) 2666), (2666, ab_zret), (2667, ab_goto 2670), (2670, ab_iinc 5 (5) 2673), (2673, ab_goto 28), (2676, ab_iconst (1) 2677), (2677, ab_zret)]
def ab_c0 (K : ab_Kt) : Nat → ab_Op := ab_lk2 [(238, ab_l0_0 K), (300, ab_l0_1 K), (354, ab_l0_2 K), (417, ab_l0_3 K), (477, ab_l0_4 K), (538, ab_l0_5 K), (601, ab_l0_6 K), (665, ab_l0_7 K), (727, ab_l0_8 K), (789, ab_l0_9 K), (849, ab_l0_10 K), (913, ab_l0_11 K), (973, ab_l0_12 K), (1037, ab_l0_13 K), (1099, ab_l0_14 K), (1161, ab_l0_15 K), (1218, ab_l0_16 K), (1277, ab_l0_17 K), (1342, ab_l0_18 K), (1406, ab_l0_19 K), (1469, ab_l0_20 K), (1533, ab_l0_21 K), (1593, ab_l0_22 K), (1657, ab_l0_23 K), (1717, ab_l0_24 K), (1781, ab_l0_25 K), (1843, ab_l0_26 K), (1905, ab_l0_27 K), (1967, ab_l0_28 K), (2032, ab_l0_29 K), (2094, ab_l0_30 K), (2162, ab_l0_31 K), (2227, ab_l0_32 K), (2293, ab_l0_33 K), (2357, ab_l0_34 K), (2423, ab_l0_35 K), (2494, ab_l0_36 K), (2559, ab_l0_37 K), (2628, ab_l0_38 K), (2678, ab_l0_39 K)]
def ab_l1_0 : List (Nat × ab_Op) := [(0, ab_aload 0 1), (1, ab_oini 4), (4, ab_aload 0 5), (5, ab_newo 4 [.null, .int 0, .int 0, .int 0, .int 0] 8), (8, ab_dup 9), (9, ab_callI 86 0 12), (12, ab_putf 10 0 (.object "BookBindery$Bench") 15), (15, ab_aload 0 16), (16, ab_aload 0 17), (17, ab_getf 10 0 20), (20, ab_getf 4 0 23), (23, ab_putf 10 1 (.object "BookBindery$Shop") 26), (26, ab_aload 0 27), (27, ab_newo 7 [.null, .int 0, .int 0] 30), (30, ab_dup 31), (31, ab_callI 87 0 34), (34, ab_putf 10 2 (.object "BookBindery$History") 37), (37, ab_aload 0 38), (38, ab_newo 9 [.null, .null, .int 0, .int 0, .int 0, .int 0, .int 0, .int 0, .int 0, .int 0] 41), (41, ab_dup 42), (42, ab_callI 88 0 45), (45, ab_putf 10 3 (.object "BookBindery$Shop") 48), (48, ab_aload 0 49), (49, ab_newo 6 [.null, .int 0, .int 0, .int 0, .int 0, .null, .int 0, .int 0] 52), (52, ab_dup 53), (53, ab_callI 89 0 56), (56, ab_putf 10 5 (.object "BookBindery$CommandText") 59), (59, ab_aload 0 60), (60, ab_iconst (-1) 61), (61, ab_putf 10 6 (.int) 64), (64, ab_aload 0 65), (65, ab_newo 1 [.null, .int 0, .int 0, .int 0] 68), (68, ab_dup 69), (69, ab_callI 90 0 72), (72, ab_putf 10 7 (.object "java/lang/StringBuilder") 75), (75, ab_aload 0 76), (76, ab_iconst (6) 78), (78, ab_newa0 80), (80, ab_putf 10 8 (.array .int) 83), (83, ab_vret)]
def ab_c1 : Nat → ab_Op := ab_lk2 [(84, ab_l1_0)]
def ab_l2_0 : List (Nat × ab_Op) := [(0, ab_aload 0 1), (1, ab_oini 4), (4, ab_aload 0 5), (5, ab_iconst (322) 8), (8, ab_newa0 10), (10, ab_putf 11 0 (.array .int) 13), (13, ab_aload 0 14), (14, ab_iconst (2576) 17), (17, ab_newa0 19), (19, ab_putf 11 1 (.array .int) 22), (22, ab_aload 0 23), (23, ab_iconst (322) 26), (26, ab_newa0 28), (28, ab_putf 11 2 (.array .int) 31), (31, ab_aload 0 32), (32, ab_iconst (322) 35), (35, ab_newa0 37), (37, ab_putf 11 3 (.array .int) 40), (40, ab_aload 0 41), (41, ab_iconst (60) 43), (43, ab_newa0 45), (45, ab_putf 11 11 (.array .int) 48), (48, ab_aload 0 49), (49, ab_iconst (-1) 50), (50, ab_putf 11 13 (.int) 53), (53, ab_aload 0 54), (54, ab_iconst (140) 57), (57, ab_newa3 59), (59, ab_putf 11 14 (.array .char) 62), (62, ab_aload 0 63), (63, ab_iconst (160) 66), (66, ab_newa0 68), (68, ab_putf 11 17 (.array .int) 71), (71, ab_aload 0 72), (72, ab_getf 11 0 75), (75, ab_iconst (1) 76), (76, ab_iconst (20) 78), (78, ab_ast 0 .int 79), (79, ab_aload 0 80), (80, ab_getf 11 0 83)]
def ab_l2_1 : List (Nat × ab_Op) := [(83, ab_iconst (2) 84), (84, ab_iconst (100) 86), (86, ab_ast 0 .int 87), (87, ab_vret)]
def ab_c2 : Nat → ab_Op := ab_lk2 [(83, ab_l2_0), (88, ab_l2_1)]
def ab_l3_0 : List (Nat × ab_Op) := [(0, ab_aload 1 1), (1, ab_iconst (0) 2), (2, ab_aload 0 3), (3, ab_callV 10 91 0 6), (6, ab_i2l 7), (7, ab_last 8), (8, ab_goto 14), (11, ab_astore 2 12), (12, ab_iconst (1) 13), (13, ab_iret), (14, ab_iconst (0) 15), (15, ab_iret)]
def ab_c3 : Nat → ab_Op := ab_lk2 [(16, ab_l3_0)]
def ab_l4_0 : List (Nat × ab_Op) := [(0, ab_aload 0 1), (1, ab_aload 0 2), (2, ab_getf 11 4 5), (5, ab_if_eq 12 8), (8, ab_iconst (0) 9), (9, ab_goto 13), (12, ab_iconst (1) 13), (13, ab_callV 11 92 1 16), (16, ab_if_eq 21 19), (19, ab_iconst (0) 20), (20, ab_iret), (21, ab_aload 0 22), (22, ab_getf 11 2 25), (25, ab_iconst (0) 26), (26, ab_aload 0 27), (27, ab_getf 11 0 30), (30, ab_iconst (0) 31), (31, ab_callS 93 4 34), (34, ab_aload 0 35), (35, ab_iconst (0) 36), (36, ab_putf 11 5 (.int) 39), (39, ab_aload 0 40), (40, ab_getf 11 0 43), (43, ab_iconst (3) 44), (44, ab_ald 0 45), (45, ab_iret)]
def ab_c4 : Nat → ab_Op := ab_lk2 [(46, ab_l4_0)]
def ab_l5_0 : List (Nat × ab_Op) := [(0, ab_aload 0 1), (1, ab_getf 11 7 4), (4, ab_iret)]
def ab_c5 : Nat → ab_Op := ab_lk2 [(5, ab_l5_0)]
def ab_l6_0 : List (Nat × ab_Op) := [(0, ab_aload 0 1), (1, ab_getf 10 3 4), (4, ab_aload 0 5), (5, ab_getf 10 1 8), (8, ab_callV 9 94 1 11), (11, ab_aload 0 12), (12, ab_iconst (1) 13), (13, ab_putf 10 4 (.boolean) 16), (16, ab_aload 0 17), (17, ab_getf 10 1 20), (20, ab_getf 9 2 23), (23, ab_iret)]
def ab_c6 : Nat → ab_Op := ab_lk2 [(24, ab_l6_0)]
def ab_l7_0 : List (Nat × ab_Op) := [(0, ab_aload 0 1), (1, ab_iconst (0) 2), (2, ab_putf 11 7 (.int) 5), (5, ab_aload 0 6), (6, ab_iconst (1) 7), (7, ab_putf 11 4 (.boolean) 10), (10, ab_aload 0 11), (11, ab_getf 11 0 14), (14, ab_iconst (0) 15), (15, ab_aload 0 16), (16, ab_getf 11 2 19), (19, ab_iconst (0) 20), (20, ab_callS 93 4 23), (23, ab_aload 0 24), (24, ab_getf 11 0 27), (27, ab_iconst (3) 28), (28, ab_ald 0 29), (29, ab_iret)]
def ab_c7 : Nat → ab_Op := ab_lk2 [(30, ab_l7_0)]
def ab_l8_0 : List (Nat × ab_Op) := [(0, ab_aload 1 1), (1, ab_iconst (0) 2), (2, ab_aload 0 3), (3, ab_callV 10 95 0 6), (6, ab_i2l 7), (7, ab_last 8), (8, ab_goto 14), (11, ab_astore 2 12), (12, ab_iconst (1) 13), (13, ab_iret), (14, ab_iconst (0) 15), (15, ab_iret)]
def ab_c8 : Nat → ab_Op := ab_lk2 [(16, ab_l8_0)]
def ab_l9_0 : List (Nat × ab_Op) := [(0, ab_aload 0 1), (1, ab_aload 0 2), (2, ab_getf 11 5 5), (5, ab_if_ne 12 8), (8, ab_iconst (1) 9), (9, ab_goto 13), (12, ab_iconst (0) 13), (13, ab_callV 11 92 1 16), (16, ab_if_eq 21 19), (19, ab_iconst (0) 20), (20, ab_iret), (21, ab_aload 0 22), (22, ab_dup 23), (23, ab_getf 11 5 26), (26, ab_iconst (1) 27), (27, ab_isub 28), (28, ab_putf 11 5 (.int) 31), (31, ab_aload 0 32), (32, ab_getf 11 1 35), (35, ab_iconst (322) 38), (38, ab_aload 0 39), (39, ab_getf 11 5 42), (42, ab_imul 43), (43, ab_aload 0 44), (44, ab_getf 11 0 47), (47, ab_iconst (0) 48), (48, ab_callS 93 4 51), (51, ab_aload 0 52), (52, ab_getf 11 5 55), (55, ab_iret)]
def ab_c9 : Nat → ab_Op := ab_lk2 [(56, ab_l9_0)]
def ab_l10_0 : List (Nat × ab_Op) := [(0, ab_aload 2 1), (1, ab_iconst (0) 2), (2, ab_aload 0 3), (3, ab_iload 1 4), (4, ab_callV 10 96 1 7), (7, ab_i2l 8), (8, ab_last 9), (9, ab_goto 15), (12, ab_astore 3 13), (13, ab_iconst (1) 14), (14, ab_iret), (15, ab_iconst (0) 16), (16, ab_iret)]
def ab_c10 : Nat → ab_Op := ab_lk2 [(17, ab_l10_0)]
def ab_l11_0 : List (Nat × ab_Op) := [(0, ab_aload 0 1), (1, ab_iload 1 2), (2, ab_iconst (0) 3), (3, ab_iconst (12) 5), (5, ab_callS 97 3 8), (8, ab_if_eq 15 11), (11, ab_iconst (0) 12), (12, ab_goto 16), (15, ab_iconst (1) 16), (16, ab_callV 11 92 1 19), (19, ab_if_eq 24 22), (22, ab_iconst (0) 23), (23, ab_iret), (24, ab_iload 1 25), (25, ab_tsw 0 [88, 88, 88, 88, 95, 107, 112, 118, 125, 132, 140, 148] 153), (88, ab_aload 0 89), (89, ab_getf 11 0 92), (92, ab_iload 1 93), (93, ab_ald 0 94), (94, ab_iret), (95, ab_aload 0 96), (96, ab_iconst (0) 97), (97, ab_callV 11 100 1 100), (100, ab_aload 0 101), (101, ab_iconst (1) 102), (102, ab_callV 11 100 1 105), (105, ab_iadd 106), (106, ab_iret), (107, ab_aload 0 108), (108, ab_callV 11 99 0 111), (111, ab_iret), (112, ab_aload 0 113), (113, ab_iconst (3) 114), (114, ab_callV 11 98 1 117), (117, ab_iret), (118, ab_aload 0 119), (119, ab_getf 11 0 122), (122, ab_iconst (4) 123), (123, ab_ald 0 124), (124, ab_iret)]
def ab_l11_1 : List (Nat × ab_Op) := [(125, ab_aload 0 126), (126, ab_getf 11 0 129), (129, ab_iconst (5) 130), (130, ab_ald 0 131), (131, ab_iret), (132, ab_aload 0 133), (133, ab_getf 11 0 136), (136, ab_iconst (6) 138), (138, ab_ald 0 139), (139, ab_iret), (140, ab_aload 0 141), (141, ab_getf 11 0 144), (144, ab_iconst (7) 146), (146, ab_ald 0 147), (147, ab_iret), (148, ab_aload 0 149), (149, ab_getf 11 5 152), (152, ab_iret), (153, ab_aload 0 154), (154, ab_getf 11 12 157), (157, ab_iret)]
def ab_c11 : Nat → ab_Op := ab_lk2 [(125, ab_l11_0), (158, ab_l11_1)]
def ab_l12_0 : List (Nat × ab_Op) := [(0, ab_aload 1 1), (1, ab_iconst (0) 2), (2, ab_aload 0 3), (3, ab_callV 10 101 0 6), (6, ab_dast 7), (7, ab_goto 13), (10, ab_astore 2 11), (11, ab_iconst (1) 12), (12, ab_iret), (13, ab_iconst (0) 14), (14, ab_iret)]
def ab_c12 : Nat → ab_Op := ab_lk2 [(15, ab_l12_0)]
def ab_l13_0 : List (Nat × ab_Op) := [(0, ab_aload 0 1), (1, ab_aload 0 2), (2, ab_getf 11 0 5), (5, ab_iconst (3) 6), (6, ab_ald 0 7), (7, ab_if_ne 14 10), (10, ab_iconst (1) 11), (11, ab_goto 15), (14, ab_iconst (0) 15), (15, ab_callV 11 92 1 18), (18, ab_if_eq 25 21), (21, ab_dconst0 22), (22, ab_goto 39), (25, ab_aload 0 26), (26, ab_iconst (3) 27), (27, ab_callV 11 98 1 30), (30, ab_i2d 31), (31, ab_aload 0 32), (32, ab_getf 11 0 35), (35, ab_iconst (3) 36), (36, ab_ald 0 37), (37, ab_i2d 38), (38, ab_ddiv 39), (39, ab_dret)]
def ab_c13 : Nat → ab_Op := ab_lk2 [(40, ab_l13_0)]
def ab_l14_0 : List (Nat × ab_Op) := [(0, ab_aload 2 1), (1, ab_iconst (0) 2), (2, ab_aload 0 3), (3, ab_iload 1 4), (4, ab_callV 10 102 1 7), (7, ab_f2d 8), (8, ab_dast 9), (9, ab_goto 18), (12, ab_astore 3 13), (13, ab_iconst (1) 14), (14, ab_iret), (15, ab_astore 3 16), (16, ab_iconst (2) 17), (17, ab_iret), (18, ab_iconst (0) 19), (19, ab_iret)]
def ab_c14 : Nat → ab_Op := ab_lk2 [(20, ab_l14_0)]
def ab_l15_0 : List (Nat × ab_Op) := [(0, ab_aload 0 1), (1, ab_aload 0 2), (2, ab_iload 1 3), (3, ab_callV 11 103 1 6), (6, ab_if_ne 13 9), (9, ab_iconst (1) 10), (10, ab_goto 26), (13, ab_aload 0 14), (14, ab_iload 1 15), (15, ab_callV 11 104 1 18), (18, ab_if_ne 25 21), (21, ab_iconst (2) 22), (22, ab_goto 26), (25, ab_iconst (0) 26), (26, ab_callV 11 92 1 29), (29, ab_if_eq 34 32), (32, ab_fconst0 33), (33, ab_fret), (34, ab_aload 0 35), (35, ab_iload 1 36), (36, ab_callV 11 104 1 39), (39, ab_aload 0 40), (40, ab_iload 1 41), (41, ab_callV 11 105 1 44), (44, ab_isub 45), (45, ab_i2f 46), (46, ab_aload 0 47), (47, ab_iload 1 48), (48, ab_callV 11 104 1 51), (51, ab_i2f 52), (52, ab_fdiv 53), (53, ab_fret)]
def ab_c15 : Nat → ab_Op := ab_lk2 [(54, ab_l15_0)]
def ab_l16_0 : List (Nat × ab_Op) := [(0, ab_aload 2 1), (1, ab_iconst (0) 2), (2, ab_aload 0 3), (3, ab_iload 1 4), (4, ab_callV 10 106 1 7), (7, ab_i2l 8), (8, ab_last 9), (9, ab_goto 15), (12, ab_astore 3 13), (13, ab_iconst (1) 14), (14, ab_iret), (15, ab_iconst (0) 16), (16, ab_iret)]
def ab_c16 : Nat → ab_Op := ab_lk2 [(17, ab_l16_0)]
def ab_l17_0 : List (Nat × ab_Op) := [(0, ab_aload 0 1), (1, ab_iload 1 2), (2, ab_iconst (0) 3), (3, ab_aload 0 4), (4, ab_getf 11 15 7), (7, ab_iconst (1) 8), (8, ab_isub 9), (9, ab_callS 97 3 12), (12, ab_if_eq 19 15), (15, ab_iconst (0) 16), (16, ab_goto 20), (19, ab_iconst (1) 20), (20, ab_callV 11 92 1 23), (23, ab_if_eq 31 26), (26, ab_iconst (32) 28), (28, ab_goto 37), (31, ab_aload 0 32), (32, ab_getf 11 14 35), (35, ab_iload 1 36), (36, ab_ald 3 37), (37, ab_cret)]
def ab_c17 : Nat → ab_Op := ab_lk2 [(38, ab_l17_0)]
def ab_l18_0 : List (Nat × ab_Op) := [(0, ab_aload 2 1), (1, ab_iconst (0) 2), (2, ab_aload 0 3), (3, ab_iload 1 4), (4, ab_callV 10 107 1 7), (7, ab_i2l 8), (8, ab_last 9), (9, ab_goto 15), (12, ab_astore 3 13), (13, ab_iconst (1) 14), (14, ab_iret), (15, ab_iconst (0) 16), (16, ab_iret)]
def ab_c18 : Nat → ab_Op := ab_lk2 [(17, ab_l18_0)]
def ab_l19_0 : List (Nat × ab_Op) := [(0, ab_aload 0 1), (1, ab_aload 0 2), (2, ab_iload 1 3), (3, ab_callV 11 103 1 6), (6, ab_if_eq 13 9), (9, ab_iconst (0) 10), (10, ab_goto 14), (13, ab_iconst (1) 14), (14, ab_callV 11 92 1 17), (17, ab_if_eq 22 20), (20, ab_iconst (0) 21), (21, ab_iret), (22, ab_aload 0 23), (23, ab_iconst (0) 24), (24, ab_putf 11 15 (.int) 27), (27, ab_aload 0 28), (28, ab_iload 1 29), (29, ab_callV 11 108 1 32), (32, ab_aload 0 33), (33, ab_iconst (58) 35), (35, ab_callV 11 109 1 38), (38, ab_iconst (0) 39), (39, ab_istore 2 40), (40, ab_iload 2 41), (41, ab_aload 0 42), (42, ab_iload 1 43), (43, ab_iconst (3) 44), (44, ab_callV 11 110 2 47), (47, ab_icmp_ge 132 50), (50, ab_aload 0 51), (51, ab_iconst (32) 53), (53, ab_callV 11 109 1 56), (56, ab_aload 0 57), (57, ab_aload 0 58), (58, ab_iload 1 59), (59, ab_iload 2 60), (60, ab_iconst (0) 61), (61, ab_callV 11 111 3 64), (64, ab_callV 11 108 1 67), (67, ab_aload 0 68)]
def ab_l19_1 : List (Nat × ab_Op) := [(68, ab_iconst (45) 70), (70, ab_callV 11 109 1 73), (73, ab_aload 0 74), (74, ab_aload 0 75), (75, ab_iload 1 76), (76, ab_iload 2 77), (77, ab_iconst (0) 78), (78, ab_callV 11 111 3 81), (81, ab_aload 0 82), (82, ab_iload 1 83), (83, ab_iload 2 84), (84, ab_callV 11 112 2 87), (87, ab_iadd 88), (88, ab_iconst (1) 89), (89, ab_isub 90), (90, ab_callV 11 108 1 93), (93, ab_aload 0 94), (94, ab_iload 1 95), (95, ab_iload 2 96), (96, ab_iconst (2) 97), (97, ab_callV 11 111 3 100), (100, ab_iconst (1) 101), (101, ab_icmp_ne 110 104), (104, ab_aload 0 105), (105, ab_iconst (33) 107), (107, ab_callV 11 109 1 110), (110, ab_iload 2 111), (111, ab_aload 0 112), (112, ab_iload 1 113), (113, ab_iconst (4) 114), (114, ab_callV 11 110 2 117), (117, ab_icmp_ge 126 120), (120, ab_aload 0 121), (121, ab_iconst (115) 123), (123, ab_callV 11 109 1 126), (126, ab_iinc 2 (1) 129), (129, ab_goto 40), (132, ab_aload 0 133), (133, ab_getf 11 15 136), (136, ab_iret)]
def ab_c19 : Nat → ab_Op := ab_lk2 [(68, ab_l19_0), (137, ab_l19_1)]
def ab_l20_0 : List (Nat × ab_Op) := [(0, ab_aload 2 1), (1, ab_iconst (0) 2), (2, ab_aload 0 3), (3, ab_iload 1 4), (4, ab_callV 10 113 1 7), (7, ab_i2l 8), (8, ab_last 9), (9, ab_goto 18), (12, ab_astore 3 13), (13, ab_iconst (1) 14), (14, ab_iret), (15, ab_astore 3 16), (16, ab_iconst (2) 17), (17, ab_iret), (18, ab_iconst (0) 19), (19, ab_iret)]
def ab_c20 : Nat → ab_Op := ab_lk2 [(20, ab_l20_0)]
def ab_l21_0 : List (Nat × ab_Op) := [(0, ab_aload 0 1), (1, ab_iload 1 2), (2, ab_iconst (0) 3), (3, ab_iconst (2) 4), (4, ab_callS 97 3 7), (7, ab_if_ne 14 10), (10, ab_iconst (1) 11), (11, ab_goto 26), (14, ab_aload 0 15), (15, ab_getf 11 8 18), (18, ab_if_ne 25 21), (21, ab_iconst (2) 22), (22, ab_goto 26), (25, ab_iconst (0) 26), (26, ab_callV 11 92 1 29), (29, ab_if_eq 34 32), (32, ab_iconst (0) 33), (33, ab_iret), (34, ab_iload 1 35), (35, ab_if_ne 45 38), (38, ab_aload 0 39), (39, ab_getf 11 8 42), (42, ab_goto 61), (45, ab_iload 1 46), (46, ab_iconst (1) 47), (47, ab_icmp_ne 57 50), (50, ab_aload 0 51), (51, ab_getf 11 9 54), (54, ab_goto 61), (57, ab_aload 0 58), (58, ab_getf 11 10 61), (61, ab_iret)]
def ab_c21 : Nat → ab_Op := ab_lk2 [(62, ab_l21_0)]
def ab_l22_0 : List (Nat × ab_Op) := [(0, ab_aload 0 1), (1, ab_getf 10 6 4), (4, ab_iret)]
def ab_c22 : Nat → ab_Op := ab_lk2 [(5, ab_l22_0)]
def ab_l23_0 : List (Nat × ab_Op) := [(0, ab_aload 0 1), (1, ab_iconst (0) 2), (2, ab_putf 11 7 (.int) 5), (5, ab_aload 0 6), (6, ab_getf 11 13 9), (9, ab_iret)]
def ab_c23 : Nat → ab_Op := ab_lk2 [(10, ab_l23_0)]
def ab_l24_0 : List (Nat × ab_Op) := [(0, ab_aload 1 1), (1, ab_iconst (0) 2), (2, ab_aload 0 3), (3, ab_callV 10 114 0 6), (6, ab_i2l 7), (7, ab_last 8), (8, ab_goto 17), (11, ab_astore 2 12), (12, ab_iconst (1) 13), (13, ab_iret), (14, ab_astore 2 15), (15, ab_iconst (2) 16), (16, ab_iret), (17, ab_iconst (0) 18), (18, ab_iret)]
def ab_c24 : Nat → ab_Op := ab_lk2 [(19, ab_l24_0)]
def ab_l25_0 : List (Nat × ab_Op) := [(0, ab_aload 0 1), (1, ab_callV 11 115 0 4), (4, ab_istore 1 5), (5, ab_aload 0 6), (6, ab_iload 1 7), (7, ab_if_eq 14 10), (10, ab_iconst (-1) 11), (11, ab_goto 18), (14, ab_aload 0 15), (15, ab_getf 11 16 18), (18, ab_putf 11 13 (.int) 21), (21, ab_aload 0 22), (22, ab_iconst (0) 23), (23, ab_putf 11 12 (.int) 26), (26, ab_aload 0 27), (27, ab_iload 1 28), (28, ab_if_eq 35 31), (31, ab_iconst (0) 32), (32, ab_goto 36), (35, ab_iconst (1) 36), (36, ab_callV 11 92 1 39), (39, ab_if_eq 44 42), (42, ab_iconst (0) 43), (43, ab_iret), (44, ab_aload 0 45), (45, ab_getf 11 0 48), (48, ab_iconst (0) 49), (49, ab_aload 0 50), (50, ab_getf 11 3 53), (53, ab_iconst (0) 54), (54, ab_callS 93 4 57), (57, ab_aload 0 58), (58, ab_iconst (1) 59), (59, ab_putf 11 6 (.boolean) 62), (62, ab_iconst (0) 63), (63, ab_istore 2 64), (64, ab_iconst (0) 65), (65, ab_istore 3 66), (66, ab_iload 2 67), (67, ab_aload 0 68)]
def ab_l25_1 : List (Nat × ab_Op) := [(68, ab_getf 11 18 71), (71, ab_icmp_ge 95 74), (74, ab_aload 0 75), (75, ab_getf 11 7 78), (78, ab_if_ne 95 81), (81, ab_aload 0 82), (82, ab_iconst (5) 83), (83, ab_iload 2 84), (84, ab_imul 85), (85, ab_callV 11 116 1 88), (88, ab_istore 3 89), (89, ab_iinc 2 (1) 92), (92, ab_goto 66), (95, ab_aload 0 96), (96, ab_iconst (0) 97), (97, ab_putf 11 6 (.boolean) 100), (100, ab_aload 0 101), (101, ab_getf 11 7 104), (104, ab_if_le 142 107), (107, ab_aload 0 108), (108, ab_getf 11 3 111), (111, ab_iconst (0) 112), (112, ab_aload 0 113), (113, ab_getf 11 0 116), (116, ab_iconst (0) 117), (117, ab_callS 93 4 120), (120, ab_aload 0 121), (121, ab_iload 2 122), (122, ab_iconst (1) 123), (123, ab_isub 124), (124, ab_putf 11 10 (.int) 127), (127, ab_aload 0 128), (128, ab_iconst (2) 129), (129, ab_putf 11 7 (.int) 132), (132, ab_iload 3 133), (133, ab_if_ge 140 136), (136, ab_iload 3 137), (137, ab_goto 141), (140, ab_iconst (0) 141), (141, ab_iret)]
def ab_l25_2 : List (Nat × ab_Op) := [(142, ab_aload 0 143), (143, ab_aload 0 144), (144, ab_getf 11 3 147), (147, ab_callV 11 117 1 150), (150, ab_aload 0 151), (151, ab_getf 11 18 154), (154, ab_iret)]
def ab_c25 : Nat → ab_Op := ab_lk2 [(68, ab_l25_0), (142, ab_l25_1), (155, ab_l25_2)]
def ab_l26_0 : List (Nat × ab_Op) := [(0, ab_aload 2 1), (1, ab_iconst (0) 2), (2, ab_aload 0 3), (3, ab_iload 1 4), (4, ab_callV 10 118 1 7), (7, ab_i2l 8), (8, ab_last 9), (9, ab_goto 15), (12, ab_astore 3 13), (13, ab_iconst (1) 14), (14, ab_iret), (15, ab_iconst (0) 16), (16, ab_iret)]
def ab_c26 : Nat → ab_Op := ab_lk2 [(17, ab_l26_0)]
def ab_l27_0 : List (Nat × ab_Op) := [(0, ab_aload 0 1), (1, ab_aload 0 2), (2, ab_getf 11 12 5), (5, ab_iconst (60) 7), (7, ab_icmp_ne 14 10), (10, ab_iconst (1) 11), (11, ab_goto 15), (14, ab_iconst (0) 15), (15, ab_callV 11 92 1 18), (18, ab_if_eq 23 21), (21, ab_iconst (0) 22), (22, ab_iret), (23, ab_aload 0 24), (24, ab_getf 11 11 27), (27, ab_aload 0 28), (28, ab_getf 11 12 31), (31, ab_iload 1 32), (32, ab_ast 0 .int 33), (33, ab_aload 0 34), (34, ab_dup 35), (35, ab_getf 11 12 38), (38, ab_iconst (1) 39), (39, ab_iadd 40), (40, ab_putf 11 12 (.int) 43), (43, ab_aload 0 44), (44, ab_getf 11 12 47), (47, ab_iret)]
def ab_c27 : Nat → ab_Op := ab_lk2 [(48, ab_l27_0)]
def ab_l28_0 : List (Nat × ab_Op) := [(0, ab_aload 2 1), (1, ab_iconst (0) 2), (2, ab_aload 0 3), (3, ab_iload 1 4), (4, ab_callV 10 119 1 7), (7, ab_i2l 8), (8, ab_last 9), (9, ab_goto 15), (12, ab_astore 3 13), (13, ab_iconst (1) 14), (14, ab_iret), (15, ab_iconst (0) 16), (16, ab_iret)]
def ab_c28 : Nat → ab_Op := ab_lk2 [(17, ab_l28_0)]
def ab_l29_0 : List (Nat × ab_Op) := [(0, ab_aload 0 1), (1, ab_aload 0 2), (2, ab_iload 1 3), (3, ab_callV 11 103 1 6), (6, ab_if_eq 13 9), (9, ab_iconst (0) 10), (10, ab_goto 14), (13, ab_iconst (1) 14), (14, ab_callV 11 92 1 17), (17, ab_if_eq 22 20), (20, ab_iconst (0) 21), (21, ab_iret), (22, ab_iconst (0) 23), (23, ab_istore 2 24), (24, ab_iload 2 25), (25, ab_aload 0 26), (26, ab_getf 11 0 29), (29, ab_iconst (3) 30), (30, ab_ald 0 31), (31, ab_icmp_ge 87 34), (34, ab_iconst (0) 35), (35, ab_istore 3 36), (36, ab_iconst (0) 37), (37, ab_istore 4 39), (39, ab_iload 4 41), (41, ab_aload 0 42), (42, ab_getf 11 0 45), (45, ab_iconst (3) 46), (46, ab_ald 0 47), (47, ab_icmp_ge 74 50), (50, ab_iload 3 51), (51, ab_aload 0 52), (52, ab_iload 4 54), (54, ab_iload 2 55), (55, ab_callV 11 120 2 58), (58, ab_if_eq 65 61), (61, ab_iconst (1) 62), (62, ab_goto 66), (65, ab_iconst (0) 66), (66, ab_iadd 67)]
def ab_l29_1 : List (Nat × ab_Op) := [(67, ab_istore 3 68), (68, ab_iinc 4 (1) 71), (71, ab_goto 39), (74, ab_iload 3 75), (75, ab_iload 1 76), (76, ab_icmp_ne 81 79), (79, ab_iload 2 80), (80, ab_iret), (81, ab_iinc 2 (1) 84), (84, ab_goto 24), (87, ab_iconst (0) 88), (88, ab_iret)]
def ab_c29 : Nat → ab_Op := ab_lk2 [(67, ab_l29_0), (89, ab_l29_1)]
def ab_l30_0 : List (Nat × ab_Op) := [(0, ab_aload 2 1), (1, ab_iconst (0) 2), (2, ab_aload 0 3), (3, ab_iload 1 4), (4, ab_callV 10 121 1 7), (7, ab_i2l 8), (8, ab_last 9), (9, ab_goto 18), (12, ab_astore 3 13), (13, ab_iconst (1) 14), (14, ab_iret), (15, ab_astore 3 16), (16, ab_iconst (2) 17), (17, ab_iret), (18, ab_iconst (0) 19), (19, ab_iret)]
def ab_c30 : Nat → ab_Op := ab_lk2 [(20, ab_l30_0)]
def ab_l31_0 : List (Nat × ab_Op) := [(0, ab_aload 0 1), (1, ab_iload 1 2), (2, ab_callS 122 1 5), (5, ab_if_ne 12 8), (8, ab_iconst (1) 9), (9, ab_goto 25), (12, ab_aload 0 13), (13, ab_iload 1 14), (14, ab_callV 11 100 1 17), (17, ab_if_ne 24 20), (20, ab_iconst (2) 21), (21, ab_goto 25), (24, ab_iconst (0) 25), (25, ab_callV 11 92 1 28), (28, ab_if_eq 33 31), (31, ab_iconst (0) 32), (32, ab_iret), (33, ab_iconst (0) 34), (34, ab_istore 2 35), (35, ab_iconst (0) 36), (36, ab_istore 3 37), (37, ab_iload 3 38), (38, ab_if_ne 109 41), (41, ab_iconst (1) 42), (42, ab_istore 3 43), (43, ab_iconst (0) 44), (44, ab_istore 4 46), (46, ab_iload 4 48), (48, ab_aload 0 49), (49, ab_iload 1 50), (50, ab_callV 11 100 1 53), (53, ab_icmp_ge 94 56), (56, ab_iload 3 57), (57, ab_aload 0 58), (58, ab_aload 0 59), (59, ab_iload 1 60), (60, ab_iload 4 62), (62, ab_callV 11 123 2 65), (65, ab_iconst (6) 67), (67, ab_callV 11 110 2 70)]
def ab_l31_1 : List (Nat × ab_Op) := [(70, ab_aload 0 71), (71, ab_getf 11 0 74), (74, ab_iconst (0) 75), (75, ab_ald 0 76), (76, ab_iload 2 77), (77, ab_iadd 78), (78, ab_icmp_gt 85 81), (81, ab_iconst (1) 82), (82, ab_goto 86), (85, ab_iconst (0) 86), (86, ab_iand 87), (87, ab_istore 3 88), (88, ab_iinc 4 (1) 91), (91, ab_goto 46), (94, ab_iload 2 95), (95, ab_iload 3 96), (96, ab_if_eq 103 99), (99, ab_iconst (0) 100), (100, ab_goto 104), (103, ab_iconst (1) 104), (104, ab_iadd 105), (105, ab_istore 2 106), (106, ab_goto 37), (109, ab_iload 2 110), (110, ab_iret)]
def ab_c31 : Nat → ab_Op := ab_lk2 [(70, ab_l31_0), (111, ab_l31_1)]
def ab_l32_0 : List (Nat × ab_Op) := [(0, ab_aload 2 1), (1, ab_iconst (0) 2), (2, ab_aload 0 3), (3, ab_iload 1 4), (4, ab_callV 10 124 1 7), (7, ab_i2l 8), (8, ab_last 9), (9, ab_goto 18), (12, ab_astore 3 13), (13, ab_iconst (1) 14), (14, ab_iret), (15, ab_astore 3 16), (16, ab_iconst (2) 17), (17, ab_iret), (18, ab_iconst (0) 19), (19, ab_iret)]
def ab_c32 : Nat → ab_Op := ab_lk2 [(20, ab_l32_0)]
def ab_l33_0 : List (Nat × ab_Op) := [(0, ab_aload 0 1), (1, ab_iload 1 2), (2, ab_callS 122 1 5), (5, ab_if_ne 12 8), (8, ab_iconst (1) 9), (9, ab_goto 25), (12, ab_aload 0 13), (13, ab_iload 1 14), (14, ab_callV 11 100 1 17), (17, ab_if_ne 24 20), (20, ab_iconst (2) 21), (21, ab_goto 25), (24, ab_iconst (0) 25), (25, ab_callV 11 92 1 28), (28, ab_if_eq 33 31), (31, ab_iconst (0) 32), (32, ab_iret), (33, ab_iconst (0) 34), (34, ab_istore 2 35), (35, ab_iconst (0) 36), (36, ab_istore 3 37), (37, ab_iload 3 38), (38, ab_aload 0 39), (39, ab_iload 1 40), (40, ab_callV 11 100 1 43), (43, ab_icmp_ge 67 46), (46, ab_iload 2 47), (47, ab_aload 0 48), (48, ab_aload 0 49), (49, ab_iload 1 50), (50, ab_iload 3 51), (51, ab_callV 11 123 2 54), (54, ab_callV 11 125 1 57), (57, ab_callS 126 2 60), (60, ab_istore 2 61), (61, ab_iinc 3 (1) 64), (64, ab_goto 37), (67, ab_iload 2 68), (68, ab_iret)]
def ab_c33 : Nat → ab_Op := ab_lk2 [(69, ab_l33_0)]
def ab_l34_0 : List (Nat × ab_Op) := [(0, ab_aload 3 1), (1, ab_iconst (0) 2), (2, ab_aload 0 3), (3, ab_iload 1 4), (4, ab_iload 2 5), (5, ab_callV 10 127 2 8), (8, ab_i2l 9), (9, ab_last 10), (10, ab_goto 21), (13, ab_astore 4 15), (15, ab_iconst (1) 16), (16, ab_iret), (17, ab_astore 4 19), (19, ab_iconst (2) 20), (20, ab_iret), (21, ab_iconst (0) 22), (22, ab_iret)]
def ab_c34 : Nat → ab_Op := ab_lk2 [(23, ab_l34_0)]
def ab_l35_0 : List (Nat × ab_Op) := [(0, ab_aload 0 1), (1, ab_iload 1 2), (2, ab_callS 122 1 5), (5, ab_if_ne 12 8), (8, ab_iconst (1) 9), (9, ab_goto 32), (12, ab_iload 2 13), (13, ab_iconst (0) 14), (14, ab_aload 0 15), (15, ab_iload 1 16), (16, ab_callV 11 100 1 19), (19, ab_iconst (1) 20), (20, ab_isub 21), (21, ab_callS 97 3 24), (24, ab_if_eq 31 27), (27, ab_iconst (0) 28), (28, ab_goto 32), (31, ab_iconst (2) 32), (32, ab_callV 11 92 1 35), (35, ab_if_eq 40 38), (38, ab_iconst (0) 39), (39, ab_iret), (40, ab_aload 0 41), (41, ab_iload 1 42), (42, ab_iload 2 43), (43, ab_callV 11 123 2 46), (46, ab_iret)]
def ab_c35 : Nat → ab_Op := ab_lk2 [(47, ab_l35_0)]
def ab_l36_0 : List (Nat × ab_Op) := [(0, ab_aload 3 1), (1, ab_iconst (0) 2), (2, ab_aload 0 3), (3, ab_iload 1 4), (4, ab_iload 2 5), (5, ab_callV 10 128 2 8), (8, ab_if_eq 15 11), (11, ab_lconst 1 12), (12, ab_goto 16), (15, ab_lconst 0 16), (16, ab_last 17), (17, ab_goto 24), (20, ab_astore 4 22), (22, ab_iconst (1) 23), (23, ab_iret), (24, ab_iconst (0) 25), (25, ab_iret)]
def ab_c36 : Nat → ab_Op := ab_lk2 [(26, ab_l36_0)]
def ab_l37_0 : List (Nat × ab_Op) := [(0, ab_aload 0 1), (1, ab_aload 0 2), (2, ab_iload 1 3), (3, ab_iload 2 4), (4, ab_callV 11 129 2 7), (7, ab_if_eq 14 10), (10, ab_iconst (0) 11), (11, ab_goto 15), (14, ab_iconst (1) 15), (15, ab_callV 11 92 1 18), (18, ab_if_ne 34 21), (21, ab_aload 0 22), (22, ab_iload 1 23), (23, ab_iload 2 24), (24, ab_callV 11 130 2 27), (27, ab_if_eq 34 30), (30, ab_iconst (1) 31), (31, ab_goto 35), (34, ab_iconst (0) 35), (35, ab_zret)]
def ab_c37 : Nat → ab_Op := ab_lk2 [(36, ab_l37_0)]
def ab_l38_0 : List (Nat × ab_Op) := [(0, ab_aload 2 1), (1, ab_iconst (0) 2), (2, ab_aload 0 3), (3, ab_iload 1 4), (4, ab_callV 10 131 1 7), (7, ab_i2l 8), (8, ab_last 9), (9, ab_goto 15), (12, ab_astore 3 13), (13, ab_iconst (1) 14), (14, ab_iret), (15, ab_iconst (0) 16), (16, ab_iret)]
def ab_c38 : Nat → ab_Op := ab_lk2 [(17, ab_l38_0)]
def ab_l39_0 : List (Nat × ab_Op) := [(0, ab_aload 0 1), (1, ab_aload 0 2), (2, ab_iload 1 3), (3, ab_callV 11 103 1 6), (6, ab_if_eq 13 9), (9, ab_iconst (0) 10), (10, ab_goto 14), (13, ab_iconst (1) 14), (14, ab_callV 11 92 1 17), (17, ab_if_eq 22 20), (20, ab_iconst (0) 21), (21, ab_iret), (22, ab_iconst (0) 23), (23, ab_istore 2 24), (24, ab_aload 0 25), (25, ab_iload 1 26), (26, ab_iconst (4) 27), (27, ab_callV 11 110 2 30), (30, ab_istore 3 31), (31, ab_iload 3 32), (32, ab_aload 0 33), (33, ab_iload 1 34), (34, ab_iconst (3) 35), (35, ab_callV 11 110 2 38), (38, ab_icmp_ge 56 41), (41, ab_iload 2 42), (42, ab_aload 0 43), (43, ab_iload 1 44), (44, ab_iload 3 45), (45, ab_callV 11 132 2 48), (48, ab_iadd 49), (49, ab_istore 2 50), (50, ab_iinc 3 (1) 53), (53, ab_goto 31), (56, ab_iload 2 57), (57, ab_iret)]
def ab_c39 : Nat → ab_Op := ab_lk2 [(58, ab_l39_0)]
def ab_l40_0 : List (Nat × ab_Op) := [(0, ab_aload 3 1), (1, ab_iconst (0) 2), (2, ab_aload 0 3), (3, ab_iload 1 4), (4, ab_iload 2 5), (5, ab_callV 10 133 2 8), (8, ab_i2l 9), (9, ab_last 10), (10, ab_goto 17), (13, ab_astore 4 15), (15, ab_iconst (1) 16), (16, ab_iret), (17, ab_iconst (0) 18), (18, ab_iret)]
def ab_c40 : Nat → ab_Op := ab_lk2 [(19, ab_l40_0)]
def ab_l41_0 : List (Nat × ab_Op) := [(0, ab_aload 0 1), (1, ab_aload 0 2), (2, ab_iload 1 3), (3, ab_callV 11 103 1 6), (6, ab_if_eq 22 9), (9, ab_aload 0 10), (10, ab_iload 1 11), (11, ab_iload 2 12), (12, ab_callV 11 134 2 15), (15, ab_if_eq 22 18), (18, ab_iconst (0) 19), (19, ab_goto 23), (22, ab_iconst (1) 23), (23, ab_callV 11 92 1 26), (26, ab_if_eq 31 29), (29, ab_iconst (0) 30), (30, ab_iret), (31, ab_iconst (0) 32), (32, ab_istore 3 33), (33, ab_iconst (0) 34), (34, ab_istore 4 36), (36, ab_iload 4 38), (38, ab_aload 0 39), (39, ab_iload 1 40), (40, ab_iconst (3) 41), (41, ab_callV 11 110 2 44), (44, ab_icmp_ge 95 47), (47, ab_aload 0 48), (48, ab_iload 1 49), (49, ab_iload 4 51), (51, ab_iconst (0) 52), (52, ab_callV 11 111 3 55), (55, ab_aload 0 56), (56, ab_iload 1 57), (57, ab_iload 2 58), (58, ab_iconst (0) 59), (59, ab_callV 11 111 3 62), (62, ab_isub 63), (63, ab_istore 5 65), (65, ab_iload 3 66)]
def ab_l41_1 : List (Nat × ab_Op) := [(66, ab_iload 5 68), (68, ab_if_lt 82 71), (71, ab_iload 5 73), (73, ab_if_ne 86 76), (76, ab_iload 4 78), (78, ab_iload 2 79), (79, ab_icmp_ge 86 82), (82, ab_iconst (1) 83), (83, ab_goto 87), (86, ab_iconst (0) 87), (87, ab_iadd 88), (88, ab_istore 3 89), (89, ab_iinc 4 (1) 92), (92, ab_goto 36), (95, ab_iload 3 96), (96, ab_iret)]
def ab_c41 : Nat → ab_Op := ab_lk2 [(66, ab_l41_0), (97, ab_l41_1)]
def ab_l42_0 : List (Nat × ab_Op) := [(0, ab_aload 2 1), (1, ab_iconst (0) 2), (2, ab_aload 0 3), (3, ab_iload 1 4), (4, ab_callV 10 135 1 7), (7, ab_i2l 8), (8, ab_last 9), (9, ab_goto 15), (12, ab_astore 3 13), (13, ab_iconst (1) 14), (14, ab_iret), (15, ab_iconst (0) 16), (16, ab_iret)]
def ab_c42 : Nat → ab_Op := ab_lk2 [(17, ab_l42_0)]
def ab_l43_0 : List (Nat × ab_Op) := [(0, ab_aload 0 1), (1, ab_aload 0 2), (2, ab_iload 1 3), (3, ab_callV 11 103 1 6), (6, ab_if_eq 13 9), (9, ab_iconst (0) 10), (10, ab_goto 14), (13, ab_iconst (1) 14), (14, ab_callV 11 92 1 17), (17, ab_if_eq 22 20), (20, ab_iconst (0) 21), (21, ab_iret), (22, ab_iconst (0) 23), (23, ab_istore 2 24), (24, ab_iconst (1) 25), (25, ab_istore 3 26), (26, ab_iload 3 27), (27, ab_iconst (120) 29), (29, ab_icmp_ge 56 32), (32, ab_iload 2 33), (33, ab_aload 0 34), (34, ab_iload 1 35), (35, ab_iload 3 36), (36, ab_callV 11 136 2 39), (39, ab_iconst (1) 40), (40, ab_icmp_le 47 43), (43, ab_iconst (1) 44), (44, ab_goto 48), (47, ab_iconst (0) 48), (48, ab_iadd 49), (49, ab_istore 2 50), (50, ab_iinc 3 (1) 53), (53, ab_goto 26), (56, ab_iload 2 57), (57, ab_iret)]
def ab_c43 : Nat → ab_Op := ab_lk2 [(58, ab_l43_0)]
def ab_l44_0 : List (Nat × ab_Op) := [(0, ab_aload 3 1), (1, ab_iconst (0) 2), (2, ab_aload 0 3), (3, ab_iload 1 4), (4, ab_iload 2 5), (5, ab_callV 10 137 2 8), (8, ab_i2l 9), (9, ab_last 10), (10, ab_goto 21), (13, ab_astore 4 15), (15, ab_iconst (1) 16), (16, ab_iret), (17, ab_astore 4 19), (19, ab_iconst (2) 20), (20, ab_iret), (21, ab_iconst (0) 22), (22, ab_iret)]
def ab_c44 : Nat → ab_Op := ab_lk2 [(23, ab_l44_0)]
def ab_l45_0 : List (Nat × ab_Op) := [(0, ab_aload 0 1), (1, ab_aload 0 2), (2, ab_iload 1 3), (3, ab_callV 11 103 1 6), (6, ab_if_eq 13 9), (9, ab_iconst (0) 10), (10, ab_goto 14), (13, ab_iconst (1) 14), (14, ab_callV 11 92 1 17), (17, ab_if_eq 22 20), (20, ab_iconst (0) 21), (21, ab_iret), (22, ab_iconst (0) 23), (23, ab_istore 3 24), (24, ab_iconst (1) 25), (25, ab_istore 4 27), (27, ab_iload 4 29), (29, ab_aload 0 30), (30, ab_iload 1 31), (31, ab_iconst (0) 32), (32, ab_callV 11 110 2 35), (35, ab_icmp_gt 68 38), (38, ab_aload 0 39), (39, ab_iload 1 40), (40, ab_iload 4 42), (42, ab_callV 11 136 2 45), (45, ab_if_le 51 48), (48, ab_goto 62), (51, ab_iload 3 52), (52, ab_iload 2 53), (53, ab_icmp_ne 59 56), (56, ab_iload 4 58), (58, ab_iret), (59, ab_iinc 3 (1) 62), (62, ab_iinc 4 (1) 65), (65, ab_goto 27), (68, ab_aload 0 69), (69, ab_iconst (2) 70), (70, ab_putf 11 7 (.int) 73), (73, ab_iconst (0) 74)]
def ab_l45_1 : List (Nat × ab_Op) := [(74, ab_iret)]
def ab_c45 : Nat → ab_Op := ab_lk2 [(74, ab_l45_0), (75, ab_l45_1)]
def ab_l46_0 : List (Nat × ab_Op) := [(0, ab_aload 2 1), (1, ab_iconst (0) 2), (2, ab_aload 0 3), (3, ab_iload 1 4), (4, ab_callV 10 138 1 7), (7, ab_i2l 8), (8, ab_last 9), (9, ab_goto 15), (12, ab_astore 3 13), (13, ab_iconst (1) 14), (14, ab_iret), (15, ab_iconst (0) 16), (16, ab_iret)]
def ab_c46 : Nat → ab_Op := ab_lk2 [(17, ab_l46_0)]
def ab_l47_0 : List (Nat × ab_Op) := [(0, ab_aload 0 1), (1, ab_aload 0 2), (2, ab_iload 1 3), (3, ab_callV 11 103 1 6), (6, ab_if_eq 13 9), (9, ab_iconst (0) 10), (10, ab_goto 14), (13, ab_iconst (1) 14), (14, ab_callV 11 92 1 17), (17, ab_if_eq 24 20), (20, ab_iconst (0) 21), (21, ab_goto 29), (24, ab_aload 0 25), (25, ab_iload 1 26), (26, ab_callV 11 139 1 29), (29, ab_iret)]
def ab_c47 : Nat → ab_Op := ab_lk2 [(30, ab_l47_0)]
def ab_l48_0 : List (Nat × ab_Op) := [(0, ab_aload 2 1), (1, ab_iconst (0) 2), (2, ab_aload 0 3), (3, ab_iload 1 4), (4, ab_callV 10 140 1 7), (7, ab_i2l 8), (8, ab_last 9), (9, ab_goto 18), (12, ab_astore 3 13), (13, ab_iconst (1) 14), (14, ab_iret), (15, ab_astore 3 16), (16, ab_iconst (2) 17), (17, ab_iret), (18, ab_iconst (0) 19), (19, ab_iret)]
def ab_c48 : Nat → ab_Op := ab_lk2 [(20, ab_l48_0)]
def ab_l49_0 : List (Nat × ab_Op) := [(0, ab_aload 0 1), (1, ab_aload 0 2), (2, ab_iload 1 3), (3, ab_callV 11 103 1 6), (6, ab_if_eq 13 9), (9, ab_iconst (0) 10), (10, ab_goto 14), (13, ab_iconst (1) 14), (14, ab_callV 11 92 1 17), (17, ab_if_eq 22 20), (20, ab_iconst (0) 21), (21, ab_iret), (22, ab_aload 0 23), (23, ab_iload 1 24), (24, ab_callV 11 104 1 27), (27, ab_istore 2 28), (28, ab_iconst (0) 29), (29, ab_istore 3 30), (30, ab_iload 3 31), (31, ab_iload 2 32), (32, ab_icmp_ge 50 35), (35, ab_aload 0 36), (36, ab_iload 1 37), (37, ab_iload 3 38), (38, ab_callV 11 141 2 41), (41, ab_if_eq 50 44), (44, ab_iinc 3 (1) 47), (47, ab_goto 30), (50, ab_aload 0 51), (51, ab_iload 3 52), (52, ab_iload 2 53), (53, ab_icmp_ne 60 56), (56, ab_iconst (2) 57), (57, ab_goto 61), (60, ab_iconst (0) 61), (61, ab_callV 11 92 1 64), (64, ab_if_eq 71 67), (67, ab_iconst (0) 68), (68, ab_goto 72), (71, ab_iload 3 72)]
def ab_l49_1 : List (Nat × ab_Op) := [(72, ab_iret)]
def ab_c49 : Nat → ab_Op := ab_lk2 [(72, ab_l49_0), (73, ab_l49_1)]
def ab_l50_0 : List (Nat × ab_Op) := [(0, ab_aload 2 1), (1, ab_iconst (0) 2), (2, ab_aload 0 3), (3, ab_iload 1 4), (4, ab_callV 10 142 1 7), (7, ab_i2l 8), (8, ab_last 9), (9, ab_goto 15), (12, ab_astore 3 13), (13, ab_iconst (1) 14), (14, ab_iret), (15, ab_iconst (0) 16), (16, ab_iret)]
def ab_c50 : Nat → ab_Op := ab_lk2 [(17, ab_l50_0)]
def ab_l51_0 : List (Nat × ab_Op) := [(0, ab_aload 0 1), (1, ab_aload 0 2), (2, ab_iload 1 3), (3, ab_callV 11 103 1 6), (6, ab_if_eq 13 9), (9, ab_iconst (0) 10), (10, ab_goto 14), (13, ab_iconst (1) 14), (14, ab_callV 11 92 1 17), (17, ab_if_eq 22 20), (20, ab_iconst (0) 21), (21, ab_iret), (22, ab_aload 0 23), (23, ab_iload 1 24), (24, ab_callV 11 104 1 27), (27, ab_istore 2 28), (28, ab_iconst (0) 29), (29, ab_istore 3 30), (30, ab_iload 3 31), (31, ab_aload 0 32), (32, ab_iload 1 33), (33, ab_iconst (3) 34), (34, ab_callV 11 110 2 37), (37, ab_icmp_ge 55 40), (40, ab_iload 2 41), (41, ab_aload 0 42), (42, ab_iload 1 43), (43, ab_iload 3 44), (44, ab_callV 11 143 2 47), (47, ab_isub 48), (48, ab_istore 2 49), (49, ab_iinc 3 (1) 52), (52, ab_goto 30), (55, ab_iload 2 56), (56, ab_iret)]
def ab_c51 : Nat → ab_Op := ab_lk2 [(57, ab_l51_0)]
def ab_l52_0 : List (Nat × ab_Op) := [(0, ab_aload 2 1), (1, ab_iconst (0) 2), (2, ab_aload 0 3), (3, ab_iload 1 4), (4, ab_callV 10 144 1 7), (7, ab_i2l 8), (8, ab_last 9), (9, ab_goto 15), (12, ab_astore 3 13), (13, ab_iconst (1) 14), (14, ab_iret), (15, ab_iconst (0) 16), (16, ab_iret)]
def ab_c52 : Nat → ab_Op := ab_lk2 [(17, ab_l52_0)]
def ab_l53_0 : List (Nat × ab_Op) := [(0, ab_aload 0 1), (1, ab_aload 0 2), (2, ab_iload 1 3), (3, ab_callV 11 103 1 6), (6, ab_if_eq 13 9), (9, ab_iconst (0) 10), (10, ab_goto 14), (13, ab_iconst (1) 14), (14, ab_callV 11 92 1 17), (17, ab_if_eq 24 20), (20, ab_iconst (0) 21), (21, ab_goto 29), (24, ab_aload 0 25), (25, ab_iload 1 26), (26, ab_callV 11 105 1 29), (29, ab_iret)]
def ab_c53 : Nat → ab_Op := ab_lk2 [(30, ab_l53_0)]
def ab_l54_0 : List (Nat × ab_Op) := [(0, ab_aload 3 1), (1, ab_iconst (0) 2), (2, ab_aload 0 3), (3, ab_iload 1 4), (4, ab_iload 2 5), (5, ab_callV 10 145 2 8), (8, ab_i2l 9), (9, ab_last 10), (10, ab_goto 17), (13, ab_astore 4 15), (15, ab_iconst (1) 16), (16, ab_iret), (17, ab_iconst (0) 18), (18, ab_iret)]
def ab_c54 : Nat → ab_Op := ab_lk2 [(19, ab_l54_0)]
def ab_l55_0 : List (Nat × ab_Op) := [(0, ab_aload 0 1), (1, ab_aload 0 2), (2, ab_iload 1 3), (3, ab_iload 2 4), (4, ab_callV 11 129 2 7), (7, ab_if_eq 14 10), (10, ab_iconst (0) 11), (11, ab_goto 15), (14, ab_iconst (1) 15), (15, ab_callV 11 92 1 18), (18, ab_if_eq 25 21), (21, ab_iconst (0) 22), (22, ab_goto 31), (25, ab_aload 0 26), (26, ab_iload 1 27), (27, ab_iload 2 28), (28, ab_callV 11 146 2 31), (31, ab_iret)]
def ab_c55 : Nat → ab_Op := ab_lk2 [(32, ab_l55_0)]
def ab_l56_0 : List (Nat × ab_Op) := [(0, ab_aload 4 2), (2, ab_iconst (0) 3), (3, ab_aload 0 4), (4, ab_iload 1 5), (5, ab_iload 2 6), (6, ab_iload 3 7), (7, ab_callV 10 147 3 10), (10, ab_i2l 11), (11, ab_last 12), (12, ab_goto 23), (15, ab_astore 5 17), (17, ab_iconst (1) 18), (18, ab_iret), (19, ab_astore 5 21), (21, ab_iconst (2) 22), (22, ab_iret), (23, ab_iconst (0) 24), (24, ab_iret)]
def ab_c56 : Nat → ab_Op := ab_lk2 [(25, ab_l56_0)]
def ab_l57_0 : List (Nat × ab_Op) := [(0, ab_aload 0 1), (1, ab_aload 0 2), (2, ab_iload 1 3), (3, ab_callV 11 103 1 6), (6, ab_if_eq 18 9), (9, ab_aload 0 10), (10, ab_iload 1 11), (11, ab_iload 2 12), (12, ab_callV 11 134 2 15), (15, ab_if_ne 22 18), (18, ab_iconst (1) 19), (19, ab_goto 36), (22, ab_iload 3 23), (23, ab_iconst (0) 24), (24, ab_iconst (4) 25), (25, ab_callS 97 3 28), (28, ab_if_eq 35 31), (31, ab_iconst (0) 32), (32, ab_goto 36), (35, ab_iconst (2) 36), (36, ab_callV 11 92 1 39), (39, ab_if_eq 44 42), (42, ab_iconst (0) 43), (43, ab_iret), (44, ab_iload 3 45), (45, ab_tsw 0 [76, 84, 101, 109] 117), (76, ab_aload 0 77), (77, ab_iload 1 78), (78, ab_iload 2 79), (79, ab_iconst (0) 80), (80, ab_callV 11 111 3 83), (83, ab_iret), (84, ab_aload 0 85), (85, ab_iload 1 86), (86, ab_iload 2 87), (87, ab_iconst (0) 88), (88, ab_callV 11 111 3 91), (91, ab_aload 0 92), (92, ab_iload 1 93), (93, ab_iload 2 94)]
def ab_l57_1 : List (Nat × ab_Op) := [(94, ab_callV 11 112 2 97), (97, ab_iadd 98), (98, ab_iconst (1) 99), (99, ab_isub 100), (100, ab_iret), (101, ab_aload 0 102), (102, ab_iload 1 103), (103, ab_iload 2 104), (104, ab_iconst (1) 105), (105, ab_callV 11 111 3 108), (108, ab_iret), (109, ab_aload 0 110), (110, ab_iload 1 111), (111, ab_iload 2 112), (112, ab_iconst (2) 113), (113, ab_callV 11 111 3 116), (116, ab_iret), (117, ab_aload 0 118), (118, ab_iload 1 119), (119, ab_iload 2 120), (120, ab_callV 11 148 2 123), (123, ab_iret)]
def ab_c57 : Nat → ab_Op := ab_lk2 [(94, ab_l57_0), (124, ab_l57_1)]
def ab_l58_0 : List (Nat × ab_Op) := [(0, ab_aload 3 1), (1, ab_iconst (0) 2), (2, ab_aload 0 3), (3, ab_iload 1 4), (4, ab_iload 2 5), (5, ab_callV 10 149 2 8), (8, ab_i2l 9), (9, ab_last 10), (10, ab_goto 21), (13, ab_astore 4 15), (15, ab_iconst (1) 16), (16, ab_iret), (17, ab_astore 4 19), (19, ab_iconst (2) 20), (20, ab_iret), (21, ab_iconst (0) 22), (22, ab_iret)]
def ab_c58 : Nat → ab_Op := ab_lk2 [(23, ab_l58_0)]
def ab_l59_0 : List (Nat × ab_Op) := [(0, ab_aload 0 1), (1, ab_aload 0 2), (2, ab_iload 1 3), (3, ab_callV 11 103 1 6), (6, ab_if_ne 13 9), (9, ab_iconst (1) 10), (10, ab_goto 28), (13, ab_iload 2 14), (14, ab_iconst (0) 15), (15, ab_iconst (8) 17), (17, ab_callS 97 3 20), (20, ab_if_eq 27 23), (23, ab_iconst (0) 24), (24, ab_goto 28), (27, ab_iconst (2) 28), (28, ab_callV 11 92 1 31), (31, ab_if_eq 36 34), (34, ab_iconst (0) 35), (35, ab_iret), (36, ab_iload 2 37), (37, ab_tsw 5 [68, 74, 80, 87] 93), (68, ab_aload 0 69), (69, ab_iload 1 70), (70, ab_callV 11 104 1 73), (73, ab_iret), (74, ab_aload 0 75), (75, ab_iload 1 76), (76, ab_callV 11 150 1 79), (79, ab_iret), (80, ab_aload 0 81), (81, ab_iload 1 82), (82, ab_iconst (5) 83), (83, ab_callV 11 110 2 86), (86, ab_iret), (87, ab_aload 0 88), (88, ab_iload 1 89), (89, ab_callV 11 125 1 92), (92, ab_iret), (93, ab_aload 0 94), (94, ab_iload 1 95)]
def ab_l59_1 : List (Nat × ab_Op) := [(95, ab_iload 2 96), (96, ab_callV 11 110 2 99), (99, ab_iret)]
def ab_c59 : Nat → ab_Op := ab_lk2 [(95, ab_l59_0), (100, ab_l59_1)]
def ab_l60_0 : List (Nat × ab_Op) := [(0, ab_aload 2 1), (1, ab_iconst (0) 2), (2, ab_aload 0 3), (3, ab_iload 1 4), (4, ab_callV 10 151 1 7), (7, ab_i2l 8), (8, ab_last 9), (9, ab_goto 15), (12, ab_astore 3 13), (13, ab_iconst (1) 14), (14, ab_iret), (15, ab_iconst (0) 16), (16, ab_iret)]
def ab_c60 : Nat → ab_Op := ab_lk2 [(17, ab_l60_0)]
def ab_l61_0 : List (Nat × ab_Op) := [(0, ab_iload 1 1), (1, ab_iconst (1) 2), (2, ab_iconst (60) 4), (4, ab_callS 97 3 7), (7, ab_if_ne 17 10), (10, ab_aload 0 11), (11, ab_iconst (1) 12), (12, ab_iconst (0) 13), (13, ab_callV 11 152 2 16), (16, ab_iret), (17, ab_aload 0 18), (18, ab_aload 0 19), (19, ab_getf 11 0 22), (22, ab_callV 11 117 1 25), (25, ab_iconst (0) 26), (26, ab_istore 2 27), (27, ab_iconst (0) 28), (28, ab_istore 3 29), (29, ab_iload 3 30), (30, ab_iload 1 31), (31, ab_icmp_ge 47 34), (34, ab_iload 2 35), (35, ab_aload 0 36), (36, ab_callV 11 153 0 39), (39, ab_iadd 40), (40, ab_istore 2 41), (41, ab_iinc 3 (1) 44), (44, ab_goto 29), (47, ab_iload 2 48), (48, ab_iret)]
def ab_c61 : Nat → ab_Op := ab_lk2 [(49, ab_l61_0)]
def ab_l62_0 : List (Nat × ab_Op) := [(0, ab_aload 2 1), (1, ab_iconst (0) 2), (2, ab_aload 0 3), (3, ab_iload 1 4), (4, ab_callV 10 154 1 7), (7, ab_i2l 8), (8, ab_last 9), (9, ab_goto 15), (12, ab_astore 3 13), (13, ab_iconst (1) 14), (14, ab_iret), (15, ab_iconst (0) 16), (16, ab_iret)]
def ab_c62 : Nat → ab_Op := ab_lk2 [(17, ab_l62_0)]
def ab_l63_0 : List (Nat × ab_Op) := [(0, ab_aload 0 1), (1, ab_iload 1 2), (2, ab_iconst (3) 3), (3, ab_callV 11 155 2 6), (6, ab_if_eq 11 9), (9, ab_iconst (0) 10), (10, ab_iret), (11, ab_aload 0 12), (12, ab_iload 1 13), (13, ab_callV 11 156 1 16), (16, ab_if_lt 31 19), (19, ab_aload 0 20), (20, ab_iconst (14) 22), (22, ab_aload 0 23), (23, ab_iload 1 24), (24, ab_callV 11 156 1 27), (27, ab_callV 11 152 2 30), (30, ab_iret), (31, ab_aload 0 32), (32, ab_iload 1 33), (33, ab_callV 11 139 1 36), (36, ab_istore 2 37), (37, ab_iload 2 38), (38, ab_aload 0 39), (39, ab_getf 11 0 42), (42, ab_iconst (1) 43), (43, ab_ald 0 44), (44, ab_icmp_le 62 47), (47, ab_aload 0 48), (48, ab_iconst (15) 50), (50, ab_iload 2 51), (51, ab_aload 0 52), (52, ab_getf 11 0 55), (55, ab_iconst (1) 56), (56, ab_ald 0 57), (57, ab_isub 58), (58, ab_callV 11 152 2 61), (61, ab_iret), (62, ab_aload 0 63), (63, ab_aload 0 64)]
def ab_l63_1 : List (Nat × ab_Op) := [(64, ab_getf 11 0 67), (67, ab_callV 11 117 1 70), (70, ab_aload 0 71), (71, ab_iload 1 72), (72, ab_callV 11 104 1 75), (75, ab_aload 0 76), (76, ab_iload 1 77), (77, ab_callV 11 105 1 80), (80, ab_isub 81), (81, ab_iconst (8) 83), (83, ab_idiv 84), (84, ab_istore 3 85), (85, ab_aload 0 86), (86, ab_getf 11 0 89), (89, ab_iconst (1) 90), (90, ab_dup2 91), (91, ab_ald 0 92), (92, ab_iload 3 93), (93, ab_iload 2 94), (94, ab_isub 95), (95, ab_iadd 96), (96, ab_ast 0 .int 97), (97, ab_aload 0 98), (98, ab_getf 11 0 101), (101, ab_iconst (7) 103), (103, ab_dup2 104), (104, ab_ald 0 105), (105, ab_iload 3 106), (106, ab_iadd 107), (107, ab_ast 0 .int 108), (108, ab_aload 0 109), (109, ab_iload 1 110), (110, ab_iconst (2) 111), (111, ab_iconst (4) 112), (112, ab_callV 11 157 3 115), (115, ab_iload 3 116), (116, ab_iret)]
def ab_c63 : Nat → ab_Op := ab_lk2 [(64, ab_l63_0), (117, ab_l63_1)]
def ab_l64_0 : List (Nat × ab_Op) := [(0, ab_aload 3 1), (1, ab_iconst (0) 2), (2, ab_aload 0 3), (3, ab_iload 1 4), (4, ab_iload 2 5), (5, ab_callV 10 158 2 8), (8, ab_i2l 9), (9, ab_last 10), (10, ab_goto 17), (13, ab_astore 4 15), (15, ab_iconst (1) 16), (16, ab_iret), (17, ab_iconst (0) 18), (18, ab_iret)]
def ab_c64 : Nat → ab_Op := ab_lk2 [(19, ab_l64_0)]
def ab_l65_0 : List (Nat × ab_Op) := [(0, ab_aload 0 1), (1, ab_iload 1 2), (2, ab_iconst (3) 3), (3, ab_callV 11 155 2 6), (6, ab_if_eq 11 9), (9, ab_iconst (0) 10), (10, ab_iret), (11, ab_iload 2 12), (12, ab_iconst (0) 13), (13, ab_aload 0 14), (14, ab_iload 1 15), (15, ab_callV 11 104 1 18), (18, ab_iconst (1) 19), (19, ab_isub 20), (20, ab_callS 97 3 23), (23, ab_if_eq 35 26), (26, ab_aload 0 27), (27, ab_iload 1 28), (28, ab_iload 2 29), (29, ab_callV 11 141 2 32), (32, ab_if_eq 43 35), (35, ab_aload 0 36), (36, ab_iconst (12) 38), (38, ab_iload 2 39), (39, ab_callV 11 152 2 42), (42, ab_iret), (43, ab_aload 0 44), (44, ab_iload 1 45), (45, ab_iload 2 46), (46, ab_callV 11 130 2 49), (49, ab_if_eq 60 52), (52, ab_aload 0 53), (53, ab_iconst (13) 55), (55, ab_iload 2 56), (56, ab_callV 11 152 2 59), (59, ab_iret), (60, ab_aload 0 61), (61, ab_aload 0 62), (62, ab_getf 11 0 65), (65, ab_callV 11 117 1 68)]
def ab_l65_1 : List (Nat × ab_Op) := [(68, ab_aload 0 69), (69, ab_iload 1 70), (70, ab_iconst (43) 72), (72, ab_iload 2 73), (73, ab_iconst (24) 75), (75, ab_idiv 76), (76, ab_iadd 77), (77, ab_aload 0 78), (78, ab_iload 1 79), (79, ab_iconst (43) 81), (81, ab_iload 2 82), (82, ab_iconst (24) 84), (84, ab_idiv 85), (85, ab_iadd 86), (86, ab_callV 11 110 2 89), (89, ab_iconst (1) 90), (90, ab_iload 2 91), (91, ab_iconst (24) 93), (93, ab_irem 94), (94, ab_ishl 95), (95, ab_ior 96), (96, ab_callV 11 157 3 99), (99, ab_aload 0 100), (100, ab_getf 11 0 103), (103, ab_iconst (6) 105), (105, ab_dup2 106), (106, ab_ald 0 107), (107, ab_iconst (1) 108), (108, ab_iadd 109), (109, ab_ast 0 .int 110), (110, ab_aload 0 111), (111, ab_iload 1 112), (112, ab_callV 11 150 1 115), (115, ab_iret)]
def ab_c65 : Nat → ab_Op := ab_lk2 [(68, ab_l65_0), (116, ab_l65_1)]
def ab_l66_0 : List (Nat × ab_Op) := [(0, ab_aload 2 1), (1, ab_iconst (0) 2), (2, ab_aload 0 3), (3, ab_iload 1 4), (4, ab_callV 10 159 1 7), (7, ab_i2l 8), (8, ab_last 9), (9, ab_goto 15), (12, ab_astore 3 13), (13, ab_iconst (1) 14), (14, ab_iret), (15, ab_iconst (0) 16), (16, ab_iret)]
def ab_c66 : Nat → ab_Op := ab_lk2 [(17, ab_l66_0)]
def ab_l67_0 : List (Nat × ab_Op) := [(0, ab_iload 1 1), (1, ab_callS 122 1 4), (4, ab_if_ne 14 7), (7, ab_aload 0 8), (8, ab_iconst (3) 9), (9, ab_iload 1 10), (10, ab_callV 11 152 2 13), (13, ab_iret), (14, ab_aload 0 15), (15, ab_iload 1 16), (16, ab_callV 11 100 1 19), (19, ab_if_ne 30 22), (22, ab_aload 0 23), (23, ab_iconst (11) 25), (25, ab_iload 1 26), (26, ab_callV 11 152 2 29), (29, ab_iret), (30, ab_aload 0 31), (31, ab_iload 1 32), (32, ab_aload 0 33), (33, ab_iload 1 34), (34, ab_callV 11 100 1 37), (37, ab_iconst (1) 38), (38, ab_isub 39), (39, ab_callV 11 123 2 42), (42, ab_istore 2 43), (43, ab_aload 0 44), (44, ab_iload 2 45), (45, ab_callV 11 125 1 48), (48, ab_if_le 63 51), (51, ab_aload 0 52), (52, ab_iconst (10) 54), (54, ab_aload 0 55), (55, ab_iload 2 56), (56, ab_callV 11 125 1 59), (59, ab_callV 11 152 2 62), (62, ab_iret), (63, ab_aload 0 64), (64, ab_aload 0 65), (65, ab_getf 11 0 68)]
def ab_l67_1 : List (Nat × ab_Op) := [(68, ab_callV 11 117 1 71), (71, ab_aload 0 72), (72, ab_getf 11 0 75), (75, ab_iconst (8) 77), (77, ab_iconst (4) 78), (78, ab_iload 1 79), (79, ab_imul 80), (80, ab_iadd 81), (81, ab_dup2 82), (82, ab_ald 0 83), (83, ab_iconst (1) 84), (84, ab_isub 85), (85, ab_ast 0 .int 86), (86, ab_aload 0 87), (87, ab_iload 2 88), (88, ab_iconst (2) 89), (89, ab_iconst (3) 90), (90, ab_callV 11 157 3 93), (93, ab_iload 2 94), (94, ab_iret)]
def ab_c67 : Nat → ab_Op := ab_lk2 [(68, ab_l67_0), (95, ab_l67_1)]
def ab_l68_0 : List (Nat × ab_Op) := [(0, ab_aload 3 1), (1, ab_iconst (0) 2), (2, ab_aload 0 3), (3, ab_iload 1 4), (4, ab_iload 2 5), (5, ab_callV 10 160 2 8), (8, ab_i2l 9), (9, ab_last 10), (10, ab_goto 17), (13, ab_astore 4 15), (15, ab_iconst (1) 16), (16, ab_iret), (17, ab_iconst (0) 18), (18, ab_iret)]
def ab_c68 : Nat → ab_Op := ab_lk2 [(19, ab_l68_0)]
def ab_l69_0 : List (Nat × ab_Op) := [(0, ab_aload 0 1), (1, ab_iload 1 2), (2, ab_callV 11 103 1 5), (5, ab_if_ne 15 8), (8, ab_aload 0 9), (9, ab_iconst (3) 10), (10, ab_iload 1 11), (11, ab_callV 11 152 2 14), (14, ab_iret), (15, ab_iload 2 16), (16, ab_callS 122 1 19), (19, ab_if_ne 29 22), (22, ab_aload 0 23), (23, ab_iconst (3) 24), (24, ab_iload 2 25), (25, ab_callV 11 152 2 28), (28, ab_iret), (29, ab_aload 0 30), (30, ab_iload 1 31), (31, ab_iconst (1) 32), (32, ab_callV 11 155 2 35), (35, ab_if_eq 40 38), (38, ab_iconst (0) 39), (39, ab_iret), (40, ab_aload 0 41), (41, ab_iload 2 42), (42, ab_callV 11 100 1 45), (45, ab_iconst (3) 46), (46, ab_icmp_ne 56 49), (49, ab_aload 0 50), (50, ab_iconst (2) 51), (51, ab_iconst (3) 52), (52, ab_callV 11 152 2 55), (55, ab_iret), (56, ab_aload 0 57), (57, ab_aload 0 58), (58, ab_getf 11 0 61), (61, ab_callV 11 117 1 64), (64, ab_aload 0 65), (65, ab_getf 11 0 68)]
def ab_l69_1 : List (Nat × ab_Op) := [(68, ab_iconst (8) 70), (70, ab_iconst (4) 71), (71, ab_iload 2 72), (72, ab_imul 73), (73, ab_iadd 74), (74, ab_iconst (1) 75), (75, ab_iadd 76), (76, ab_aload 0 77), (77, ab_iload 2 78), (78, ab_callV 11 100 1 81), (81, ab_iadd 82), (82, ab_iload 1 83), (83, ab_ast 0 .int 84), (84, ab_aload 0 85), (85, ab_getf 11 0 88), (88, ab_iconst (8) 90), (90, ab_iconst (4) 91), (91, ab_iload 2 92), (92, ab_imul 93), (93, ab_iadd 94), (94, ab_dup2 95), (95, ab_ald 0 96), (96, ab_iconst (1) 97), (97, ab_iadd 98), (98, ab_ast 0 .int 99), (99, ab_aload 0 100), (100, ab_iload 1 101), (101, ab_iconst (2) 102), (102, ab_iconst (2) 103), (103, ab_callV 11 157 3 106), (106, ab_aload 0 107), (107, ab_iload 2 108), (108, ab_callV 11 100 1 111), (111, ab_iret)]
def ab_c69 : Nat → ab_Op := ab_lk2 [(68, ab_l69_0), (112, ab_l69_1)]
def ab_l70_0 : List (Nat × ab_Op) := [(0, ab_aload 3 1), (1, ab_iconst (0) 2), (2, ab_aload 0 3), (3, ab_iload 1 4), (4, ab_iload 2 5), (5, ab_callV 10 161 2 8), (8, ab_i2l 9), (9, ab_last 10), (10, ab_goto 17), (13, ab_astore 4 15), (15, ab_iconst (1) 16), (16, ab_iret), (17, ab_iconst (0) 18), (18, ab_iret)]
def ab_c70 : Nat → ab_Op := ab_lk2 [(19, ab_l70_0)]
def ab_l71_0 : List (Nat × ab_Op) := [(0, ab_aload 0 1), (1, ab_iload 1 2), (2, ab_callV 11 103 1 5), (5, ab_if_ne 15 8), (8, ab_aload 0 9), (9, ab_iconst (3) 10), (10, ab_iload 1 11), (11, ab_callV 11 152 2 14), (14, ab_iret), (15, ab_iload 2 16), (16, ab_iconst (0) 17), (17, ab_iconst (2) 18), (18, ab_callS 97 3 21), (21, ab_if_ne 31 24), (24, ab_aload 0 25), (25, ab_iconst (3) 26), (26, ab_iload 2 27), (27, ab_callV 11 152 2 30), (30, ab_iret), (31, ab_aload 0 32), (32, ab_iload 1 33), (33, ab_iconst (0) 34), (34, ab_callV 11 155 2 37), (37, ab_if_eq 42 40), (40, ab_iconst (0) 41), (41, ab_iret), (42, ab_aload 0 43), (43, ab_iload 1 44), (44, ab_iconst (3) 45), (45, ab_callV 11 110 2 48), (48, ab_if_ne 59 51), (51, ab_aload 0 52), (52, ab_iconst (9) 54), (54, ab_iconst (0) 55), (55, ab_callV 11 152 2 58), (58, ab_iret), (59, ab_aload 0 60), (60, ab_iload 1 61), (61, ab_iconst (4) 62), (62, ab_callV 11 110 2 65)]
def ab_l71_1 : List (Nat × ab_Op) := [(65, ab_aload 0 66), (66, ab_iload 1 67), (67, ab_iconst (3) 68), (68, ab_callV 11 110 2 71), (71, ab_icmp_ge 87 74), (74, ab_aload 0 75), (75, ab_iconst (8) 77), (77, ab_aload 0 78), (78, ab_iload 1 79), (79, ab_iconst (4) 80), (80, ab_callV 11 110 2 83), (83, ab_callV 11 152 2 86), (86, ab_iret), (87, ab_aload 0 88), (88, ab_aload 0 89), (89, ab_getf 11 0 92), (92, ab_callV 11 117 1 95), (95, ab_aload 0 96), (96, ab_iload 1 97), (97, ab_iconst (2) 98), (98, ab_iconst (1) 99), (99, ab_callV 11 157 3 102), (102, ab_aload 0 103), (103, ab_iload 1 104), (104, ab_iconst (5) 105), (105, ab_iload 2 106), (106, ab_callV 11 157 3 109), (109, ab_aload 0 110), (110, ab_iload 1 111), (111, ab_iconst (6) 113), (113, ab_aload 0 114), (114, ab_getf 11 0 117), (117, ab_iconst (0) 118), (118, ab_ald 0 119), (119, ab_iload 2 120), (120, ab_callS 162 1 123), (123, ab_iadd 124), (124, ab_callV 11 157 3 127), (127, ab_iload 2 128), (128, ab_callS 162 1 131)]
def ab_l71_2 : List (Nat × ab_Op) := [(131, ab_iret)]
def ab_c71 : Nat → ab_Op := ab_lk2 [(65, ab_l71_0), (131, ab_l71_1), (132, ab_l71_2)]
def ab_l72_0 : List (Nat × ab_Op) := [(0, ab_aload 2 1), (1, ab_iconst (0) 2), (2, ab_aload 0 3), (3, ab_iload 1 4), (4, ab_callV 10 163 1 7), (7, ab_i2l 8), (8, ab_last 9), (9, ab_goto 15), (12, ab_astore 3 13), (13, ab_iconst (1) 14), (14, ab_iret), (15, ab_iconst (0) 16), (16, ab_iret)]
def ab_c72 : Nat → ab_Op := ab_lk2 [(17, ab_l72_0)]
def ab_l73_0 : List (Nat × ab_Op) := [(0, ab_aload 0 1), (1, ab_iload 1 2), (2, ab_iconst (0) 3), (3, ab_callV 11 155 2 6), (6, ab_if_eq 11 9), (9, ab_iconst (0) 10), (10, ab_iret), (11, ab_aload 0 12), (12, ab_iload 1 13), (13, ab_iconst (4) 14), (14, ab_callV 11 110 2 17), (17, ab_if_ne 33 20), (20, ab_aload 0 21), (21, ab_iconst (6) 23), (23, ab_aload 0 24), (24, ab_iload 1 25), (25, ab_iconst (3) 26), (26, ab_callV 11 110 2 29), (29, ab_callV 11 152 2 32), (32, ab_iret), (33, ab_aload 0 34), (34, ab_aload 0 35), (35, ab_getf 11 0 38), (38, ab_callV 11 117 1 41), (41, ab_aload 0 42), (42, ab_iload 1 43), (43, ab_iconst (4) 44), (44, ab_aload 0 45), (45, ab_iload 1 46), (46, ab_iconst (4) 47), (47, ab_callV 11 110 2 50), (50, ab_iconst (1) 51), (51, ab_isub 52), (52, ab_callV 11 157 3 55), (55, ab_aload 0 56), (56, ab_getf 11 0 59), (59, ab_iconst (5) 60), (60, ab_dup2 61), (61, ab_ald 0 62), (62, ab_iconst (1) 63)]
def ab_l73_1 : List (Nat × ab_Op) := [(63, ab_iadd 64), (64, ab_ast 0 .int 65), (65, ab_aload 0 66), (66, ab_iload 1 67), (67, ab_iconst (4) 68), (68, ab_callV 11 110 2 71), (71, ab_iret)]
def ab_c73 : Nat → ab_Op := ab_lk2 [(63, ab_l73_0), (72, ab_l73_1)]
def ab_l74_0 : List (Nat × ab_Op) := [(0, ab_aload 2 1), (1, ab_iconst (0) 2), (2, ab_aload 0 3), (3, ab_iload 1 4), (4, ab_callV 10 164 1 7), (7, ab_i2l 8), (8, ab_last 9), (9, ab_goto 15), (12, ab_astore 3 13), (13, ab_iconst (1) 14), (14, ab_iret), (15, ab_iconst (0) 16), (16, ab_iret)]
def ab_c74 : Nat → ab_Op := ab_lk2 [(17, ab_l74_0)]
def ab_l75_0 : List (Nat × ab_Op) := [(0, ab_aload 0 1), (1, ab_iload 1 2), (2, ab_iconst (0) 3), (3, ab_callV 11 155 2 6), (6, ab_if_eq 11 9), (9, ab_iconst (0) 10), (10, ab_iret), (11, ab_aload 0 12), (12, ab_iload 1 13), (13, ab_iconst (4) 14), (14, ab_callV 11 110 2 17), (17, ab_istore 2 18), (18, ab_iload 2 19), (19, ab_aload 0 20), (20, ab_iload 1 21), (21, ab_iconst (3) 22), (22, ab_callV 11 110 2 25), (25, ab_icmp_ne 41 28), (28, ab_aload 0 29), (29, ab_iconst (6) 31), (31, ab_aload 0 32), (32, ab_iload 1 33), (33, ab_iconst (3) 34), (34, ab_callV 11 110 2 37), (37, ab_callV 11 152 2 40), (40, ab_iret), (41, ab_aload 0 42), (42, ab_iload 1 43), (43, ab_iload 2 44), (44, ab_callV 11 132 2 47), (47, ab_istore 3 48), (48, ab_iload 3 49), (49, ab_aload 0 50), (50, ab_getf 11 0 53), (53, ab_iconst (2) 54), (54, ab_ald 0 55), (55, ab_icmp_le 73 58), (58, ab_aload 0 59), (59, ab_iconst (7) 61), (61, ab_iload 3 62)]
def ab_l75_1 : List (Nat × ab_Op) := [(62, ab_aload 0 63), (63, ab_getf 11 0 66), (66, ab_iconst (2) 67), (67, ab_ald 0 68), (68, ab_isub 69), (69, ab_callV 11 152 2 72), (72, ab_iret), (73, ab_aload 0 74), (74, ab_aload 0 75), (75, ab_getf 11 0 78), (78, ab_callV 11 117 1 81), (81, ab_aload 0 82), (82, ab_getf 11 0 85), (85, ab_iconst (2) 86), (86, ab_dup2 87), (87, ab_ald 0 88), (88, ab_iload 3 89), (89, ab_isub 90), (90, ab_ast 0 .int 91), (91, ab_aload 0 92), (92, ab_getf 11 0 95), (95, ab_iconst (4) 96), (96, ab_dup2 97), (97, ab_ald 0 98), (98, ab_iload 3 99), (99, ab_iadd 100), (100, ab_ast 0 .int 101), (101, ab_aload 0 102), (102, ab_iload 1 103), (103, ab_iconst (4) 104), (104, ab_iload 2 105), (105, ab_iconst (1) 106), (106, ab_iadd 107), (107, ab_callV 11 157 3 110), (110, ab_aload 0 111), (111, ab_getf 11 0 114), (114, ab_iconst (2) 115), (115, ab_ald 0 116), (116, ab_iret)]
def ab_c75 : Nat → ab_Op := ab_lk2 [(62, ab_l75_0), (117, ab_l75_1)]
def ab_l76_0 : List (Nat × ab_Op) := [(0, ab_aload 2 1), (1, ab_iconst (0) 2), (2, ab_aload 0 3), (3, ab_iload 1 4), (4, ab_callV 10 165 1 7), (7, ab_i2l 8), (8, ab_last 9), (9, ab_goto 15), (12, ab_astore 3 13), (13, ab_iconst (1) 14), (14, ab_iret), (15, ab_iconst (0) 16), (16, ab_iret)]
def ab_c76 : Nat → ab_Op := ab_lk2 [(17, ab_l76_0)]
def ab_l77_0 : List (Nat × ab_Op) := [(0, ab_iload 1 1), (1, ab_iconst (1) 2), (2, ab_iconst (200) 5), (5, ab_callS 97 3 8), (8, ab_if_ne 18 11), (11, ab_aload 0 12), (12, ab_iconst (1) 13), (13, ab_iconst (0) 14), (14, ab_callV 11 152 2 17), (17, ab_iret), (18, ab_aload 0 19), (19, ab_aload 0 20), (20, ab_getf 11 0 23), (23, ab_callV 11 117 1 26), (26, ab_aload 0 27), (27, ab_getf 11 0 30), (30, ab_iconst (2) 31), (31, ab_aload 0 32), (32, ab_getf 11 0 35), (35, ab_iconst (2) 36), (36, ab_ald 0 37), (37, ab_iload 1 38), (38, ab_iadd 39), (39, ab_iconst (999) 42), (42, ab_icmp_le 51 45), (45, ab_iconst (999) 48), (48, ab_goto 59), (51, ab_aload 0 52), (52, ab_getf 11 0 55), (55, ab_iconst (2) 56), (56, ab_ald 0 57), (57, ab_iload 1 58), (58, ab_iadd 59), (59, ab_ast 0 .int 60), (60, ab_aload 0 61), (61, ab_getf 11 0 64), (64, ab_iconst (2) 65), (65, ab_ald 0 66), (66, ab_iret)]
def ab_c77 : Nat → ab_Op := ab_lk2 [(67, ab_l77_0)]
def ab_l78_0 : List (Nat × ab_Op) := [(0, ab_aload 3 1), (1, ab_iconst (0) 2), (2, ab_aload 0 3), (3, ab_iload 1 4), (4, ab_iload 2 5), (5, ab_callV 10 166 2 8), (8, ab_i2l 9), (9, ab_last 10), (10, ab_goto 17), (13, ab_astore 4 15), (15, ab_iconst (1) 16), (16, ab_iret), (17, ab_iconst (0) 18), (18, ab_iret)]
def ab_c78 : Nat → ab_Op := ab_lk2 [(19, ab_l78_0)]
def ab_l79_0 : List (Nat × ab_Op) := [(0, ab_aload 0 1), (1, ab_iload 1 2), (2, ab_callV 11 167 1 5), (5, ab_if_eq 10 8), (8, ab_iconst (0) 9), (9, ab_iret), (10, ab_aload 0 11), (11, ab_iload 1 12), (12, ab_iload 2 13), (13, ab_callV 11 134 2 16), (16, ab_if_ne 26 19), (19, ab_aload 0 20), (20, ab_iconst (3) 21), (21, ab_iload 2 22), (22, ab_callV 11 152 2 25), (25, ab_iret), (26, ab_aload 0 27), (27, ab_aload 0 28), (28, ab_getf 11 0 31), (31, ab_callV 11 117 1 34), (34, ab_aload 0 35), (35, ab_iload 1 36), (36, ab_iconst (3) 37), (37, ab_callV 11 110 2 40), (40, ab_iconst (1) 41), (41, ab_isub 42), (42, ab_istore 3 43), (43, ab_iload 2 44), (44, ab_istore 4 46), (46, ab_iload 4 48), (48, ab_iload 3 49), (49, ab_icmp_ge 69 52), (52, ab_aload 0 53), (53, ab_iload 1 54), (54, ab_iload 4 56), (56, ab_iload 4 58), (58, ab_iconst (1) 59), (59, ab_iadd 60), (60, ab_callV 11 168 3 63), (63, ab_iinc 4 (1) 66)]
def ab_l79_1 : List (Nat × ab_Op) := [(66, ab_goto 46), (69, ab_aload 0 70), (70, ab_iload 1 71), (71, ab_iload 3 72), (72, ab_iconst (0) 73), (73, ab_iconst (0) 74), (74, ab_iconst (0) 75), (75, ab_callV 11 169 5 78), (78, ab_aload 0 79), (79, ab_iload 1 80), (80, ab_iconst (3) 81), (81, ab_iload 3 82), (82, ab_callV 11 157 3 85), (85, ab_iload 3 86), (86, ab_iret)]
def ab_c79 : Nat → ab_Op := ab_lk2 [(66, ab_l79_0), (87, ab_l79_1)]
def ab_l80_0 : List (Nat × ab_Op) := [(0, ab_aload 4 2), (2, ab_iconst (0) 3), (3, ab_aload 0 4), (4, ab_iload 1 5), (5, ab_iload 2 6), (6, ab_iload 3 7), (7, ab_callV 10 170 3 10), (10, ab_i2l 11), (11, ab_last 12), (12, ab_goto 19), (15, ab_astore 5 17), (17, ab_iconst (1) 18), (18, ab_iret), (19, ab_iconst (0) 20), (20, ab_iret)]
def ab_c80 : Nat → ab_Op := ab_lk2 [(21, ab_l80_0)]
def ab_l81_0 : List (Nat × ab_Op) := [(0, ab_aload 0 1), (1, ab_iload 1 2), (2, ab_callV 11 167 1 5), (5, ab_if_eq 10 8), (8, ab_iconst (0) 9), (9, ab_iret), (10, ab_aload 0 11), (11, ab_iload 1 12), (12, ab_iload 2 13), (13, ab_callV 11 134 2 16), (16, ab_if_ne 26 19), (19, ab_aload 0 20), (20, ab_iconst (3) 21), (21, ab_iload 2 22), (22, ab_callV 11 152 2 25), (25, ab_iret), (26, ab_aload 0 27), (27, ab_iload 1 28), (28, ab_iload 3 29), (29, ab_callV 11 134 2 32), (32, ab_if_ne 42 35), (35, ab_aload 0 36), (36, ab_iconst (3) 37), (37, ab_iload 3 38), (38, ab_callV 11 152 2 41), (41, ab_iret), (42, ab_aload 0 43), (43, ab_aload 0 44), (44, ab_getf 11 0 47), (47, ab_callV 11 117 1 50), (50, ab_iload 2 51), (51, ab_istore 4 53), (53, ab_iload 4 55), (55, ab_iload 3 56), (56, ab_icmp_ge 76 59), (59, ab_aload 0 60), (60, ab_iload 1 61), (61, ab_iload 4 63), (63, ab_iload 4 65), (65, ab_iconst (1) 66)]
def ab_l81_1 : List (Nat × ab_Op) := [(66, ab_iadd 67), (67, ab_callV 11 168 3 70), (70, ab_iinc 4 (1) 73), (73, ab_goto 53), (76, ab_iload 2 77), (77, ab_istore 4 79), (79, ab_iload 4 81), (81, ab_iload 3 82), (82, ab_icmp_le 102 85), (85, ab_aload 0 86), (86, ab_iload 1 87), (87, ab_iload 4 89), (89, ab_iload 4 91), (91, ab_iconst (1) 92), (92, ab_isub 93), (93, ab_callV 11 168 3 96), (96, ab_iinc 4 (-1) 99), (99, ab_goto 79), (102, ab_aload 0 103), (103, ab_iload 1 104), (104, ab_callV 11 105 1 107), (107, ab_iret)]
def ab_c81 : Nat → ab_Op := ab_lk2 [(66, ab_l81_0), (108, ab_l81_1)]
def ab_l82_0 : List (Nat × ab_Op) := [(0, ab_aload 5 2), (2, ab_iconst (0) 3), (3, ab_aload 0 4), (4, ab_iload 1 5), (5, ab_iload 2 6), (6, ab_iload 3 7), (7, ab_iload 4 9), (9, ab_callV 10 171 4 12), (12, ab_i2l 13), (13, ab_last 14), (14, ab_goto 21), (17, ab_astore 6 19), (19, ab_iconst (1) 20), (20, ab_iret), (21, ab_iconst (0) 22), (22, ab_iret)]
def ab_c82 : Nat → ab_Op := ab_lk2 [(23, ab_l82_0)]
def ab_l83_0 : List (Nat × ab_Op) := [(0, ab_aload 0 1), (1, ab_iload 1 2), (2, ab_callV 11 167 1 5), (5, ab_if_eq 10 8), (8, ab_iconst (0) 9), (9, ab_iret), (10, ab_iload 2 11), (11, ab_iconst (1) 12), (12, ab_iconst (99) 14), (14, ab_callS 97 3 17), (17, ab_if_eq 29 20), (20, ab_iload 3 21), (21, ab_iconst (1) 22), (22, ab_iconst (3) 23), (23, ab_callS 97 3 26), (26, ab_if_ne 36 29), (29, ab_aload 0 30), (30, ab_iconst (1) 31), (31, ab_iconst (0) 32), (32, ab_callV 11 152 2 35), (35, ab_iret), (36, ab_aload 0 37), (37, ab_iload 1 38), (38, ab_iconst (3) 39), (39, ab_callV 11 110 2 42), (42, ab_iconst (12) 44), (44, ab_icmp_ne 55 47), (47, ab_aload 0 48), (48, ab_iconst (2) 49), (49, ab_iconst (12) 51), (51, ab_callV 11 152 2 54), (54, ab_iret), (55, ab_aload 0 56), (56, ab_aload 0 57), (57, ab_getf 11 0 60), (60, ab_callV 11 117 1 63), (63, ab_aload 0 64), (64, ab_iload 1 65), (65, ab_iconst (3) 66), (66, ab_callV 11 110 2 69)]
def ab_l83_1 : List (Nat × ab_Op) := [(69, ab_istore 5 71), (71, ab_aload 0 72), (72, ab_iload 1 73), (73, ab_iconst (3) 74), (74, ab_iload 5 76), (76, ab_iconst (1) 77), (77, ab_iadd 78), (78, ab_callV 11 157 3 81), (81, ab_aload 0 82), (82, ab_iload 1 83), (83, ab_iload 5 85), (85, ab_iload 2 86), (86, ab_iload 3 87), (87, ab_iload 4 89), (89, ab_if_eq 96 92), (92, ab_iconst (1) 93), (93, ab_goto 97), (96, ab_iconst (0) 97), (97, ab_callV 11 169 5 100), (100, ab_iload 5 102), (102, ab_iret)]
def ab_c83 : Nat → ab_Op := ab_lk2 [(69, ab_l83_0), (103, ab_l83_1)]
def ab_l84_0 : List (Nat × ab_Op) := [(0, ab_aload 3 1), (1, ab_iconst (0) 2), (2, ab_aload 0 3), (3, ab_iload 1 4), (4, ab_iload 2 5), (5, ab_callV 10 172 2 8), (8, ab_i2l 9), (9, ab_last 10), (10, ab_goto 17), (13, ab_astore 4 15), (15, ab_iconst (1) 16), (16, ab_iret), (17, ab_iconst (0) 18), (18, ab_iret)]
def ab_c84 : Nat → ab_Op := ab_lk2 [(19, ab_l84_0)]
def ab_l85_0 : List (Nat × ab_Op) := [(0, ab_iload 1 1), (1, ab_iconst (4) 2), (2, ab_iconst (96) 4), (4, ab_callS 97 3 7), (7, ab_if_eq 19 10), (10, ab_iload 2 11), (11, ab_iconst (2) 12), (12, ab_iconst (5) 13), (13, ab_callS 97 3 16), (16, ab_if_ne 26 19), (19, ab_aload 0 20), (20, ab_iconst (1) 21), (21, ab_iconst (0) 22), (22, ab_callV 11 152 2 25), (25, ab_iret), (26, ab_aload 0 27), (27, ab_getf 11 0 30), (30, ab_iconst (3) 31), (31, ab_ald 0 32), (32, ab_iconst (6) 34), (34, ab_icmp_ne 45 37), (37, ab_aload 0 38), (38, ab_iconst (2) 39), (39, ab_iconst (6) 41), (41, ab_callV 11 152 2 44), (44, ab_iret), (45, ab_aload 0 46), (46, ab_aload 0 47), (47, ab_getf 11 0 50), (50, ab_callV 11 117 1 53), (53, ab_aload 0 54), (54, ab_getf 11 0 57), (57, ab_iconst (3) 58), (58, ab_ald 0 59), (59, ab_istore 3 60), (60, ab_aload 0 61), (61, ab_getf 11 0 64), (64, ab_iconst (3) 65), (65, ab_dup2 66), (66, ab_ald 0 67)]
def ab_l85_1 : List (Nat × ab_Op) := [(67, ab_iconst (1) 68), (68, ab_iadd 69), (69, ab_ast 0 .int 70), (70, ab_iconst (0) 71), (71, ab_istore 4 73), (73, ab_iload 4 75), (75, ab_iconst (51) 77), (77, ab_icmp_ge 94 80), (80, ab_aload 0 81), (81, ab_iload 3 82), (82, ab_iload 4 84), (84, ab_iconst (0) 85), (85, ab_callV 11 157 3 88), (88, ab_iinc 4 (1) 91), (91, ab_goto 73), (94, ab_aload 0 95), (95, ab_iload 3 96), (96, ab_iconst (0) 97), (97, ab_iload 1 98), (98, ab_callV 11 157 3 101), (101, ab_aload 0 102), (102, ab_iload 3 103), (103, ab_iconst (1) 104), (104, ab_iload 2 105), (105, ab_callV 11 157 3 108), (108, ab_aload 0 109), (109, ab_iload 3 110), (110, ab_iconst (5) 111), (111, ab_iconst (-1) 112), (112, ab_callV 11 157 3 115), (115, ab_iload 3 116), (116, ab_iret)]
def ab_c85 : Nat → ab_Op := ab_lk2 [(67, ab_l85_0), (117, ab_l85_1)]
def ab_l86_0 : List (Nat × ab_Op) := [(0, ab_aload 0 1), (1, ab_oini 4), (4, ab_aload 0 5), (5, ab_newo 9 [.null, .null, .int 0, .int 0, .int 0, .int 0, .int 0, .int 0, .int 0, .int 0] 8), (8, ab_dup 9), (9, ab_callI 88 0 12), (12, ab_putf 4 0 (.object "BookBindery$Shop") 15), (15, ab_vret)]
def ab_c86 : Nat → ab_Op := ab_lk2 [(16, ab_l86_0)]
def ab_l87_0 : List (Nat × ab_Op) := [(0, ab_aload 0 1), (1, ab_oini 4), (4, ab_aload 0 5), (5, ab_iconst (9) 7), (7, ab_newr 8 10), (10, ab_putf 7 0 (.array (.object "BookBindery$Shop")) 13), (13, ab_iconst (0) 14), (14, ab_istore 1 15), (15, ab_iload 1 16), (16, ab_iconst (9) 18), (18, ab_icmp_ge 40 21), (21, ab_aload 0 22), (22, ab_getf 7 0 25), (25, ab_iload 1 26), (26, ab_newo 9 [.null, .null, .int 0, .int 0, .int 0, .int 0, .int 0, .int 0, .int 0, .int 0] 29), (29, ab_dup 30), (30, ab_callI 88 0 33), (33, ab_aast 8 9 34), (34, ab_iinc 1 (1) 37), (37, ab_goto 15), (40, ab_vret)]
def ab_c87 : Nat → ab_Op := ab_lk2 [(41, ab_l87_0)]
def ab_l88_0 : List (Nat × ab_Op) := [(0, ab_aload 0 1), (1, ab_oini 4), (4, ab_aload 0 5), (5, ab_iconst (6) 7), (7, ab_newr 6 10), (10, ab_putf 9 0 (.array (.object "BookBindery$Book")) 13), (13, ab_aload 0 14), (14, ab_iconst (2) 15), (15, ab_newr 7 18), (18, ab_putf 9 1 (.array (.object "BookBindery$Press")) 21), (21, ab_aload 0 22), (22, ab_iconst (20) 24), (24, ab_putf 9 4 (.int) 27), (27, ab_aload 0 28), (28, ab_iconst (100) 30), (30, ab_putf 9 5 (.int) 33), (33, ab_iconst (0) 34), (34, ab_istore 1 35), (35, ab_iload 1 36), (36, ab_iconst (6) 38), (38, ab_icmp_ge 60 41), (41, ab_aload 0 42), (42, ab_getf 9 0 45), (45, ab_iload 1 46), (46, ab_newo 5 [.int 0, .int 0, .int 0, .int 0, .int 0, .int 0, .int 0, .int 0, .null, .null, .null, .null, .null] 49), (49, ab_dup 50), (50, ab_callI 173 0 53), (53, ab_aast 6 5 54), (54, ab_iinc 1 (1) 57), (57, ab_goto 35), (60, ab_iconst (0) 61), (61, ab_istore 1 62), (62, ab_iload 1 63), (63, ab_iconst (2) 64), (64, ab_icmp_ge 86 67), (67, ab_aload 0 68), (68, ab_getf 9 1 71), (71, ab_iload 1 72), (72, ab_newo 8 [.null, .int 0] 75), (75, ab_dup 76)]
def ab_l88_1 : List (Nat × ab_Op) := [(76, ab_callI 174 0 79), (79, ab_aast 7 8 80), (80, ab_iinc 1 (1) 83), (83, ab_goto 62), (86, ab_vret)]
def ab_c88 : Nat → ab_Op := ab_lk2 [(76, ab_l88_0), (87, ab_l88_1)]
def ab_l89_0 : List (Nat × ab_Op) := [(0, ab_aload 0 1), (1, ab_oini 4), (4, ab_aload 0 5), (5, ab_iconst (60) 7), (7, ab_newa3 9), (9, ab_putf 6 0 (.array .char) 12), (12, ab_aload 0 13), (13, ab_iconst (3) 14), (14, ab_newa0 16), (16, ab_putf 6 5 (.array .int) 19), (19, ab_vret)]
def ab_c89 : Nat → ab_Op := ab_lk2 [(20, ab_l89_0)]
def ab_l90_0 : List (Nat × ab_Op) := [(0, ab_aload 0 1), (1, ab_iconst (16) 3), (3, ab_callI 175 1 6), (6, ab_vret)]
def ab_c90 : Nat → ab_Op := ab_lk2 [(7, ab_l90_0)]
def ab_l91_0 : List (Nat × ab_Op) := [(0, ab_aload 0 1), (1, ab_getf 10 4 4), (4, ab_if_ne 15 7), (7, ab_thr "java/lang/IllegalStateException"), (15, ab_aload 0 16), (16, ab_getf 10 1 19), (19, ab_aload 0 20), (20, ab_getf 10 3 23), (23, ab_callV 9 94 1 26), (26, ab_aload 0 27), (27, ab_getf 10 2 30), (30, ab_callV 7 176 0 33), (33, ab_aload 0 34), (34, ab_getf 10 1 37), (37, ab_getf 9 2 40), (40, ab_iret)]
def ab_c91 : Nat → ab_Op := ab_lk2 [(41, ab_l91_0)]
def ab_l92_0 : List (Nat × ab_Op) := [(0, ab_aload 0 1), (1, ab_iload 1 2), (2, ab_putf 11 7 (.int) 5), (5, ab_iload 1 6), (6, ab_if_le 13 9), (9, ab_iconst (1) 10), (10, ab_goto 14), (13, ab_iconst (0) 14), (14, ab_zret)]
def ab_c92 : Nat → ab_Op := ab_lk2 [(15, ab_l92_0)]
def ab_l93_0 : List (Nat × ab_Op) := [(0, ab_iconst (0) 1), (1, ab_istore 4 3), (3, ab_iload 4 5), (5, ab_iconst (322) 8), (8, ab_icmp_ge 29 11), (11, ab_aload 2 12), (12, ab_iload 3 13), (13, ab_iload 4 15), (15, ab_iadd 16), (16, ab_aload 0 17), (17, ab_iload 1 18), (18, ab_iload 4 20), (20, ab_iadd 21), (21, ab_ald 0 22), (22, ab_ast 0 .int 23), (23, ab_iinc 4 (1) 26), (26, ab_goto 3), (29, ab_vret)]
def ab_c93 : Nat → ab_Op := ab_lk2 [(30, ab_l93_0)]
def ab_l94_0 : List (Nat × ab_Op) := [(0, ab_iconst (0) 1), (1, ab_istore 2 2), (2, ab_iload 2 3), (3, ab_iconst (6) 5), (5, ab_icmp_ge 29 8), (8, ab_aload 0 9), (9, ab_getf 9 0 12), (12, ab_iload 2 13), (13, ab_aald 6 14), (14, ab_aload 1 15), (15, ab_getf 9 0 18), (18, ab_iload 2 19), (19, ab_aald 6 20), (20, ab_callV 5 177 1 23), (23, ab_iinc 2 (1) 26), (26, ab_goto 2), (29, ab_iconst (0) 30), (30, ab_istore 2 31), (31, ab_iload 2 32), (32, ab_iconst (2) 33), (33, ab_icmp_ge 57 36), (36, ab_aload 0 37), (37, ab_getf 9 1 40), (40, ab_iload 2 41), (41, ab_aald 7 42), (42, ab_aload 1 43), (43, ab_getf 9 1 46), (46, ab_iload 2 47), (47, ab_aald 7 48), (48, ab_callV 8 178 1 51), (51, ab_iinc 2 (1) 54), (54, ab_goto 31), (57, ab_aload 0 58), (58, ab_aload 1 59), (59, ab_getf 9 2 62), (62, ab_putf 9 2 (.int) 65), (65, ab_aload 0 66), (66, ab_aload 1 67), (67, ab_getf 9 3 70), (70, ab_putf 9 3 (.int) 73)]
def ab_l94_1 : List (Nat × ab_Op) := [(73, ab_aload 0 74), (74, ab_aload 1 75), (75, ab_getf 9 4 78), (78, ab_putf 9 4 (.int) 81), (81, ab_aload 0 82), (82, ab_aload 1 83), (83, ab_getf 9 5 86), (86, ab_putf 9 5 (.int) 89), (89, ab_aload 0 90), (90, ab_aload 1 91), (91, ab_getf 9 6 94), (94, ab_putf 9 6 (.int) 97), (97, ab_aload 0 98), (98, ab_aload 1 99), (99, ab_getf 9 7 102), (102, ab_putf 9 7 (.int) 105), (105, ab_aload 0 106), (106, ab_aload 1 107), (107, ab_getf 9 8 110), (110, ab_putf 9 8 (.int) 113), (113, ab_aload 0 114), (114, ab_aload 1 115), (115, ab_getf 9 9 118), (118, ab_putf 9 9 (.int) 121), (121, ab_vret)]
def ab_c94 : Nat → ab_Op := ab_lk2 [(73, ab_l94_0), (122, ab_l94_1)]
def ab_l95_0 : List (Nat × ab_Op) := [(0, ab_aload 0 1), (1, ab_getf 10 2 4), (4, ab_getf 7 2 7), (7, ab_if_ne 18 10), (10, ab_thr "java/lang/IllegalStateException"), (18, ab_aload 0 19), (19, ab_getf 10 2 22), (22, ab_aload 0 23), (23, ab_getf 10 1 26), (26, ab_callV 7 179 1 29), (29, ab_aload 0 30), (30, ab_getf 10 2 33), (33, ab_getf 7 2 36), (36, ab_iret)]
def ab_c95 : Nat → ab_Op := ab_lk2 [(37, ab_l95_0)]
def ab_l96_0 : List (Nat × ab_Op) := [(0, ab_iload 1 1), (1, ab_tsw 0 [68, 76, 84, 92, 100, 109, 118, 126, 134, 142, 150, 158, 166] 174), (68, ab_aload 0 69), (69, ab_getf 10 1 72), (72, ab_getf 9 3 75), (75, ab_iret), (76, ab_aload 0 77), (77, ab_getf 10 1 80), (80, ab_getf 9 4 83), (83, ab_iret), (84, ab_aload 0 85), (85, ab_getf 10 1 88), (88, ab_getf 9 5 91), (91, ab_iret), (92, ab_aload 0 93), (93, ab_getf 10 1 96), (96, ab_getf 9 2 99), (99, ab_iret), (100, ab_aload 0 101), (101, ab_getf 10 1 104), (104, ab_iconst (2) 105), (105, ab_callV 9 181 1 108), (108, ab_iret), (109, ab_aload 0 110), (110, ab_getf 10 1 113), (113, ab_iconst (4) 114), (114, ab_callV 9 181 1 117), (117, ab_iret), (118, ab_aload 0 119), (119, ab_getf 10 1 122), (122, ab_callV 9 180 0 125), (125, ab_iret), (126, ab_aload 0 127), (127, ab_getf 10 1 130), (130, ab_getf 9 6 133), (133, ab_iret), (134, ab_aload 0 135), (135, ab_getf 10 1 138), (138, ab_getf 9 7 141), (141, ab_iret)]
def ab_l96_1 : List (Nat × ab_Op) := [(142, ab_aload 0 143), (143, ab_getf 10 1 146), (146, ab_getf 9 8 149), (149, ab_iret), (150, ab_aload 0 151), (151, ab_getf 10 1 154), (154, ab_getf 9 9 157), (157, ab_iret), (158, ab_aload 0 159), (159, ab_getf 10 2 162), (162, ab_getf 7 2 165), (165, ab_iret), (166, ab_aload 0 167), (167, ab_getf 10 5 170), (170, ab_getf 6 1 173), (173, ab_iret), (174, ab_thr "java/lang/IllegalArgumentException")]
def ab_c96 : Nat → ab_Op := ab_lk2 [(142, ab_l96_0), (175, ab_l96_1)]
def ab_l97_0 : List (Nat × ab_Op) := [(0, ab_iload 0 1), (1, ab_iload 1 2), (2, ab_icmp_lt 14 5), (5, ab_iload 0 6), (6, ab_iload 2 7), (7, ab_icmp_gt 14 10), (10, ab_iconst (1) 11), (11, ab_goto 15), (14, ab_iconst (0) 15), (15, ab_zret)]
def ab_c97 : Nat → ab_Op := ab_lk2 [(16, ab_l97_0)]
def ab_l98_0 : List (Nat × ab_Op) := [(0, ab_iconst (0) 1), (1, ab_istore 2 2), (2, ab_iconst (0) 3), (3, ab_istore 3 4), (4, ab_iload 3 5), (5, ab_aload 0 6), (6, ab_getf 11 0 9), (9, ab_iconst (3) 10), (10, ab_ald 0 11), (11, ab_icmp_ge 29 14), (14, ab_iload 2 15), (15, ab_aload 0 16), (16, ab_iload 3 17), (17, ab_iload 1 18), (18, ab_callV 11 110 2 21), (21, ab_iadd 22), (22, ab_istore 2 23), (23, ab_iinc 3 (1) 26), (26, ab_goto 4), (29, ab_iload 2 30), (30, ab_iret)]
def ab_c98 : Nat → ab_Op := ab_lk2 [(31, ab_l98_0)]
def ab_l99_0 : List (Nat × ab_Op) := [(0, ab_iconst (0) 1), (1, ab_istore 1 2), (2, ab_iconst (0) 3), (3, ab_istore 2 4), (4, ab_iload 2 5), (5, ab_aload 0 6), (6, ab_getf 11 0 9), (9, ab_iconst (3) 10), (10, ab_ald 0 11), (11, ab_icmp_ge 38 14), (14, ab_iload 1 15), (15, ab_aload 0 16), (16, ab_iload 2 17), (17, ab_iconst (2) 18), (18, ab_callV 11 110 2 21), (21, ab_iconst (4) 22), (22, ab_icmp_ne 29 25), (25, ab_iconst (1) 26), (26, ab_goto 30), (29, ab_iconst (0) 30), (30, ab_iadd 31), (31, ab_istore 1 32), (32, ab_iinc 2 (1) 35), (35, ab_goto 4), (38, ab_iload 1 39), (39, ab_iret)]
def ab_c99 : Nat → ab_Op := ab_lk2 [(40, ab_l99_0)]
def ab_l100_0 : List (Nat × ab_Op) := [(0, ab_aload 0 1), (1, ab_getf 11 0 4), (4, ab_iconst (8) 6), (6, ab_iconst (4) 7), (7, ab_iload 1 8), (8, ab_imul 9), (9, ab_iadd 10), (10, ab_ald 0 11), (11, ab_iret)]
def ab_c100 : Nat → ab_Op := ab_lk2 [(12, ab_l100_0)]
def ab_l101_0 : List (Nat × ab_Op) := [(0, ab_aload 0 1), (1, ab_getf 10 1 4), (4, ab_getf 9 2 7), (7, ab_if_ne 18 10), (10, ab_thr "java/lang/ArithmeticException"), (18, ab_aload 0 19), (19, ab_getf 10 1 22), (22, ab_callV 9 180 0 25), (25, ab_i2d 26), (26, ab_aload 0 27), (27, ab_getf 10 1 30), (30, ab_getf 9 2 33), (33, ab_i2d 34), (34, ab_ddiv 35), (35, ab_dret)]
def ab_c101 : Nat → ab_Op := ab_lk2 [(36, ab_l101_0)]
def ab_l102_0 : List (Nat × ab_Op) := [(0, ab_aload 0 1), (1, ab_iload 1 2), (2, ab_callV 10 182 1 5), (5, ab_astore 2 6), (6, ab_aload 2 7), (7, ab_callV 5 183 0 10), (10, ab_istore 3 11), (11, ab_iload 3 12), (12, ab_if_ne 23 15), (15, ab_thr "java/lang/ArithmeticException"), (23, ab_iload 3 24), (24, ab_aload 2 25), (25, ab_callV 5 184 0 28), (28, ab_isub 29), (29, ab_i2f 30), (30, ab_iload 3 31), (31, ab_i2f 32), (32, ab_fdiv 33), (33, ab_fret)]
def ab_c102 : Nat → ab_Op := ab_lk2 [(34, ab_l102_0)]
def ab_l103_0 : List (Nat × ab_Op) := [(0, ab_iload 1 1), (1, ab_iconst (0) 2), (2, ab_aload 0 3), (3, ab_getf 11 0 6), (6, ab_iconst (3) 7), (7, ab_ald 0 8), (8, ab_iconst (1) 9), (9, ab_isub 10), (10, ab_callS 97 3 13), (13, ab_zret)]
def ab_c103 : Nat → ab_Op := ab_lk2 [(14, ab_l103_0)]
def ab_l104_0 : List (Nat × ab_Op) := [(0, ab_aload 0 1), (1, ab_iload 1 2), (2, ab_aload 0 3), (3, ab_iload 1 4), (4, ab_iconst (3) 5), (5, ab_callV 11 110 2 8), (8, ab_callV 11 148 2 11), (11, ab_iret)]
def ab_c104 : Nat → ab_Op := ab_lk2 [(12, ab_l104_0)]
def ab_l105_0 : List (Nat × ab_Op) := [(0, ab_iconst (0) 1), (1, ab_istore 2 2), (2, ab_aload 0 3), (3, ab_iload 1 4), (4, ab_callV 11 104 1 7), (7, ab_istore 3 8), (8, ab_iconst (0) 9), (9, ab_istore 4 11), (11, ab_iload 4 13), (13, ab_iload 3 14), (14, ab_icmp_ge 41 17), (17, ab_iload 2 18), (18, ab_aload 0 19), (19, ab_iload 1 20), (20, ab_iload 4 22), (22, ab_callV 11 141 2 25), (25, ab_if_eq 32 28), (28, ab_iconst (0) 29), (29, ab_goto 33), (32, ab_iconst (1) 33), (33, ab_iadd 34), (34, ab_istore 2 35), (35, ab_iinc 4 (1) 38), (38, ab_goto 11), (41, ab_iload 2 42), (42, ab_iret)]
def ab_c105 : Nat → ab_Op := ab_lk2 [(43, ab_l105_0)]
def ab_l106_0 : List (Nat × ab_Op) := [(0, ab_iload 1 1), (1, ab_if_lt 15 4), (4, ab_iload 1 5), (5, ab_aload 0 6), (6, ab_getf 10 7 9), (9, ab_callV 1 185 0 12), (12, ab_icmp_lt 23 15), (15, ab_thr "java/lang/IndexOutOfBoundsException"), (23, ab_aload 0 24), (24, ab_getf 10 7 27), (27, ab_iload 1 28), (28, ab_callV 1 186 1 31), (31, ab_cret)]
def ab_c106 : Nat → ab_Op := ab_lk2 [(32, ab_l106_0)]
def ab_l107_0 : List (Nat × ab_Op) := [(0, ab_aload 0 1), (1, ab_iload 1 2), (2, ab_callV 10 182 1 5), (5, ab_astore 2 6), (6, ab_aload 0 7), (7, ab_getf 10 7 10), (10, ab_iconst (0) 11), (11, ab_callV 1 187 1 14), (14, ab_aload 0 15), (15, ab_getf 10 7 18), (18, ab_iload 1 19), (19, ab_callV 1 188 1 22), (22, ab_iconst (58) 24), (24, ab_callV 1 189 1 27), (27, ab_pop 28), (28, ab_iconst (0) 29), (29, ab_istore 3 30), (30, ab_iload 3 31), (31, ab_aload 2 32), (32, ab_getf 5 3 35), (35, ab_icmp_ge 114 38), (38, ab_aload 0 39), (39, ab_getf 10 7 42), (42, ab_iconst (32) 44), (44, ab_callV 1 189 1 47), (47, ab_aload 2 48), (48, ab_getf 5 8 51), (51, ab_iload 3 52), (52, ab_ald 0 53), (53, ab_callV 1 188 1 56), (56, ab_iconst (45) 58), (58, ab_callV 1 189 1 61), (61, ab_aload 2 62), (62, ab_getf 5 9 65), (65, ab_iload 3 66), (66, ab_ald 0 67), (67, ab_callV 1 188 1 70), (70, ab_pop 71), (71, ab_aload 2 72), (72, ab_getf 5 11 75)]
def ab_l107_1 : List (Nat × ab_Op) := [(75, ab_iload 3 76), (76, ab_ald 1 77), (77, ab_if_eq 90 80), (80, ab_aload 0 81), (81, ab_getf 10 7 84), (84, ab_iconst (33) 86), (86, ab_callV 1 189 1 89), (89, ab_pop 90), (90, ab_iload 3 91), (91, ab_aload 2 92), (92, ab_getf 5 4 95), (95, ab_icmp_ge 108 98), (98, ab_aload 0 99), (99, ab_getf 10 7 102), (102, ab_iconst (115) 104), (104, ab_callV 1 189 1 107), (107, ab_pop 108), (108, ab_iinc 3 (1) 111), (111, ab_goto 30), (114, ab_aload 0 115), (115, ab_getf 10 7 118), (118, ab_callV 1 185 0 121), (121, ab_iret)]
def ab_c107 : Nat → ab_Op := ab_lk2 [(75, ab_l107_0), (122, ab_l107_1)]
def ab_l108_0 : List (Nat × ab_Op) := [(0, ab_iload 1 1), (1, ab_iconst (99) 3), (3, ab_icmp_le 17 6), (6, ab_aload 0 7), (7, ab_iconst (48) 9), (9, ab_iload 1 10), (10, ab_iconst (100) 12), (12, ab_idiv 13), (13, ab_iadd 14), (14, ab_callV 11 109 1 17), (17, ab_iload 1 18), (18, ab_iconst (9) 20), (20, ab_icmp_le 37 23), (23, ab_aload 0 24), (24, ab_iconst (48) 26), (26, ab_iload 1 27), (27, ab_iconst (10) 29), (29, ab_idiv 30), (30, ab_iconst (10) 32), (32, ab_irem 33), (33, ab_iadd 34), (34, ab_callV 11 109 1 37), (37, ab_aload 0 38), (38, ab_iconst (48) 40), (40, ab_iload 1 41), (41, ab_iconst (10) 43), (43, ab_irem 44), (44, ab_iadd 45), (45, ab_callV 11 109 1 48), (48, ab_vret)]
def ab_c108 : Nat → ab_Op := ab_lk2 [(49, ab_l108_0)]
def ab_l109_0 : List (Nat × ab_Op) := [(0, ab_aload 0 1), (1, ab_getf 11 14 4), (4, ab_aload 0 5), (5, ab_getf 11 15 8), (8, ab_iload 1 9), (9, ab_i2c 10), (10, ab_ast 3 .char 11), (11, ab_aload 0 12), (12, ab_dup 13), (13, ab_getf 11 15 16), (16, ab_iconst (1) 17), (17, ab_iadd 18), (18, ab_putf 11 15 (.int) 21), (21, ab_vret)]
def ab_c109 : Nat → ab_Op := ab_lk2 [(22, ab_l109_0)]
def ab_l110_0 : List (Nat × ab_Op) := [(0, ab_aload 0 1), (1, ab_getf 11 0 4), (4, ab_iconst (16) 6), (6, ab_iconst (51) 8), (8, ab_iload 1 9), (9, ab_imul 10), (10, ab_iadd 11), (11, ab_iload 2 12), (12, ab_iadd 13), (13, ab_ald 0 14), (14, ab_iret)]
def ab_c110 : Nat → ab_Op := ab_lk2 [(15, ab_l110_0)]
def ab_l111_0 : List (Nat × ab_Op) := [(0, ab_aload 0 1), (1, ab_iload 1 2), (2, ab_iconst (7) 4), (4, ab_iconst (3) 5), (5, ab_iload 2 6), (6, ab_imul 7), (7, ab_iadd 8), (8, ab_iload 3 9), (9, ab_iadd 10), (10, ab_callV 11 110 2 13), (13, ab_iret)]
def ab_c111 : Nat → ab_Op := ab_lk2 [(14, ab_l111_0)]
def ab_l112_0 : List (Nat × ab_Op) := [(0, ab_iconst (2) 1), (1, ab_aload 0 2), (2, ab_iload 1 3), (3, ab_iload 2 4), (4, ab_iconst (1) 5), (5, ab_callV 11 111 3 8), (8, ab_ishl 9), (9, ab_iret)]
def ab_c112 : Nat → ab_Op := ab_lk2 [(10, ab_l112_0)]
def ab_l113_0 : List (Nat × ab_Op) := [(0, ab_iload 1 1), (1, ab_if_lt 9 4), (4, ab_iload 1 5), (5, ab_iconst (2) 6), (6, ab_icmp_le 17 9), (9, ab_thr "java/lang/IllegalArgumentException"), (17, ab_aload 0 18), (18, ab_getf 10 0 21), (21, ab_getf 4 1 24), (24, ab_if_ne 35 27), (27, ab_thr "java/util/NoSuchElementException"), (35, ab_iload 1 36), (36, ab_if_ne 47 39), (39, ab_aload 0 40), (40, ab_getf 10 0 43), (43, ab_getf 4 1 46), (46, ab_iret), (47, ab_iload 1 48), (48, ab_iconst (1) 49), (49, ab_icmp_ne 62 52), (52, ab_aload 0 53), (53, ab_getf 10 0 56), (56, ab_getf 4 2 59), (59, ab_goto 69), (62, ab_aload 0 63), (63, ab_getf 10 0 66), (66, ab_getf 4 3 69), (69, ab_iret)]
def ab_c113 : Nat → ab_Op := ab_lk2 [(70, ab_l113_0)]
def ab_l114_0 : List (Nat × ab_Op) := [(0, ab_aload 0 1), (1, ab_aload 0 2), (2, ab_getf 10 5 5), (5, ab_callV 6 190 0 8), (8, ab_putf 10 6 (.int) 11), (11, ab_aload 0 12), (12, ab_getf 10 6 15), (15, ab_iconst (-1) 16), (16, ab_icmp_eq 34 19), (19, ab_aload 0 20), (20, ab_getf 10 5 23), (23, ab_callV 6 191 0 26), (26, ab_thr "java/lang/IllegalArgumentException"), (34, ab_aload 0 35), (35, ab_getf 10 2 38), (38, ab_aload 0 39), (39, ab_getf 10 1 42), (42, ab_callV 7 192 1 45), (45, ab_aload 0 46), (46, ab_getf 10 0 49), (49, ab_aload 0 50), (50, ab_getf 10 5 53), (53, ab_callV 4 193 1 56), (56, ab_istore 1 57), (57, ab_aload 0 58), (58, ab_getf 10 5 61), (61, ab_callV 6 191 0 64), (64, ab_iload 1 65), (65, ab_iconst (-1) 66), (66, ab_icmp_ne 80 69), (69, ab_aload 0 70), (70, ab_getf 10 2 73), (73, ab_aload 0 74), (74, ab_getf 10 1 77), (77, ab_callV 7 194 1 80), (80, ab_aload 0 81), (81, ab_iload 1 82), (82, ab_callV 10 195 1 85), (85, ab_iret)]
def ab_c114 : Nat → ab_Op := ab_lk2 [(86, ab_l114_0)]
def ab_l115_0 : List (Nat × ab_Op) := [(0, ab_aload 0 1), (1, ab_iconst (0) 2), (2, ab_putf 11 16 (.int) 5), (5, ab_aload 0 6), (6, ab_iconst (0) 7), (7, ab_putf 11 18 (.int) 10), (10, ab_aload 0 11), (11, ab_callV 11 196 0 14), (14, ab_if_ne 19 17), (17, ab_iconst (0) 18), (18, ab_zret), (19, ab_aload 0 20), (20, ab_dup 21), (21, ab_getf 11 18 24), (24, ab_iconst (1) 25), (25, ab_iadd 26), (26, ab_putf 11 18 (.int) 29), (29, ab_aload 0 30), (30, ab_iconst (59) 32), (32, ab_callV 11 197 1 35), (35, ab_if_ne 10 38), (38, ab_aload 0 39), (39, ab_getf 11 16 42), (42, ab_aload 0 43), (43, ab_getf 11 12 46), (46, ab_icmp_ne 53 49), (49, ab_iconst (1) 50), (50, ab_goto 54), (53, ab_iconst (0) 54), (54, ab_zret)]
def ab_c115 : Nat → ab_Op := ab_lk2 [(55, ab_l115_0)]
def ab_l116_0 : List (Nat × ab_Op) := [(0, ab_aload 0 1), (1, ab_getf 11 17 4), (4, ab_iload 1 5), (5, ab_ald 0 6), (6, ab_tsw 100 [240, 219, 253, 92, 253, 253, 253, 253, 164, 253, 253, 253, 185, 253, 253, 138, 206, 151] 253), (92, ab_aload 0 93), (93, ab_aload 0 94), (94, ab_getf 11 17 97), (97, ab_iload 1 98), (98, ab_iconst (1) 99), (99, ab_iadd 100), (100, ab_ald 0 101), (101, ab_aload 0 102), (102, ab_getf 11 17 105), (105, ab_iload 1 106), (106, ab_iconst (2) 107), (107, ab_iadd 108), (108, ab_ald 0 109), (109, ab_aload 0 110), (110, ab_getf 11 17 113), (113, ab_iload 1 114), (114, ab_iconst (3) 115), (115, ab_iadd 116), (116, ab_ald 0 117), (117, ab_aload 0 118), (118, ab_getf 11 17 121), (121, ab_iload 1 122), (122, ab_iconst (4) 123), (123, ab_iadd 124), (124, ab_ald 0 125), (125, ab_iconst (1) 126), (126, ab_icmp_ne 133 129), (129, ab_iconst (1) 130), (130, ab_goto 134), (133, ab_iconst (0) 134), (134, ab_callV 11 83 4 137), (137, ab_iret), (138, ab_aload 0 139), (139, ab_aload 0 140), (140, ab_getf 11 17 143)]
def ab_l116_1 : List (Nat × ab_Op) := [(143, ab_iload 1 144), (144, ab_iconst (1) 145), (145, ab_iadd 146), (146, ab_ald 0 147), (147, ab_callV 11 75 1 150), (150, ab_iret), (151, ab_aload 0 152), (152, ab_aload 0 153), (153, ab_getf 11 17 156), (156, ab_iload 1 157), (157, ab_iconst (1) 158), (158, ab_iadd 159), (159, ab_ald 0 160), (160, ab_callV 11 73 1 163), (163, ab_iret), (164, ab_aload 0 165), (165, ab_aload 0 166), (166, ab_getf 11 17 169), (169, ab_iload 1 170), (170, ab_iconst (1) 171), (171, ab_iadd 172), (172, ab_ald 0 173), (173, ab_aload 0 174), (174, ab_getf 11 17 177), (177, ab_iload 1 178), (178, ab_iconst (2) 179), (179, ab_iadd 180), (180, ab_ald 0 181), (181, ab_callV 11 71 2 184), (184, ab_iret), (185, ab_aload 0 186), (186, ab_aload 0 187), (187, ab_getf 11 17 190), (190, ab_iload 1 191), (191, ab_iconst (1) 192), (192, ab_iadd 193), (193, ab_ald 0 194), (194, ab_aload 0 195), (195, ab_getf 11 17 198), (198, ab_iload 1 199)]
def ab_l116_2 : List (Nat × ab_Op) := [(199, ab_iconst (2) 200), (200, ab_iadd 201), (201, ab_ald 0 202), (202, ab_callV 11 69 2 205), (205, ab_iret), (206, ab_aload 0 207), (207, ab_aload 0 208), (208, ab_getf 11 17 211), (211, ab_iload 1 212), (212, ab_iconst (1) 213), (213, ab_iadd 214), (214, ab_ald 0 215), (215, ab_callV 11 67 1 218), (218, ab_iret), (219, ab_aload 0 220), (220, ab_aload 0 221), (221, ab_getf 11 17 224), (224, ab_iload 1 225), (225, ab_iconst (1) 226), (226, ab_iadd 227), (227, ab_ald 0 228), (228, ab_aload 0 229), (229, ab_getf 11 17 232), (232, ab_iload 1 233), (233, ab_iconst (2) 234), (234, ab_iadd 235), (235, ab_ald 0 236), (236, ab_callV 11 65 2 239), (239, ab_iret), (240, ab_aload 0 241), (241, ab_aload 0 242), (242, ab_getf 11 17 245), (245, ab_iload 1 246), (246, ab_iconst (1) 247), (247, ab_iadd 248), (248, ab_ald 0 249), (249, ab_callV 11 63 1 252), (252, ab_iret), (253, ab_aload 0 254), (254, ab_aload 0 255)]
def ab_l116_3 : List (Nat × ab_Op) := [(255, ab_getf 11 17 258), (258, ab_iload 1 259), (259, ab_iconst (1) 260), (260, ab_iadd 261), (261, ab_ald 0 262), (262, ab_callV 11 61 1 265), (265, ab_iret)]
def ab_c116 : Nat → ab_Op := ab_lk2 [(143, ab_l116_0), (199, ab_l116_1), (255, ab_l116_2), (266, ab_l116_3)]
def ab_l117_0 : List (Nat × ab_Op) := [(0, ab_aload 0 1), (1, ab_iconst (0) 2), (2, ab_putf 11 7 (.int) 5), (5, ab_aload 0 6), (6, ab_getf 11 6 9), (9, ab_if_eq 13 12), (12, ab_vret), (13, ab_aload 0 14), (14, ab_getf 11 5 17), (17, ab_iconst (8) 19), (19, ab_icmp_ne 63 22), (22, ab_iconst (0) 23), (23, ab_istore 2 24), (24, ab_iload 2 25), (25, ab_iconst (2254) 28), (28, ab_icmp_ge 53 31), (31, ab_aload 0 32), (32, ab_getf 11 1 35), (35, ab_iload 2 36), (36, ab_aload 0 37), (37, ab_getf 11 1 40), (40, ab_iload 2 41), (41, ab_iconst (322) 44), (44, ab_iadd 45), (45, ab_ald 0 46), (46, ab_ast 0 .int 47), (47, ab_iinc 2 (1) 50), (50, ab_goto 24), (53, ab_aload 0 54), (54, ab_dup 55), (55, ab_getf 11 5 58), (58, ab_iconst (1) 59), (59, ab_isub 60), (60, ab_putf 11 5 (.int) 63), (63, ab_aload 1 64), (64, ab_iconst (0) 65), (65, ab_aload 0 66), (66, ab_getf 11 1 69), (69, ab_iconst (322) 72), (72, ab_aload 0 73)]
def ab_l117_1 : List (Nat × ab_Op) := [(73, ab_getf 11 5 76), (76, ab_imul 77), (77, ab_callS 93 4 80), (80, ab_aload 0 81), (81, ab_dup 82), (82, ab_getf 11 5 85), (85, ab_iconst (1) 86), (86, ab_iadd 87), (87, ab_putf 11 5 (.int) 90), (90, ab_vret)]
def ab_c117 : Nat → ab_Op := ab_lk2 [(73, ab_l117_0), (91, ab_l117_1)]
def ab_l118_0 : List (Nat × ab_Op) := [(0, ab_aload 0 1), (1, ab_getf 10 5 4), (4, ab_getf 6 1 7), (7, ab_iconst (60) 9), (9, ab_icmp_lt 20 12), (12, ab_thr "java/lang/IllegalStateException"), (20, ab_aload 0 21), (21, ab_getf 10 5 24), (24, ab_iload 1 25), (25, ab_callV 6 198 1 28), (28, ab_iret)]
def ab_c118 : Nat → ab_Op := ab_lk2 [(29, ab_l118_0)]
def ab_l119_0 : List (Nat × ab_Op) := [(0, ab_iconst (0) 1), (1, ab_istore 2 2), (2, ab_iload 2 3), (3, ab_aload 0 4), (4, ab_getf 10 1 7), (7, ab_getf 9 2 10), (10, ab_icmp_ge 37 13), (13, ab_aload 0 14), (14, ab_getf 10 8 17), (17, ab_iload 2 18), (18, ab_aload 0 19), (19, ab_getf 10 1 22), (22, ab_getf 9 0 25), (25, ab_iload 2 26), (26, ab_aald 6 27), (27, ab_callV 5 199 0 30), (30, ab_ast 0 .int 31), (31, ab_iinc 2 (1) 34), (34, ab_goto 2), (37, ab_iconst (0) 38), (38, ab_istore 2 39), (39, ab_iload 2 40), (40, ab_aload 0 41), (41, ab_getf 10 1 44), (44, ab_getf 9 2 47), (47, ab_icmp_ge 67 50), (50, ab_aload 0 51), (51, ab_iload 2 52), (52, ab_callV 10 200 1 55), (55, ab_iload 1 56), (56, ab_icmp_ne 61 59), (59, ab_iload 2 60), (60, ab_iret), (61, ab_iinc 2 (1) 64), (64, ab_goto 39), (67, ab_thr "java/util/NoSuchElementException")]
def ab_c119 : Nat → ab_Op := ab_lk2 [(68, ab_l119_0)]
def ab_l120_0 : List (Nat × ab_Op) := [(0, ab_aload 0 1), (1, ab_iload 1 2), (2, ab_callV 11 105 1 5), (5, ab_aload 0 6), (6, ab_iload 2 7), (7, ab_callV 11 105 1 10), (10, ab_icmp_eq 32 13), (13, ab_aload 0 14), (14, ab_iload 1 15), (15, ab_callV 11 105 1 18), (18, ab_aload 0 19), (19, ab_iload 2 20), (20, ab_callV 11 105 1 23), (23, ab_icmp_le 30 26), (26, ab_iconst (1) 27), (27, ab_goto 31), (30, ab_iconst (0) 31), (31, ab_zret), (32, ab_aload 0 33), (33, ab_iload 1 34), (34, ab_callV 11 139 1 37), (37, ab_aload 0 38), (38, ab_iload 2 39), (39, ab_callV 11 139 1 42), (42, ab_icmp_eq 66 45), (45, ab_aload 0 46), (46, ab_iload 1 47), (47, ab_callV 11 139 1 50), (50, ab_aload 0 51), (51, ab_iload 2 52), (52, ab_callV 11 139 1 55), (55, ab_icmp_le 62 58), (58, ab_iconst (1) 59), (59, ab_goto 76), (62, ab_iconst (0) 63), (63, ab_goto 76), (66, ab_iload 1 67), (67, ab_iload 2 68), (68, ab_icmp_ge 75 71), (71, ab_iconst (1) 72)]
def ab_l120_1 : List (Nat × ab_Op) := [(72, ab_goto 76), (75, ab_iconst (0) 76), (76, ab_zret)]
def ab_c120 : Nat → ab_Op := ab_lk2 [(72, ab_l120_0), (77, ab_l120_1)]
def ab_l121_0 : List (Nat × ab_Op) := [(0, ab_aload 0 1), (1, ab_iload 1 2), (2, ab_callV 10 201 1 5), (5, ab_astore 2 6), (6, ab_iconst (0) 7), (7, ab_istore 3 8), (8, ab_iload 3 9), (9, ab_iconst (30) 11), (11, ab_icmp_ge 29 14), (14, ab_aload 0 15), (15, ab_aload 2 16), (16, ab_iload 3 17), (17, ab_callV 10 202 2 20), (20, ab_if_ne 29 23), (23, ab_iinc 3 (1) 26), (26, ab_goto 8), (29, ab_iload 3 30), (30, ab_iret)]
def ab_c121 : Nat → ab_Op := ab_lk2 [(31, ab_l121_0)]
def ab_l122_0 : List (Nat × ab_Op) := [(0, ab_iload 0 1), (1, ab_iconst (0) 2), (2, ab_iconst (1) 3), (3, ab_callS 97 3 6), (6, ab_zret)]
def ab_c122 : Nat → ab_Op := ab_lk2 [(7, ab_l122_0)]
def ab_l123_0 : List (Nat × ab_Op) := [(0, ab_aload 0 1), (1, ab_getf 11 0 4), (4, ab_iconst (8) 6), (6, ab_iconst (4) 7), (7, ab_iload 1 8), (8, ab_imul 9), (9, ab_iadd 10), (10, ab_iconst (1) 11), (11, ab_iadd 12), (12, ab_iload 2 13), (13, ab_iadd 14), (14, ab_ald 0 15), (15, ab_iret)]
def ab_c123 : Nat → ab_Op := ab_lk2 [(16, ab_l123_0)]
def ab_l124_0 : List (Nat × ab_Op) := [(0, ab_aload 0 1), (1, ab_iload 1 2), (2, ab_callV 10 201 1 5), (5, ab_astore 2 6), (6, ab_iconst (0) 7), (7, ab_istore 3 8), (8, ab_iconst (0) 9), (9, ab_istore 4 11), (11, ab_iload 4 13), (13, ab_aload 2 14), (14, ab_getf 8 1 17), (17, ab_icmp_ge 49 20), (20, ab_iload 3 21), (21, ab_aload 0 22), (22, ab_getf 10 1 25), (25, ab_getf 9 0 28), (28, ab_aload 2 29), (29, ab_getf 8 0 32), (32, ab_iload 4 34), (34, ab_ald 0 35), (35, ab_aald 6 36), (36, ab_getf 5 7 39), (39, ab_mmax 42), (42, ab_istore 3 43), (43, ab_iinc 4 (1) 46), (46, ab_goto 11), (49, ab_iload 3 50), (50, ab_iret)]
def ab_c124 : Nat → ab_Op := ab_lk2 [(51, ab_l124_0)]
def ab_l125_0 : List (Nat × ab_Op) := [(0, ab_aload 0 1), (1, ab_iload 1 2), (2, ab_iconst (5) 3), (3, ab_callV 11 110 2 6), (6, ab_if_ge 13 9), (9, ab_iconst (0) 10), (10, ab_goto 31), (13, ab_iconst (0) 14), (14, ab_aload 0 15), (15, ab_iload 1 16), (16, ab_iconst (6) 18), (18, ab_callV 11 110 2 21), (21, ab_aload 0 22), (22, ab_getf 11 0 25), (25, ab_iconst (0) 26), (26, ab_ald 0 27), (27, ab_isub 28), (28, ab_callS 126 2 31), (31, ab_iret)]
def ab_c125 : Nat → ab_Op := ab_lk2 [(32, ab_l125_0)]
def ab_l126_0 : List (Nat × ab_Op) := [(0, ab_iload 0 1), (1, ab_iload 1 2), (2, ab_icmp_le 9 5), (5, ab_iload 0 6), (6, ab_goto 10), (9, ab_iload 1 10), (10, ab_iret)]
def ab_c126 : Nat → ab_Op := ab_lk2 [(11, ab_l126_0)]
def ab_l127_0 : List (Nat × ab_Op) := [(0, ab_aload 0 1), (1, ab_iload 1 2), (2, ab_callV 10 203 1 5), (5, ab_astore 3 6), (6, ab_iload 2 7), (7, ab_if_lt 18 10), (10, ab_iload 2 11), (11, ab_aload 3 12), (12, ab_getf 8 1 15), (15, ab_icmp_lt 26 18), (18, ab_thr "java/util/NoSuchElementException"), (26, ab_aload 3 27), (27, ab_getf 8 0 30), (30, ab_iload 2 31), (31, ab_ald 0 32), (32, ab_iret)]
def ab_c127 : Nat → ab_Op := ab_lk2 [(33, ab_l127_0)]
def ab_l128_0 : List (Nat × ab_Op) := [(0, ab_aload 0 1), (1, ab_iload 1 2), (2, ab_iload 2 3), (3, ab_callV 10 204 2 6), (6, ab_iload 2 7), (7, ab_callV 5 205 1 10), (10, ab_zret)]
def ab_c128 : Nat → ab_Op := ab_lk2 [(11, ab_l128_0)]
def ab_l129_0 : List (Nat × ab_Op) := [(0, ab_aload 0 1), (1, ab_iload 1 2), (2, ab_callV 11 103 1 5), (5, ab_if_eq 27 8), (8, ab_iload 2 9), (9, ab_iconst (0) 10), (10, ab_aload 0 11), (11, ab_iload 1 12), (12, ab_callV 11 104 1 15), (15, ab_iconst (1) 16), (16, ab_isub 17), (17, ab_callS 97 3 20), (20, ab_if_eq 27 23), (23, ab_iconst (1) 24), (24, ab_goto 28), (27, ab_iconst (0) 28), (28, ab_zret)]
def ab_c129 : Nat → ab_Op := ab_lk2 [(29, ab_l129_0)]
def ab_l130_0 : List (Nat × ab_Op) := [(0, ab_aload 0 1), (1, ab_iload 1 2), (2, ab_iconst (43) 4), (4, ab_iload 2 5), (5, ab_iconst (24) 7), (7, ab_idiv 8), (8, ab_iadd 9), (9, ab_callV 11 110 2 12), (12, ab_iload 2 13), (13, ab_iconst (24) 15), (15, ab_irem 16), (16, ab_ishr 17), (17, ab_iconst (1) 18), (18, ab_iand 19), (19, ab_iconst (1) 20), (20, ab_icmp_ne 27 23), (23, ab_iconst (1) 24), (24, ab_goto 28), (27, ab_iconst (0) 28), (28, ab_zret)]
def ab_c130 : Nat → ab_Op := ab_lk2 [(29, ab_l130_0)]
def ab_l131_0 : List (Nat × ab_Op) := [(0, ab_aload 0 1), (1, ab_iload 1 2), (2, ab_callV 10 182 1 5), (5, ab_callV 5 206 0 8), (8, ab_iret)]
def ab_c131 : Nat → ab_Op := ab_lk2 [(9, ab_l131_0)]
def ab_l132_0 : List (Nat × ab_Op) := [(0, ab_aload 0 1), (1, ab_iload 1 2), (2, ab_iconst (1) 3), (3, ab_callV 11 110 2 6), (6, ab_iconst (2) 7), (7, ab_aload 0 8), (8, ab_iload 1 9), (9, ab_iload 2 10), (10, ab_iconst (1) 11), (11, ab_callV 11 111 3 14), (14, ab_iadd 15), (15, ab_imul 16), (16, ab_iload 2 17), (17, ab_if_ne 24 20), (20, ab_iconst (5) 21), (21, ab_goto 25), (24, ab_iconst (0) 25), (25, ab_iadd 26), (26, ab_iret)]
def ab_c132 : Nat → ab_Op := ab_lk2 [(27, ab_l132_0)]
def ab_l133_0 : List (Nat × ab_Op) := [(0, ab_aload 0 1), (1, ab_iload 1 2), (2, ab_iload 2 3), (3, ab_callV 10 207 2 6), (6, ab_iload 2 7), (7, ab_callV 5 208 1 10), (10, ab_iret)]
def ab_c133 : Nat → ab_Op := ab_lk2 [(11, ab_l133_0)]
def ab_l134_0 : List (Nat × ab_Op) := [(0, ab_iload 2 1), (1, ab_iconst (0) 2), (2, ab_aload 0 3), (3, ab_iload 1 4), (4, ab_iconst (3) 5), (5, ab_callV 11 110 2 8), (8, ab_iconst (1) 9), (9, ab_isub 10), (10, ab_callS 97 3 13), (13, ab_zret)]
def ab_c134 : Nat → ab_Op := ab_lk2 [(14, ab_l134_0)]
def ab_l135_0 : List (Nat × ab_Op) := [(0, ab_aload 0 1), (1, ab_iload 1 2), (2, ab_callV 10 182 1 5), (5, ab_callV 5 209 0 8), (8, ab_iret)]
def ab_c135 : Nat → ab_Op := ab_lk2 [(9, ab_l135_0)]
def ab_l136_0 : List (Nat × ab_Op) := [(0, ab_iconst (0) 1), (1, ab_istore 3 2), (2, ab_iconst (0) 3), (3, ab_istore 4 5), (5, ab_iload 4 7), (7, ab_aload 0 8), (8, ab_iload 1 9), (9, ab_iconst (3) 10), (10, ab_callV 11 110 2 13), (13, ab_icmp_ge 63 16), (16, ab_iload 3 17), (17, ab_iload 2 18), (18, ab_aload 0 19), (19, ab_iload 1 20), (20, ab_iload 4 22), (22, ab_iconst (0) 23), (23, ab_callV 11 111 3 26), (26, ab_aload 0 27), (27, ab_iload 1 28), (28, ab_iload 4 30), (30, ab_iconst (0) 31), (31, ab_callV 11 111 3 34), (34, ab_aload 0 35), (35, ab_iload 1 36), (36, ab_iload 4 38), (38, ab_callV 11 112 2 41), (41, ab_iadd 42), (42, ab_iconst (1) 43), (43, ab_isub 44), (44, ab_callS 97 3 47), (47, ab_if_eq 54 50), (50, ab_iconst (1) 51), (51, ab_goto 55), (54, ab_iconst (0) 55), (55, ab_iadd 56), (56, ab_istore 3 57), (57, ab_iinc 4 (1) 60), (60, ab_goto 5), (63, ab_iload 3 64), (64, ab_iret)]
def ab_c136 : Nat → ab_Op := ab_lk2 [(65, ab_l136_0)]
def ab_l137_0 : List (Nat × ab_Op) := [(0, ab_aload 0 1), (1, ab_iload 1 2), (2, ab_callV 10 182 1 5), (5, ab_iload 2 6), (6, ab_callV 5 210 1 9), (9, ab_istore 3 10), (10, ab_iload 3 11), (11, ab_iconst (-1) 12), (12, ab_icmp_ne 23 15), (15, ab_thr "java/util/NoSuchElementException"), (23, ab_iload 3 24), (24, ab_iret)]
def ab_c137 : Nat → ab_Op := ab_lk2 [(25, ab_l137_0)]
def ab_l138_0 : List (Nat × ab_Op) := [(0, ab_aload 0 1), (1, ab_iload 1 2), (2, ab_callV 10 182 1 5), (5, ab_callV 5 211 0 8), (8, ab_iret)]
def ab_c138 : Nat → ab_Op := ab_lk2 [(9, ab_l138_0)]
def ab_l139_0 : List (Nat × ab_Op) := [(0, ab_iconst (0) 1), (1, ab_istore 2 2), (2, ab_iconst (1) 3), (3, ab_istore 3 4), (4, ab_iload 3 5), (5, ab_aload 0 6), (6, ab_iload 1 7), (7, ab_iconst (0) 8), (8, ab_callV 11 110 2 11), (11, ab_icmp_gt 37 14), (14, ab_iload 2 15), (15, ab_aload 0 16), (16, ab_iload 1 17), (17, ab_iload 3 18), (18, ab_callV 11 136 2 21), (21, ab_if_ne 28 24), (24, ab_iconst (1) 25), (25, ab_goto 29), (28, ab_iconst (0) 29), (29, ab_iadd 30), (30, ab_istore 2 31), (31, ab_iinc 3 (1) 34), (34, ab_goto 4), (37, ab_iload 2 38), (38, ab_iret)]
def ab_c139 : Nat → ab_Op := ab_lk2 [(39, ab_l139_0)]
def ab_l140_0 : List (Nat × ab_Op) := [(0, ab_aload 0 1), (1, ab_iload 1 2), (2, ab_callV 10 182 1 5), (5, ab_iconst (0) 6), (6, ab_callV 5 212 1 9), (9, ab_istore 2 10), (10, ab_iload 2 11), (11, ab_iconst (-1) 12), (12, ab_icmp_ne 23 15), (15, ab_thr "java/util/NoSuchElementException"), (23, ab_iload 2 24), (24, ab_iret)]
def ab_c140 : Nat → ab_Op := ab_lk2 [(25, ab_l140_0)]
def ab_l141_0 : List (Nat × ab_Op) := [(0, ab_aload 0 1), (1, ab_iload 1 2), (2, ab_iload 2 3), (3, ab_callV 11 146 2 6), (6, ab_iload 2 7), (7, ab_iconst (1) 8), (8, ab_iadd 9), (9, ab_icmp_ne 26 12), (12, ab_iload 2 13), (13, ab_aload 0 14), (14, ab_iload 1 15), (15, ab_iconst (0) 16), (16, ab_callV 11 110 2 19), (19, ab_icmp_ge 26 22), (22, ab_iconst (1) 23), (23, ab_goto 27), (26, ab_iconst (0) 27), (27, ab_zret)]
def ab_c141 : Nat → ab_Op := ab_lk2 [(28, ab_l141_0)]
def ab_l142_0 : List (Nat × ab_Op) := [(0, ab_aload 0 1), (1, ab_iload 1 2), (2, ab_callV 10 182 1 5), (5, ab_callV 5 213 0 8), (8, ab_iret)]
def ab_c142 : Nat → ab_Op := ab_lk2 [(9, ab_l142_0)]
def ab_l143_0 : List (Nat × ab_Op) := [(0, ab_aload 0 1), (1, ab_iload 1 2), (2, ab_iload 2 3), (3, ab_callV 11 148 2 6), (6, ab_istore 3 7), (7, ab_aload 0 8), (8, ab_iload 1 9), (9, ab_iload 2 10), (10, ab_callV 11 112 2 13), (13, ab_istore 4 15), (15, ab_aload 0 16), (16, ab_iload 1 17), (17, ab_iload 2 18), (18, ab_iconst (0) 19), (19, ab_callV 11 111 3 22), (22, ab_istore 5 24), (24, ab_aload 0 25), (25, ab_iload 1 26), (26, ab_iload 2 27), (27, ab_iconst (2) 28), (28, ab_callV 11 111 3 31), (31, ab_if_ne 69 34), (34, ab_iload 5 36), (36, ab_iload 3 37), (37, ab_iconst (1) 38), (38, ab_iadd 39), (39, ab_icmp_eq 46 42), (42, ab_iconst (0) 43), (43, ab_goto 68), (46, ab_iconst (0) 47), (47, ab_iload 4 49), (49, ab_iconst (0) 50), (50, ab_iload 3 51), (51, ab_iload 4 53), (53, ab_iadd 54), (54, ab_aload 0 55), (55, ab_iload 1 56), (56, ab_iconst (0) 57), (57, ab_callV 11 110 2 60), (60, ab_isub 61)]
def ab_l143_1 : List (Nat × ab_Op) := [(61, ab_callS 126 2 64), (64, ab_isub 65), (65, ab_callS 126 2 68), (68, ab_iret), (69, ab_iload 5 71), (71, ab_iload 4 73), (73, ab_iadd 74), (74, ab_iconst (2) 75), (75, ab_isub 76), (76, ab_iload 3 77), (77, ab_isub 78), (78, ab_istore 6 80), (80, ab_iload 6 82), (82, ab_iconst (2) 83), (83, ab_idiv 84), (84, ab_istore 7 86), (86, ab_iload 6 88), (88, ab_iconst (2) 89), (89, ab_irem 90), (90, ab_if_ne 123 93), (93, ab_iload 7 95), (95, ab_iconst (0) 96), (96, ab_iload 4 98), (98, ab_iconst (1) 99), (99, ab_isub 100), (100, ab_callS 97 3 103), (103, ab_if_eq 123 106), (106, ab_iload 3 107), (107, ab_iload 7 109), (109, ab_iadd 110), (110, ab_aload 0 111), (111, ab_iload 1 112), (112, ab_iconst (0) 113), (113, ab_callV 11 110 2 116), (116, ab_icmp_ge 123 119), (119, ab_iconst (1) 120), (120, ab_goto 124), (123, ab_iconst (0) 124), (124, ab_iret)]
def ab_c143 : Nat → ab_Op := ab_lk2 [(61, ab_l143_0), (125, ab_l143_1)]
def ab_l144_0 : List (Nat × ab_Op) := [(0, ab_aload 0 1), (1, ab_iload 1 2), (2, ab_callV 10 182 1 5), (5, ab_callV 5 184 0 8), (8, ab_iret)]
def ab_c144 : Nat → ab_Op := ab_lk2 [(9, ab_l144_0)]
def ab_l145_0 : List (Nat × ab_Op) := [(0, ab_aload 0 1), (1, ab_iload 1 2), (2, ab_iload 2 3), (3, ab_callV 10 204 2 6), (6, ab_iload 2 7), (7, ab_callV 5 214 1 10), (10, ab_iret)]
def ab_c145 : Nat → ab_Op := ab_lk2 [(11, ab_l145_0)]
def ab_l146_0 : List (Nat × ab_Op) := [(0, ab_iconst (0) 1), (1, ab_istore 3 2), (2, ab_iload 2 3), (3, ab_istore 4 5), (5, ab_iload 4 7), (7, ab_aload 0 8), (8, ab_iload 1 9), (9, ab_iload 3 10), (10, ab_callV 11 112 2 13), (13, ab_icmp_lt 33 16), (16, ab_iload 4 18), (18, ab_aload 0 19), (19, ab_iload 1 20), (20, ab_iload 3 21), (21, ab_callV 11 112 2 24), (24, ab_isub 25), (25, ab_istore 4 27), (27, ab_iinc 3 (1) 30), (30, ab_goto 5), (33, ab_aload 0 34), (34, ab_iload 1 35), (35, ab_iload 3 36), (36, ab_iconst (2) 37), (37, ab_callV 11 111 3 40), (40, ab_iconst (1) 41), (41, ab_icmp_ne 66 44), (44, ab_aload 0 45), (45, ab_iload 1 46), (46, ab_iload 3 47), (47, ab_iconst (0) 48), (48, ab_callV 11 111 3 51), (51, ab_aload 0 52), (52, ab_iload 1 53), (53, ab_iload 3 54), (54, ab_callV 11 112 2 57), (57, ab_iadd 58), (58, ab_iconst (1) 59), (59, ab_isub 60), (60, ab_iload 4 62), (62, ab_isub 63)]
def ab_l146_1 : List (Nat × ab_Op) := [(63, ab_goto 76), (66, ab_aload 0 67), (67, ab_iload 1 68), (68, ab_iload 3 69), (69, ab_iconst (0) 70), (70, ab_callV 11 111 3 73), (73, ab_iload 4 75), (75, ab_iadd 76), (76, ab_iret)]
def ab_c146 : Nat → ab_Op := ab_lk2 [(63, ab_l146_0), (77, ab_l146_1)]
def ab_l147_0 : List (Nat × ab_Op) := [(0, ab_aload 0 1), (1, ab_iload 1 2), (2, ab_iload 2 3), (3, ab_callV 10 207 2 6), (6, ab_astore 4 8), (8, ab_iload 3 9), (9, ab_tsw 0 [44, 52, 60, 68, 84] 91), (44, ab_aload 4 46), (46, ab_getf 5 8 49), (49, ab_iload 2 50), (50, ab_ald 0 51), (51, ab_iret), (52, ab_aload 4 54), (54, ab_getf 5 9 57), (57, ab_iload 2 58), (58, ab_ald 0 59), (59, ab_iret), (60, ab_aload 4 62), (62, ab_getf 5 10 65), (65, ab_iload 2 66), (66, ab_ald 0 67), (67, ab_iret), (68, ab_aload 4 70), (70, ab_getf 5 11 73), (73, ab_iload 2 74), (74, ab_ald 1 75), (75, ab_if_eq 82 78), (78, ab_iconst (1) 79), (79, ab_goto 83), (82, ab_iconst (0) 83), (83, ab_iret), (84, ab_aload 4 86), (86, ab_iload 2 87), (87, ab_callV 5 215 1 90), (90, ab_iret), (91, ab_thr "java/lang/IllegalArgumentException")]
def ab_c147 : Nat → ab_Op := ab_lk2 [(92, ab_l147_0)]
def ab_l148_0 : List (Nat × ab_Op) := [(0, ab_iconst (0) 1), (1, ab_istore 3 2), (2, ab_iconst (0) 3), (3, ab_istore 4 5), (5, ab_iload 4 7), (7, ab_iload 2 8), (8, ab_icmp_ge 27 11), (11, ab_iload 3 12), (12, ab_aload 0 13), (13, ab_iload 1 14), (14, ab_iload 4 16), (16, ab_callV 11 112 2 19), (19, ab_iadd 20), (20, ab_istore 3 21), (21, ab_iinc 4 (1) 24), (24, ab_goto 5), (27, ab_iload 3 28), (28, ab_iret)]
def ab_c148 : Nat → ab_Op := ab_lk2 [(29, ab_l148_0)]
def ab_l149_0 : List (Nat × ab_Op) := [(0, ab_aload 0 1), (1, ab_iload 1 2), (2, ab_callV 10 182 1 5), (5, ab_astore 3 6), (6, ab_iload 2 7), (7, ab_tsw 0 [56, 61, 66, 71, 76, 81, 86, 91, 96] 101), (56, ab_aload 3 57), (57, ab_getf 5 0 60), (60, ab_iret), (61, ab_aload 3 62), (62, ab_getf 5 1 65), (65, ab_iret), (66, ab_aload 3 67), (67, ab_getf 5 2 70), (70, ab_iret), (71, ab_aload 3 72), (72, ab_getf 5 3 75), (75, ab_iret), (76, ab_aload 3 77), (77, ab_getf 5 4 80), (80, ab_iret), (81, ab_aload 3 82), (82, ab_callV 5 183 0 85), (85, ab_iret), (86, ab_aload 3 87), (87, ab_getf 5 5 90), (90, ab_iret), (91, ab_aload 3 92), (92, ab_getf 5 6 95), (95, ab_iret), (96, ab_aload 3 97), (97, ab_getf 5 7 100), (100, ab_iret), (101, ab_thr "java/lang/IllegalArgumentException")]
def ab_c149 : Nat → ab_Op := ab_lk2 [(102, ab_l149_0)]
def ab_l150_0 : List (Nat × ab_Op) := [(0, ab_iconst (0) 1), (1, ab_istore 2 2), (2, ab_iconst (0) 3), (3, ab_istore 3 4), (4, ab_iload 3 5), (5, ab_iconst (192) 8), (8, ab_icmp_ge 34 11), (11, ab_iload 2 12), (12, ab_aload 0 13), (13, ab_iload 1 14), (14, ab_iload 3 15), (15, ab_callV 11 130 2 18), (18, ab_if_eq 25 21), (21, ab_iconst (1) 22), (22, ab_goto 26), (25, ab_iconst (0) 26), (26, ab_iadd 27), (27, ab_istore 2 28), (28, ab_iinc 3 (1) 31), (31, ab_goto 4), (34, ab_iload 2 35), (35, ab_iret)]
def ab_c150 : Nat → ab_Op := ab_lk2 [(36, ab_l150_0)]
def ab_l151_0 : List (Nat × ab_Op) := [(0, ab_aload 0 1), (1, ab_getf 10 2 4), (4, ab_aload 0 5), (5, ab_getf 10 1 8), (8, ab_callV 7 192 1 11), (11, ab_aload 0 12), (12, ab_aload 0 13), (13, ab_getf 10 0 16), (16, ab_iload 1 17), (17, ab_callV 4 216 1 20), (20, ab_callV 10 195 1 23), (23, ab_iret)]
def ab_c151 : Nat → ab_Op := ab_lk2 [(24, ab_l151_0)]
def ab_l152_0 : List (Nat × ab_Op) := [(0, ab_aload 0 1), (1, ab_iconst (1) 2), (2, ab_putf 11 7 (.int) 5), (5, ab_aload 0 6), (6, ab_iload 1 7), (7, ab_putf 11 8 (.int) 10), (10, ab_aload 0 11), (11, ab_iload 2 12), (12, ab_putf 11 9 (.int) 15), (15, ab_aload 0 16), (16, ab_iconst (0) 17), (17, ab_putf 11 10 (.int) 20), (20, ab_iconst (0) 21), (21, ab_iret)]
def ab_c152 : Nat → ab_Op := ab_lk2 [(22, ab_l152_0)]
def ab_l153_0 : List (Nat × ab_Op) := [(0, ab_iconst (0) 1), (1, ab_istore 1 2), (2, ab_aload 0 3), (3, ab_getf 11 0 6), (6, ab_iconst (0) 7), (7, ab_dup2 8), (8, ab_ald 0 9), (9, ab_iconst (1) 10), (10, ab_iadd 11), (11, ab_ast 0 .int 12), (12, ab_iconst (0) 13), (13, ab_istore 2 14), (14, ab_iload 2 15), (15, ab_aload 0 16), (16, ab_getf 11 0 19), (19, ab_iconst (3) 20), (20, ab_ald 0 21), (21, ab_icmp_ge 98 24), (24, ab_aload 0 25), (25, ab_iload 2 26), (26, ab_iconst (2) 27), (27, ab_callV 11 110 2 30), (30, ab_iconst (1) 31), (31, ab_icmp_ne 92 34), (34, ab_aload 0 35), (35, ab_iload 2 36), (36, ab_callV 11 125 1 39), (39, ab_if_le 45 42), (42, ab_goto 92), (45, ab_iinc 1 (1) 48), (48, ab_aload 0 49), (49, ab_getf 11 0 52), (52, ab_iconst (5) 53), (53, ab_dup2 54), (54, ab_ald 0 55), (55, ab_aload 0 56), (56, ab_iload 2 57), (57, ab_iconst (4) 58), (58, ab_callV 11 110 2 61), (61, ab_iadd 62)]
def ab_l153_1 : List (Nat × ab_Op) := [(62, ab_ast 0 .int 63), (63, ab_aload 0 64), (64, ab_iload 2 65), (65, ab_iconst (4) 66), (66, ab_iconst (0) 67), (67, ab_callV 11 157 3 70), (70, ab_aload 0 71), (71, ab_iload 2 72), (72, ab_iconst (2) 73), (73, ab_iconst (0) 74), (74, ab_callV 11 157 3 77), (77, ab_aload 0 78), (78, ab_iload 2 79), (79, ab_iconst (5) 80), (80, ab_iconst (-1) 81), (81, ab_callV 11 157 3 84), (84, ab_aload 0 85), (85, ab_iload 2 86), (86, ab_iconst (6) 88), (88, ab_iconst (0) 89), (89, ab_callV 11 157 3 92), (92, ab_iinc 2 (1) 95), (95, ab_goto 14), (98, ab_iload 1 99), (99, ab_iret)]
def ab_c153 : Nat → ab_Op := ab_lk2 [(62, ab_l153_0), (100, ab_l153_1)]
def ab_l154_0 : List (Nat × ab_Op) := [(0, ab_aload 0 1), (1, ab_getf 10 2 4), (4, ab_aload 0 5), (5, ab_getf 10 1 8), (8, ab_callV 7 192 1 11), (11, ab_aload 0 12), (12, ab_aload 0 13), (13, ab_getf 10 0 16), (16, ab_iload 1 17), (17, ab_callV 4 217 1 20), (20, ab_callV 10 195 1 23), (23, ab_iret)]
def ab_c154 : Nat → ab_Op := ab_lk2 [(24, ab_l154_0)]
def ab_l155_0 : List (Nat × ab_Op) := [(0, ab_aload 0 1), (1, ab_iload 1 2), (2, ab_callV 11 103 1 5), (5, ab_if_ne 18 8), (8, ab_aload 0 9), (9, ab_iconst (3) 10), (10, ab_iload 1 11), (11, ab_callV 11 152 2 14), (14, ab_pop 15), (15, ab_goto 45), (18, ab_aload 0 19), (19, ab_iload 1 20), (20, ab_iconst (2) 21), (21, ab_callV 11 110 2 24), (24, ab_iload 2 25), (25, ab_icmp_eq 43 28), (28, ab_aload 0 29), (29, ab_iconst (4) 30), (30, ab_aload 0 31), (31, ab_iload 1 32), (32, ab_iconst (2) 33), (33, ab_callV 11 110 2 36), (36, ab_callV 11 152 2 39), (39, ab_pop 40), (40, ab_goto 45), (43, ab_iconst (0) 44), (44, ab_zret), (45, ab_iconst (1) 46), (46, ab_zret)]
def ab_c155 : Nat → ab_Op := ab_lk2 [(47, ab_l155_0)]
def ab_l156_0 : List (Nat × ab_Op) := [(0, ab_aload 0 1), (1, ab_iload 1 2), (2, ab_callV 11 104 1 5), (5, ab_istore 2 6), (6, ab_iconst (0) 7), (7, ab_istore 3 8), (8, ab_iload 3 9), (9, ab_iload 2 10), (10, ab_icmp_ge 39 13), (13, ab_aload 0 14), (14, ab_iload 1 15), (15, ab_iload 3 16), (16, ab_callV 11 141 2 19), (19, ab_if_ne 33 22), (22, ab_aload 0 23), (23, ab_iload 1 24), (24, ab_iload 3 25), (25, ab_callV 11 130 2 28), (28, ab_if_ne 33 31), (31, ab_iload 3 32), (32, ab_iret), (33, ab_iinc 3 (1) 36), (36, ab_goto 8), (39, ab_iconst (-1) 40), (40, ab_iret)]
def ab_c156 : Nat → ab_Op := ab_lk2 [(41, ab_l156_0)]
def ab_l157_0 : List (Nat × ab_Op) := [(0, ab_aload 0 1), (1, ab_getf 11 0 4), (4, ab_iconst (16) 6), (6, ab_iconst (51) 8), (8, ab_iload 1 9), (9, ab_imul 10), (10, ab_iadd 11), (11, ab_iload 2 12), (12, ab_iadd 13), (13, ab_iload 3 14), (14, ab_ast 0 .int 15), (15, ab_vret)]
def ab_c157 : Nat → ab_Op := ab_lk2 [(16, ab_l157_0)]
def ab_l158_0 : List (Nat × ab_Op) := [(0, ab_aload 0 1), (1, ab_getf 10 2 4), (4, ab_aload 0 5), (5, ab_getf 10 1 8), (8, ab_callV 7 192 1 11), (11, ab_aload 0 12), (12, ab_aload 0 13), (13, ab_getf 10 0 16), (16, ab_iload 1 17), (17, ab_iload 2 18), (18, ab_callV 4 218 2 21), (21, ab_callV 10 195 1 24), (24, ab_iret)]
def ab_c158 : Nat → ab_Op := ab_lk2 [(25, ab_l158_0)]
def ab_l159_0 : List (Nat × ab_Op) := [(0, ab_aload 0 1), (1, ab_getf 10 2 4), (4, ab_aload 0 5), (5, ab_getf 10 1 8), (8, ab_callV 7 192 1 11), (11, ab_aload 0 12), (12, ab_aload 0 13), (13, ab_getf 10 0 16), (16, ab_iload 1 17), (17, ab_callV 4 219 1 20), (20, ab_callV 10 195 1 23), (23, ab_iret)]
def ab_c159 : Nat → ab_Op := ab_lk2 [(24, ab_l159_0)]
def ab_l160_0 : List (Nat × ab_Op) := [(0, ab_aload 0 1), (1, ab_getf 10 2 4), (4, ab_aload 0 5), (5, ab_getf 10 1 8), (8, ab_callV 7 192 1 11), (11, ab_aload 0 12), (12, ab_aload 0 13), (13, ab_getf 10 0 16), (16, ab_iload 1 17), (17, ab_iload 2 18), (18, ab_callV 4 220 2 21), (21, ab_callV 10 195 1 24), (24, ab_iret)]
def ab_c160 : Nat → ab_Op := ab_lk2 [(25, ab_l160_0)]
def ab_l161_0 : List (Nat × ab_Op) := [(0, ab_aload 0 1), (1, ab_getf 10 2 4), (4, ab_aload 0 5), (5, ab_getf 10 1 8), (8, ab_callV 7 192 1 11), (11, ab_aload 0 12), (12, ab_aload 0 13), (13, ab_getf 10 0 16), (16, ab_iload 1 17), (17, ab_iload 2 18), (18, ab_callV 4 221 2 21), (21, ab_callV 10 195 1 24), (24, ab_iret)]
def ab_c161 : Nat → ab_Op := ab_lk2 [(25, ab_l161_0)]
def ab_l162_0 : List (Nat × ab_Op) := [(0, ab_iload 0 1), (1, ab_if_ne 9 4), (4, ab_iconst (30) 6), (6, ab_goto 21), (9, ab_iload 0 10), (10, ab_iconst (1) 11), (11, ab_icmp_ne 19 14), (14, ab_iconst (8) 16), (16, ab_goto 21), (19, ab_iconst (15) 21), (21, ab_iret)]
def ab_c162 : Nat → ab_Op := ab_lk2 [(22, ab_l162_0)]
def ab_l163_0 : List (Nat × ab_Op) := [(0, ab_aload 0 1), (1, ab_getf 10 2 4), (4, ab_aload 0 5), (5, ab_getf 10 1 8), (8, ab_callV 7 192 1 11), (11, ab_aload 0 12), (12, ab_aload 0 13), (13, ab_getf 10 0 16), (16, ab_iload 1 17), (17, ab_callV 4 222 1 20), (20, ab_callV 10 195 1 23), (23, ab_iret)]
def ab_c163 : Nat → ab_Op := ab_lk2 [(24, ab_l163_0)]
def ab_l164_0 : List (Nat × ab_Op) := [(0, ab_aload 0 1), (1, ab_getf 10 2 4), (4, ab_aload 0 5), (5, ab_getf 10 1 8), (8, ab_callV 7 192 1 11), (11, ab_aload 0 12), (12, ab_aload 0 13), (13, ab_getf 10 0 16), (16, ab_iload 1 17), (17, ab_callV 4 223 1 20), (20, ab_callV 10 195 1 23), (23, ab_iret)]
def ab_c164 : Nat → ab_Op := ab_lk2 [(24, ab_l164_0)]
def ab_l165_0 : List (Nat × ab_Op) := [(0, ab_aload 0 1), (1, ab_getf 10 2 4), (4, ab_aload 0 5), (5, ab_getf 10 1 8), (8, ab_callV 7 192 1 11), (11, ab_aload 0 12), (12, ab_aload 0 13), (13, ab_getf 10 0 16), (16, ab_iload 1 17), (17, ab_callV 4 224 1 20), (20, ab_callV 10 195 1 23), (23, ab_iret)]
def ab_c165 : Nat → ab_Op := ab_lk2 [(24, ab_l165_0)]
def ab_l166_0 : List (Nat × ab_Op) := [(0, ab_aload 0 1), (1, ab_getf 10 2 4), (4, ab_aload 0 5), (5, ab_getf 10 1 8), (8, ab_callV 7 192 1 11), (11, ab_aload 0 12), (12, ab_aload 0 13), (13, ab_getf 10 0 16), (16, ab_iload 1 17), (17, ab_iload 2 18), (18, ab_callV 4 225 2 21), (21, ab_callV 10 195 1 24), (24, ab_iret)]
def ab_c166 : Nat → ab_Op := ab_lk2 [(25, ab_l166_0)]
def ab_l167_0 : List (Nat × ab_Op) := [(0, ab_aload 0 1), (1, ab_iload 1 2), (2, ab_iconst (0) 3), (3, ab_callV 11 155 2 6), (6, ab_if_eq 11 9), (9, ab_iconst (1) 10), (10, ab_zret), (11, ab_aload 0 12), (12, ab_iload 1 13), (13, ab_iconst (4) 14), (14, ab_callV 11 110 2 17), (17, ab_if_ne 22 20), (20, ab_iconst (0) 21), (21, ab_zret), (22, ab_aload 0 23), (23, ab_iconst (5) 24), (24, ab_aload 0 25), (25, ab_iload 1 26), (26, ab_iconst (4) 27), (27, ab_callV 11 110 2 30), (30, ab_callV 11 152 2 33), (33, ab_pop 34), (34, ab_iconst (1) 35), (35, ab_zret)]
def ab_c167 : Nat → ab_Op := ab_lk2 [(36, ab_l167_0)]
def ab_l168_0 : List (Nat × ab_Op) := [(0, ab_aload 0 1), (1, ab_iload 1 2), (2, ab_iload 2 3), (3, ab_iconst (0) 4), (4, ab_callV 11 111 3 7), (7, ab_istore 4 9), (9, ab_aload 0 10), (10, ab_iload 1 11), (11, ab_iload 2 12), (12, ab_iconst (1) 13), (13, ab_callV 11 111 3 16), (16, ab_istore 5 18), (18, ab_aload 0 19), (19, ab_iload 1 20), (20, ab_iload 2 21), (21, ab_iconst (2) 22), (22, ab_callV 11 111 3 25), (25, ab_istore 6 27), (27, ab_aload 0 28), (28, ab_iload 1 29), (29, ab_iload 2 30), (30, ab_aload 0 31), (31, ab_iload 1 32), (32, ab_iload 3 33), (33, ab_iconst (0) 34), (34, ab_callV 11 111 3 37), (37, ab_aload 0 38), (38, ab_iload 1 39), (39, ab_iload 3 40), (40, ab_iconst (1) 41), (41, ab_callV 11 111 3 44), (44, ab_aload 0 45), (45, ab_iload 1 46), (46, ab_iload 3 47), (47, ab_iconst (2) 48), (48, ab_callV 11 111 3 51), (51, ab_callV 11 169 5 54), (54, ab_aload 0 55), (55, ab_iload 1 56), (56, ab_iload 3 57)]
def ab_l168_1 : List (Nat × ab_Op) := [(57, ab_iload 4 59), (59, ab_iload 5 61), (61, ab_iload 6 63), (63, ab_callV 11 169 5 66), (66, ab_vret)]
def ab_c168 : Nat → ab_Op := ab_lk2 [(57, ab_l168_0), (67, ab_l168_1)]
def ab_l169_0 : List (Nat × ab_Op) := [(0, ab_aload 0 1), (1, ab_iload 1 2), (2, ab_iconst (7) 4), (4, ab_iconst (3) 5), (5, ab_iload 2 6), (6, ab_imul 7), (7, ab_iadd 8), (8, ab_iload 3 9), (9, ab_callV 11 157 3 12), (12, ab_aload 0 13), (13, ab_iload 1 14), (14, ab_iconst (7) 16), (16, ab_iconst (3) 17), (17, ab_iload 2 18), (18, ab_imul 19), (19, ab_iadd 20), (20, ab_iconst (1) 21), (21, ab_iadd 22), (22, ab_iload 4 24), (24, ab_callV 11 157 3 27), (27, ab_aload 0 28), (28, ab_iload 1 29), (29, ab_iconst (7) 31), (31, ab_iconst (3) 32), (32, ab_iload 2 33), (33, ab_imul 34), (34, ab_iadd 35), (35, ab_iconst (2) 36), (36, ab_iadd 37), (37, ab_iload 5 39), (39, ab_callV 11 157 3 42), (42, ab_vret)]
def ab_c169 : Nat → ab_Op := ab_lk2 [(43, ab_l169_0)]
def ab_l170_0 : List (Nat × ab_Op) := [(0, ab_aload 0 1), (1, ab_getf 10 2 4), (4, ab_aload 0 5), (5, ab_getf 10 1 8), (8, ab_callV 7 192 1 11), (11, ab_aload 0 12), (12, ab_aload 0 13), (13, ab_getf 10 0 16), (16, ab_iload 1 17), (17, ab_iload 2 18), (18, ab_iload 3 19), (19, ab_callV 4 226 3 22), (22, ab_callV 10 195 1 25), (25, ab_iret)]
def ab_c170 : Nat → ab_Op := ab_lk2 [(26, ab_l170_0)]
def ab_l171_0 : List (Nat × ab_Op) := [(0, ab_aload 0 1), (1, ab_getf 10 2 4), (4, ab_aload 0 5), (5, ab_getf 10 1 8), (8, ab_callV 7 192 1 11), (11, ab_aload 0 12), (12, ab_aload 0 13), (13, ab_getf 10 0 16), (16, ab_iload 1 17), (17, ab_iload 2 18), (18, ab_iload 3 19), (19, ab_iload 4 21), (21, ab_callV 4 227 4 24), (24, ab_callV 10 195 1 27), (27, ab_iret)]
def ab_c171 : Nat → ab_Op := ab_lk2 [(28, ab_l171_0)]
def ab_l172_0 : List (Nat × ab_Op) := [(0, ab_aload 0 1), (1, ab_getf 10 2 4), (4, ab_aload 0 5), (5, ab_getf 10 1 8), (8, ab_callV 7 192 1 11), (11, ab_aload 0 12), (12, ab_aload 0 13), (13, ab_getf 10 0 16), (16, ab_iload 1 17), (17, ab_iload 2 18), (18, ab_callV 4 228 2 21), (21, ab_callV 10 195 1 24), (24, ab_iret)]
def ab_c172 : Nat → ab_Op := ab_lk2 [(25, ab_l172_0)]
def ab_l173_0 : List (Nat × ab_Op) := [(0, ab_aload 0 1), (1, ab_oini 4), (4, ab_aload 0 5), (5, ab_iconst (-1) 6), (6, ab_putf 5 6 (.int) 9), (9, ab_aload 0 10), (10, ab_iconst (12) 12), (12, ab_newa0 14), (14, ab_putf 5 8 (.array .int) 17), (17, ab_aload 0 18), (18, ab_iconst (12) 20), (20, ab_newa0 22), (22, ab_putf 5 9 (.array .int) 25), (25, ab_aload 0 26), (26, ab_iconst (12) 28), (28, ab_newa0 30), (30, ab_putf 5 10 (.array .int) 33), (33, ab_aload 0 34), (34, ab_iconst (12) 36), (36, ab_newa1 38), (38, ab_putf 5 11 (.array .boolean) 41), (41, ab_aload 0 42), (42, ab_iconst (3) 43), (43, ab_newa2 45), (45, ab_putf 5 12 (.array .long) 48), (48, ab_vret)]
def ab_c173 : Nat → ab_Op := ab_lk2 [(49, ab_l173_0)]
def ab_l174_0 : List (Nat × ab_Op) := [(0, ab_aload 0 1), (1, ab_oini 4), (4, ab_aload 0 5), (5, ab_iconst (3) 6), (6, ab_newa0 8), (8, ab_putf 8 0 (.array .int) 11), (11, ab_vret)]
def ab_c174 : Nat → ab_Op := ab_lk2 [(12, ab_l174_0)]
def ab_l175_0 : List (Nat × ab_Op) := [(0, ab_aload 0 1), (1, ab_oini 4), (4, ab_gst (.int 1) 7), (7, ab_if_eq 25 10), (10, ab_aload 0 11), (11, ab_iload 1 12), (12, ab_newa4 14), (14, ab_putf 1 0 (.array .byte) 17), (17, ab_aload 0 18), (18, ab_iconst (0) 19), (19, ab_putf 1 1 (.byte) 22), (22, ab_goto 38), (25, ab_aload 0 26), (26, ab_iload 1 27), (38, ab_vret)]
def ab_c175 : Nat → ab_Op := ab_lk2 [(39, ab_l175_0)]
def ab_l176_0 : List (Nat × ab_Op) := [(0, ab_aload 0 1), (1, ab_iconst (0) 2), (2, ab_putf 7 2 (.int) 5), (5, ab_vret)]
def ab_c176 : Nat → ab_Op := ab_lk2 [(6, ab_l176_0)]
def ab_l177_0 : List (Nat × ab_Op) := [(0, ab_aload 0 1), (1, ab_aload 1 2), (2, ab_getf 5 0 5), (5, ab_putf 5 0 (.int) 8), (8, ab_aload 0 9), (9, ab_aload 1 10), (10, ab_getf 5 1 13), (13, ab_putf 5 1 (.int) 16), (16, ab_aload 0 17), (17, ab_aload 1 18), (18, ab_getf 5 2 21), (21, ab_putf 5 2 (.int) 24), (24, ab_aload 0 25), (25, ab_aload 1 26), (26, ab_getf 5 3 29), (29, ab_putf 5 3 (.int) 32), (32, ab_aload 0 33), (33, ab_aload 1 34), (34, ab_getf 5 4 37), (37, ab_putf 5 4 (.int) 40), (40, ab_aload 0 41), (41, ab_aload 1 42), (42, ab_getf 5 5 45), (45, ab_putf 5 5 (.int) 48), (48, ab_aload 0 49), (49, ab_aload 1 50), (50, ab_getf 5 6 53), (53, ab_putf 5 6 (.int) 56), (56, ab_aload 0 57), (57, ab_aload 1 58), (58, ab_getf 5 7 61), (61, ab_putf 5 7 (.int) 64), (64, ab_iconst (0) 65), (65, ab_istore 2 66), (66, ab_iload 2 67), (67, ab_iconst (12) 69), (69, ab_icmp_ge 101 72), (72, ab_aload 0 73), (73, ab_iload 2 74), (74, ab_aload 1 75)]
def ab_l177_1 : List (Nat × ab_Op) := [(75, ab_getf 5 8 78), (78, ab_iload 2 79), (79, ab_ald 0 80), (80, ab_aload 1 81), (81, ab_getf 5 10 84), (84, ab_iload 2 85), (85, ab_ald 0 86), (86, ab_aload 1 87), (87, ab_getf 5 11 90), (90, ab_iload 2 91), (91, ab_ald 1 92), (92, ab_callV 5 229 4 95), (95, ab_iinc 2 (1) 98), (98, ab_goto 66), (101, ab_aload 1 102), (102, ab_getf 5 12 105), (105, ab_iconst (0) 106), (106, ab_aload 0 107), (107, ab_getf 5 12 110), (110, ab_iconst (0) 111), (111, ab_iconst (3) 112), (112, ab_acopyl 115), (115, ab_vret)]
def ab_c177 : Nat → ab_Op := ab_lk2 [(75, ab_l177_0), (116, ab_l177_1)]
def ab_l178_0 : List (Nat × ab_Op) := [(0, ab_aload 1 1), (1, ab_getf 8 0 4), (4, ab_iconst (0) 5), (5, ab_aload 0 6), (6, ab_getf 8 0 9), (9, ab_iconst (0) 10), (10, ab_iconst (3) 11), (11, ab_acopy 0 .int 14), (14, ab_aload 0 15), (15, ab_aload 1 16), (16, ab_getf 8 1 19), (19, ab_putf 8 1 (.int) 22), (22, ab_vret)]
def ab_c178 : Nat → ab_Op := ab_lk2 [(23, ab_l178_0)]
def ab_l179_0 : List (Nat × ab_Op) := [(0, ab_aload 0 1), (1, ab_aload 0 2), (2, ab_getf 7 1 5), (5, ab_if_le 17 8), (8, ab_aload 0 9), (9, ab_getf 7 1 12), (12, ab_iconst (1) 13), (13, ab_isub 14), (14, ab_goto 19), (17, ab_iconst (8) 19), (19, ab_putf 7 1 (.int) 22), (22, ab_aload 0 23), (23, ab_dup 24), (24, ab_getf 7 2 27), (27, ab_iconst (1) 28), (28, ab_isub 29), (29, ab_putf 7 2 (.int) 32), (32, ab_aload 1 33), (33, ab_aload 0 34), (34, ab_getf 7 0 37), (37, ab_aload 0 38), (38, ab_getf 7 1 41), (41, ab_aald 8 42), (42, ab_callV 9 94 1 45), (45, ab_vret)]
def ab_c179 : Nat → ab_Op := ab_lk2 [(46, ab_l179_0)]
def ab_l180_0 : List (Nat × ab_Op) := [(0, ab_iconst (0) 1), (1, ab_istore 1 2), (2, ab_iconst (0) 3), (3, ab_istore 2 4), (4, ab_iload 2 5), (5, ab_aload 0 6), (6, ab_getf 9 2 9), (9, ab_icmp_ge 30 12), (12, ab_iload 1 13), (13, ab_aload 0 14), (14, ab_getf 9 0 17), (17, ab_iload 2 18), (18, ab_aald 6 19), (19, ab_getf 5 3 22), (22, ab_iadd 23), (23, ab_istore 1 24), (24, ab_iinc 2 (1) 27), (27, ab_goto 4), (30, ab_iload 1 31), (31, ab_iret)]
def ab_c180 : Nat → ab_Op := ab_lk2 [(32, ab_l180_0)]
def ab_l181_0 : List (Nat × ab_Op) := [(0, ab_iconst (0) 1), (1, ab_istore 2 2), (2, ab_iconst (0) 3), (3, ab_istore 3 4), (4, ab_iload 3 5), (5, ab_aload 0 6), (6, ab_getf 9 2 9), (9, ab_icmp_ge 34 12), (12, ab_aload 0 13), (13, ab_getf 9 0 16), (16, ab_iload 3 17), (17, ab_aald 6 18), (18, ab_getf 5 2 21), (21, ab_iload 1 22), (22, ab_icmp_ne 28 25), (25, ab_iinc 2 (1) 28), (28, ab_iinc 3 (1) 31), (31, ab_goto 4), (34, ab_iload 2 35), (35, ab_iret)]
def ab_c181 : Nat → ab_Op := ab_lk2 [(36, ab_l181_0)]
def ab_l182_0 : List (Nat × ab_Op) := [(0, ab_aload 0 1), (1, ab_getf 10 1 4), (4, ab_iload 1 5), (5, ab_callV 9 230 1 8), (8, ab_if_ne 19 11), (11, ab_thr "java/lang/IndexOutOfBoundsException"), (19, ab_aload 0 20), (20, ab_getf 10 1 23), (23, ab_getf 9 0 26), (26, ab_iload 1 27), (27, ab_aald 6 28), (28, ab_aret)]
def ab_c182 : Nat → ab_Op := ab_lk2 [(29, ab_l182_0)]
def ab_l183_0 : List (Nat × ab_Op) := [(0, ab_aload 0 1), (1, ab_aload 0 2), (2, ab_getf 5 3 5), (5, ab_callV 5 215 1 8), (8, ab_iret)]
def ab_c183 : Nat → ab_Op := ab_lk2 [(9, ab_l183_0)]
def ab_l184_0 : List (Nat × ab_Op) := [(0, ab_iconst (0) 1), (1, ab_istore 1 2), (2, ab_iconst (0) 3), (3, ab_istore 2 4), (4, ab_iconst (0) 5), (5, ab_istore 3 6), (6, ab_iload 3 7), (7, ab_aload 0 8), (8, ab_getf 5 3 11), (11, ab_icmp_ge 64 14), (14, ab_aload 0 15), (15, ab_iload 3 16), (16, ab_callV 5 231 1 19), (19, ab_istore 4 21), (21, ab_iconst (0) 22), (22, ab_istore 5 24), (24, ab_iload 5 26), (26, ab_iload 4 28), (28, ab_icmp_ge 58 31), (31, ab_aload 0 32), (32, ab_iload 2 33), (33, ab_aload 0 34), (34, ab_iload 3 35), (35, ab_iload 5 37), (37, ab_callV 5 232 2 40), (40, ab_callV 5 233 2 43), (43, ab_if_ne 49 46), (46, ab_iinc 1 (1) 49), (49, ab_iinc 2 (1) 52), (52, ab_iinc 5 (1) 55), (55, ab_goto 24), (58, ab_iinc 3 (1) 61), (61, ab_goto 6), (64, ab_iload 1 65), (65, ab_iret)]
def ab_c184 : Nat → ab_Op := ab_lk2 [(66, ab_l184_0)]
def ab_l185_0 : List (Nat × ab_Op) := [(0, ab_aload 0 1), (1, ab_callV 1 234 0 4), (4, ab_iret)]
def ab_c185 : Nat → ab_Op := ab_lk2 [(5, ab_l185_0)]
def ab_l186_0 : List (Nat × ab_Op) := [(0, ab_aload 0 1), (1, ab_iload 1 2), (2, ab_callV 1 235 1 5), (5, ab_cret)]
def ab_c186 : Nat → ab_Op := ab_lk2 [(6, ab_l186_0)]
def ab_l187_0 : List (Nat × ab_Op) := [(0, ab_aload 0 1), (1, ab_iload 1 2), (2, ab_callV 1 236 1 5), (5, ab_vret)]
def ab_c187 : Nat → ab_Op := ab_lk2 [(6, ab_l187_0)]
def ab_l188_0 : List (Nat × ab_Op) := [(0, ab_aload 0 1), (1, ab_iload 1 2), (2, ab_callV 1 237 1 5), (5, ab_pop 6), (6, ab_aload 0 7), (7, ab_aret)]
def ab_c188 : Nat → ab_Op := ab_lk2 [(8, ab_l188_0)]
def ab_l189_0 : List (Nat × ab_Op) := [(0, ab_aload 0 1), (1, ab_iload 1 2), (2, ab_callV 1 238 1 5), (5, ab_pop 6), (6, ab_aload 0 7), (7, ab_aret)]
def ab_c189 : Nat → ab_Op := ab_lk2 [(8, ab_l189_0)]
def ab_l190_0 : List (Nat × ab_Op) := [(0, ab_aload 0 1), (1, ab_callV 6 239 0 4), (4, ab_aload 0 5), (5, ab_iconst (0) 6), (6, ab_putf 6 2 (.int) 9), (9, ab_iconst (0) 10), (10, ab_istore 1 11), (11, ab_iload 1 12), (12, ab_iconst (60) 14), (14, ab_icmp_gt 72 17), (17, ab_aload 0 18), (18, ab_callV 6 240 0 21), (21, ab_if_ne 29 24), (24, ab_aload 0 25), (25, ab_getf 6 3 28), (28, ab_iret), (29, ab_aload 0 30), (30, ab_dup 31), (31, ab_getf 6 2 34), (34, ab_iconst (1) 35), (35, ab_iadd 36), (36, ab_putf 6 2 (.int) 39), (39, ab_aload 0 40), (40, ab_getf 6 3 43), (43, ab_aload 0 44), (44, ab_getf 6 1 47), (47, ab_icmp_lt 52 50), (50, ab_iconst (-1) 51), (51, ab_iret), (52, ab_aload 0 53), (53, ab_iconst (59) 55), (55, ab_callV 6 241 1 58), (58, ab_if_ne 66 61), (61, ab_aload 0 62), (62, ab_getf 6 3 65), (65, ab_iret), (66, ab_iinc 1 (1) 69), (69, ab_goto 11), (72, ab_aload 0 73), (73, ab_getf 6 3 76)]
def ab_l190_1 : List (Nat × ab_Op) := [(76, ab_iret)]
def ab_c190 : Nat → ab_Op := ab_lk2 [(76, ab_l190_0), (77, ab_l190_1)]
def ab_l191_0 : List (Nat × ab_Op) := [(0, ab_aload 0 1), (1, ab_iconst (0) 2), (2, ab_putf 6 1 (.int) 5), (5, ab_vret)]
def ab_c191 : Nat → ab_Op := ab_lk2 [(6, ab_l191_0)]
def ab_l192_0 : List (Nat × ab_Op) := [(0, ab_aload 0 1), (1, ab_getf 7 0 4), (4, ab_aload 0 5), (5, ab_getf 7 1 8), (8, ab_aald 8 9), (9, ab_aload 1 10), (10, ab_callV 9 94 1 13), (13, ab_vret)]
def ab_c192 : Nat → ab_Op := ab_lk2 [(14, ab_l192_0)]
def ab_l193_0 : List (Nat × ab_Op) := [(0, ab_aload 1 1), (1, ab_getf 6 2 4), (4, ab_istore 2 5), (5, ab_iload 2 6), (6, ab_istore 3 7), (7, ab_aload 1 8), (8, ab_callV 6 239 0 11), (11, ab_iconst (0) 12), (12, ab_istore 4 14), (14, ab_iload 4 16), (16, ab_iload 2 17), (17, ab_icmp_ge 47 20), (20, ab_iload 3 21), (21, ab_iconst (-1) 22), (22, ab_icmp_eq 47 25), (25, ab_aload 1 26), (26, ab_callV 6 242 0 29), (29, ab_aload 0 30), (30, ab_iload 4 32), (32, ab_putf 4 4 (.int) 35), (35, ab_aload 0 36), (36, ab_aload 1 37), (37, ab_callV 4 243 1 40), (40, ab_istore 3 41), (41, ab_iinc 4 (1) 44), (44, ab_goto 14), (47, ab_aload 0 48), (48, ab_iconst (0) 49), (49, ab_putf 4 4 (.int) 52), (52, ab_iload 3 53), (53, ab_iconst (-1) 54), (54, ab_icmp_ne 61 57), (57, ab_iconst (-1) 58), (58, ab_goto 62), (61, ab_iload 2 62), (62, ab_iret)]
def ab_c193 : Nat → ab_Op := ab_lk2 [(63, ab_l193_0)]
def ab_l194_0 : List (Nat × ab_Op) := [(0, ab_aload 1 1), (1, ab_aload 0 2), (2, ab_getf 7 0 5), (5, ab_aload 0 6), (6, ab_getf 7 1 9), (9, ab_aald 8 10), (10, ab_callV 9 94 1 13), (13, ab_vret)]
def ab_c194 : Nat → ab_Op := ab_lk2 [(14, ab_l194_0)]
def ab_l195_0 : List (Nat × ab_Op) := [(0, ab_iload 1 1), (1, ab_iconst (-1) 2), (2, ab_icmp_ne 13 5), (5, ab_thr "java/lang/UnsupportedOperationException"), (13, ab_aload 0 14), (14, ab_getf 10 2 17), (17, ab_callV 7 244 0 20), (20, ab_iload 1 21), (21, ab_iret)]
def ab_c195 : Nat → ab_Op := ab_lk2 [(22, ab_l195_0)]
def ab_l196_0 : List (Nat × ab_Op) := [(0, ab_iconst (5) 1), (1, ab_aload 0 2), (2, ab_getf 11 18 5), (5, ab_imul 6), (6, ab_istore 1 7), (7, ab_aload 0 8), (8, ab_getf 11 17 11), (11, ab_iload 1 12), (12, ab_aload 0 13), (13, ab_callV 11 245 0 16), (16, ab_ast 0 .int 17), (17, ab_aload 0 18), (18, ab_iconst (103) 20), (20, ab_callV 11 197 1 23), (23, ab_if_eq 32 26), (26, ab_aload 0 27), (27, ab_iload 1 28), (28, ab_callV 11 246 1 31), (31, ab_zret), (32, ab_aload 0 33), (33, ab_iconst (108) 35), (35, ab_callV 11 197 1 38), (38, ab_if_ne 50 41), (41, ab_aload 0 42), (42, ab_iconst (112) 44), (44, ab_callV 11 197 1 47), (47, ab_if_eq 78 50), (50, ab_aload 0 51), (51, ab_iload 1 52), (52, ab_iconst (1) 53), (53, ab_iadd 54), (54, ab_iconst (1) 55), (55, ab_callV 11 247 2 58), (58, ab_if_eq 76 61), (61, ab_aload 0 62), (62, ab_iload 1 63), (63, ab_iconst (2) 64), (64, ab_iadd 65), (65, ab_iconst (1) 66), (66, ab_callV 11 247 2 69)]
def ab_l196_1 : List (Nat × ab_Op) := [(69, ab_if_eq 76 72), (72, ab_iconst (1) 73), (73, ab_goto 77), (76, ab_iconst (0) 77), (77, ab_zret), (78, ab_aload 0 79), (79, ab_iconst (101) 81), (81, ab_callV 11 197 1 84), (84, ab_if_eq 124 87), (87, ab_aload 0 88), (88, ab_iload 1 89), (89, ab_iconst (1) 90), (90, ab_iadd 91), (91, ab_iconst (1) 92), (92, ab_callV 11 247 2 95), (95, ab_if_eq 122 98), (98, ab_aload 0 99), (99, ab_iconst (47) 101), (101, ab_callV 11 197 1 104), (104, ab_if_eq 122 107), (107, ab_aload 0 108), (108, ab_iload 1 109), (109, ab_iconst (2) 110), (110, ab_iadd 111), (111, ab_iconst (2) 112), (112, ab_callV 11 247 2 115), (115, ab_if_eq 122 118), (118, ab_iconst (1) 119), (119, ab_goto 123), (122, ab_iconst (0) 123), (123, ab_zret), (124, ab_aload 0 125), (125, ab_iconst (119) 127), (127, ab_callV 11 197 1 130), (130, ab_if_eq 142 133), (133, ab_aload 0 134), (134, ab_iload 1 135), (135, ab_iconst (1) 136), (136, ab_iadd 137), (137, ab_iconst (2) 138)]
def ab_l196_2 : List (Nat × ab_Op) := [(138, ab_callV 11 247 2 141), (141, ab_zret), (142, ab_aload 0 143), (143, ab_iconst (115) 145), (145, ab_callV 11 197 1 148), (148, ab_if_ne 178 151), (151, ab_aload 0 152), (152, ab_iconst (117) 154), (154, ab_callV 11 197 1 157), (157, ab_if_ne 178 160), (160, ab_aload 0 161), (161, ab_iconst (116) 163), (163, ab_callV 11 197 1 166), (166, ab_if_ne 178 169), (169, ab_aload 0 170), (170, ab_iconst (100) 172), (172, ab_callV 11 197 1 175), (175, ab_if_eq 193 178), (178, ab_aload 0 179), (179, ab_iload 1 180), (180, ab_iconst (1) 181), (181, ab_iadd 182), (182, ab_iconst (1) 183), (183, ab_callV 11 247 2 186), (186, ab_if_eq 193 189), (189, ab_iconst (1) 190), (190, ab_goto 194), (193, ab_iconst (0) 194), (194, ab_zret)]
def ab_c196 : Nat → ab_Op := ab_lk2 [(69, ab_l196_0), (138, ab_l196_1), (195, ab_l196_2)]
def ab_l197_0 : List (Nat × ab_Op) := [(0, ab_aload 0 1), (1, ab_callV 11 245 0 4), (4, ab_iload 1 5), (5, ab_icmp_eq 10 8), (8, ab_iconst (0) 9), (9, ab_zret), (10, ab_aload 0 11), (11, ab_dup 12), (12, ab_getf 11 16 15), (15, ab_iconst (1) 16), (16, ab_iadd 17), (17, ab_putf 11 16 (.int) 20), (20, ab_iconst (1) 21), (21, ab_zret)]
def ab_c197 : Nat → ab_Op := ab_lk2 [(22, ab_l197_0)]
def ab_l198_0 : List (Nat × ab_Op) := [(0, ab_aload 0 1), (1, ab_getf 6 1 4), (4, ab_iconst (60) 6), (6, ab_icmp_lt 14 9), (9, ab_aload 0 10), (10, ab_getf 6 1 13), (13, ab_iret), (14, ab_aload 0 15), (15, ab_getf 6 0 18), (18, ab_aload 0 19), (19, ab_getf 6 1 22), (22, ab_iload 1 23), (23, ab_ast 3 .char 24), (24, ab_aload 0 25), (25, ab_dup 26), (26, ab_getf 6 1 29), (29, ab_iconst (1) 30), (30, ab_iadd 31), (31, ab_putf 6 1 (.int) 34), (34, ab_aload 0 35), (35, ab_getf 6 1 38), (38, ab_iret)]
def ab_c198 : Nat → ab_Op := ab_lk2 [(39, ab_l198_0)]
def ab_l199_0 : List (Nat × ab_Op) := [(0, ab_aload 0 1), (1, ab_callV 5 184 0 4), (4, ab_iconst (97) 6), (6, ab_imul 7), (7, ab_aload 0 8), (8, ab_callV 5 211 0 11), (11, ab_iadd 12), (12, ab_iret)]
def ab_c199 : Nat → ab_Op := ab_lk2 [(13, ab_l199_0)]
def ab_l200_0 : List (Nat × ab_Op) := [(0, ab_iconst (0) 1), (1, ab_istore 2 2), (2, ab_iconst (0) 3), (3, ab_istore 3 4), (4, ab_iload 3 5), (5, ab_aload 0 6), (6, ab_getf 10 1 9), (9, ab_getf 9 2 12), (12, ab_icmp_ge 71 15), (15, ab_aload 0 16), (16, ab_getf 10 8 19), (19, ab_iload 3 20), (20, ab_ald 0 21), (21, ab_aload 0 22), (22, ab_getf 10 8 25), (25, ab_iload 1 26), (26, ab_ald 0 27), (27, ab_icmp_le 34 30), (30, ab_iconst (1) 31), (31, ab_goto 35), (34, ab_iconst (0) 35), (35, ab_istore 4 37), (37, ab_iload 4 39), (39, ab_if_ne 62 42), (42, ab_aload 0 43), (43, ab_getf 10 8 46), (46, ab_iload 3 47), (47, ab_ald 0 48), (48, ab_aload 0 49), (49, ab_getf 10 8 52), (52, ab_iload 1 53), (53, ab_ald 0 54), (54, ab_icmp_ne 65 57), (57, ab_iload 3 58), (58, ab_iload 1 59), (59, ab_icmp_ge 65 62), (62, ab_iinc 2 (1) 65), (65, ab_iinc 3 (1) 68), (68, ab_goto 4), (71, ab_iload 2 72)]
def ab_l200_1 : List (Nat × ab_Op) := [(72, ab_iret)]
def ab_c200 : Nat → ab_Op := ab_lk2 [(72, ab_l200_0), (73, ab_l200_1)]
def ab_l201_0 : List (Nat × ab_Op) := [(0, ab_aload 0 1), (1, ab_iload 1 2), (2, ab_callV 10 203 1 5), (5, ab_astore 2 6), (6, ab_aload 2 7), (7, ab_getf 8 1 10), (10, ab_if_ne 21 13), (13, ab_thr "java/util/NoSuchElementException"), (21, ab_aload 2 22), (22, ab_aret)]
def ab_c201 : Nat → ab_Op := ab_lk2 [(23, ab_l201_0)]
def ab_l202_0 : List (Nat × ab_Op) := [(0, ab_iconst (0) 1), (1, ab_istore 3 2), (2, ab_iload 3 3), (3, ab_aload 1 4), (4, ab_getf 8 1 7), (7, ab_icmp_ge 39 10), (10, ab_aload 0 11), (11, ab_getf 10 1 14), (14, ab_getf 9 0 17), (17, ab_aload 1 18), (18, ab_getf 8 0 21), (21, ab_iload 3 22), (22, ab_ald 0 23), (23, ab_aald 6 24), (24, ab_getf 5 7 27), (27, ab_iload 2 28), (28, ab_icmp_le 33 31), (31, ab_iconst (0) 32), (32, ab_zret), (33, ab_iinc 3 (1) 36), (36, ab_goto 2), (39, ab_iconst (1) 40), (40, ab_zret)]
def ab_c202 : Nat → ab_Op := ab_lk2 [(41, ab_l202_0)]
def ab_l203_0 : List (Nat × ab_Op) := [(0, ab_aload 0 1), (1, ab_getf 10 1 4), (4, ab_iload 1 5), (5, ab_callV 9 248 1 8), (8, ab_if_ne 19 11), (11, ab_thr "java/lang/IndexOutOfBoundsException"), (19, ab_aload 0 20), (20, ab_getf 10 1 23), (23, ab_getf 9 1 26), (26, ab_iload 1 27), (27, ab_aald 7 28), (28, ab_aret)]
def ab_c203 : Nat → ab_Op := ab_lk2 [(29, ab_l203_0)]
def ab_l204_0 : List (Nat × ab_Op) := [(0, ab_aload 0 1), (1, ab_iload 1 2), (2, ab_callV 10 182 1 5), (5, ab_astore 3 6), (6, ab_aload 3 7), (7, ab_iload 2 8), (8, ab_callV 5 249 1 11), (11, ab_if_ne 22 14), (14, ab_thr "java/lang/IndexOutOfBoundsException"), (22, ab_aload 3 23), (23, ab_aret)]
def ab_c204 : Nat → ab_Op := ab_lk2 [(24, ab_l204_0)]
def ab_l205_0 : List (Nat × ab_Op) := [(0, ab_iload 1 1), (1, ab_iconst (64) 3), (3, ab_idiv 4), (4, ab_istore 2 5), (5, ab_iload 1 6), (6, ab_if_lt 14 9), (9, ab_iload 2 10), (10, ab_iconst (3) 11), (11, ab_icmp_lt 16 14), (14, ab_iconst (0) 15), (15, ab_zret), (16, ab_aload 0 17), (17, ab_getf 5 12 20), (20, ab_iload 2 21), (21, ab_lald 22), (22, ab_iload 1 23), (23, ab_iconst (64) 25), (25, ab_irem 26), (26, ab_lushr 27), (27, ab_lconst 1 28), (28, ab_land 29), (29, ab_lconst 1 30), (30, ab_lcmp 31), (31, ab_if_ne 38 34), (34, ab_iconst (1) 35), (35, ab_goto 39), (38, ab_iconst (0) 39), (39, ab_zret)]
def ab_c205 : Nat → ab_Op := ab_lk2 [(40, ab_l205_0)]
def ab_l206_0 : List (Nat × ab_Op) := [(0, ab_iconst (0) 1), (1, ab_istore 1 2), (2, ab_aload 0 3), (3, ab_getf 5 4 6), (6, ab_istore 2 7), (7, ab_iload 2 8), (8, ab_aload 0 9), (9, ab_getf 5 3 12), (12, ab_icmp_ge 29 15), (15, ab_iload 1 16), (16, ab_aload 0 17), (17, ab_iload 2 18), (18, ab_callV 5 250 1 21), (21, ab_iadd 22), (22, ab_istore 1 23), (23, ab_iinc 2 (1) 26), (26, ab_goto 7), (29, ab_iload 1 30), (30, ab_iret)]
def ab_c206 : Nat → ab_Op := ab_lk2 [(31, ab_l206_0)]
def ab_l207_0 : List (Nat × ab_Op) := [(0, ab_aload 0 1), (1, ab_iload 1 2), (2, ab_callV 10 182 1 5), (5, ab_astore 3 6), (6, ab_aload 3 7), (7, ab_iload 2 8), (8, ab_callV 5 251 1 11), (11, ab_if_ne 22 14), (14, ab_thr "java/lang/IndexOutOfBoundsException"), (22, ab_aload 3 23), (23, ab_aret)]
def ab_c207 : Nat → ab_Op := ab_lk2 [(24, ab_l207_0)]
def ab_l208_0 : List (Nat × ab_Op) := [(0, ab_iconst (0) 1), (1, ab_istore 2 2), (2, ab_iconst (0) 3), (3, ab_istore 3 4), (4, ab_iload 3 5), (5, ab_aload 0 6), (6, ab_getf 5 3 9), (9, ab_icmp_ge 68 12), (12, ab_aload 0 13), (13, ab_getf 5 8 16), (16, ab_iload 3 17), (17, ab_ald 0 18), (18, ab_aload 0 19), (19, ab_getf 5 8 22), (22, ab_iload 1 23), (23, ab_ald 0 24), (24, ab_icmp_ne 31 27), (27, ab_iconst (1) 28), (28, ab_goto 32), (31, ab_iconst (0) 32), (32, ab_istore 4 34), (34, ab_aload 0 35), (35, ab_getf 5 8 38), (38, ab_iload 3 39), (39, ab_ald 0 40), (40, ab_aload 0 41), (41, ab_getf 5 8 44), (44, ab_iload 1 45), (45, ab_ald 0 46), (46, ab_icmp_lt 59 49), (49, ab_iload 4 51), (51, ab_if_eq 62 54), (54, ab_iload 3 55), (55, ab_iload 1 56), (56, ab_icmp_ge 62 59), (59, ab_iinc 2 (1) 62), (62, ab_iinc 3 (1) 65), (65, ab_goto 4), (68, ab_iload 2 69), (69, ab_iret)]
def ab_c208 : Nat → ab_Op := ab_lk2 [(70, ab_l208_0)]
def ab_l209_0 : List (Nat × ab_Op) := [(0, ab_iconst (0) 1), (1, ab_istore 1 2), (2, ab_iconst (1) 3), (3, ab_istore 2 4), (4, ab_iload 2 5), (5, ab_iconst (114) 7), (7, ab_icmp_gt 28 10), (10, ab_aload 0 11), (11, ab_iload 2 12), (12, ab_callV 5 252 1 15), (15, ab_iconst (2) 16), (16, ab_icmp_lt 22 19), (19, ab_iinc 1 (1) 22), (22, ab_iinc 2 (1) 25), (25, ab_goto 4), (28, ab_iload 1 29), (29, ab_iret)]
def ab_c209 : Nat → ab_Op := ab_lk2 [(30, ab_l209_0)]
def ab_l210_0 : List (Nat × ab_Op) := [(0, ab_iconst (0) 1), (1, ab_istore 2 2), (2, ab_iconst (1) 3), (3, ab_istore 3 4), (4, ab_iload 3 5), (5, ab_aload 0 6), (6, ab_getf 5 0 9), (9, ab_icmp_gt 36 12), (12, ab_aload 0 13), (13, ab_iload 3 14), (14, ab_callV 5 252 1 17), (17, ab_if_ne 30 20), (20, ab_iload 2 21), (21, ab_iload 1 22), (22, ab_icmp_ne 27 25), (25, ab_iload 3 26), (26, ab_iret), (27, ab_iinc 2 (1) 30), (30, ab_iinc 3 (1) 33), (33, ab_goto 4), (36, ab_iconst (-1) 37), (37, ab_iret)]
def ab_c210 : Nat → ab_Op := ab_lk2 [(38, ab_l210_0)]
def ab_l211_0 : List (Nat × ab_Op) := [(0, ab_iconst (0) 1), (1, ab_istore 1 2), (2, ab_iconst (1) 3), (3, ab_istore 2 4), (4, ab_iload 2 5), (5, ab_aload 0 6), (6, ab_getf 5 0 9), (9, ab_icmp_gt 29 12), (12, ab_aload 0 13), (13, ab_iload 2 14), (14, ab_callV 5 252 1 17), (17, ab_if_ne 23 20), (20, ab_iinc 1 (1) 23), (23, ab_iinc 2 (1) 26), (26, ab_goto 4), (29, ab_iload 1 30), (30, ab_iret)]
def ab_c211 : Nat → ab_Op := ab_lk2 [(31, ab_l211_0)]
def ab_l212_0 : List (Nat × ab_Op) := [(0, ab_iconst (0) 1), (1, ab_istore 2 2), (2, ab_iconst (0) 3), (3, ab_istore 3 4), (4, ab_iload 3 5), (5, ab_aload 0 6), (6, ab_getf 5 3 9), (9, ab_icmp_ge 85 12), (12, ab_aload 0 13), (13, ab_iload 3 14), (14, ab_callV 5 231 1 17), (17, ab_istore 4 19), (19, ab_iconst (0) 20), (20, ab_istore 5 22), (22, ab_iload 5 24), (24, ab_iload 4 26), (26, ab_icmp_ge 79 29), (29, ab_aload 0 30), (30, ab_iload 2 31), (31, ab_aload 0 32), (32, ab_iload 3 33), (33, ab_iload 5 35), (35, ab_callV 5 232 2 38), (38, ab_callV 5 233 2 41), (41, ab_if_ne 48 44), (44, ab_iconst (1) 45), (45, ab_goto 49), (48, ab_iconst (0) 49), (49, ab_istore 6 51), (51, ab_iload 6 53), (53, ab_if_eq 70 56), (56, ab_iload 1 57), (57, ab_if_eq 68 60), (60, ab_aload 0 61), (61, ab_iload 2 62), (62, ab_callV 5 205 1 65), (65, ab_if_ne 70 68), (68, ab_iload 2 69), (69, ab_iret), (70, ab_iinc 2 (1) 73)]
def ab_l212_1 : List (Nat × ab_Op) := [(73, ab_iinc 5 (1) 76), (76, ab_goto 22), (79, ab_iinc 3 (1) 82), (82, ab_goto 4), (85, ab_iconst (-1) 86), (86, ab_iret)]
def ab_c212 : Nat → ab_Op := ab_lk2 [(73, ab_l212_0), (87, ab_l212_1)]
def ab_l213_0 : List (Nat × ab_Op) := [(0, ab_iconst (0) 1), (1, ab_istore 1 2), (2, ab_iconst (0) 3), (3, ab_istore 2 4), (4, ab_iconst (0) 5), (5, ab_istore 3 6), (6, ab_iload 3 7), (7, ab_aload 0 8), (8, ab_getf 5 3 11), (11, ab_icmp_ge 55 14), (14, ab_iload 1 15), (15, ab_aload 0 16), (16, ab_getf 5 11 19), (19, ab_iload 3 20), (20, ab_ald 1 21), (21, ab_if_eq 33 24), (24, ab_aload 0 25), (25, ab_iload 3 26), (26, ab_iload 2 27), (27, ab_callV 5 253 2 30), (30, ab_goto 39), (33, ab_aload 0 34), (34, ab_iload 3 35), (35, ab_iload 2 36), (36, ab_callV 5 254 2 39), (39, ab_iadd 40), (40, ab_istore 1 41), (41, ab_iload 2 42), (42, ab_aload 0 43), (43, ab_iload 3 44), (44, ab_callV 5 231 1 47), (47, ab_iadd 48), (48, ab_istore 2 49), (49, ab_iinc 3 (1) 52), (52, ab_goto 6), (55, ab_iload 2 56), (56, ab_iload 1 57), (57, ab_isub 58), (58, ab_iret)]
def ab_c213 : Nat → ab_Op := ab_lk2 [(59, ab_l213_0)]
def ab_l214_0 : List (Nat × ab_Op) := [(0, ab_iload 1 1), (1, ab_if_ge 6 4), (4, ab_iconst (-1) 5), (5, ab_iret), (6, ab_iconst (0) 7), (7, ab_istore 2 8), (8, ab_iconst (0) 9), (9, ab_istore 3 10), (10, ab_iload 3 11), (11, ab_aload 0 12), (12, ab_getf 5 3 15), (15, ab_icmp_ge 53 18), (18, ab_aload 0 19), (19, ab_iload 3 20), (20, ab_callV 5 231 1 23), (23, ab_istore 4 25), (25, ab_iload 1 26), (26, ab_iload 2 27), (27, ab_iload 4 29), (29, ab_iadd 30), (30, ab_icmp_ge 42 33), (33, ab_aload 0 34), (34, ab_iload 3 35), (35, ab_iload 1 36), (36, ab_iload 2 37), (37, ab_isub 38), (38, ab_callV 5 232 2 41), (41, ab_iret), (42, ab_iload 2 43), (43, ab_iload 4 45), (45, ab_iadd 46), (46, ab_istore 2 47), (47, ab_iinc 3 (1) 50), (50, ab_goto 10), (53, ab_iconst (-1) 54), (54, ab_iret)]
def ab_c214 : Nat → ab_Op := ab_lk2 [(55, ab_l214_0)]
def ab_l215_0 : List (Nat × ab_Op) := [(0, ab_iconst (0) 1), (1, ab_istore 2 2), (2, ab_iconst (0) 3), (3, ab_istore 3 4), (4, ab_iload 3 5), (5, ab_iload 1 6), (6, ab_icmp_ge 23 9), (9, ab_iload 2 10), (10, ab_aload 0 11), (11, ab_iload 3 12), (12, ab_callV 5 231 1 15), (15, ab_iadd 16), (16, ab_istore 2 17), (17, ab_iinc 3 (1) 20), (20, ab_goto 4), (23, ab_iload 2 24), (24, ab_iret)]
def ab_c215 : Nat → ab_Op := ab_lk2 [(25, ab_l215_0)]
def ab_l216_0 : List (Nat × ab_Op) := [(0, ab_iload 1 1), (1, ab_iconst (1) 2), (2, ab_iconst (60) 4), (4, ab_callS 255 3 7), (7, ab_if_ne 17 10), (10, ab_aload 0 11), (11, ab_iconst (1) 12), (12, ab_iconst (0) 13), (13, ab_callV 4 256 2 16), (16, ab_iret), (17, ab_iconst (0) 18), (18, ab_istore 2 19), (19, ab_iconst (0) 20), (20, ab_istore 3 21), (21, ab_iload 3 22), (22, ab_iload 1 23), (23, ab_icmp_ge 42 26), (26, ab_iload 2 27), (27, ab_aload 0 28), (28, ab_getf 4 0 31), (31, ab_callV 9 257 0 34), (34, ab_iadd 35), (35, ab_istore 2 36), (36, ab_iinc 3 (1) 39), (39, ab_goto 21), (42, ab_iload 2 43), (43, ab_iret)]
def ab_c216 : Nat → ab_Op := ab_lk2 [(44, ab_l216_0)]
def ab_l217_0 : List (Nat × ab_Op) := [(0, ab_aload 0 1), (1, ab_iload 1 2), (2, ab_iconst (3) 3), (3, ab_callV 4 258 2 6), (6, ab_if_eq 11 9), (9, ab_iconst (-1) 10), (10, ab_iret), (11, ab_aload 0 12), (12, ab_getf 4 0 15), (15, ab_getf 9 0 18), (18, ab_iload 1 19), (19, ab_aald 6 20), (20, ab_astore 2 21), (21, ab_aload 2 22), (22, ab_iconst (1) 23), (23, ab_callV 5 212 1 26), (26, ab_istore 3 27), (27, ab_iload 3 28), (28, ab_iconst (-1) 29), (29, ab_icmp_eq 40 32), (32, ab_aload 0 33), (33, ab_iconst (14) 35), (35, ab_iload 3 36), (36, ab_callV 4 256 2 39), (39, ab_iret), (40, ab_aload 2 41), (41, ab_callV 5 211 0 44), (44, ab_istore 4 46), (46, ab_iload 4 48), (48, ab_aload 0 49), (49, ab_getf 4 0 52), (52, ab_getf 9 4 55), (55, ab_icmp_le 75 58), (58, ab_aload 0 59), (59, ab_iconst (15) 61), (61, ab_iload 4 63), (63, ab_aload 0 64), (64, ab_getf 4 0 67), (67, ab_getf 9 4 70), (70, ab_isub 71)]
def ab_l217_1 : List (Nat × ab_Op) := [(71, ab_callV 4 256 2 74), (74, ab_iret), (75, ab_aload 2 76), (76, ab_callV 5 183 0 79), (79, ab_aload 2 80), (80, ab_callV 5 184 0 83), (83, ab_isub 84), (84, ab_iconst (8) 86), (86, ab_idiv 87), (87, ab_istore 5 89), (89, ab_aload 0 90), (90, ab_getf 4 0 93), (93, ab_dup 94), (94, ab_getf 9 4 97), (97, ab_iload 5 99), (99, ab_iload 4 101), (101, ab_isub 102), (102, ab_iadd 103), (103, ab_putf 9 4 (.int) 106), (106, ab_aload 0 107), (107, ab_getf 4 0 110), (110, ab_dup 111), (111, ab_getf 9 9 114), (114, ab_iload 5 116), (116, ab_iadd 117), (117, ab_putf 9 9 (.int) 120), (120, ab_aload 2 121), (121, ab_iconst (4) 122), (122, ab_putf 5 2 (.int) 125), (125, ab_iload 5 127), (127, ab_iret)]
def ab_c217 : Nat → ab_Op := ab_lk2 [(71, ab_l217_0), (128, ab_l217_1)]
def ab_l218_0 : List (Nat × ab_Op) := [(0, ab_aload 0 1), (1, ab_iload 1 2), (2, ab_iconst (3) 3), (3, ab_callV 4 258 2 6), (6, ab_if_eq 11 9), (9, ab_iconst (-1) 10), (10, ab_iret), (11, ab_aload 0 12), (12, ab_getf 4 0 15), (15, ab_getf 9 0 18), (18, ab_iload 1 19), (19, ab_aald 6 20), (20, ab_astore 3 21), (21, ab_aload 3 22), (22, ab_iload 2 23), (23, ab_callV 5 259 1 26), (26, ab_if_ne 37 29), (29, ab_aload 0 30), (30, ab_iconst (12) 32), (32, ab_iload 2 33), (33, ab_callV 4 256 2 36), (36, ab_iret), (37, ab_aload 3 38), (38, ab_iload 2 39), (39, ab_callV 5 205 1 42), (42, ab_if_eq 53 45), (45, ab_aload 0 46), (46, ab_iconst (13) 48), (48, ab_iload 2 49), (49, ab_callV 4 256 2 52), (52, ab_iret), (53, ab_aload 3 54), (54, ab_iload 2 55), (55, ab_callV 5 260 1 58), (58, ab_aload 0 59), (59, ab_getf 4 0 62), (62, ab_dup 63), (63, ab_getf 9 8 66), (66, ab_iconst (1) 67), (67, ab_iadd 68)]
def ab_l218_1 : List (Nat × ab_Op) := [(68, ab_putf 9 8 (.int) 71), (71, ab_aload 3 72), (72, ab_getf 5 5 75), (75, ab_iret)]
def ab_c218 : Nat → ab_Op := ab_lk2 [(68, ab_l218_0), (76, ab_l218_1)]
def ab_l219_0 : List (Nat × ab_Op) := [(0, ab_aload 0 1), (1, ab_getf 4 0 4), (4, ab_iload 1 5), (5, ab_callV 9 248 1 8), (8, ab_if_ne 18 11), (11, ab_aload 0 12), (12, ab_iconst (3) 13), (13, ab_iload 1 14), (14, ab_callV 4 256 2 17), (17, ab_iret), (18, ab_aload 0 19), (19, ab_getf 4 0 22), (22, ab_getf 9 1 25), (25, ab_iload 1 26), (26, ab_aald 7 27), (27, ab_astore 2 28), (28, ab_aload 2 29), (29, ab_getf 8 1 32), (32, ab_if_ne 43 35), (35, ab_aload 0 36), (36, ab_iconst (11) 38), (38, ab_iload 1 39), (39, ab_callV 4 256 2 42), (42, ab_iret), (43, ab_aload 2 44), (44, ab_getf 8 0 47), (47, ab_aload 2 48), (48, ab_getf 8 1 51), (51, ab_iconst (1) 52), (52, ab_isub 53), (53, ab_ald 0 54), (54, ab_istore 3 55), (55, ab_aload 0 56), (56, ab_getf 4 0 59), (59, ab_getf 9 0 62), (62, ab_iload 3 63), (63, ab_aald 6 64), (64, ab_astore 4 66), (66, ab_aload 4 68), (68, ab_getf 5 7 71)]
def ab_l219_1 : List (Nat × ab_Op) := [(71, ab_if_le 86 74), (74, ab_aload 0 75), (75, ab_iconst (10) 77), (77, ab_aload 4 79), (79, ab_getf 5 7 82), (82, ab_callV 4 256 2 85), (85, ab_iret), (86, ab_aload 2 87), (87, ab_dup 88), (88, ab_getf 8 1 91), (91, ab_iconst (1) 92), (92, ab_isub 93), (93, ab_putf 8 1 (.int) 96), (96, ab_aload 4 98), (98, ab_iconst (3) 99), (99, ab_putf 5 2 (.int) 102), (102, ab_iload 3 103), (103, ab_iret)]
def ab_c219 : Nat → ab_Op := ab_lk2 [(71, ab_l219_0), (104, ab_l219_1)]
def ab_l220_0 : List (Nat × ab_Op) := [(0, ab_aload 0 1), (1, ab_getf 4 0 4), (4, ab_iload 1 5), (5, ab_callV 9 230 1 8), (8, ab_if_ne 18 11), (11, ab_aload 0 12), (12, ab_iconst (3) 13), (13, ab_iload 1 14), (14, ab_callV 4 256 2 17), (17, ab_iret), (18, ab_aload 0 19), (19, ab_getf 4 0 22), (22, ab_iload 2 23), (23, ab_callV 9 248 1 26), (26, ab_if_ne 36 29), (29, ab_aload 0 30), (30, ab_iconst (3) 31), (31, ab_iload 2 32), (32, ab_callV 4 256 2 35), (35, ab_iret), (36, ab_aload 0 37), (37, ab_iload 1 38), (38, ab_iconst (1) 39), (39, ab_callV 4 258 2 42), (42, ab_if_eq 47 45), (45, ab_iconst (-1) 46), (46, ab_iret), (47, ab_aload 0 48), (48, ab_getf 4 0 51), (51, ab_getf 9 1 54), (54, ab_iload 2 55), (55, ab_aald 7 56), (56, ab_astore 3 57), (57, ab_aload 3 58), (58, ab_getf 8 1 61), (61, ab_iconst (3) 62), (62, ab_icmp_lt 72 65), (65, ab_aload 0 66), (66, ab_iconst (2) 67), (67, ab_iconst (3) 68)]
def ab_l220_1 : List (Nat × ab_Op) := [(68, ab_callV 4 256 2 71), (71, ab_iret), (72, ab_aload 3 73), (73, ab_getf 8 0 76), (76, ab_aload 3 77), (77, ab_getf 8 1 80), (80, ab_iload 1 81), (81, ab_ast 0 .int 82), (82, ab_aload 3 83), (83, ab_dup 84), (84, ab_getf 8 1 87), (87, ab_iconst (1) 88), (88, ab_iadd 89), (89, ab_putf 8 1 (.int) 92), (92, ab_aload 0 93), (93, ab_getf 4 0 96), (96, ab_getf 9 0 99), (99, ab_iload 1 100), (100, ab_aald 6 101), (101, ab_iconst (2) 102), (102, ab_putf 5 2 (.int) 105), (105, ab_aload 3 106), (106, ab_getf 8 1 109), (109, ab_iret)]
def ab_c220 : Nat → ab_Op := ab_lk2 [(68, ab_l220_0), (110, ab_l220_1)]
def ab_l221_0 : List (Nat × ab_Op) := [(0, ab_aload 0 1), (1, ab_getf 4 0 4), (4, ab_iload 1 5), (5, ab_callV 9 230 1 8), (8, ab_if_ne 18 11), (11, ab_aload 0 12), (12, ab_iconst (3) 13), (13, ab_iload 1 14), (14, ab_callV 4 256 2 17), (17, ab_iret), (18, ab_iload 2 19), (19, ab_if_lt 30 22), (22, ab_iload 2 23), (23, ab_gst (.ref 1) 26), (26, ab_lmin 27), (27, ab_icmp_lt 37 30), (30, ab_aload 0 31), (31, ab_iconst (3) 32), (32, ab_iload 2 33), (33, ab_callV 4 256 2 36), (36, ab_iret), (37, ab_aload 0 38), (38, ab_iload 1 39), (39, ab_iconst (0) 40), (40, ab_callV 4 258 2 43), (43, ab_if_eq 48 46), (46, ab_iconst (-1) 47), (47, ab_iret), (48, ab_aload 0 49), (49, ab_getf 4 0 52), (52, ab_getf 9 0 55), (55, ab_iload 1 56), (56, ab_aald 6 57), (57, ab_astore 3 58), (58, ab_aload 3 59), (59, ab_getf 5 3 62), (62, ab_if_ne 73 65), (65, ab_aload 0 66), (66, ab_iconst (9) 68), (68, ab_iconst (0) 69)]
def ab_l221_1 : List (Nat × ab_Op) := [(69, ab_callV 4 256 2 72), (72, ab_iret), (73, ab_aload 3 74), (74, ab_getf 5 4 77), (77, ab_aload 3 78), (78, ab_getf 5 3 81), (81, ab_icmp_ge 95 84), (84, ab_aload 0 85), (85, ab_iconst (8) 87), (87, ab_aload 3 88), (88, ab_getf 5 4 91), (91, ab_callV 4 256 2 94), (94, ab_iret), (95, ab_aload 3 96), (96, ab_iconst (1) 97), (97, ab_putf 5 2 (.int) 100), (100, ab_aload 3 101), (101, ab_iload 2 102), (102, ab_putf 5 6 (.int) 105), (105, ab_aload 3 106), (106, ab_gst (.ref 1) 109), (109, ab_iload 2 110), (110, ab_tmin 111), (111, ab_putf 5 7 (.int) 114), (114, ab_aload 3 115), (115, ab_getf 5 7 118), (118, ab_iret)]
def ab_c221 : Nat → ab_Op := ab_lk2 [(69, ab_l221_0), (119, ab_l221_1)]
def ab_l222_0 : List (Nat × ab_Op) := [(0, ab_aload 0 1), (1, ab_iload 1 2), (2, ab_iconst (0) 3), (3, ab_callV 4 258 2 6), (6, ab_if_eq 11 9), (9, ab_iconst (-1) 10), (10, ab_iret), (11, ab_aload 0 12), (12, ab_getf 4 0 15), (15, ab_getf 9 0 18), (18, ab_iload 1 19), (19, ab_aald 6 20), (20, ab_astore 2 21), (21, ab_aload 2 22), (22, ab_getf 5 4 25), (25, ab_if_ne 39 28), (28, ab_aload 0 29), (29, ab_iconst (6) 31), (31, ab_aload 2 32), (32, ab_getf 5 3 35), (35, ab_callV 4 256 2 38), (38, ab_iret), (39, ab_aload 2 40), (40, ab_dup 41), (41, ab_getf 5 4 44), (44, ab_iconst (1) 45), (45, ab_isub 46), (46, ab_putf 5 4 (.int) 49), (49, ab_aload 0 50), (50, ab_getf 4 0 53), (53, ab_dup 54), (54, ab_getf 9 7 57), (57, ab_iconst (1) 58), (58, ab_iadd 59), (59, ab_putf 9 7 (.int) 62), (62, ab_aload 2 63), (63, ab_getf 5 4 66), (66, ab_iret)]
def ab_c222 : Nat → ab_Op := ab_lk2 [(67, ab_l222_0)]
def ab_l223_0 : List (Nat × ab_Op) := [(0, ab_aload 0 1), (1, ab_iload 1 2), (2, ab_iconst (0) 3), (3, ab_callV 4 258 2 6), (6, ab_if_eq 11 9), (9, ab_iconst (-1) 10), (10, ab_iret), (11, ab_aload 0 12), (12, ab_getf 4 0 15), (15, ab_getf 9 0 18), (18, ab_iload 1 19), (19, ab_aald 6 20), (20, ab_astore 2 21), (21, ab_aload 2 22), (22, ab_getf 5 4 25), (25, ab_aload 2 26), (26, ab_getf 5 3 29), (29, ab_icmp_lt 43 32), (32, ab_aload 0 33), (33, ab_iconst (6) 35), (35, ab_aload 2 36), (36, ab_getf 5 3 39), (39, ab_callV 4 256 2 42), (42, ab_iret), (43, ab_aload 2 44), (44, ab_aload 2 45), (45, ab_getf 5 4 48), (48, ab_callV 5 250 1 51), (51, ab_istore 3 52), (52, ab_iload 3 53), (53, ab_aload 0 54), (54, ab_getf 4 0 57), (57, ab_getf 9 5 60), (60, ab_icmp_le 79 63), (63, ab_aload 0 64), (64, ab_iconst (7) 66), (66, ab_iload 3 67), (67, ab_aload 0 68), (68, ab_getf 4 0 71), (71, ab_getf 9 5 74)]
def ab_l223_1 : List (Nat × ab_Op) := [(74, ab_isub 75), (75, ab_callV 4 256 2 78), (78, ab_iret), (79, ab_aload 0 80), (80, ab_getf 4 0 83), (83, ab_dup 84), (84, ab_getf 9 5 87), (87, ab_iload 3 88), (88, ab_isub 89), (89, ab_putf 9 5 (.int) 92), (92, ab_aload 0 93), (93, ab_getf 4 0 96), (96, ab_dup 97), (97, ab_getf 9 6 100), (100, ab_iload 3 101), (101, ab_iadd 102), (102, ab_putf 9 6 (.int) 105), (105, ab_aload 2 106), (106, ab_dup 107), (107, ab_getf 5 4 110), (110, ab_iconst (1) 111), (111, ab_iadd 112), (112, ab_putf 5 4 (.int) 115), (115, ab_aload 0 116), (116, ab_getf 4 0 119), (119, ab_getf 9 5 122), (122, ab_iret)]
def ab_c223 : Nat → ab_Op := ab_lk2 [(74, ab_l223_0), (123, ab_l223_1)]
def ab_l224_0 : List (Nat × ab_Op) := [(0, ab_iload 1 1), (1, ab_iconst (1) 2), (2, ab_iconst (200) 5), (5, ab_callS 255 3 8), (8, ab_if_ne 18 11), (11, ab_aload 0 12), (12, ab_iconst (1) 13), (13, ab_iconst (0) 14), (14, ab_callV 4 256 2 17), (17, ab_iret), (18, ab_aload 0 19), (19, ab_getf 4 0 22), (22, ab_aload 0 23), (23, ab_getf 4 0 26), (26, ab_getf 9 5 29), (29, ab_iload 1 30), (30, ab_iadd 31), (31, ab_iconst (999) 34), (34, ab_mmin 37), (37, ab_putf 9 5 (.int) 40), (40, ab_aload 0 41), (41, ab_getf 4 0 44), (44, ab_getf 9 5 47), (47, ab_iret)]
def ab_c224 : Nat → ab_Op := ab_lk2 [(48, ab_l224_0)]
def ab_l225_0 : List (Nat × ab_Op) := [(0, ab_aload 0 1), (1, ab_iload 1 2), (2, ab_callV 4 261 1 5), (5, ab_if_eq 10 8), (8, ab_iconst (-1) 9), (9, ab_iret), (10, ab_aload 0 11), (11, ab_getf 4 0 14), (14, ab_getf 9 0 17), (17, ab_iload 1 18), (18, ab_aald 6 19), (19, ab_astore 3 20), (20, ab_aload 3 21), (21, ab_iload 2 22), (22, ab_callV 5 251 1 25), (25, ab_if_ne 35 28), (28, ab_aload 0 29), (29, ab_iconst (3) 30), (30, ab_iload 2 31), (31, ab_callV 4 256 2 34), (34, ab_iret), (35, ab_aload 3 36), (36, ab_iload 2 37), (37, ab_aload 3 38), (38, ab_getf 5 3 41), (41, ab_iconst (1) 42), (42, ab_isub 43), (43, ab_callV 5 262 2 46), (46, ab_aload 3 47), (47, ab_dup 48), (48, ab_getf 5 3 51), (51, ab_iconst (1) 52), (52, ab_isub 53), (53, ab_putf 5 3 (.int) 56), (56, ab_aload 3 57), (57, ab_getf 5 3 60), (60, ab_iret)]
def ab_c225 : Nat → ab_Op := ab_lk2 [(61, ab_l225_0)]
def ab_l226_0 : List (Nat × ab_Op) := [(0, ab_aload 0 1), (1, ab_iload 1 2), (2, ab_callV 4 261 1 5), (5, ab_if_eq 10 8), (8, ab_iconst (-1) 9), (9, ab_iret), (10, ab_aload 0 11), (11, ab_getf 4 0 14), (14, ab_getf 9 0 17), (17, ab_iload 1 18), (18, ab_aald 6 19), (19, ab_astore 4 21), (21, ab_aload 4 23), (23, ab_iload 2 24), (24, ab_callV 5 251 1 27), (27, ab_if_ne 37 30), (30, ab_aload 0 31), (31, ab_iconst (3) 32), (32, ab_iload 2 33), (33, ab_callV 4 256 2 36), (36, ab_iret), (37, ab_aload 4 39), (39, ab_iload 3 40), (40, ab_callV 5 251 1 43), (43, ab_if_ne 53 46), (46, ab_aload 0 47), (47, ab_iconst (3) 48), (48, ab_iload 3 49), (49, ab_callV 4 256 2 52), (52, ab_iret), (53, ab_aload 4 55), (55, ab_iload 2 56), (56, ab_iload 3 57), (57, ab_callV 5 262 2 60), (60, ab_aload 4 62), (62, ab_callV 5 184 0 65), (65, ab_iret)]
def ab_c226 : Nat → ab_Op := ab_lk2 [(66, ab_l226_0)]
def ab_l227_0 : List (Nat × ab_Op) := [(0, ab_aload 0 1), (1, ab_iload 1 2), (2, ab_callV 4 261 1 5), (5, ab_if_eq 10 8), (8, ab_iconst (-1) 9), (9, ab_iret), (10, ab_aload 0 11), (11, ab_getf 4 0 14), (14, ab_getf 9 0 17), (17, ab_iload 1 18), (18, ab_aald 6 19), (19, ab_astore 5 21), (21, ab_iload 2 22), (22, ab_iconst (1) 23), (23, ab_iconst (99) 25), (25, ab_callS 255 3 28), (28, ab_if_eq 44 31), (31, ab_iload 3 32), (32, ab_iconst (1) 33), (33, ab_iconst (3) 34), (34, ab_callS 255 3 37), (37, ab_if_eq 44 40), (40, ab_iconst (1) 41), (41, ab_goto 45), (44, ab_iconst (0) 45), (45, ab_istore 6 47), (47, ab_iload 6 49), (49, ab_if_ne 59 52), (52, ab_aload 0 53), (53, ab_iconst (1) 54), (54, ab_iconst (0) 55), (55, ab_callV 4 256 2 58), (58, ab_iret), (59, ab_aload 5 61), (61, ab_getf 5 3 64), (64, ab_iconst (12) 66), (66, ab_icmp_lt 77 69), (69, ab_aload 0 70), (70, ab_iconst (2) 71), (71, ab_iconst (12) 73)]
def ab_l227_1 : List (Nat × ab_Op) := [(73, ab_callV 4 256 2 76), (76, ab_iret), (77, ab_aload 5 79), (79, ab_getf 5 3 82), (82, ab_istore 7 84), (84, ab_aload 5 86), (86, ab_iload 7 88), (88, ab_iload 2 89), (89, ab_iload 3 90), (90, ab_iload 4 92), (92, ab_callV 5 229 4 95), (95, ab_aload 5 97), (97, ab_dup 98), (98, ab_getf 5 3 101), (101, ab_iconst (1) 102), (102, ab_iadd 103), (103, ab_putf 5 3 (.int) 106), (106, ab_iload 7 108), (108, ab_iret)]
def ab_c227 : Nat → ab_Op := ab_lk2 [(73, ab_l227_0), (109, ab_l227_1)]
def ab_l228_0 : List (Nat × ab_Op) := [(0, ab_iload 1 1), (1, ab_iconst (4) 2), (2, ab_iconst (96) 4), (4, ab_callS 255 3 7), (7, ab_if_eq 23 10), (10, ab_iload 2 11), (11, ab_iconst (2) 12), (12, ab_iconst (5) 13), (13, ab_callS 255 3 16), (16, ab_if_eq 23 19), (19, ab_iconst (1) 20), (20, ab_goto 24), (23, ab_iconst (0) 24), (24, ab_istore 3 25), (25, ab_iload 3 26), (26, ab_if_ne 36 29), (29, ab_aload 0 30), (30, ab_iconst (1) 31), (31, ab_iconst (0) 32), (32, ab_callV 4 256 2 35), (35, ab_iret), (36, ab_aload 0 37), (37, ab_getf 4 0 40), (40, ab_getf 9 2 43), (43, ab_iconst (6) 45), (45, ab_icmp_lt 56 48), (48, ab_aload 0 49), (49, ab_iconst (2) 50), (50, ab_iconst (6) 52), (52, ab_callV 4 256 2 55), (55, ab_iret), (56, ab_aload 0 57), (57, ab_getf 4 0 60), (60, ab_getf 9 2 63), (63, ab_istore 4 65), (65, ab_aload 0 66), (66, ab_getf 4 0 69), (69, ab_getf 9 0 72), (72, ab_iload 4 74), (74, ab_aald 6 75)]
def ab_l228_1 : List (Nat × ab_Op) := [(75, ab_iload 1 76), (76, ab_iload 2 77), (77, ab_callV 5 263 2 80), (80, ab_aload 0 81), (81, ab_getf 4 0 84), (84, ab_dup 85), (85, ab_getf 9 2 88), (88, ab_iconst (1) 89), (89, ab_iadd 90), (90, ab_putf 9 2 (.int) 93), (93, ab_iload 4 95), (95, ab_iret)]
def ab_c228 : Nat → ab_Op := ab_lk2 [(75, ab_l228_0), (96, ab_l228_1)]
def ab_l229_0 : List (Nat × ab_Op) := [(0, ab_aload 0 1), (1, ab_getf 5 8 4), (4, ab_iload 1 5), (5, ab_iload 2 6), (6, ab_ast 0 .int 7), (7, ab_aload 0 8), (8, ab_getf 5 9 11), (11, ab_iload 1 12), (12, ab_iload 2 13), (13, ab_iconst (2) 14), (14, ab_iload 3 15), (15, ab_ishl 16), (16, ab_iadd 17), (17, ab_iconst (1) 18), (18, ab_isub 19), (19, ab_ast 0 .int 20), (20, ab_aload 0 21), (21, ab_getf 5 10 24), (24, ab_iload 1 25), (25, ab_iload 3 26), (26, ab_ast 0 .int 27), (27, ab_aload 0 28), (28, ab_getf 5 11 31), (31, ab_iload 1 32), (32, ab_iload 4 34), (34, ab_ast 1 .boolean 35), (35, ab_vret)]
def ab_c229 : Nat → ab_Op := ab_lk2 [(36, ab_l229_0)]
def ab_l230_0 : List (Nat × ab_Op) := [(0, ab_iload 1 1), (1, ab_if_lt 16 4), (4, ab_iload 1 5), (5, ab_aload 0 6), (6, ab_getf 9 2 9), (9, ab_icmp_ge 16 12), (12, ab_iconst (1) 13), (13, ab_goto 17), (16, ab_iconst (0) 17), (17, ab_zret)]
def ab_c230 : Nat → ab_Op := ab_lk2 [(18, ab_l230_0)]
def ab_l231_0 : List (Nat × ab_Op) := [(0, ab_aload 0 1), (1, ab_getf 5 9 4), (4, ab_iload 1 5), (5, ab_ald 0 6), (6, ab_aload 0 7), (7, ab_getf 5 8 10), (10, ab_iload 1 11), (11, ab_ald 0 12), (12, ab_isub 13), (13, ab_iconst (1) 14), (14, ab_iadd 15), (15, ab_iret)]
def ab_c231 : Nat → ab_Op := ab_lk2 [(16, ab_l231_0)]
def ab_l232_0 : List (Nat × ab_Op) := [(0, ab_aload 0 1), (1, ab_getf 5 11 4), (4, ab_iload 1 5), (5, ab_ald 1 6), (6, ab_if_eq 20 9), (9, ab_aload 0 10), (10, ab_getf 5 9 13), (13, ab_iload 1 14), (14, ab_ald 0 15), (15, ab_iload 2 16), (16, ab_isub 17), (17, ab_goto 28), (20, ab_aload 0 21), (21, ab_getf 5 8 24), (24, ab_iload 1 25), (25, ab_ald 0 26), (26, ab_iload 2 27), (27, ab_iadd 28), (28, ab_iret)]
def ab_c232 : Nat → ab_Op := ab_lk2 [(29, ab_l232_0)]
def ab_l233_0 : List (Nat × ab_Op) := [(0, ab_iload 2 1), (1, ab_iload 1 2), (2, ab_iconst (1) 3), (3, ab_iadd 4), (4, ab_icmp_ne 19 7), (7, ab_iload 2 8), (8, ab_aload 0 9), (9, ab_getf 5 0 12), (12, ab_icmp_gt 19 15), (15, ab_iconst (1) 16), (16, ab_goto 20), (19, ab_iconst (0) 20), (20, ab_zret)]
def ab_c233 : Nat → ab_Op := ab_lk2 [(21, ab_l233_0)]
def ab_l234_0 : List (Nat × ab_Op) := [(0, ab_aload 0 1), (1, ab_getf 1 3 4), (4, ab_iret)]
def ab_c234 : Nat → ab_Op := ab_lk2 [(5, ab_l234_0)]
def ab_l235_0 : List (Nat × ab_Op) := [(0, ab_aload 0 1), (1, ab_getf 1 1 4), (4, ab_istore 2 5), (5, ab_aload 0 6), (6, ab_getf 1 0 9), (9, ab_astore 3 10), (10, ab_aload 0 11), (11, ab_getf 1 3 14), (14, ab_aload 3 15), (15, ab_alen 16), (16, ab_iload 2 17), (17, ab_ishr 18), (18, ab_mmin 21), (21, ab_istore 4 23), (23, ab_iload 1 24), (24, ab_iload 4 26), (26, ab_callS 264 2 29), (29, ab_iload 2 30), (30, ab_if_ne 42 33), (33, ab_aload 3 34), (34, ab_iload 1 35), (35, ab_ald 4 36), (36, ab_iconst (255) 39), (39, ab_iand 40), (40, ab_i2c 41), (41, ab_cret), (42, ab_aload 3 43), (43, ab_iload 1 44)]
def ab_c235 : Nat → ab_Op := ab_lk2 [(44, ab_l235_0)]
def ab_l236_0 : List (Nat × ab_Op) := [(0, ab_iload 1 1), (1, ab_if_ge 13 4), (13, ab_aload 0 14), (14, ab_iload 1 15), (15, ab_callV 1 265 1 18), (18, ab_aload 0 19), (19, ab_getf 1 3 22), (22, ab_iload 1 23), (23, ab_icmp_ge 63 26), (26, ab_aload 0 27), (27, ab_callV 1 266 0 30), (30, ab_if_eq 48 33), (33, ab_aload 0 34), (34, ab_getf 1 0 37), (37, ab_aload 0 38), (38, ab_getf 1 3 41), (41, ab_iload 1 42), (48, ab_aload 0 49), (49, ab_getf 1 0 52), (52, ab_aload 0 53), (53, ab_getf 1 3 56), (56, ab_iload 1 57), (63, ab_aload 0 64), (64, ab_getf 1 3 67), (67, ab_iload 1 68), (68, ab_icmp_le 76 71), (71, ab_aload 0 72), (72, ab_iconst (1) 73), (73, ab_putf 1 2 (.boolean) 76), (76, ab_aload 0 77), (77, ab_iload 1 78), (78, ab_putf 1 3 (.int) 81), (81, ab_vret)]
def ab_c236 : Nat → ab_Op := ab_lk2 [(82, ab_l236_0)]
def ab_l237_0 : List (Nat × ab_Op) := [(0, ab_aload 0 1), (1, ab_getf 1 3 4), (4, ab_istore 2 5), (5, ab_iload 2 6), (6, ab_iload 1 7), (7, ab_callS 267 1 10), (10, ab_iadd 11), (11, ab_istore 3 12), (12, ab_aload 0 13), (13, ab_iload 3 14), (14, ab_callV 1 265 1 17), (17, ab_aload 0 18), (18, ab_callV 1 266 0 21), (21, ab_if_eq 37 24), (24, ab_iload 1 25), (25, ab_iload 3 26), (26, ab_aload 0 27), (27, ab_getf 1 0 30), (30, ab_callS 268 3 33), (33, ab_pop 34), (34, ab_goto 48), (37, ab_iload 1 38), (38, ab_iload 2 39), (39, ab_iload 3 40), (40, ab_aload 0 41), (41, ab_getf 1 0 44), (48, ab_aload 0 49), (49, ab_iload 3 50), (50, ab_putf 1 3 (.int) 53), (53, ab_aload 0 54), (54, ab_aret)]
def ab_c237 : Nat → ab_Op := ab_lk2 [(55, ab_l237_0)]
def ab_l238_0 : List (Nat × ab_Op) := [(0, ab_aload 0 1), (1, ab_aload 0 2), (2, ab_getf 1 3 5), (5, ab_iconst (1) 6), (6, ab_iadd 7), (7, ab_callV 1 265 1 10), (10, ab_aload 0 11), (11, ab_callV 1 266 0 14), (14, ab_if_eq 45 17), (17, ab_iload 1 18), (18, ab_callS 269 1 21), (21, ab_if_eq 45 24), (24, ab_aload 0 25), (25, ab_getf 1 0 28), (28, ab_aload 0 29), (29, ab_dup 30), (30, ab_getf 1 3 33), (33, ab_dup_x1 34), (34, ab_iconst (1) 35), (35, ab_iadd 36), (36, ab_putf 1 3 (.int) 39), (39, ab_iload 1 40), (40, ab_i2b 41), (41, ab_ast 4 .byte 42), (42, ab_goto 75), (45, ab_aload 0 46), (46, ab_callV 1 266 0 49), (49, ab_if_eq 56 52), (52, ab_aload 0 53), (56, ab_aload 0 57), (57, ab_getf 1 0 60), (60, ab_aload 0 61), (61, ab_dup 62), (62, ab_getf 1 3 65), (65, ab_dup_x1 66), (66, ab_iconst (1) 67), (67, ab_iadd 68), (68, ab_putf 1 3 (.int) 71), (71, ab_iload 1 72), (75, ab_aload 0 76)]
def ab_l238_1 : List (Nat × ab_Op) := [(76, ab_aret)]
def ab_c238 : Nat → ab_Op := ab_lk2 [(76, ab_l238_0), (77, ab_l238_1)]
def ab_l239_0 : List (Nat × ab_Op) := [(0, ab_aload 0 1), (1, ab_iconst (0) 2), (2, ab_putf 6 3 (.int) 5), (5, ab_vret)]
def ab_c239 : Nat → ab_Op := ab_lk2 [(6, ab_l239_0)]
def ab_l240_0 : List (Nat × ab_Op) := [(0, ab_aload 0 1), (1, ab_iconst (0) 2), (2, ab_putf 6 6 (.int) 5), (5, ab_aload 0 6), (6, ab_aload 0 7), (7, ab_getf 6 3 10), (10, ab_aload 0 11), (11, ab_getf 6 1 14), (14, ab_icmp_ge 29 17), (17, ab_aload 0 18), (18, ab_getf 6 0 21), (21, ab_aload 0 22), (22, ab_getf 6 3 25), (25, ab_ald 3 26), (26, ab_goto 31), (29, ab_iconst (32) 31), (31, ab_putf 6 4 (.char) 34), (34, ab_aload 0 35), (35, ab_getf 6 4 38), (38, ab_callS 270 1 41), (41, ab_astore 1 42), (42, ab_aload 1 43), (43, ab_callT 271 0 46), (46, ab_if_eq 51 49), (49, ab_iconst (0) 50), (50, ab_zret), (51, ab_aload 0 52), (52, ab_dup 53), (53, ab_getf 6 3 56), (56, ab_iconst (1) 57), (57, ab_iadd 58), (58, ab_putf 6 3 (.int) 61), (61, ab_iconst (0) 62), (62, ab_istore 2 63), (63, ab_iload 2 64), (64, ab_aload 1 65), (65, ab_callT 272 0 68), (68, ab_icmp_ge 91 71), (71, ab_aload 0 72), (72, ab_aload 1 73)]
def ab_l240_1 : List (Nat × ab_Op) := [(73, ab_iload 2 74), (74, ab_callT 273 1 77), (77, ab_callV 6 274 1 80), (80, ab_if_ne 85 83), (83, ab_iconst (0) 84), (84, ab_zret), (85, ab_iinc 2 (1) 88), (88, ab_goto 63), (91, ab_iconst (1) 92), (92, ab_zret)]
def ab_c240 : Nat → ab_Op := ab_lk2 [(73, ab_l240_0), (93, ab_l240_1)]
def ab_l241_0 : List (Nat × ab_Op) := [(0, ab_aload 0 1), (1, ab_getf 6 3 4), (4, ab_aload 0 5), (5, ab_getf 6 1 8), (8, ab_icmp_ge 24 11), (11, ab_aload 0 12), (12, ab_getf 6 0 15), (15, ab_aload 0 16), (16, ab_getf 6 3 19), (19, ab_ald 3 20), (20, ab_iload 1 21), (21, ab_icmp_eq 26 24), (24, ab_iconst (0) 25), (25, ab_zret), (26, ab_aload 0 27), (27, ab_dup 28), (28, ab_getf 6 3 31), (31, ab_iconst (1) 32), (32, ab_iadd 33), (33, ab_putf 6 3 (.int) 36), (36, ab_iconst (1) 37), (37, ab_zret)]
def ab_c241 : Nat → ab_Op := ab_lk2 [(38, ab_l241_0)]
def ab_l242_0 : List (Nat × ab_Op) := [(0, ab_aload 0 1), (1, ab_callV 6 240 0 4), (4, ab_pop 5), (5, ab_aload 0 6), (6, ab_iconst (59) 8), (8, ab_callV 6 241 1 11), (11, ab_pop 12), (12, ab_vret)]
def ab_c242 : Nat → ab_Op := ab_lk2 [(13, ab_l242_0)]
def ab_l243_0 : List (Nat × ab_Op) := [(0, ab_aload 1 1), (1, ab_getf 6 5 4), (4, ab_iconst (0) 5), (5, ab_ald 0 6), (6, ab_istore 2 7), (7, ab_aload 1 8), (8, ab_getf 6 5 11), (11, ab_iconst (1) 12), (12, ab_ald 0 13), (13, ab_istore 3 14), (14, ab_aload 1 15), (15, ab_getf 6 4 18), (18, ab_tsw 100 [160, 153, 166, 104, 166, 166, 166, 166, 133, 166, 166, 166, 140, 166, 166, 121, 147, 127] 166), (104, ab_aload 0 105), (105, ab_iload 2 106), (106, ab_iload 3 107), (107, ab_aload 1 108), (108, ab_getf 6 5 111), (111, ab_iconst (2) 112), (112, ab_ald 0 113), (113, ab_aload 1 114), (114, ab_getf 6 7 117), (117, ab_callV 4 227 4 120), (120, ab_iret), (121, ab_aload 0 122), (122, ab_iload 2 123), (123, ab_callV 4 223 1 126), (126, ab_iret), (127, ab_aload 0 128), (128, ab_iload 2 129), (129, ab_callV 4 222 1 132), (132, ab_iret), (133, ab_aload 0 134), (134, ab_iload 2 135), (135, ab_iload 3 136), (136, ab_callV 4 221 2 139), (139, ab_iret), (140, ab_aload 0 141), (141, ab_iload 2 142), (142, ab_iload 3 143)]
def ab_l243_1 : List (Nat × ab_Op) := [(143, ab_callV 4 220 2 146), (146, ab_iret), (147, ab_aload 0 148), (148, ab_iload 2 149), (149, ab_callV 4 219 1 152), (152, ab_iret), (153, ab_aload 0 154), (154, ab_iload 2 155), (155, ab_iload 3 156), (156, ab_callV 4 218 2 159), (159, ab_iret), (160, ab_aload 0 161), (161, ab_iload 2 162), (162, ab_callV 4 217 1 165), (165, ab_iret), (166, ab_aload 0 167), (167, ab_iload 2 168), (168, ab_callV 4 216 1 171), (171, ab_iret)]
def ab_c243 : Nat → ab_Op := ab_lk2 [(143, ab_l243_0), (172, ab_l243_1)]
def ab_l244_0 : List (Nat × ab_Op) := [(0, ab_aload 0 1), (1, ab_aload 0 2), (2, ab_getf 7 1 5), (5, ab_iconst (1) 6), (6, ab_iadd 7), (7, ab_iconst (9) 9), (9, ab_icmp_ge 21 12), (12, ab_aload 0 13), (13, ab_getf 7 1 16), (16, ab_iconst (1) 17), (17, ab_iadd 18), (18, ab_goto 22), (21, ab_iconst (0) 22), (22, ab_putf 7 1 (.int) 25), (25, ab_aload 0 26), (26, ab_aload 0 27), (27, ab_getf 7 2 30), (30, ab_iconst (1) 31), (31, ab_iadd 32), (32, ab_iconst (8) 34), (34, ab_mmin 37), (37, ab_putf 7 2 (.int) 40), (40, ab_vret)]
def ab_c244 : Nat → ab_Op := ab_lk2 [(41, ab_l244_0)]
def ab_l245_0 : List (Nat × ab_Op) := [(0, ab_aload 0 1), (1, ab_getf 11 16 4), (4, ab_aload 0 5), (5, ab_getf 11 12 8), (8, ab_icmp_ge 23 11), (11, ab_aload 0 12), (12, ab_getf 11 11 15), (15, ab_aload 0 16), (16, ab_getf 11 16 19), (19, ab_ald 0 20), (20, ab_goto 24), (23, ab_iconst (-1) 24), (24, ab_iret)]
def ab_c245 : Nat → ab_Op := ab_lk2 [(25, ab_l245_0)]
def ab_l246_0 : List (Nat × ab_Op) := [(0, ab_aload 0 1), (1, ab_iload 1 2), (2, ab_iconst (1) 3), (3, ab_iadd 4), (4, ab_iconst (1) 5), (5, ab_callV 11 247 2 8), (8, ab_if_eq 51 11), (11, ab_aload 0 12), (12, ab_iconst (64) 14), (14, ab_callV 11 197 1 17), (17, ab_if_eq 51 20), (20, ab_aload 0 21), (21, ab_iload 1 22), (22, ab_iconst (2) 23), (23, ab_iadd 24), (24, ab_iconst (2) 25), (25, ab_callV 11 247 2 28), (28, ab_if_eq 51 31), (31, ab_aload 0 32), (32, ab_iconst (58) 34), (34, ab_callV 11 197 1 37), (37, ab_if_eq 51 40), (40, ab_aload 0 41), (41, ab_iload 1 42), (42, ab_iconst (3) 43), (43, ab_iadd 44), (44, ab_iconst (1) 45), (45, ab_callV 11 247 2 48), (48, ab_if_ne 53 51), (51, ab_iconst (0) 52), (52, ab_zret), (53, ab_aload 0 54), (54, ab_getf 11 17 57), (57, ab_iload 1 58), (58, ab_iconst (4) 59), (59, ab_iadd 60), (60, ab_aload 0 61), (61, ab_iconst (33) 63), (63, ab_callV 11 197 1 66), (66, ab_if_eq 73 69)]
def ab_l246_1 : List (Nat × ab_Op) := [(69, ab_iconst (1) 70), (70, ab_goto 74), (73, ab_iconst (0) 74), (74, ab_ast 0 .int 75), (75, ab_iconst (1) 76), (76, ab_zret)]
def ab_c246 : Nat → ab_Op := ab_lk2 [(69, ab_l246_0), (77, ab_l246_1)]
def ab_l247_0 : List (Nat × ab_Op) := [(0, ab_aload 0 1), (1, ab_callV 11 245 0 4), (4, ab_iconst (48) 6), (6, ab_iconst (57) 8), (8, ab_callS 97 3 11), (11, ab_if_ne 16 14), (14, ab_iconst (0) 15), (15, ab_zret), (16, ab_aload 0 17), (17, ab_getf 11 17 20), (20, ab_iload 1 21), (21, ab_iconst (0) 22), (22, ab_ast 0 .int 23), (23, ab_iconst (0) 24), (24, ab_istore 3 25), (25, ab_iload 3 26), (26, ab_iload 2 27), (27, ab_icmp_ge 83 30), (30, ab_aload 0 31), (31, ab_callV 11 245 0 34), (34, ab_iconst (48) 36), (36, ab_iconst (57) 38), (38, ab_callS 97 3 41), (41, ab_if_eq 83 44), (44, ab_aload 0 45), (45, ab_getf 11 17 48), (48, ab_iload 1 49), (49, ab_iconst (10) 51), (51, ab_aload 0 52), (52, ab_getf 11 17 55), (55, ab_iload 1 56), (56, ab_ald 0 57), (57, ab_imul 58), (58, ab_aload 0 59), (59, ab_callV 11 245 0 62), (62, ab_iadd 63), (63, ab_iconst (48) 65), (65, ab_isub 66), (66, ab_ast 0 .int 67), (67, ab_aload 0 68)]
def ab_l247_1 : List (Nat × ab_Op) := [(68, ab_dup 69), (69, ab_getf 11 16 72), (72, ab_iconst (1) 73), (73, ab_iadd 74), (74, ab_putf 11 16 (.int) 77), (77, ab_iinc 3 (1) 80), (80, ab_goto 25), (83, ab_iconst (1) 84), (84, ab_zret)]
def ab_c247 : Nat → ab_Op := ab_lk2 [(68, ab_l247_0), (85, ab_l247_1)]
def ab_l248_0 : List (Nat × ab_Op) := [(0, ab_iload 1 1), (1, ab_if_lt 13 4), (4, ab_iload 1 5), (5, ab_iconst (2) 6), (6, ab_icmp_ge 13 9), (9, ab_iconst (1) 10), (10, ab_goto 14), (13, ab_iconst (0) 14), (14, ab_zret)]
def ab_c248 : Nat → ab_Op := ab_lk2 [(15, ab_l248_0)]
def ab_l249_0 : List (Nat × ab_Op) := [(0, ab_aload 0 1), (1, ab_iload 1 2), (2, ab_callV 5 214 1 5), (5, ab_iconst (-1) 6), (6, ab_icmp_eq 13 9), (9, ab_iconst (1) 10), (10, ab_goto 14), (13, ab_iconst (0) 14), (14, ab_zret)]
def ab_c249 : Nat → ab_Op := ab_lk2 [(15, ab_l249_0)]
def ab_l250_0 : List (Nat × ab_Op) := [(0, ab_aload 0 1), (1, ab_getf 5 1 4), (4, ab_iconst (2) 5), (5, ab_aload 0 6), (6, ab_getf 5 10 9), (9, ab_iload 1 10), (10, ab_ald 0 11), (11, ab_iadd 12), (12, ab_imul 13), (13, ab_istore 2 14), (14, ab_iload 1 15), (15, ab_if_ne 24 18), (18, ab_iload 2 19), (19, ab_iconst (5) 20), (20, ab_iadd 21), (21, ab_goto 25), (24, ab_iload 2 25), (25, ab_iret)]
def ab_c250 : Nat → ab_Op := ab_lk2 [(26, ab_l250_0)]
def ab_l251_0 : List (Nat × ab_Op) := [(0, ab_iload 1 1), (1, ab_if_lt 16 4), (4, ab_iload 1 5), (5, ab_aload 0 6), (6, ab_getf 5 3 9), (9, ab_icmp_ge 16 12), (12, ab_iconst (1) 13), (13, ab_goto 17), (16, ab_iconst (0) 17), (17, ab_zret)]
def ab_c251 : Nat → ab_Op := ab_lk2 [(18, ab_l251_0)]
def ab_l252_0 : List (Nat × ab_Op) := [(0, ab_iconst (0) 1), (1, ab_istore 2 2), (2, ab_iconst (0) 3), (3, ab_istore 3 4), (4, ab_iload 3 5), (5, ab_aload 0 6), (6, ab_getf 5 3 9), (9, ab_icmp_ge 41 12), (12, ab_iload 1 13), (13, ab_aload 0 14), (14, ab_getf 5 8 17), (17, ab_iload 3 18), (18, ab_ald 0 19), (19, ab_icmp_lt 35 22), (22, ab_iload 1 23), (23, ab_aload 0 24), (24, ab_getf 5 9 27), (27, ab_iload 3 28), (28, ab_ald 0 29), (29, ab_icmp_gt 35 32), (32, ab_iinc 2 (1) 35), (35, ab_iinc 3 (1) 38), (38, ab_goto 4), (41, ab_iload 2 42), (42, ab_iret)]
def ab_c252 : Nat → ab_Op := ab_lk2 [(43, ab_l252_0)]
def ab_l253_0 : List (Nat × ab_Op) := [(0, ab_aload 0 1), (1, ab_getf 5 9 4), (4, ab_iload 1 5), (5, ab_ald 0 6), (6, ab_iload 2 7), (7, ab_iconst (1) 8), (8, ab_iadd 9), (9, ab_isub 10), (10, ab_istore 3 11), (11, ab_iload 3 12), (12, ab_if_lt 21 15), (15, ab_iload 3 16), (16, ab_iconst (2) 17), (17, ab_irem 18), (18, ab_if_eq 23 21), (21, ab_iconst (0) 22), (22, ab_iret), (23, ab_iload 3 24), (24, ab_iconst (2) 25), (25, ab_idiv 26), (26, ab_istore 4 28), (28, ab_iload 4 30), (30, ab_aload 0 31), (31, ab_iload 1 32), (32, ab_callV 5 231 1 35), (35, ab_icmp_ge 58 38), (38, ab_aload 0 39), (39, ab_getf 5 9 42), (42, ab_iload 1 43), (43, ab_ald 0 44), (44, ab_iload 4 46), (46, ab_isub 47), (47, ab_aload 0 48), (48, ab_getf 5 0 51), (51, ab_icmp_gt 58 54), (54, ab_iconst (1) 55), (55, ab_goto 59), (58, ab_iconst (0) 59), (59, ab_iret)]
def ab_c253 : Nat → ab_Op := ab_lk2 [(60, ab_l253_0)]
def ab_l254_0 : List (Nat × ab_Op) := [(0, ab_aload 0 1), (1, ab_getf 5 8 4), (4, ab_iload 1 5), (5, ab_ald 0 6), (6, ab_iload 2 7), (7, ab_iconst (1) 8), (8, ab_iadd 9), (9, ab_icmp_eq 14 12), (12, ab_iconst (0) 13), (13, ab_iret), (14, ab_iconst (0) 15), (15, ab_aload 0 16), (16, ab_iload 1 17), (17, ab_callV 5 231 1 20), (20, ab_aload 0 21), (21, ab_getf 5 0 24), (24, ab_iload 2 25), (25, ab_isub 26), (26, ab_mmin 29), (29, ab_mmax 32), (32, ab_iret)]
def ab_c254 : Nat → ab_Op := ab_lk2 [(33, ab_l254_0)]
def ab_l255_0 : List (Nat × ab_Op) := [(0, ab_iload 0 1), (1, ab_iload 1 2), (2, ab_icmp_lt 14 5), (5, ab_iload 0 6), (6, ab_iload 2 7), (7, ab_icmp_gt 14 10), (10, ab_iconst (1) 11), (11, ab_goto 15), (14, ab_iconst (0) 15), (15, ab_zret)]
def ab_c255 : Nat → ab_Op := ab_lk2 [(16, ab_l255_0)]
def ab_l256_0 : List (Nat × ab_Op) := [(0, ab_aload 0 1), (1, ab_iload 1 2), (2, ab_putf 4 1 (.int) 5), (5, ab_aload 0 6), (6, ab_iload 2 7), (7, ab_putf 4 2 (.int) 10), (10, ab_aload 0 11), (11, ab_aload 0 12), (12, ab_getf 4 4 15), (15, ab_putf 4 3 (.int) 18), (18, ab_iconst (-1) 19), (19, ab_iret)]
def ab_c256 : Nat → ab_Op := ab_lk2 [(20, ab_l256_0)]
def ab_l257_0 : List (Nat × ab_Op) := [(0, ab_iconst (0) 1), (1, ab_istore 1 2), (2, ab_aload 0 3), (3, ab_dup 4), (4, ab_getf 9 3 7), (7, ab_iconst (1) 8), (8, ab_iadd 9), (9, ab_putf 9 3 (.int) 12), (12, ab_iconst (0) 13), (13, ab_istore 2 14), (14, ab_iload 2 15), (15, ab_aload 0 16), (16, ab_getf 9 2 19), (19, ab_icmp_ge 87 22), (22, ab_aload 0 23), (23, ab_getf 9 0 26), (26, ab_iload 2 27), (27, ab_aald 6 28), (28, ab_astore 3 29), (29, ab_aload 3 30), (30, ab_getf 5 7 33), (33, ab_if_le 46 36), (36, ab_aload 3 37), (37, ab_dup 38), (38, ab_getf 5 7 41), (41, ab_iconst (1) 42), (42, ab_isub 43), (43, ab_putf 5 7 (.int) 46), (46, ab_aload 3 47), (47, ab_getf 5 2 50), (50, ab_iconst (1) 51), (51, ab_icmp_ne 81 54), (54, ab_aload 3 55), (55, ab_getf 5 7 58), (58, ab_if_ne 81 61), (61, ab_aload 0 62), (62, ab_dup 63), (63, ab_getf 9 7 66), (66, ab_aload 3 67), (67, ab_getf 5 4 70)]
def ab_l257_1 : List (Nat × ab_Op) := [(70, ab_iadd 71), (71, ab_putf 9 7 (.int) 74), (74, ab_aload 3 75), (75, ab_callV 5 275 0 78), (78, ab_iinc 1 (1) 81), (81, ab_iinc 2 (1) 84), (84, ab_goto 14), (87, ab_iload 1 88), (88, ab_iret)]
def ab_c257 : Nat → ab_Op := ab_lk2 [(70, ab_l257_0), (89, ab_l257_1)]
def ab_l258_0 : List (Nat × ab_Op) := [(0, ab_aload 0 1), (1, ab_getf 4 0 4), (4, ab_iload 1 5), (5, ab_callV 9 230 1 8), (8, ab_if_ne 20 11), (11, ab_aload 0 12), (12, ab_iconst (3) 13), (13, ab_iload 1 14), (14, ab_callV 4 256 2 17), (17, ab_pop 18), (18, ab_iconst (1) 19), (19, ab_zret), (20, ab_aload 0 21), (21, ab_getf 4 0 24), (24, ab_getf 9 0 27), (27, ab_iload 1 28), (28, ab_aald 6 29), (29, ab_getf 5 2 32), (32, ab_istore 3 33), (33, ab_iload 3 34), (34, ab_iload 2 35), (35, ab_icmp_eq 45 38), (38, ab_aload 0 39), (39, ab_iconst (4) 40), (40, ab_iload 3 41), (41, ab_callV 4 256 2 44), (44, ab_pop 45), (45, ab_iload 3 46), (46, ab_iload 2 47), (47, ab_icmp_eq 54 50), (50, ab_iconst (1) 51), (51, ab_goto 55), (54, ab_iconst (0) 55), (55, ab_zret)]
def ab_c258 : Nat → ab_Op := ab_lk2 [(56, ab_l258_0)]
def ab_l259_0 : List (Nat × ab_Op) := [(0, ab_aload 0 1), (1, ab_iload 1 2), (2, ab_callV 5 214 1 5), (5, ab_istore 2 6), (6, ab_iload 2 7), (7, ab_iconst (-1) 8), (8, ab_icmp_eq 24 11), (11, ab_aload 0 12), (12, ab_iload 1 13), (13, ab_iload 2 14), (14, ab_callV 5 233 2 17), (17, ab_if_ne 24 20), (20, ab_iconst (1) 21), (21, ab_goto 25), (24, ab_iconst (0) 25), (25, ab_zret)]
def ab_c259 : Nat → ab_Op := ab_lk2 [(26, ab_l259_0)]
def ab_l260_0 : List (Nat × ab_Op) := [(0, ab_iload 1 1), (1, ab_iconst (64) 3), (3, ab_idiv 4), (4, ab_istore 2 5), (5, ab_iload 1 6), (6, ab_if_lt 14 9), (9, ab_iload 2 10), (10, ab_iconst (3) 11), (11, ab_icmp_lt 15 14), (14, ab_vret), (15, ab_aload 0 16), (16, ab_getf 5 12 19), (19, ab_iload 2 20), (20, ab_dup2 21), (21, ab_lald 22), (22, ab_lconst 1 23), (23, ab_iload 1 24), (24, ab_iconst (64) 26), (26, ab_irem 27), (27, ab_lshl 28), (28, ab_lor 29), (29, ab_last 30), (30, ab_aload 0 31), (31, ab_dup 32), (32, ab_getf 5 5 35), (35, ab_iconst (1) 36), (36, ab_iadd 37), (37, ab_putf 5 5 (.int) 40), (40, ab_vret)]
def ab_c260 : Nat → ab_Op := ab_lk2 [(41, ab_l260_0)]
def ab_l261_0 : List (Nat × ab_Op) := [(0, ab_aload 0 1), (1, ab_iload 1 2), (2, ab_iconst (0) 3), (3, ab_callV 4 258 2 6), (6, ab_if_eq 11 9), (9, ab_iconst (1) 10), (10, ab_zret), (11, ab_aload 0 12), (12, ab_getf 4 0 15), (15, ab_getf 9 0 18), (18, ab_iload 1 19), (19, ab_aald 6 20), (20, ab_getf 5 4 23), (23, ab_istore 2 24), (24, ab_iload 2 25), (25, ab_if_le 35 28), (28, ab_aload 0 29), (29, ab_iconst (5) 30), (30, ab_iload 2 31), (31, ab_callV 4 256 2 34), (34, ab_pop 35), (35, ab_iload 2 36), (36, ab_if_le 43 39), (39, ab_iconst (1) 40), (40, ab_goto 44), (43, ab_iconst (0) 44), (44, ab_zret)]
def ab_c261 : Nat → ab_Op := ab_lk2 [(45, ab_l261_0)]
def ab_l262_0 : List (Nat × ab_Op) := [(0, ab_aload 0 1), (1, ab_getf 5 8 4), (4, ab_iload 1 5), (5, ab_ald 0 6), (6, ab_istore 3 7), (7, ab_aload 0 8), (8, ab_getf 5 10 11), (11, ab_iload 1 12), (12, ab_ald 0 13), (13, ab_istore 4 15), (15, ab_aload 0 16), (16, ab_getf 5 11 19), (19, ab_iload 1 20), (20, ab_ald 1 21), (21, ab_istore 5 23), (23, ab_iload 1 24), (24, ab_istore 6 26), (26, ab_iload 6 28), (28, ab_iload 2 29), (29, ab_icmp_ge 71 32), (32, ab_aload 0 33), (33, ab_iload 6 35), (35, ab_aload 0 36), (36, ab_getf 5 8 39), (39, ab_iload 6 41), (41, ab_iconst (1) 42), (42, ab_iadd 43), (43, ab_ald 0 44), (44, ab_aload 0 45), (45, ab_getf 5 10 48), (48, ab_iload 6 50), (50, ab_iconst (1) 51), (51, ab_iadd 52), (52, ab_ald 0 53), (53, ab_aload 0 54), (54, ab_getf 5 11 57), (57, ab_iload 6 59), (59, ab_iconst (1) 60), (60, ab_iadd 61), (61, ab_ald 1 62)]
def ab_l262_1 : List (Nat × ab_Op) := [(62, ab_callV 5 229 4 65), (65, ab_iinc 6 (1) 68), (68, ab_goto 26), (71, ab_iload 1 72), (72, ab_istore 6 74), (74, ab_iload 6 76), (76, ab_iload 2 77), (77, ab_icmp_le 119 80), (80, ab_aload 0 81), (81, ab_iload 6 83), (83, ab_aload 0 84), (84, ab_getf 5 8 87), (87, ab_iload 6 89), (89, ab_iconst (1) 90), (90, ab_isub 91), (91, ab_ald 0 92), (92, ab_aload 0 93), (93, ab_getf 5 10 96), (96, ab_iload 6 98), (98, ab_iconst (1) 99), (99, ab_isub 100), (100, ab_ald 0 101), (101, ab_aload 0 102), (102, ab_getf 5 11 105), (105, ab_iload 6 107), (107, ab_iconst (1) 108), (108, ab_isub 109), (109, ab_ald 1 110), (110, ab_callV 5 229 4 113), (113, ab_iinc 6 (-1) 116), (116, ab_goto 74), (119, ab_aload 0 120), (120, ab_iload 2 121), (121, ab_iload 3 122), (122, ab_iload 4 124), (124, ab_iload 5 126), (126, ab_callV 5 229 4 129), (129, ab_vret)]
def ab_c262 : Nat → ab_Op := ab_lk2 [(62, ab_l262_0), (130, ab_l262_1)]
def ab_l263_0 : List (Nat × ab_Op) := [(0, ab_aload 0 1), (1, ab_iload 1 2), (2, ab_putf 5 0 (.int) 5), (5, ab_aload 0 6), (6, ab_iload 2 7), (7, ab_putf 5 1 (.int) 10), (10, ab_vret)]
def ab_c263 : Nat → ab_Op := ab_lk2 [(11, ab_l263_0)]
def ab_l264_0 (K : ab_Kt) : List (Nat × ab_Op) := [(0, ab_iload 0 1), (1, ab_iload 1 2), (2, ab_gst (if K.2.2 = true then .null else .ref 16) 5), (5, ab_callS 276 3 8), (8, ab_pop 9), (9, ab_vret)]
def ab_c264 (K : ab_Kt) : Nat → ab_Op := ab_lk2 [(10, ab_l264_0 K)]
def ab_l265_0 : List (Nat × ab_Op) := [(0, ab_aload 0 1), (1, ab_getf 1 0 4), (4, ab_alen 5), (5, ab_aload 0 6), (6, ab_getf 1 1 9), (9, ab_ishr 10), (10, ab_istore 2 11), (11, ab_iload 1 12), (12, ab_iload 2 13), (13, ab_isub 14), (14, ab_if_le 38 17), (17, ab_aload 0 18), (18, ab_aload 0 19), (19, ab_getf 1 0 22), (22, ab_aload 0 23), (23, ab_iload 1 24), (24, ab_callV 1 277 1 27), (27, ab_aload 0 28), (28, ab_getf 1 1 31), (31, ab_ishl 32), (32, ab_callS 278 2 35), (35, ab_putf 1 0 (.array .byte) 38), (38, ab_vret)]
def ab_c265 : Nat → ab_Op := ab_lk2 [(39, ab_l265_0)]
def ab_l266_0 : List (Nat × ab_Op) := [(0, ab_gst (.int 1) 3), (3, ab_if_eq 17 6), (6, ab_aload 0 7), (7, ab_getf 1 1 10), (10, ab_if_ne 17 13), (13, ab_iconst (1) 14), (14, ab_goto 18), (17, ab_iconst (0) 18), (18, ab_zret)]
def ab_c266 : Nat → ab_Op := ab_lk2 [(19, ab_l266_0)]
def ab_l267_0 : List (Nat × ab_Op) := [(0, ab_iconst (1) 1), (1, ab_istore 1 2), (2, ab_iload 0 3), (3, ab_if_lt 11 6), (6, ab_iconst (0) 7), (7, ab_istore 1 8), (8, ab_iload 0 9), (9, ab_ineg 10), (10, ab_istore 0 11), (11, ab_iconst (-10) 13), (13, ab_istore 2 14), (14, ab_iconst (1) 15), (15, ab_istore 3 16), (16, ab_iload 3 17), (17, ab_iconst (10) 19), (19, ab_icmp_ge 42 22), (22, ab_iload 0 23), (23, ab_iload 2 24), (24, ab_icmp_le 31 27), (27, ab_iload 3 28), (28, ab_iload 1 29), (29, ab_iadd 30), (30, ab_iret), (31, ab_iconst (10) 33), (33, ab_iload 2 34), (34, ab_imul 35), (35, ab_istore 2 36), (36, ab_iinc 3 (1) 39), (39, ab_goto 16), (42, ab_iconst (10) 44), (44, ab_iload 1 45), (45, ab_iadd 46), (46, ab_iret)]
def ab_c267 : Nat → ab_Op := ab_lk2 [(47, ab_l267_0)]
def ab_l268_0 : List (Nat × ab_Op) := [(0, ab_iload 1 1), (1, ab_istore 5 3), (3, ab_iload 0 4), (4, ab_if_ge 11 7), (7, ab_iconst (1) 8), (8, ab_goto 12), (11, ab_iconst (0) 12), (12, ab_istore 6 14), (14, ab_iload 6 16), (16, ab_if_ne 22 19), (19, ab_iload 0 20), (20, ab_ineg 21), (21, ab_istore 0 22), (22, ab_iload 0 23), (23, ab_iconst (-100) 25), (25, ab_icmp_gt 72 28), (28, ab_iload 0 29), (29, ab_iconst (100) 31), (31, ab_idiv 32), (32, ab_istore 3 33), (33, ab_iload 3 34), (34, ab_iconst (100) 36), (36, ab_imul 37), (37, ab_iload 0 38), (38, ab_isub 39), (39, ab_istore 4 41), (41, ab_iload 3 42), (42, ab_istore 0 43), (43, ab_aload 2 44), (44, ab_iinc 5 (-1) 47), (47, ab_iload 5 49), (49, ab_gst (.ref 3) 52), (52, ab_iload 4 54), (54, ab_tone 55), (55, ab_ast 4 .byte 56), (56, ab_aload 2 57), (57, ab_iinc 5 (-1) 60), (60, ab_iload 5 62), (62, ab_gst (.ref 2) 65), (65, ab_iload 4 67)]
def ab_l268_1 : List (Nat × ab_Op) := [(67, ab_tten 68), (68, ab_ast 4 .byte 69), (69, ab_goto 22), (72, ab_aload 2 73), (73, ab_iinc 5 (-1) 76), (76, ab_iload 5 78), (78, ab_gst (.ref 3) 81), (81, ab_iload 0 82), (82, ab_ineg 83), (83, ab_tone 84), (84, ab_ast 4 .byte 85), (85, ab_iload 0 86), (86, ab_iconst (-9) 88), (88, ab_icmp_ge 104 91), (91, ab_aload 2 92), (92, ab_iinc 5 (-1) 95), (95, ab_iload 5 97), (97, ab_gst (.ref 2) 100), (100, ab_iload 0 101), (101, ab_ineg 102), (102, ab_tten 103), (103, ab_ast 4 .byte 104), (104, ab_iload 6 106), (106, ab_if_eq 118 109), (109, ab_aload 2 110), (110, ab_iinc 5 (-1) 113), (113, ab_iload 5 115), (115, ab_iconst (45) 117), (117, ab_ast 4 .byte 118), (118, ab_iload 5 120), (120, ab_iret)]
def ab_c268 : Nat → ab_Op := ab_lk2 [(67, ab_l268_0), (121, ab_l268_1)]
def ab_l269_0 : List (Nat × ab_Op) := [(0, ab_iload 0 1), (1, ab_iconst (255) 4), (4, ab_icmp_gt 11 7), (7, ab_iconst (1) 8), (8, ab_goto 12), (11, ab_iconst (0) 12), (12, ab_zret)]
def ab_c269 : Nat → ab_Op := ab_lk2 [(13, ab_l269_0)]
def ab_l270_0 : List (Nat × ab_Op) := [(0, ab_iload 0 1), (1, ab_tsw 100 [117, 114, 123, 96, 123, 123, 123, 123, 105, 123, 123, 123, 108, 123, 123, 99, 111, 102, 123, 120] 123), (96, ab_gst (.ref 4) 98), (98, ab_aret), (99, ab_gst (.ref 6) 101), (101, ab_aret), (102, ab_gst (.ref 6) 104), (104, ab_aret), (105, ab_gst (.ref 8) 107), (107, ab_aret), (108, ab_gst (.ref 8) 110), (110, ab_aret), (111, ab_gst (.ref 6) 113), (113, ab_aret), (114, ab_gst (.ref 10) 116), (116, ab_aret), (117, ab_gst (.ref 6) 119), (119, ab_aret), (120, ab_gst (.ref 12) 122), (122, ab_aret), (123, ab_gst (.ref 14) 125), (125, ab_aret)]
def ab_c270 : Nat → ab_Op := ab_lk2 [(126, ab_l270_0)]
def ab_l271_0 : List (Nat × ab_Op) := [(0, ab_aload 0 1), (1, ab_sval 4), (4, ab_slenb 5), (5, ab_if_ne 12 8), (8, ab_iconst (1) 9), (9, ab_goto 13), (12, ab_iconst (0) 13), (13, ab_zret)]
def ab_c271 : Nat → ab_Op := ab_lk2 [(14, ab_l271_0)]
def ab_l272_0 : List (Nat × ab_Op) := [(0, ab_aload 0 1), (1, ab_sval 4), (4, ab_slenb 5), (5, ab_aload 0 6), (6, ab_callT 279 0 9), (9, ab_ishr 10), (10, ab_iret)]
def ab_c272 : Nat → ab_Op := ab_lk2 [(11, ab_l272_0)]
def ab_l273_0 : List (Nat × ab_Op) := [(0, ab_aload 0 1), (1, ab_callT 280 0 4), (4, ab_if_eq 16 7), (7, ab_aload 0 8), (8, ab_sval 11), (11, ab_iload 1 12), (12, ab_callS 281 2 15), (15, ab_cret), (16, ab_aload 0 17), (17, ab_sval 20), (20, ab_iload 1 21)]
def ab_c273 : Nat → ab_Op := ab_lk2 [(21, ab_l273_0)]
def ab_l274_0 : List (Nat × ab_Op) := [(0, ab_iload 1 1), (1, ab_tsw 33 [48, 60, 36, 60, 42] 60), (36, ab_aload 0 37), (37, ab_iconst (1) 38), (38, ab_callV 6 282 1 41), (41, ab_zret), (42, ab_aload 0 43), (43, ab_iconst (2) 44), (44, ab_callV 6 282 1 47), (47, ab_zret), (48, ab_aload 0 49), (49, ab_aload 0 50), (50, ab_iconst (33) 52), (52, ab_callV 6 241 1 55), (55, ab_putf 6 7 (.boolean) 58), (58, ab_iconst (1) 59), (59, ab_zret), (60, ab_aload 0 61), (61, ab_iload 1 62), (62, ab_callV 6 241 1 65), (65, ab_zret)]
def ab_c274 : Nat → ab_Op := ab_lk2 [(66, ab_l274_0)]
def ab_l275_0 : List (Nat × ab_Op) := [(0, ab_aload 0 1), (1, ab_iconst (0) 2), (2, ab_putf 5 2 (.int) 5), (5, ab_aload 0 6), (6, ab_iconst (0) 7), (7, ab_putf 5 4 (.int) 10), (10, ab_aload 0 11), (11, ab_iconst (-1) 12), (12, ab_putf 5 6 (.int) 15), (15, ab_vret)]
def ab_c275 : Nat → ab_Op := ab_lk2 [(16, ab_l275_0)]
def ab_l276_0 : List (Nat × ab_Op) := [(0, ab_iload 0 1), (1, ab_if_lt 9 4), (4, ab_iload 0 5), (5, ab_iload 1 6), (6, ab_icmp_lt 16 9), (9, ab_aload 2 10), (10, ab_iload 0 11), (11, ab_iload 1 12), (16, ab_iload 0 17), (17, ab_iret)]
def ab_c276 : Nat → ab_Op := ab_lk2 [(18, ab_l276_0)]
def ab_l277_0 : List (Nat × ab_Op) := [(0, ab_aload 0 1), (1, ab_getf 1 0 4), (4, ab_alen 5), (5, ab_istore 2 6), (6, ab_iload 1 7), (7, ab_aload 0 8), (8, ab_getf 1 1 11), (11, ab_ishl 12), (12, ab_istore 3 13), (13, ab_iload 3 14), (14, ab_iload 2 15), (15, ab_isub 16), (16, ab_istore 4 18), (18, ab_iload 2 19), (19, ab_iload 4 21), (21, ab_iload 2 22), (22, ab_iconst (2) 23), (23, ab_aload 0 24), (24, ab_getf 1 1 27), (27, ab_ishl 28), (28, ab_iadd 29), (29, ab_callS 283 3 32), (32, ab_istore 5 34), (34, ab_iload 5 36), (36, ab_iconst 2147483647 38), (38, ab_icmp_ne 51 41), (51, ab_iload 5 53), (53, ab_aload 0 54), (54, ab_getf 1 1 57), (57, ab_ishr 58), (58, ab_iret)]
def ab_c277 : Nat → ab_Op := ab_lk2 [(59, ab_l277_0)]
def ab_l278_0 : List (Nat × ab_Op) := [(0, ab_iload 1 1), (1, ab_aload 0 2), (2, ab_alen 3), (3, ab_icmp_ne 14 6), (6, ab_aload 0 7), (14, ab_iload 1 15), (15, ab_newa4 17), (17, ab_astore 2 18), (18, ab_aload 0 19), (19, ab_iconst (0) 20), (20, ab_aload 2 21), (21, ab_iconst (0) 22), (22, ab_aload 0 23), (23, ab_alen 24), (24, ab_iload 1 25), (25, ab_mmin 28), (28, ab_acopy 4 .byte 31), (31, ab_aload 2 32), (32, ab_aret)]
def ab_c278 : Nat → ab_Op := ab_lk2 [(33, ab_l278_0)]
def ab_l279_0 : List (Nat × ab_Op) := [(0, ab_gst (.int 1) 3), (3, ab_if_eq 13 6), (6, ab_aload 0 7), (7, ab_scod 10), (10, ab_goto 14), (13, ab_iconst (1) 14), (14, ab_bret)]
def ab_c279 : Nat → ab_Op := ab_lk2 [(15, ab_l279_0)]
def ab_l280_0 : List (Nat × ab_Op) := [(0, ab_gst (.int 1) 3), (3, ab_if_eq 17 6), (6, ab_aload 0 7), (7, ab_scod 10), (10, ab_if_ne 17 13), (13, ab_iconst (1) 14), (14, ab_goto 18), (17, ab_iconst (0) 18), (18, ab_zret)]
def ab_c280 : Nat → ab_Op := ab_lk2 [(19, ab_l280_0)]
def ab_l281_0 : List (Nat × ab_Op) := [(0, ab_iload 1 1), (1, ab_aload 0 2), (2, ab_slenb 3), (3, ab_callS 264 2 6), (6, ab_aload 0 7), (7, ab_iload 1 8), (8, ab_sldb 9), (9, ab_iconst (255) 12), (12, ab_iand 13), (13, ab_i2c 14), (14, ab_cret)]
def ab_c281 : Nat → ab_Op := ab_lk2 [(15, ab_l281_0)]
def ab_l282_0 : List (Nat × ab_Op) := [(0, ab_iconst (0) 1), (1, ab_istore 2 2), (2, ab_iconst (0) 3), (3, ab_istore 3 4), (4, ab_iload 3 5), (5, ab_iload 1 6), (6, ab_icmp_ge 50 9), (9, ab_aload 0 10), (10, ab_callV 6 284 0 13), (13, ab_if_eq 50 16), (16, ab_iload 2 17), (17, ab_iconst (10) 19), (19, ab_imul 20), (20, ab_aload 0 21), (21, ab_getf 6 0 24), (24, ab_aload 0 25), (25, ab_getf 6 3 28), (28, ab_ald 3 29), (29, ab_iconst (48) 31), (31, ab_isub 32), (32, ab_iadd 33), (33, ab_istore 2 34), (34, ab_iinc 3 (1) 37), (37, ab_aload 0 38), (38, ab_dup 39), (39, ab_getf 6 3 42), (42, ab_iconst (1) 43), (43, ab_iadd 44), (44, ab_putf 6 3 (.int) 47), (47, ab_goto 4), (50, ab_iload 3 51), (51, ab_if_eq 62 54), (54, ab_aload 0 55), (55, ab_getf 6 6 58), (58, ab_iconst (3) 59), (59, ab_icmp_lt 64 62), (62, ab_iconst (0) 63), (63, ab_zret), (64, ab_aload 0 65), (65, ab_getf 6 5 68)]
def ab_l282_1 : List (Nat × ab_Op) := [(68, ab_aload 0 69), (69, ab_getf 6 6 72), (72, ab_iload 2 73), (73, ab_ast 0 .int 74), (74, ab_aload 0 75), (75, ab_dup 76), (76, ab_getf 6 6 79), (79, ab_iconst (1) 80), (80, ab_iadd 81), (81, ab_putf 6 6 (.int) 84), (84, ab_iconst (1) 85), (85, ab_zret)]
def ab_c282 : Nat → ab_Op := ab_lk2 [(68, ab_l282_0), (86, ab_l282_1)]
def ab_l283_0 : List (Nat × ab_Op) := [(0, ab_iload 0 1), (1, ab_iload 1 2), (2, ab_iload 2 3), (3, ab_mmax 6), (6, ab_iadd 7), (7, ab_istore 3 8), (8, ab_iconst (0) 9), (9, ab_iload 3 10), (10, ab_icmp_ge 21 13), (13, ab_iload 3 14), (14, ab_iconst 2147483639 16), (16, ab_icmp_gt 21 19), (19, ab_iload 3 20), (20, ab_iret), (21, ab_iload 0 22), (22, ab_iload 1 23)]
def ab_c283 : Nat → ab_Op := ab_lk2 [(23, ab_l283_0)]
def ab_l284_0 : List (Nat × ab_Op) := [(0, ab_aload 0 1), (1, ab_getf 6 3 4), (4, ab_aload 0 5), (5, ab_getf 6 1 8), (8, ab_icmp_ge 43 11), (11, ab_aload 0 12), (12, ab_getf 6 0 15), (15, ab_aload 0 16), (16, ab_getf 6 3 19), (19, ab_ald 3 20), (20, ab_iconst (48) 22), (22, ab_icmp_lt 43 25), (25, ab_aload 0 26), (26, ab_getf 6 0 29), (29, ab_aload 0 30), (30, ab_getf 6 3 33), (33, ab_ald 3 34), (34, ab_iconst (57) 36), (36, ab_icmp_gt 43 39), (39, ab_iconst (1) 40), (40, ab_goto 44), (43, ab_iconst (0) 44), (44, ab_zret)]
def ab_c284 : Nat → ab_Op := ab_lk2 [(45, ab_l284_0)]
def ab_mtl : List ab_M := [ab_g0, ab_g1, ab_g2, ab_g3, ab_g4, ab_g5, ab_g6, ab_g7, ab_g8, ab_g9, ab_g10, ab_g11, ab_g12, ab_g13, ab_g14, ab_g15, ab_g16, ab_g17, ab_g18, ab_g19, ab_g20, ab_g21, ab_g22, ab_g23, ab_g24, ab_g25, ab_g26, ab_g27, ab_g28, ab_g29, ab_g30, ab_g31, ab_g32, ab_g33, ab_g34, ab_g35, ab_g36, ab_g37, ab_g38, ab_g39, ab_g40, ab_g41, ab_g42, ab_g43, ab_g44, ab_g45, ab_g46, ab_g47, ab_g48, ab_g49, ab_g50, ab_g51, ab_g52, ab_g53, ab_g54, ab_g55, ab_g56, ab_g57, ab_g58, ab_g59, ab_g60, ab_g61, ab_g62, ab_g63, ab_g64, ab_g65, ab_g66, ab_g67, ab_g68, ab_g69, ab_g70, ab_g71, ab_g72, ab_g73, ab_g74, ab_g75, ab_g76, ab_g77, ab_g78, ab_g79, ab_g80, ab_g81, ab_g82, ab_g83, ab_g84, ab_g85, ab_g86, ab_g87, ab_g88, ab_g89, ab_g90, ab_g91, ab_g92, ab_g93, ab_g94, ab_g95, ab_g96, ab_g97, ab_g98, ab_g99, ab_g100, ab_g101, ab_g102, ab_g103, ab_g104, ab_g105, ab_g106, ab_g107, ab_g108, ab_g109, ab_g110, ab_g111, ab_g112, ab_g113, ab_g114, ab_g115, ab_g116, ab_g117, ab_g118, ab_g119, ab_g120, ab_g121, ab_g122, ab_g123, ab_g124, ab_g125, ab_g126, ab_g127, ab_g128, ab_g129, ab_g130, ab_g131, ab_g132, ab_g133, ab_g134, ab_g135, ab_g136, ab_g137, ab_g138, ab_g139, ab_g140, ab_g141, ab_g142, ab_g143, ab_g144, ab_g145, ab_g146, ab_g147, ab_g148, ab_g149, ab_g150, ab_g151, ab_g152, ab_g153, ab_g154, ab_g155, ab_g156, ab_g157, ab_g158, ab_g159, ab_g160, ab_g161, ab_g162, ab_g163, ab_g164, ab_g165, ab_g166, ab_g167, ab_g168, ab_g169, ab_g170, ab_g171, ab_g172, ab_g173, ab_g174, ab_g175, ab_g176, ab_g177, ab_g178, ab_g179, ab_g180, ab_g181, ab_g182, ab_g183, ab_g184, ab_g185, ab_g186, ab_g187, ab_g188, ab_g189, ab_g190, ab_g191, ab_g192, ab_g193, ab_g194, ab_g195, ab_g196, ab_g197, ab_g198, ab_g199, ab_g200, ab_g201, ab_g202, ab_g203, ab_g204, ab_g205, ab_g206, ab_g207, ab_g208, ab_g209, ab_g210, ab_g211, ab_g212, ab_g213, ab_g214, ab_g215, ab_g216, ab_g217, ab_g218, ab_g219, ab_g220, ab_g221, ab_g222, ab_g223, ab_g224, ab_g225, ab_g226, ab_g227, ab_g228, ab_g229, ab_g230, ab_g231, ab_g232, ab_g233, ab_g234, ab_g235, ab_g236, ab_g237, ab_g238, ab_g239, ab_g240, ab_g241, ab_g242, ab_g243, ab_g244, ab_g245, ab_g246, ab_g247, ab_g248, ab_g249, ab_g250, ab_g251, ab_g252, ab_g253, ab_g254, ab_g255, ab_g256, ab_g257, ab_g258, ab_g259, ab_g260, ab_g261, ab_g262, ab_g263, ab_g264, ab_g265, ab_g266, ab_g267, ab_g268, ab_g269, ab_g270, ab_g271, ab_g272, ab_g273, ab_g274, ab_g275, ab_g276, ab_g277, ab_g278, ab_g279, ab_g280, ab_g281, ab_g282, ab_g283, ab_g284]
def ab_mt (M : Nat) : ab_M := ab_mtl.getD M ab_g0
def ab_pl9 (K : ab_Kt) : List (Nat → ab_Op) := [ab_c0 K, ab_c1, ab_c2, ab_c3, ab_c4, ab_c5, ab_c6, ab_c7, ab_c8, ab_c9, ab_c10, ab_c11, ab_c12, ab_c13, ab_c14, ab_c15, ab_c16, ab_c17, ab_c18, ab_c19, ab_c20, ab_c21, ab_c22, ab_c23, ab_c24, ab_c25, ab_c26, ab_c27, ab_c28, ab_c29, ab_c30, ab_c31, ab_c32, ab_c33, ab_c34, ab_c35, ab_c36, ab_c37, ab_c38, ab_c39, ab_c40, ab_c41, ab_c42, ab_c43, ab_c44, ab_c45, ab_c46, ab_c47, ab_c48, ab_c49, ab_c50, ab_c51, ab_c52, ab_c53, ab_c54, ab_c55, ab_c56, ab_c57, ab_c58, ab_c59, ab_c60, ab_c61, ab_c62, ab_c63, ab_c64, ab_c65, ab_c66, ab_c67, ab_c68, ab_c69, ab_c70, ab_c71, ab_c72, ab_c73, ab_c74, ab_c75, ab_c76, ab_c77, ab_c78, ab_c79, ab_c80, ab_c81, ab_c82, ab_c83, ab_c84, ab_c85, ab_c86, ab_c87, ab_c88, ab_c89, ab_c90, ab_c91, ab_c92, ab_c93, ab_c94, ab_c95, ab_c96, ab_c97, ab_c98, ab_c99, ab_c100, ab_c101, ab_c102, ab_c103, ab_c104, ab_c105, ab_c106, ab_c107, ab_c108, ab_c109, ab_c110, ab_c111, ab_c112, ab_c113, ab_c114, ab_c115, ab_c116, ab_c117, ab_c118, ab_c119, ab_c120, ab_c121, ab_c122, ab_c123, ab_c124, ab_c125, ab_c126, ab_c127, ab_c128, ab_c129, ab_c130, ab_c131, ab_c132, ab_c133, ab_c134, ab_c135, ab_c136, ab_c137, ab_c138, ab_c139, ab_c140, ab_c141, ab_c142, ab_c143, ab_c144, ab_c145, ab_c146, ab_c147, ab_c148, ab_c149, ab_c150, ab_c151, ab_c152, ab_c153, ab_c154, ab_c155, ab_c156, ab_c157, ab_c158, ab_c159, ab_c160, ab_c161, ab_c162, ab_c163, ab_c164, ab_c165, ab_c166, ab_c167, ab_c168, ab_c169, ab_c170, ab_c171, ab_c172, ab_c173, ab_c174, ab_c175, ab_c176, ab_c177, ab_c178, ab_c179, ab_c180, ab_c181, ab_c182, ab_c183, ab_c184, ab_c185, ab_c186, ab_c187, ab_c188, ab_c189, ab_c190, ab_c191, ab_c192, ab_c193, ab_c194, ab_c195, ab_c196, ab_c197, ab_c198, ab_c199, ab_c200, ab_c201, ab_c202, ab_c203, ab_c204, ab_c205, ab_c206, ab_c207, ab_c208, ab_c209, ab_c210, ab_c211, ab_c212, ab_c213, ab_c214, ab_c215, ab_c216, ab_c217, ab_c218, ab_c219, ab_c220, ab_c221, ab_c222, ab_c223, ab_c224, ab_c225, ab_c226, ab_c227, ab_c228, ab_c229, ab_c230, ab_c231, ab_c232, ab_c233, ab_c234, ab_c235, ab_c236, ab_c237, ab_c238, ab_c239, ab_c240, ab_c241, ab_c242, ab_c243, ab_c244, ab_c245, ab_c246, ab_c247, ab_c248, ab_c249, ab_c250, ab_c251, ab_c252, ab_c253, ab_c254, ab_c255, ab_c256, ab_c257, ab_c258, ab_c259, ab_c260, ab_c261, ab_c262, ab_c263, ab_c264 K, ab_c265, ab_c266, ab_c267, ab_c268, ab_c269, ab_c270, ab_c271, ab_c272, ab_c273, ab_c274, ab_c275, ab_c276, ab_c277, ab_c278, ab_c279, ab_c280, ab_c281, ab_c282, ab_c283, ab_c284]
def ab_P9 (K : ab_Kt) (M : Nat) : Nat → ab_Op := (ab_pl9 K).getD M (fun _ => ab_fail)
def ab_mx (M : Nat) : Nat := (ab_mt M).2.2.1
theorem ab_m0 : ab_mt 0 = ab_g0 := rfl
theorem ab_m1 : ab_mt 1 = ab_g1 := rfl
theorem ab_m2 : ab_mt 2 = ab_g2 := rfl
theorem ab_m3 : ab_mt 3 = ab_g3 := rfl
theorem ab_m4 : ab_mt 4 = ab_g4 := rfl
theorem ab_m5 : ab_mt 5 = ab_g5 := rfl
theorem ab_m6 : ab_mt 6 = ab_g6 := rfl
theorem ab_m7 : ab_mt 7 = ab_g7 := rfl
theorem ab_m8 : ab_mt 8 = ab_g8 := rfl
theorem ab_m9 : ab_mt 9 = ab_g9 := rfl
theorem ab_m10 : ab_mt 10 = ab_g10 := rfl
theorem ab_m11 : ab_mt 11 = ab_g11 := rfl
theorem ab_m12 : ab_mt 12 = ab_g12 := rfl
theorem ab_m13 : ab_mt 13 = ab_g13 := rfl
theorem ab_m14 : ab_mt 14 = ab_g14 := rfl
theorem ab_m15 : ab_mt 15 = ab_g15 := rfl
theorem ab_m16 : ab_mt 16 = ab_g16 := rfl
theorem ab_m17 : ab_mt 17 = ab_g17 := rfl
theorem ab_m18 : ab_mt 18 = ab_g18 := rfl
theorem ab_m19 : ab_mt 19 = ab_g19 := rfl
theorem ab_m20 : ab_mt 20 = ab_g20 := rfl
theorem ab_m21 : ab_mt 21 = ab_g21 := rfl
theorem ab_m22 : ab_mt 22 = ab_g22 := rfl
theorem ab_m23 : ab_mt 23 = ab_g23 := rfl
theorem ab_m24 : ab_mt 24 = ab_g24 := rfl
theorem ab_m25 : ab_mt 25 = ab_g25 := rfl
theorem ab_m26 : ab_mt 26 = ab_g26 := rfl
theorem ab_m27 : ab_mt 27 = ab_g27 := rfl
theorem ab_m28 : ab_mt 28 = ab_g28 := rfl
theorem ab_m29 : ab_mt 29 = ab_g29 := rfl
theorem ab_m30 : ab_mt 30 = ab_g30 := rfl
theorem ab_m31 : ab_mt 31 = ab_g31 := rfl
theorem ab_m32 : ab_mt 32 = ab_g32 := rfl
theorem ab_m33 : ab_mt 33 = ab_g33 := rfl
theorem ab_m34 : ab_mt 34 = ab_g34 := rfl
theorem ab_m35 : ab_mt 35 = ab_g35 := rfl
theorem ab_m36 : ab_mt 36 = ab_g36 := rfl
theorem ab_m37 : ab_mt 37 = ab_g37 := rfl
theorem ab_m38 : ab_mt 38 = ab_g38 := rfl
theorem ab_m39 : ab_mt 39 = ab_g39 := rfl
theorem ab_m40 : ab_mt 40 = ab_g40 := rfl
theorem ab_m41 : ab_mt 41 = ab_g41 := rfl
theorem ab_m42 : ab_mt 42 = ab_g42 := rfl
theorem ab_m43 : ab_mt 43 = ab_g43 := rfl
theorem ab_m44 : ab_mt 44 = ab_g44 := rfl
theorem ab_m45 : ab_mt 45 = ab_g45 := rfl
theorem ab_m46 : ab_mt 46 = ab_g46 := rfl
theorem ab_m47 : ab_mt 47 = ab_g47 := rfl
theorem ab_m48 : ab_mt 48 = ab_g48 := rfl
theorem ab_m49 : ab_mt 49 = ab_g49 := rfl
theorem ab_m50 : ab_mt 50 = ab_g50 := rfl
theorem ab_m51 : ab_mt 51 = ab_g51 := rfl
theorem ab_m52 : ab_mt 52 = ab_g52 := rfl
theorem ab_m53 : ab_mt 53 = ab_g53 := rfl
theorem ab_m54 : ab_mt 54 = ab_g54 := rfl
theorem ab_m55 : ab_mt 55 = ab_g55 := rfl
theorem ab_m56 : ab_mt 56 = ab_g56 := rfl
theorem ab_m57 : ab_mt 57 = ab_g57 := rfl
theorem ab_m58 : ab_mt 58 = ab_g58 := rfl
theorem ab_m59 : ab_mt 59 = ab_g59 := rfl
theorem ab_m60 : ab_mt 60 = ab_g60 := rfl
theorem ab_m61 : ab_mt 61 = ab_g61 := rfl
theorem ab_m62 : ab_mt 62 = ab_g62 := rfl
theorem ab_m63 : ab_mt 63 = ab_g63 := rfl
theorem ab_m64 : ab_mt 64 = ab_g64 := rfl
theorem ab_m65 : ab_mt 65 = ab_g65 := rfl
theorem ab_m66 : ab_mt 66 = ab_g66 := rfl
theorem ab_m67 : ab_mt 67 = ab_g67 := rfl
theorem ab_m68 : ab_mt 68 = ab_g68 := rfl
theorem ab_m69 : ab_mt 69 = ab_g69 := rfl
theorem ab_m70 : ab_mt 70 = ab_g70 := rfl
theorem ab_m71 : ab_mt 71 = ab_g71 := rfl
theorem ab_m72 : ab_mt 72 = ab_g72 := rfl
theorem ab_m73 : ab_mt 73 = ab_g73 := rfl
theorem ab_m74 : ab_mt 74 = ab_g74 := rfl
theorem ab_m75 : ab_mt 75 = ab_g75 := rfl
theorem ab_m76 : ab_mt 76 = ab_g76 := rfl
theorem ab_m77 : ab_mt 77 = ab_g77 := rfl
theorem ab_m78 : ab_mt 78 = ab_g78 := rfl
theorem ab_m79 : ab_mt 79 = ab_g79 := rfl
theorem ab_m80 : ab_mt 80 = ab_g80 := rfl
theorem ab_m81 : ab_mt 81 = ab_g81 := rfl
theorem ab_m82 : ab_mt 82 = ab_g82 := rfl
theorem ab_m83 : ab_mt 83 = ab_g83 := rfl
theorem ab_m84 : ab_mt 84 = ab_g84 := rfl
theorem ab_m85 : ab_mt 85 = ab_g85 := rfl
theorem ab_m86 : ab_mt 86 = ab_g86 := rfl
theorem ab_m87 : ab_mt 87 = ab_g87 := rfl
theorem ab_m88 : ab_mt 88 = ab_g88 := rfl
theorem ab_m89 : ab_mt 89 = ab_g89 := rfl
theorem ab_m90 : ab_mt 90 = ab_g90 := rfl
theorem ab_m91 : ab_mt 91 = ab_g91 := rfl
theorem ab_m92 : ab_mt 92 = ab_g92 := rfl
theorem ab_m93 : ab_mt 93 = ab_g93 := rfl
theorem ab_m94 : ab_mt 94 = ab_g94 := rfl
theorem ab_m95 : ab_mt 95 = ab_g95 := rfl
theorem ab_m96 : ab_mt 96 = ab_g96 := rfl
theorem ab_m97 : ab_mt 97 = ab_g97 := rfl
theorem ab_m98 : ab_mt 98 = ab_g98 := rfl
theorem ab_m99 : ab_mt 99 = ab_g99 := rfl
theorem ab_m100 : ab_mt 100 = ab_g100 := rfl
theorem ab_m101 : ab_mt 101 = ab_g101 := rfl
theorem ab_m102 : ab_mt 102 = ab_g102 := rfl
theorem ab_m103 : ab_mt 103 = ab_g103 := rfl
theorem ab_m104 : ab_mt 104 = ab_g104 := rfl
theorem ab_m105 : ab_mt 105 = ab_g105 := rfl
theorem ab_m106 : ab_mt 106 = ab_g106 := rfl
theorem ab_m107 : ab_mt 107 = ab_g107 := rfl
theorem ab_m108 : ab_mt 108 = ab_g108 := rfl
theorem ab_m109 : ab_mt 109 = ab_g109 := rfl
theorem ab_m110 : ab_mt 110 = ab_g110 := rfl
theorem ab_m111 : ab_mt 111 = ab_g111 := rfl
theorem ab_m112 : ab_mt 112 = ab_g112 := rfl
theorem ab_m113 : ab_mt 113 = ab_g113 := rfl
theorem ab_m114 : ab_mt 114 = ab_g114 := rfl
theorem ab_m115 : ab_mt 115 = ab_g115 := rfl
theorem ab_m116 : ab_mt 116 = ab_g116 := rfl
theorem ab_m117 : ab_mt 117 = ab_g117 := rfl
theorem ab_m118 : ab_mt 118 = ab_g118 := rfl
theorem ab_m119 : ab_mt 119 = ab_g119 := rfl
theorem ab_m120 : ab_mt 120 = ab_g120 := rfl
theorem ab_m121 : ab_mt 121 = ab_g121 := rfl
theorem ab_m122 : ab_mt 122 = ab_g122 := rfl
theorem ab_m123 : ab_mt 123 = ab_g123 := rfl
theorem ab_m124 : ab_mt 124 = ab_g124 := rfl
theorem ab_m125 : ab_mt 125 = ab_g125 := rfl
theorem ab_m126 : ab_mt 126 = ab_g126 := rfl
theorem ab_m127 : ab_mt 127 = ab_g127 := rfl
theorem ab_m128 : ab_mt 128 = ab_g128 := rfl
theorem ab_m129 : ab_mt 129 = ab_g129 := rfl
theorem ab_m130 : ab_mt 130 = ab_g130 := rfl
theorem ab_m131 : ab_mt 131 = ab_g131 := rfl
theorem ab_m132 : ab_mt 132 = ab_g132 := rfl
theorem ab_m133 : ab_mt 133 = ab_g133 := rfl
theorem ab_m134 : ab_mt 134 = ab_g134 := rfl
theorem ab_m135 : ab_mt 135 = ab_g135 := rfl
theorem ab_m136 : ab_mt 136 = ab_g136 := rfl
theorem ab_m137 : ab_mt 137 = ab_g137 := rfl
theorem ab_m138 : ab_mt 138 = ab_g138 := rfl
theorem ab_m139 : ab_mt 139 = ab_g139 := rfl
theorem ab_m140 : ab_mt 140 = ab_g140 := rfl
theorem ab_m141 : ab_mt 141 = ab_g141 := rfl
theorem ab_m142 : ab_mt 142 = ab_g142 := rfl
theorem ab_m143 : ab_mt 143 = ab_g143 := rfl
theorem ab_m144 : ab_mt 144 = ab_g144 := rfl
theorem ab_m145 : ab_mt 145 = ab_g145 := rfl
theorem ab_m146 : ab_mt 146 = ab_g146 := rfl
theorem ab_m147 : ab_mt 147 = ab_g147 := rfl
theorem ab_m148 : ab_mt 148 = ab_g148 := rfl
theorem ab_m149 : ab_mt 149 = ab_g149 := rfl
theorem ab_m150 : ab_mt 150 = ab_g150 := rfl
theorem ab_m151 : ab_mt 151 = ab_g151 := rfl
theorem ab_m152 : ab_mt 152 = ab_g152 := rfl
theorem ab_m153 : ab_mt 153 = ab_g153 := rfl
theorem ab_m154 : ab_mt 154 = ab_g154 := rfl
theorem ab_m155 : ab_mt 155 = ab_g155 := rfl
theorem ab_m156 : ab_mt 156 = ab_g156 := rfl
theorem ab_m157 : ab_mt 157 = ab_g157 := rfl
theorem ab_m158 : ab_mt 158 = ab_g158 := rfl
theorem ab_m159 : ab_mt 159 = ab_g159 := rfl
theorem ab_m160 : ab_mt 160 = ab_g160 := rfl
theorem ab_m161 : ab_mt 161 = ab_g161 := rfl
theorem ab_m162 : ab_mt 162 = ab_g162 := rfl
theorem ab_m163 : ab_mt 163 = ab_g163 := rfl
theorem ab_m164 : ab_mt 164 = ab_g164 := rfl
theorem ab_m165 : ab_mt 165 = ab_g165 := rfl
theorem ab_m166 : ab_mt 166 = ab_g166 := rfl
theorem ab_m167 : ab_mt 167 = ab_g167 := rfl
theorem ab_m168 : ab_mt 168 = ab_g168 := rfl
theorem ab_m169 : ab_mt 169 = ab_g169 := rfl
theorem ab_m170 : ab_mt 170 = ab_g170 := rfl
theorem ab_m171 : ab_mt 171 = ab_g171 := rfl
theorem ab_m172 : ab_mt 172 = ab_g172 := rfl
theorem ab_m173 : ab_mt 173 = ab_g173 := rfl
theorem ab_m174 : ab_mt 174 = ab_g174 := rfl
theorem ab_m175 : ab_mt 175 = ab_g175 := rfl
theorem ab_m176 : ab_mt 176 = ab_g176 := rfl
theorem ab_m177 : ab_mt 177 = ab_g177 := rfl
theorem ab_m178 : ab_mt 178 = ab_g178 := rfl
theorem ab_m179 : ab_mt 179 = ab_g179 := rfl
theorem ab_m180 : ab_mt 180 = ab_g180 := rfl
theorem ab_m181 : ab_mt 181 = ab_g181 := rfl
theorem ab_m182 : ab_mt 182 = ab_g182 := rfl
theorem ab_m183 : ab_mt 183 = ab_g183 := rfl
theorem ab_m184 : ab_mt 184 = ab_g184 := rfl
theorem ab_m185 : ab_mt 185 = ab_g185 := rfl
theorem ab_m186 : ab_mt 186 = ab_g186 := rfl
theorem ab_m187 : ab_mt 187 = ab_g187 := rfl
theorem ab_m188 : ab_mt 188 = ab_g188 := rfl
theorem ab_m189 : ab_mt 189 = ab_g189 := rfl
theorem ab_m190 : ab_mt 190 = ab_g190 := rfl
theorem ab_m191 : ab_mt 191 = ab_g191 := rfl
theorem ab_m192 : ab_mt 192 = ab_g192 := rfl
theorem ab_m193 : ab_mt 193 = ab_g193 := rfl
theorem ab_m194 : ab_mt 194 = ab_g194 := rfl
theorem ab_m195 : ab_mt 195 = ab_g195 := rfl
theorem ab_m196 : ab_mt 196 = ab_g196 := rfl
theorem ab_m197 : ab_mt 197 = ab_g197 := rfl
theorem ab_m198 : ab_mt 198 = ab_g198 := rfl
theorem ab_m199 : ab_mt 199 = ab_g199 := rfl
theorem ab_m200 : ab_mt 200 = ab_g200 := rfl
theorem ab_m201 : ab_mt 201 = ab_g201 := rfl
theorem ab_m202 : ab_mt 202 = ab_g202 := rfl
theorem ab_m203 : ab_mt 203 = ab_g203 := rfl
theorem ab_m204 : ab_mt 204 = ab_g204 := rfl
theorem ab_m205 : ab_mt 205 = ab_g205 := rfl
theorem ab_m206 : ab_mt 206 = ab_g206 := rfl
theorem ab_m207 : ab_mt 207 = ab_g207 := rfl
theorem ab_m208 : ab_mt 208 = ab_g208 := rfl
theorem ab_m209 : ab_mt 209 = ab_g209 := rfl
theorem ab_m210 : ab_mt 210 = ab_g210 := rfl
theorem ab_m211 : ab_mt 211 = ab_g211 := rfl
theorem ab_m212 : ab_mt 212 = ab_g212 := rfl
theorem ab_m213 : ab_mt 213 = ab_g213 := rfl
theorem ab_m214 : ab_mt 214 = ab_g214 := rfl
theorem ab_m215 : ab_mt 215 = ab_g215 := rfl
theorem ab_m216 : ab_mt 216 = ab_g216 := rfl
theorem ab_m217 : ab_mt 217 = ab_g217 := rfl
theorem ab_m218 : ab_mt 218 = ab_g218 := rfl
theorem ab_m219 : ab_mt 219 = ab_g219 := rfl
theorem ab_m220 : ab_mt 220 = ab_g220 := rfl
theorem ab_m221 : ab_mt 221 = ab_g221 := rfl
theorem ab_m222 : ab_mt 222 = ab_g222 := rfl
theorem ab_m223 : ab_mt 223 = ab_g223 := rfl
theorem ab_m224 : ab_mt 224 = ab_g224 := rfl
theorem ab_m225 : ab_mt 225 = ab_g225 := rfl
theorem ab_m226 : ab_mt 226 = ab_g226 := rfl
theorem ab_m227 : ab_mt 227 = ab_g227 := rfl
theorem ab_m228 : ab_mt 228 = ab_g228 := rfl
theorem ab_m229 : ab_mt 229 = ab_g229 := rfl
theorem ab_m230 : ab_mt 230 = ab_g230 := rfl
theorem ab_m231 : ab_mt 231 = ab_g231 := rfl
theorem ab_m232 : ab_mt 232 = ab_g232 := rfl
theorem ab_m233 : ab_mt 233 = ab_g233 := rfl
theorem ab_m234 : ab_mt 234 = ab_g234 := rfl
theorem ab_m235 : ab_mt 235 = ab_g235 := rfl
theorem ab_m236 : ab_mt 236 = ab_g236 := rfl
theorem ab_m237 : ab_mt 237 = ab_g237 := rfl
theorem ab_m238 : ab_mt 238 = ab_g238 := rfl
theorem ab_m239 : ab_mt 239 = ab_g239 := rfl
theorem ab_m240 : ab_mt 240 = ab_g240 := rfl
theorem ab_m241 : ab_mt 241 = ab_g241 := rfl
theorem ab_m242 : ab_mt 242 = ab_g242 := rfl
theorem ab_m243 : ab_mt 243 = ab_g243 := rfl
theorem ab_m244 : ab_mt 244 = ab_g244 := rfl
theorem ab_m245 : ab_mt 245 = ab_g245 := rfl
theorem ab_m246 : ab_mt 246 = ab_g246 := rfl
theorem ab_m247 : ab_mt 247 = ab_g247 := rfl
theorem ab_m248 : ab_mt 248 = ab_g248 := rfl
theorem ab_m249 : ab_mt 249 = ab_g249 := rfl
theorem ab_m250 : ab_mt 250 = ab_g250 := rfl
theorem ab_m251 : ab_mt 251 = ab_g251 := rfl
theorem ab_m252 : ab_mt 252 = ab_g252 := rfl
theorem ab_m253 : ab_mt 253 = ab_g253 := rfl
theorem ab_m254 : ab_mt 254 = ab_g254 := rfl
theorem ab_m255 : ab_mt 255 = ab_g255 := rfl
theorem ab_m256 : ab_mt 256 = ab_g256 := rfl
theorem ab_m257 : ab_mt 257 = ab_g257 := rfl
theorem ab_m258 : ab_mt 258 = ab_g258 := rfl
theorem ab_m259 : ab_mt 259 = ab_g259 := rfl
theorem ab_m260 : ab_mt 260 = ab_g260 := rfl
theorem ab_m261 : ab_mt 261 = ab_g261 := rfl
theorem ab_m262 : ab_mt 262 = ab_g262 := rfl
theorem ab_m263 : ab_mt 263 = ab_g263 := rfl
theorem ab_m264 : ab_mt 264 = ab_g264 := rfl
theorem ab_m265 : ab_mt 265 = ab_g265 := rfl
theorem ab_m266 : ab_mt 266 = ab_g266 := rfl
theorem ab_m267 : ab_mt 267 = ab_g267 := rfl
theorem ab_m268 : ab_mt 268 = ab_g268 := rfl
theorem ab_m269 : ab_mt 269 = ab_g269 := rfl
theorem ab_m270 : ab_mt 270 = ab_g270 := rfl
theorem ab_m271 : ab_mt 271 = ab_g271 := rfl
theorem ab_m272 : ab_mt 272 = ab_g272 := rfl
theorem ab_m273 : ab_mt 273 = ab_g273 := rfl
theorem ab_m274 : ab_mt 274 = ab_g274 := rfl
theorem ab_m275 : ab_mt 275 = ab_g275 := rfl
theorem ab_m276 : ab_mt 276 = ab_g276 := rfl
theorem ab_m277 : ab_mt 277 = ab_g277 := rfl
theorem ab_m278 : ab_mt 278 = ab_g278 := rfl
theorem ab_m279 : ab_mt 279 = ab_g279 := rfl
theorem ab_m280 : ab_mt 280 = ab_g280 := rfl
theorem ab_m281 : ab_mt 281 = ab_g281 := rfl
theorem ab_m282 : ab_mt 282 = ab_g282 := rfl
theorem ab_m283 : ab_mt 283 = ab_g283 := rfl
theorem ab_m284 : ab_mt 284 = ab_g284 := rfl
def ab_hn3 (pc : Nat) (E : String) : Option (Option Nat) := if pc = 3 then (if E = "java/lang/IllegalStateException" then some (some 11) else none) else none
def ab_hn8 (pc : Nat) (E : String) : Option (Option Nat) := if pc = 3 then (if E = "java/lang/IllegalStateException" then some (some 11) else none) else none
def ab_hn10 (pc : Nat) (E : String) : Option (Option Nat) := if pc = 4 then (if E = "java/lang/IllegalArgumentException" then some (some 12) else none) else none
def ab_hn12 (pc : Nat) (E : String) : Option (Option Nat) := if pc = 3 then (if E = "java/lang/ArithmeticException" then some (some 10) else none) else none
def ab_hn14 (pc : Nat) (E : String) : Option (Option Nat) := if pc = 4 then (if E = "java/lang/IndexOutOfBoundsException" then some (some 12) else if E = "java/lang/ArithmeticException" then some (some 15) else none) else none
def ab_hn16 (pc : Nat) (E : String) : Option (Option Nat) := if pc = 4 then (if E = "java/lang/IndexOutOfBoundsException" then some (some 12) else none) else none
def ab_hn18 (pc : Nat) (E : String) : Option (Option Nat) := if pc = 4 then (if E = "java/lang/IndexOutOfBoundsException" then some (some 12) else none) else none
def ab_hn20 (pc : Nat) (E : String) : Option (Option Nat) := if pc = 4 then (if E = "java/lang/IllegalArgumentException" then some (some 12) else if E = "java/util/NoSuchElementException" then some (some 15) else none) else none
def ab_hn24 (pc : Nat) (E : String) : Option (Option Nat) := if pc = 3 then (if E = "java/lang/IllegalArgumentException" then some (some 11) else if E = "java/lang/UnsupportedOperationException" then some (some 14) else none) else none
def ab_hn26 (pc : Nat) (E : String) : Option (Option Nat) := if pc = 4 then (if E = "java/lang/IllegalStateException" then some (some 12) else none) else none
def ab_hn28 (pc : Nat) (E : String) : Option (Option Nat) := if pc = 4 then (if E = "java/util/NoSuchElementException" then some (some 12) else none) else none
def ab_hn30 (pc : Nat) (E : String) : Option (Option Nat) := if pc = 4 then (if E = "java/lang/IndexOutOfBoundsException" then some (some 12) else if E = "java/util/NoSuchElementException" then some (some 15) else none) else none
def ab_hn32 (pc : Nat) (E : String) : Option (Option Nat) := if pc = 4 then (if E = "java/lang/IndexOutOfBoundsException" then some (some 12) else if E = "java/util/NoSuchElementException" then some (some 15) else none) else none
def ab_hn34 (pc : Nat) (E : String) : Option (Option Nat) := if pc = 5 then (if E = "java/lang/IndexOutOfBoundsException" then some (some 13) else if E = "java/util/NoSuchElementException" then some (some 17) else none) else none
def ab_hn36 (pc : Nat) (E : String) : Option (Option Nat) := if pc = 5 then (if E = "java/lang/IndexOutOfBoundsException" then some (some 20) else none) else none
def ab_hn38 (pc : Nat) (E : String) : Option (Option Nat) := if pc = 4 then (if E = "java/lang/IndexOutOfBoundsException" then some (some 12) else none) else none
def ab_hn40 (pc : Nat) (E : String) : Option (Option Nat) := if pc = 5 then (if E = "java/lang/IndexOutOfBoundsException" then some (some 13) else none) else none
def ab_hn42 (pc : Nat) (E : String) : Option (Option Nat) := if pc = 4 then (if E = "java/lang/IndexOutOfBoundsException" then some (some 12) else none) else none
def ab_hn44 (pc : Nat) (E : String) : Option (Option Nat) := if pc = 5 then (if E = "java/lang/IndexOutOfBoundsException" then some (some 13) else if E = "java/util/NoSuchElementException" then some (some 17) else none) else none
def ab_hn46 (pc : Nat) (E : String) : Option (Option Nat) := if pc = 4 then (if E = "java/lang/IndexOutOfBoundsException" then some (some 12) else none) else none
def ab_hn48 (pc : Nat) (E : String) : Option (Option Nat) := if pc = 4 then (if E = "java/lang/IndexOutOfBoundsException" then some (some 12) else if E = "java/util/NoSuchElementException" then some (some 15) else none) else none
def ab_hn50 (pc : Nat) (E : String) : Option (Option Nat) := if pc = 4 then (if E = "java/lang/IndexOutOfBoundsException" then some (some 12) else none) else none
def ab_hn52 (pc : Nat) (E : String) : Option (Option Nat) := if pc = 4 then (if E = "java/lang/IndexOutOfBoundsException" then some (some 12) else none) else none
def ab_hn54 (pc : Nat) (E : String) : Option (Option Nat) := if pc = 5 then (if E = "java/lang/IndexOutOfBoundsException" then some (some 13) else none) else none
def ab_hn56 (pc : Nat) (E : String) : Option (Option Nat) := if pc = 7 then (if E = "java/lang/IndexOutOfBoundsException" then some (some 15) else if E = "java/lang/IllegalArgumentException" then some (some 19) else none) else none
def ab_hn58 (pc : Nat) (E : String) : Option (Option Nat) := if pc = 5 then (if E = "java/lang/IndexOutOfBoundsException" then some (some 13) else if E = "java/lang/IllegalArgumentException" then some (some 17) else none) else none
def ab_hn60 (pc : Nat) (E : String) : Option (Option Nat) := if pc = 4 then (if E = "java/lang/UnsupportedOperationException" then some (some 12) else none) else none
def ab_hn62 (pc : Nat) (E : String) : Option (Option Nat) := if pc = 4 then (if E = "java/lang/UnsupportedOperationException" then some (some 12) else none) else none
def ab_hn64 (pc : Nat) (E : String) : Option (Option Nat) := if pc = 5 then (if E = "java/lang/UnsupportedOperationException" then some (some 13) else none) else none
def ab_hn66 (pc : Nat) (E : String) : Option (Option Nat) := if pc = 4 then (if E = "java/lang/UnsupportedOperationException" then some (some 12) else none) else none
def ab_hn68 (pc : Nat) (E : String) : Option (Option Nat) := if pc = 5 then (if E = "java/lang/UnsupportedOperationException" then some (some 13) else none) else none
def ab_hn70 (pc : Nat) (E : String) : Option (Option Nat) := if pc = 5 then (if E = "java/lang/UnsupportedOperationException" then some (some 13) else none) else none
def ab_hn72 (pc : Nat) (E : String) : Option (Option Nat) := if pc = 4 then (if E = "java/lang/UnsupportedOperationException" then some (some 12) else none) else none
def ab_hn74 (pc : Nat) (E : String) : Option (Option Nat) := if pc = 4 then (if E = "java/lang/UnsupportedOperationException" then some (some 12) else none) else none
def ab_hn76 (pc : Nat) (E : String) : Option (Option Nat) := if pc = 4 then (if E = "java/lang/UnsupportedOperationException" then some (some 12) else none) else none
def ab_hn78 (pc : Nat) (E : String) : Option (Option Nat) := if pc = 5 then (if E = "java/lang/UnsupportedOperationException" then some (some 13) else none) else none
def ab_hn80 (pc : Nat) (E : String) : Option (Option Nat) := if pc = 7 then (if E = "java/lang/UnsupportedOperationException" then some (some 15) else none) else none
def ab_hn82 (pc : Nat) (E : String) : Option (Option Nat) := if pc = 9 then (if E = "java/lang/UnsupportedOperationException" then some (some 17) else none) else none
def ab_hn84 (pc : Nat) (E : String) : Option (Option Nat) := if pc = 5 then (if E = "java/lang/UnsupportedOperationException" then some (some 13) else none) else none
def ab_hnl : List (Nat → String → Option (Option Nat)) := [(fun _ _ => some none), (fun _ _ => some none), (fun _ _ => some none), ab_hn3, (fun _ _ => some none), (fun _ _ => some none), (fun _ _ => some none), (fun _ _ => some none), ab_hn8, (fun _ _ => some none), ab_hn10, (fun _ _ => some none), ab_hn12, (fun _ _ => some none), ab_hn14, (fun _ _ => some none), ab_hn16, (fun _ _ => some none), ab_hn18, (fun _ _ => some none), ab_hn20, (fun _ _ => some none), (fun _ _ => some none), (fun _ _ => some none), ab_hn24, (fun _ _ => some none), ab_hn26, (fun _ _ => some none), ab_hn28, (fun _ _ => some none), ab_hn30, (fun _ _ => some none), ab_hn32, (fun _ _ => some none), ab_hn34, (fun _ _ => some none), ab_hn36, (fun _ _ => some none), ab_hn38, (fun _ _ => some none), ab_hn40, (fun _ _ => some none), ab_hn42, (fun _ _ => some none), ab_hn44, (fun _ _ => some none), ab_hn46, (fun _ _ => some none), ab_hn48, (fun _ _ => some none), ab_hn50, (fun _ _ => some none), ab_hn52, (fun _ _ => some none), ab_hn54, (fun _ _ => some none), ab_hn56, (fun _ _ => some none), ab_hn58, (fun _ _ => some none), ab_hn60, (fun _ _ => some none), ab_hn62, (fun _ _ => some none), ab_hn64, (fun _ _ => some none), ab_hn66, (fun _ _ => some none), ab_hn68, (fun _ _ => some none), ab_hn70, (fun _ _ => some none), ab_hn72, (fun _ _ => some none), ab_hn74, (fun _ _ => some none), ab_hn76, (fun _ _ => some none), ab_hn78, (fun _ _ => some none), ab_hn80, (fun _ _ => some none), ab_hn82, (fun _ _ => some none), ab_hn84, (fun _ _ => some none), (fun _ _ => some none), (fun _ _ => some none), (fun _ _ => some none), (fun _ _ => some none), (fun _ _ => some none), (fun _ _ => some none), (fun _ _ => some none), (fun _ _ => some none), (fun _ _ => some none), (fun _ _ => some none), (fun _ _ => some none), (fun _ _ => some none), (fun _ _ => some none), (fun _ _ => some none), (fun _ _ => some none), (fun _ _ => some none), (fun _ _ => some none), (fun _ _ => some none), (fun _ _ => some none), (fun _ _ => some none), (fun _ _ => some none), (fun _ _ => some none), (fun _ _ => some none), (fun _ _ => some none), (fun _ _ => some none), (fun _ _ => some none), (fun _ _ => some none), (fun _ _ => some none), (fun _ _ => some none), (fun _ _ => some none), (fun _ _ => some none), (fun _ _ => some none), (fun _ _ => some none), (fun _ _ => some none), (fun _ _ => some none), (fun _ _ => some none), (fun _ _ => some none), (fun _ _ => some none), (fun _ _ => some none), (fun _ _ => some none), (fun _ _ => some none), (fun _ _ => some none), (fun _ _ => some none), (fun _ _ => some none), (fun _ _ => some none), (fun _ _ => some none), (fun _ _ => some none), (fun _ _ => some none), (fun _ _ => some none), (fun _ _ => some none), (fun _ _ => some none), (fun _ _ => some none), (fun _ _ => some none), (fun _ _ => some none), (fun _ _ => some none), (fun _ _ => some none), (fun _ _ => some none), (fun _ _ => some none), (fun _ _ => some none), (fun _ _ => some none), (fun _ _ => some none), (fun _ _ => some none), (fun _ _ => some none), (fun _ _ => some none), (fun _ _ => some none), (fun _ _ => some none), (fun _ _ => some none), (fun _ _ => some none), (fun _ _ => some none), (fun _ _ => some none), (fun _ _ => some none), (fun _ _ => some none), (fun _ _ => some none), (fun _ _ => some none), (fun _ _ => some none), (fun _ _ => some none), (fun _ _ => some none), (fun _ _ => some none), (fun _ _ => some none), (fun _ _ => some none), (fun _ _ => some none), (fun _ _ => some none), (fun _ _ => some none), (fun _ _ => some none), (fun _ _ => some none), (fun _ _ => some none), (fun _ _ => some none), (fun _ _ => some none), (fun _ _ => some none), (fun _ _ => some none), (fun _ _ => some none), (fun _ _ => some none), (fun _ _ => some none), (fun _ _ => some none), (fun _ _ => some none), (fun _ _ => some none), (fun _ _ => some none), (fun _ _ => some none), (fun _ _ => some none), (fun _ _ => some none), (fun _ _ => some none), (fun _ _ => some none), (fun _ _ => some none), (fun _ _ => some none), (fun _ _ => some none), (fun _ _ => some none), (fun _ _ => some none), (fun _ _ => some none), (fun _ _ => some none), (fun _ _ => some none), (fun _ _ => some none), (fun _ _ => some none), (fun _ _ => some none), (fun _ _ => some none), (fun _ _ => some none), (fun _ _ => some none), (fun _ _ => some none), (fun _ _ => some none), (fun _ _ => some none), (fun _ _ => some none), (fun _ _ => some none), (fun _ _ => some none), (fun _ _ => some none), (fun _ _ => some none), (fun _ _ => some none), (fun _ _ => some none), (fun _ _ => some none), (fun _ _ => some none), (fun _ _ => some none), (fun _ _ => some none), (fun _ _ => some none), (fun _ _ => some none), (fun _ _ => some none), (fun _ _ => some none), (fun _ _ => some none), (fun _ _ => some none), (fun _ _ => some none), (fun _ _ => some none), (fun _ _ => some none), (fun _ _ => some none), (fun _ _ => some none), (fun _ _ => some none), (fun _ _ => some none), (fun _ _ => some none), (fun _ _ => some none), (fun _ _ => some none), (fun _ _ => some none), (fun _ _ => some none), (fun _ _ => some none), (fun _ _ => some none), (fun _ _ => some none), (fun _ _ => some none), (fun _ _ => some none), (fun _ _ => some none), (fun _ _ => some none), (fun _ _ => some none), (fun _ _ => some none), (fun _ _ => some none), (fun _ _ => some none), (fun _ _ => some none), (fun _ _ => some none), (fun _ _ => some none), (fun _ _ => some none), (fun _ _ => some none), (fun _ _ => some none), (fun _ _ => some none), (fun _ _ => some none), (fun _ _ => some none), (fun _ _ => some none), (fun _ _ => some none), (fun _ _ => some none), (fun _ _ => some none), (fun _ _ => some none), (fun _ _ => some none), (fun _ _ => some none), (fun _ _ => some none), (fun _ _ => some none), (fun _ _ => some none), (fun _ _ => some none), (fun _ _ => some none), (fun _ _ => some none), (fun _ _ => some none), (fun _ _ => some none), (fun _ _ => some none), (fun _ _ => some none), (fun _ _ => some none), (fun _ _ => some none), (fun _ _ => some none), (fun _ _ => some none), (fun _ _ => some none), (fun _ _ => some none), (fun _ _ => some none), (fun _ _ => some none), (fun _ _ => some none), (fun _ _ => some none), (fun _ _ => some none), (fun _ _ => some none), (fun _ _ => some none), (fun _ _ => some none)]
def ab_hn (M : Nat) : Nat → String → Option (Option Nat) := ab_hnl.getD M (fun _ _ => some none)
