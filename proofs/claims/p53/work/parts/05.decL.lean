theorem dL_cell_0 : decode cL_cell 0 = .ok (.iload_n 1, 1) := by decide +kernel
theorem dL_cell_1 : decode cL_cell 1 = .ok (.aload_n 0, 1) := by decide +kernel
theorem dL_cell_2 : decode cL_cell 2 = .ok (.arraylength, 1) := by decide +kernel
theorem dL_cell_3 : decode cL_cell 3 = .ok (.if_icmp .ge 9, 3) := by decide +kernel
theorem dL_cell_6 : decode cL_cell 6 = .ok (.aload_n 0, 1) := by decide +kernel
theorem dL_cell_7 : decode cL_cell 7 = .ok (.iload_n 1, 1) := by decide +kernel
theorem dL_cell_8 : decode cL_cell 8 = .ok (.iaload, 1) := by decide +kernel
theorem dL_cell_9 : decode cL_cell 9 = .ok (.goto 7, 3) := by decide +kernel
theorem dL_cell_12 : decode cL_cell 12 = .ok (.ldc 7, 2) := by decide +kernel
theorem dL_cell_14 : decode cL_cell 14 = .ok (.iload_n 1, 1) := by decide +kernel
theorem dL_cell_15 : decode cL_cell 15 = .ok (.imul, 1) := by decide +kernel
theorem dL_cell_16 : decode cL_cell 16 = .ok (.ireturn, 1) := by decide +kernel
theorem dL_pick_0 : decode cL_pick 0 = .ok (.aload_n 0, 1) := by decide +kernel
theorem dL_pick_1 : decode cL_pick 1 = .ok (.iload_n 1, 1) := by decide +kernel
theorem dL_pick_2 : decode cL_pick 2 = .ok (.invokestatic 8, 3) := by decide +kernel
theorem dL_pick_5 : decode cL_pick 5 = .ok (.iconst 1, 1) := by decide +kernel
theorem dL_pick_6 : decode cL_pick 6 = .ok (.iushr, 1) := by decide +kernel
theorem dL_pick_7 : decode cL_pick 7 = .ok (.iload_n 2, 1) := by decide +kernel
theorem dL_pick_8 : decode cL_pick 8 = .ok (.irem, 1) := by decide +kernel
theorem dL_pick_9 : decode cL_pick 9 = .ok (.ireturn, 1) := by decide +kernel
theorem dL_addMember_0 : decode cL_addMember 0 = .ok (.aload_n 0, 1) := by decide +kernel
theorem dL_addMember_1 : decode cL_addMember 1 = .ok (.iload_n 1, 1) := by decide +kernel
theorem dL_addMember_2 : decode cL_addMember 2 = .ok (.iload_n 2, 1) := by decide +kernel
theorem dL_addMember_3 : decode cL_addMember 3 = .ok (.iload_n 3, 1) := by decide +kernel
theorem dL_addMember_4 : decode cL_addMember 4 = .ok (.iload 4, 2) := by decide +kernel
theorem dL_addMember_6 : decode cL_addMember 6 = .ok (.invokevirtual 14, 3) := by decide +kernel
theorem dL_addMember_9 : decode cL_addMember 9 = .ok (.ireturn, 1) := by decide +kernel
theorem dL_addMember_10 : decode cL_addMember 10 = .ok (.astore 5, 2) := by decide +kernel
theorem dL_addMember_12 : decode cL_addMember 12 = .ok (.bipush (-78), 2) := by decide +kernel
theorem dL_addMember_14 : decode cL_addMember 14 = .ok (.ireturn, 1) := by decide +kernel
theorem dL_addMember_15 : decode cL_addMember 15 = .ok (.astore 5, 2) := by decide +kernel
theorem dL_addMember_17 : decode cL_addMember 17 = .ok (.bipush (-79), 2) := by decide +kernel
theorem dL_addMember_19 : decode cL_addMember 19 = .ok (.ireturn, 1) := by decide +kernel
theorem dL_wind_0 : decode cL_wind 0 = .ok (.aload_n 0, 1) := by decide +kernel
theorem dL_wind_1 : decode cL_wind 1 = .ok (.iload_n 1, 1) := by decide +kernel
theorem dL_wind_2 : decode cL_wind 2 = .ok (.iload_n 2, 1) := by decide +kernel
theorem dL_wind_3 : decode cL_wind 3 = .ok (.invokevirtual 24, 3) := by decide +kernel
theorem dL_wind_6 : decode cL_wind 6 = .ok (.ireturn, 1) := by decide +kernel
theorem dL_wind_7 : decode cL_wind 7 = .ok (.astore_n 3, 1) := by decide +kernel
theorem dL_wind_8 : decode cL_wind 8 = .ok (.bipush (-77), 2) := by decide +kernel
theorem dL_wind_10 : decode cL_wind 10 = .ok (.ireturn, 1) := by decide +kernel
theorem dL_wind_11 : decode cL_wind 11 = .ok (.astore_n 3, 1) := by decide +kernel
theorem dL_wind_12 : decode cL_wind 12 = .ok (.bipush (-78), 2) := by decide +kernel
theorem dL_wind_14 : decode cL_wind 14 = .ok (.ireturn, 1) := by decide +kernel
theorem dL_wind_15 : decode cL_wind 15 = .ok (.astore_n 3, 1) := by decide +kernel
theorem dL_wind_16 : decode cL_wind 16 = .ok (.bipush (-79), 2) := by decide +kernel
theorem dL_wind_18 : decode cL_wind 18 = .ok (.ireturn, 1) := by decide +kernel
theorem dL_tune_0 : decode cL_tune 0 = .ok (.aload_n 0, 1) := by decide +kernel
theorem dL_tune_1 : decode cL_tune 1 = .ok (.iload_n 1, 1) := by decide +kernel
theorem dL_tune_2 : decode cL_tune 2 = .ok (.iload_n 2, 1) := by decide +kernel
theorem dL_tune_3 : decode cL_tune 3 = .ok (.invokevirtual 30, 3) := by decide +kernel
theorem dL_tune_6 : decode cL_tune 6 = .ok (.ireturn, 1) := by decide +kernel
theorem dL_tune_7 : decode cL_tune 7 = .ok (.astore_n 3, 1) := by decide +kernel
theorem dL_tune_8 : decode cL_tune 8 = .ok (.bipush (-77), 2) := by decide +kernel
theorem dL_tune_10 : decode cL_tune 10 = .ok (.ireturn, 1) := by decide +kernel
theorem dL_tune_11 : decode cL_tune 11 = .ok (.astore_n 3, 1) := by decide +kernel
theorem dL_tune_12 : decode cL_tune 12 = .ok (.bipush (-78), 2) := by decide +kernel
theorem dL_tune_14 : decode cL_tune 14 = .ok (.ireturn, 1) := by decide +kernel
theorem dL_buyShares_0 : decode cL_buyShares 0 = .ok (.aload_n 0, 1) := by decide +kernel
theorem dL_buyShares_1 : decode cL_buyShares 1 = .ok (.iload_n 1, 1) := by decide +kernel
theorem dL_buyShares_2 : decode cL_buyShares 2 = .ok (.iload_n 2, 1) := by decide +kernel
theorem dL_buyShares_3 : decode cL_buyShares 3 = .ok (.invokevirtual 33, 3) := by decide +kernel
theorem dL_buyShares_6 : decode cL_buyShares 6 = .ok (.ireturn, 1) := by decide +kernel
theorem dL_buyShares_7 : decode cL_buyShares 7 = .ok (.astore_n 3, 1) := by decide +kernel
theorem dL_buyShares_8 : decode cL_buyShares 8 = .ok (.bipush (-77), 2) := by decide +kernel
theorem dL_buyShares_10 : decode cL_buyShares 10 = .ok (.ireturn, 1) := by decide +kernel
theorem dL_buyShares_11 : decode cL_buyShares 11 = .ok (.astore_n 3, 1) := by decide +kernel
theorem dL_buyShares_12 : decode cL_buyShares 12 = .ok (.bipush (-78), 2) := by decide +kernel
theorem dL_buyShares_14 : decode cL_buyShares 14 = .ok (.ireturn, 1) := by decide +kernel
theorem dL_buyShares_15 : decode cL_buyShares 15 = .ok (.astore_n 3, 1) := by decide +kernel
theorem dL_buyShares_16 : decode cL_buyShares 16 = .ok (.bipush (-79), 2) := by decide +kernel
theorem dL_buyShares_18 : decode cL_buyShares 18 = .ok (.ireturn, 1) := by decide +kernel
theorem dL_buyShares_19 : decode cL_buyShares 19 = .ok (.astore_n 3, 1) := by decide +kernel
theorem dL_buyShares_20 : decode cL_buyShares 20 = .ok (.bipush (-76), 2) := by decide +kernel
theorem dL_buyShares_22 : decode cL_buyShares 22 = .ok (.ireturn, 1) := by decide +kernel
theorem dL_passBeats_0 : decode cL_passBeats 0 = .ok (.aload_n 0, 1) := by decide +kernel
theorem dL_passBeats_1 : decode cL_passBeats 1 = .ok (.iload_n 1, 1) := by decide +kernel
theorem dL_passBeats_2 : decode cL_passBeats 2 = .ok (.invokevirtual 38, 3) := by decide +kernel
theorem dL_passBeats_5 : decode cL_passBeats 5 = .ok (.ireturn, 1) := by decide +kernel
theorem dL_passBeats_6 : decode cL_passBeats 6 = .ok (.astore_n 2, 1) := by decide +kernel
theorem dL_passBeats_7 : decode cL_passBeats 7 = .ok (.bipush (-78), 2) := by decide +kernel
theorem dL_passBeats_9 : decode cL_passBeats 9 = .ok (.ireturn, 1) := by decide +kernel
theorem dL_endQuarter_0 : decode cL_endQuarter 0 = .ok (.aload_n 0, 1) := by decide +kernel
theorem dL_endQuarter_1 : decode cL_endQuarter 1 = .ok (.invokevirtual 42, 3) := by decide +kernel
theorem dL_endQuarter_4 : decode cL_endQuarter 4 = .ok (.ireturn, 1) := by decide +kernel
theorem dL_endQuarter_5 : decode cL_endQuarter 5 = .ok (.astore_n 1, 1) := by decide +kernel
theorem dL_endQuarter_6 : decode cL_endQuarter 6 = .ok (.bipush (-79), 2) := by decide +kernel
theorem dL_endQuarter_8 : decode cL_endQuarter 8 = .ok (.ireturn, 1) := by decide +kernel
theorem dL_vote_0 : decode cL_vote 0 = .ok (.aload_n 0, 1) := by decide +kernel
theorem dL_vote_1 : decode cL_vote 1 = .ok (.iload_n 1, 1) := by decide +kernel
theorem dL_vote_2 : decode cL_vote 2 = .ok (.iload_n 2, 1) := by decide +kernel
theorem dL_vote_3 : decode cL_vote 3 = .ok (.invokevirtual 46, 3) := by decide +kernel
theorem dL_vote_6 : decode cL_vote 6 = .ok (.ifCond .eq 7, 3) := by decide +kernel
theorem dL_vote_9 : decode cL_vote 9 = .ok (.iconst 1, 1) := by decide +kernel
theorem dL_vote_10 : decode cL_vote 10 = .ok (.goto 4, 3) := by decide +kernel
theorem dL_vote_13 : decode cL_vote 13 = .ok (.iconst 0, 1) := by decide +kernel
theorem dL_vote_14 : decode cL_vote 14 = .ok (.ireturn, 1) := by decide +kernel
theorem dL_vote_15 : decode cL_vote 15 = .ok (.astore_n 3, 1) := by decide +kernel
theorem dL_vote_16 : decode cL_vote 16 = .ok (.bipush (-78), 2) := by decide +kernel
theorem dL_vote_18 : decode cL_vote 18 = .ok (.ireturn, 1) := by decide +kernel
theorem dL_shares_0 : decode cL_shares 0 = .ok (.aload_n 0, 1) := by decide +kernel
theorem dL_shares_1 : decode cL_shares 1 = .ok (.iload_n 1, 1) := by decide +kernel
theorem dL_shares_2 : decode cL_shares 2 = .ok (.invokevirtual 50, 3) := by decide +kernel
theorem dL_shares_5 : decode cL_shares 5 = .ok (.ireturn, 1) := by decide +kernel
theorem dL_shares_6 : decode cL_shares 6 = .ok (.astore_n 2, 1) := by decide +kernel
theorem dL_shares_7 : decode cL_shares 7 = .ok (.bipush (-77), 2) := by decide +kernel
theorem dL_shares_9 : decode cL_shares 9 = .ok (.ireturn, 1) := by decide +kernel
theorem dL_spring_0 : decode cL_spring 0 = .ok (.aload_n 0, 1) := by decide +kernel
theorem dL_spring_1 : decode cL_spring 1 = .ok (.iload_n 1, 1) := by decide +kernel
theorem dL_spring_2 : decode cL_spring 2 = .ok (.invokevirtual 53, 3) := by decide +kernel
theorem dL_spring_5 : decode cL_spring 5 = .ok (.ireturn, 1) := by decide +kernel
theorem dL_spring_6 : decode cL_spring 6 = .ok (.astore_n 2, 1) := by decide +kernel
theorem dL_spring_7 : decode cL_spring 7 = .ok (.bipush (-77), 2) := by decide +kernel
theorem dL_spring_9 : decode cL_spring 9 = .ok (.ireturn, 1) := by decide +kernel
theorem dL_tone_0 : decode cL_tone 0 = .ok (.aload_n 0, 1) := by decide +kernel
theorem dL_tone_1 : decode cL_tone 1 = .ok (.iload_n 1, 1) := by decide +kernel
theorem dL_tone_2 : decode cL_tone 2 = .ok (.invokevirtual 56, 3) := by decide +kernel
theorem dL_tone_5 : decode cL_tone 5 = .ok (.ireturn, 1) := by decide +kernel
theorem dL_tone_6 : decode cL_tone 6 = .ok (.astore_n 2, 1) := by decide +kernel
theorem dL_tone_7 : decode cL_tone 7 = .ok (.bipush (-77), 2) := by decide +kernel
theorem dL_tone_9 : decode cL_tone 9 = .ok (.ireturn, 1) := by decide +kernel
theorem dL_purse_0 : decode cL_purse 0 = .ok (.aload_n 0, 1) := by decide +kernel
theorem dL_purse_1 : decode cL_purse 1 = .ok (.iload_n 1, 1) := by decide +kernel
theorem dL_purse_2 : decode cL_purse 2 = .ok (.invokevirtual 59, 3) := by decide +kernel
theorem dL_purse_5 : decode cL_purse 5 = .ok (.ireturn, 1) := by decide +kernel
theorem dL_purse_6 : decode cL_purse 6 = .ok (.astore_n 2, 1) := by decide +kernel
theorem dL_purse_7 : decode cL_purse 7 = .ok (.bipush (-77), 2) := by decide +kernel
theorem dL_purse_9 : decode cL_purse 9 = .ok (.ireturn, 1) := by decide +kernel
theorem dL_dissents_0 : decode cL_dissents 0 = .ok (.aload_n 0, 1) := by decide +kernel
theorem dL_dissents_1 : decode cL_dissents 1 = .ok (.iload_n 1, 1) := by decide +kernel
theorem dL_dissents_2 : decode cL_dissents 2 = .ok (.invokevirtual 62, 3) := by decide +kernel
theorem dL_dissents_5 : decode cL_dissents 5 = .ok (.ireturn, 1) := by decide +kernel
theorem dL_dissents_6 : decode cL_dissents 6 = .ok (.astore_n 2, 1) := by decide +kernel
theorem dL_dissents_7 : decode cL_dissents 7 = .ok (.bipush (-77), 2) := by decide +kernel
theorem dL_dissents_9 : decode cL_dissents 9 = .ok (.ireturn, 1) := by decide +kernel
theorem dL_interval_0 : decode cL_interval 0 = .ok (.aload_n 0, 1) := by decide +kernel
theorem dL_interval_1 : decode cL_interval 1 = .ok (.iload_n 1, 1) := by decide +kernel
theorem dL_interval_2 : decode cL_interval 2 = .ok (.iload_n 2, 1) := by decide +kernel
theorem dL_interval_3 : decode cL_interval 3 = .ok (.invokevirtual 65, 3) := by decide +kernel
theorem dL_interval_6 : decode cL_interval 6 = .ok (.ireturn, 1) := by decide +kernel
theorem dL_interval_7 : decode cL_interval 7 = .ok (.astore_n 3, 1) := by decide +kernel
theorem dL_interval_8 : decode cL_interval 8 = .ok (.bipush (-77), 2) := by decide +kernel
theorem dL_interval_10 : decode cL_interval 10 = .ok (.ireturn, 1) := by decide +kernel
theorem dL_memberAtRank_0 : decode cL_memberAtRank 0 = .ok (.aload_n 0, 1) := by decide +kernel
theorem dL_memberAtRank_1 : decode cL_memberAtRank 1 = .ok (.iload_n 1, 1) := by decide +kernel
theorem dL_memberAtRank_2 : decode cL_memberAtRank 2 = .ok (.invokevirtual 68, 3) := by decide +kernel
theorem dL_memberAtRank_5 : decode cL_memberAtRank 5 = .ok (.ireturn, 1) := by decide +kernel
theorem dL_memberAtRank_6 : decode cL_memberAtRank 6 = .ok (.astore_n 2, 1) := by decide +kernel
theorem dL_memberAtRank_7 : decode cL_memberAtRank 7 = .ok (.bipush (-75), 2) := by decide +kernel
theorem dL_memberAtRank_9 : decode cL_memberAtRank 9 = .ok (.ireturn, 1) := by decide +kernel
theorem dL_dueBeats_0 : decode cL_dueBeats 0 = .ok (.aload_n 0, 1) := by decide +kernel
theorem dL_dueBeats_1 : decode cL_dueBeats 1 = .ok (.iload_n 1, 1) := by decide +kernel
theorem dL_dueBeats_2 : decode cL_dueBeats 2 = .ok (.invokevirtual 73, 3) := by decide +kernel
theorem dL_dueBeats_5 : decode cL_dueBeats 5 = .ok (.lreturn, 1) := by decide +kernel
theorem dL_dueBeats_6 : decode cL_dueBeats 6 = .ok (.astore_n 2, 1) := by decide +kernel
theorem dL_dueBeats_7 : decode cL_dueBeats 7 = .ok (.ldc2_w 77, 3) := by decide +kernel
theorem dL_dueBeats_10 : decode cL_dueBeats 10 = .ok (.lreturn, 1) := by decide +kernel
theorem dL_dueBeatsByDoubling_0 : decode cL_dueBeatsByDoubling 0 = .ok (.aload_n 0, 1) := by decide +kernel
theorem dL_dueBeatsByDoubling_1 : decode cL_dueBeatsByDoubling 1 = .ok (.iload_n 1, 1) := by decide +kernel
theorem dL_dueBeatsByDoubling_2 : decode cL_dueBeatsByDoubling 2 = .ok (.invokevirtual 79, 3) := by decide +kernel
theorem dL_dueBeatsByDoubling_5 : decode cL_dueBeatsByDoubling 5 = .ok (.lreturn, 1) := by decide +kernel
theorem dL_dueBeatsByDoubling_6 : decode cL_dueBeatsByDoubling 6 = .ok (.astore_n 2, 1) := by decide +kernel
theorem dL_dueBeatsByDoubling_7 : decode cL_dueBeatsByDoubling 7 = .ok (.ldc2_w 77, 3) := by decide +kernel
theorem dL_dueBeatsByDoubling_10 : decode cL_dueBeatsByDoubling 10 = .ok (.lreturn, 1) := by decide +kernel
theorem dL_commonBeats_0 : decode cL_commonBeats 0 = .ok (.aload_n 0, 1) := by decide +kernel
theorem dL_commonBeats_1 : decode cL_commonBeats 1 = .ok (.iload_n 1, 1) := by decide +kernel
theorem dL_commonBeats_2 : decode cL_commonBeats 2 = .ok (.iload_n 2, 1) := by decide +kernel
theorem dL_commonBeats_3 : decode cL_commonBeats 3 = .ok (.invokevirtual 82, 3) := by decide +kernel
theorem dL_commonBeats_6 : decode cL_commonBeats 6 = .ok (.ireturn, 1) := by decide +kernel
theorem dL_commonBeats_7 : decode cL_commonBeats 7 = .ok (.astore_n 3, 1) := by decide +kernel
theorem dL_commonBeats_8 : decode cL_commonBeats 8 = .ok (.bipush (-77), 2) := by decide +kernel
theorem dL_commonBeats_10 : decode cL_commonBeats 10 = .ok (.ireturn, 1) := by decide +kernel
theorem dL_beatsUntilChorus_0 : decode cL_beatsUntilChorus 0 = .ok (.aload_n 0, 1) := by decide +kernel
theorem dL_beatsUntilChorus_1 : decode cL_beatsUntilChorus 1 = .ok (.invokevirtual 85, 3) := by decide +kernel
theorem dL_beatsUntilChorus_4 : decode cL_beatsUntilChorus 4 = .ok (.ireturn, 1) := by decide +kernel
theorem dL_beatsUntilChorus_5 : decode cL_beatsUntilChorus 5 = .ok (.astore_n 1, 1) := by decide +kernel
theorem dL_beatsUntilChorus_6 : decode cL_beatsUntilChorus 6 = .ok (.bipush (-75), 2) := by decide +kernel
theorem dL_beatsUntilChorus_8 : decode cL_beatsUntilChorus 8 = .ok (.ireturn, 1) := by decide +kernel
theorem dL_earningsIn_0 : decode cL_earningsIn 0 = .ok (.aload_n 0, 1) := by decide +kernel
theorem dL_earningsIn_1 : decode cL_earningsIn 1 = .ok (.iload_n 1, 1) := by decide +kernel
theorem dL_earningsIn_2 : decode cL_earningsIn 2 = .ok (.invokevirtual 88, 3) := by decide +kernel
theorem dL_earningsIn_5 : decode cL_earningsIn 5 = .ok (.ireturn, 1) := by decide +kernel
theorem dL_earningsIn_6 : decode cL_earningsIn 6 = .ok (.astore_n 2, 1) := by decide +kernel
theorem dL_earningsIn_7 : decode cL_earningsIn 7 = .ok (.bipush (-78), 2) := by decide +kernel
theorem dL_earningsIn_9 : decode cL_earningsIn 9 = .ok (.ireturn, 1) := by decide +kernel
theorem dL_dividend_0 : decode cL_dividend 0 = .ok (.aload_n 0, 1) := by decide +kernel
theorem dL_dividend_1 : decode cL_dividend 1 = .ok (.iload_n 1, 1) := by decide +kernel
theorem dL_dividend_2 : decode cL_dividend 2 = .ok (.invokevirtual 91, 3) := by decide +kernel
theorem dL_dividend_5 : decode cL_dividend 5 = .ok (.ireturn, 1) := by decide +kernel
theorem dL_dividend_6 : decode cL_dividend 6 = .ok (.astore_n 2, 1) := by decide +kernel
theorem dL_dividend_7 : decode cL_dividend 7 = .ok (.bipush (-77), 2) := by decide +kernel
theorem dL_dividend_9 : decode cL_dividend 9 = .ok (.ireturn, 1) := by decide +kernel
theorem dL_dividendByCounting_0 : decode cL_dividendByCounting 0 = .ok (.aload_n 0, 1) := by decide +kernel
theorem dL_dividendByCounting_1 : decode cL_dividendByCounting 1 = .ok (.iload_n 1, 1) := by decide +kernel
theorem dL_dividendByCounting_2 : decode cL_dividendByCounting 2 = .ok (.invokevirtual 94, 3) := by decide +kernel
theorem dL_dividendByCounting_5 : decode cL_dividendByCounting 5 = .ok (.ireturn, 1) := by decide +kernel
theorem dL_dividendByCounting_6 : decode cL_dividendByCounting 6 = .ok (.astore_n 2, 1) := by decide +kernel
theorem dL_dividendByCounting_7 : decode cL_dividendByCounting 7 = .ok (.bipush (-77), 2) := by decide +kernel
theorem dL_dividendByCounting_9 : decode cL_dividendByCounting 9 = .ok (.ireturn, 1) := by decide +kernel
theorem dL_sharesInFavour_0 : decode cL_sharesInFavour 0 = .ok (.aload_n 0, 1) := by decide +kernel
theorem dL_sharesInFavour_1 : decode cL_sharesInFavour 1 = .ok (.iload_n 1, 1) := by decide +kernel
theorem dL_sharesInFavour_2 : decode cL_sharesInFavour 2 = .ok (.iload_n 2, 1) := by decide +kernel
theorem dL_sharesInFavour_3 : decode cL_sharesInFavour 3 = .ok (.invokevirtual 97, 3) := by decide +kernel
theorem dL_sharesInFavour_6 : decode cL_sharesInFavour 6 = .ok (.ireturn, 1) := by decide +kernel
theorem dL_sharesInFavour_7 : decode cL_sharesInFavour 7 = .ok (.astore_n 3, 1) := by decide +kernel
theorem dL_sharesInFavour_8 : decode cL_sharesInFavour 8 = .ok (.bipush (-78), 2) := by decide +kernel
theorem dL_sharesInFavour_10 : decode cL_sharesInFavour 10 = .ok (.ireturn, 1) := by decide +kernel
theorem dL_carriedTone_0 : decode cL_carriedTone 0 = .ok (.aload_n 0, 1) := by decide +kernel
theorem dL_carriedTone_1 : decode cL_carriedTone 1 = .ok (.iload_n 1, 1) := by decide +kernel
theorem dL_carriedTone_2 : decode cL_carriedTone 2 = .ok (.invokevirtual 100, 3) := by decide +kernel
theorem dL_carriedTone_5 : decode cL_carriedTone 5 = .ok (.ireturn, 1) := by decide +kernel
theorem dL_carriedTone_6 : decode cL_carriedTone 6 = .ok (.astore_n 2, 1) := by decide +kernel
theorem dL_carriedTone_7 : decode cL_carriedTone 7 = .ok (.bipush (-78), 2) := by decide +kernel
theorem dL_carriedTone_9 : decode cL_carriedTone 9 = .ok (.ireturn, 1) := by decide +kernel
theorem dL_carriedTone_10 : decode cL_carriedTone 10 = .ok (.astore_n 2, 1) := by decide +kernel
theorem dL_carriedTone_11 : decode cL_carriedTone 11 = .ok (.bipush (-75), 2) := by decide +kernel
theorem dL_carriedTone_13 : decode cL_carriedTone 13 = .ok (.ireturn, 1) := by decide +kernel
theorem dL_power_0 : decode cL_power 0 = .ok (.aload_n 0, 1) := by decide +kernel
theorem dL_power_1 : decode cL_power 1 = .ok (.iload_n 1, 1) := by decide +kernel
theorem dL_power_2 : decode cL_power 2 = .ok (.invokevirtual 103, 3) := by decide +kernel
theorem dL_power_5 : decode cL_power 5 = .ok (.ireturn, 1) := by decide +kernel
theorem dL_power_6 : decode cL_power 6 = .ok (.astore_n 2, 1) := by decide +kernel
theorem dL_power_7 : decode cL_power 7 = .ok (.bipush (-77), 2) := by decide +kernel
theorem dL_power_9 : decode cL_power 9 = .ok (.ireturn, 1) := by decide +kernel
theorem dL_powerByTable_0 : decode cL_powerByTable 0 = .ok (.aload_n 0, 1) := by decide +kernel
theorem dL_powerByTable_1 : decode cL_powerByTable 1 = .ok (.iload_n 1, 1) := by decide +kernel
theorem dL_powerByTable_2 : decode cL_powerByTable 2 = .ok (.invokevirtual 106, 3) := by decide +kernel
theorem dL_powerByTable_5 : decode cL_powerByTable 5 = .ok (.ireturn, 1) := by decide +kernel
theorem dL_powerByTable_6 : decode cL_powerByTable 6 = .ok (.astore_n 2, 1) := by decide +kernel
theorem dL_powerByTable_7 : decode cL_powerByTable 7 = .ok (.bipush (-77), 2) := by decide +kernel
theorem dL_powerByTable_9 : decode cL_powerByTable 9 = .ok (.ireturn, 1) := by decide +kernel
theorem dL_smallestMajority_0 : decode cL_smallestMajority 0 = .ok (.aload_n 0, 1) := by decide +kernel
theorem dL_smallestMajority_1 : decode cL_smallestMajority 1 = .ok (.invokevirtual 109, 3) := by decide +kernel
theorem dL_smallestMajority_4 : decode cL_smallestMajority 4 = .ok (.ireturn, 1) := by decide +kernel
theorem dL_smallestMajority_5 : decode cL_smallestMajority 5 = .ok (.astore_n 1, 1) := by decide +kernel
theorem dL_smallestMajority_6 : decode cL_smallestMajority 6 = .ok (.bipush (-75), 2) := by decide +kernel
theorem dL_smallestMajority_8 : decode cL_smallestMajority 8 = .ok (.ireturn, 1) := by decide +kernel
theorem dL_spoiltBeat_0 : decode cL_spoiltBeat 0 = .ok (.aload_n 0, 1) := by decide +kernel
theorem dL_spoiltBeat_1 : decode cL_spoiltBeat 1 = .ok (.iload_n 1, 1) := by decide +kernel
theorem dL_spoiltBeat_2 : decode cL_spoiltBeat 2 = .ok (.invokevirtual 112, 3) := by decide +kernel
theorem dL_spoiltBeat_5 : decode cL_spoiltBeat 5 = .ok (.ireturn, 1) := by decide +kernel
theorem dL_spoiltBeat_6 : decode cL_spoiltBeat 6 = .ok (.astore_n 2, 1) := by decide +kernel
theorem dL_spoiltBeat_7 : decode cL_spoiltBeat 7 = .ok (.bipush (-77), 2) := by decide +kernel
theorem dL_spoiltBeat_9 : decode cL_spoiltBeat 9 = .ok (.ireturn, 1) := by decide +kernel
theorem dL_meanPurse_0 : decode cL_meanPurse 0 = .ok (.aload_n 0, 1) := by decide +kernel
theorem dL_meanPurse_1 : decode cL_meanPurse 1 = .ok (.invokevirtual 115, 3) := by decide +kernel
theorem dL_meanPurse_4 : decode cL_meanPurse 4 = .ok (.dreturn, 1) := by decide +kernel
theorem dL_meanPurse_5 : decode cL_meanPurse 5 = .ok (.astore_n 1, 1) := by decide +kernel
theorem dL_meanPurse_6 : decode cL_meanPurse 6 = .ok (.ldc2_w 121, 3) := by decide +kernel
theorem dL_meanPurse_9 : decode cL_meanPurse 9 = .ok (.dreturn, 1) := by decide +kernel
theorem dL_powerShare_0 : decode cL_powerShare 0 = .ok (.aload_n 0, 1) := by decide +kernel
theorem dL_powerShare_1 : decode cL_powerShare 1 = .ok (.iload_n 1, 1) := by decide +kernel
theorem dL_powerShare_2 : decode cL_powerShare 2 = .ok (.invokevirtual 123, 3) := by decide +kernel
theorem dL_powerShare_5 : decode cL_powerShare 5 = .ok (.freturn, 1) := by decide +kernel
theorem dL_powerShare_6 : decode cL_powerShare 6 = .ok (.astore_n 2, 1) := by decide +kernel
theorem dL_powerShare_7 : decode cL_powerShare 7 = .ok (.ldc 127, 2) := by decide +kernel
theorem dL_powerShare_9 : decode cL_powerShare 9 = .ok (.freturn, 1) := by decide +kernel
theorem dL_append_0 : decode cL_append 0 = .ok (.aload_n 0, 1) := by decide +kernel
theorem dL_append_1 : decode cL_append 1 = .ok (.iload_n 1, 1) := by decide +kernel
theorem dL_append_2 : decode cL_append 2 = .ok (.invokevirtual 128, 3) := by decide +kernel
theorem dL_append_5 : decode cL_append 5 = .ok (.ireturn, 1) := by decide +kernel
theorem dL_append_6 : decode cL_append 6 = .ok (.astore_n 2, 1) := by decide +kernel
theorem dL_append_7 : decode cL_append 7 = .ok (.bipush (-79), 2) := by decide +kernel
theorem dL_append_9 : decode cL_append 9 = .ok (.ireturn, 1) := by decide +kernel
theorem dL_run_0 : decode cL_run 0 = .ok (.aload_n 0, 1) := by decide +kernel
theorem dL_run_1 : decode cL_run 1 = .ok (.invokevirtual 132, 3) := by decide +kernel
theorem dL_run_4 : decode cL_run 4 = .ok (.ireturn, 1) := by decide +kernel
theorem dL_run_5 : decode cL_run 5 = .ok (.astore_n 1, 1) := by decide +kernel
theorem dL_run_6 : decode cL_run 6 = .ok (.bipush (-78), 2) := by decide +kernel
theorem dL_run_8 : decode cL_run 8 = .ok (.ireturn, 1) := by decide +kernel
theorem dL_run_9 : decode cL_run 9 = .ok (.astore_n 1, 1) := by decide +kernel
theorem dL_run_10 : decode cL_run 10 = .ok (.bipush (-76), 2) := by decide +kernel
theorem dL_run_12 : decode cL_run 12 = .ok (.ireturn, 1) := by decide +kernel
theorem dL_writeMember_0 : decode cL_writeMember 0 = .ok (.aload_n 0, 1) := by decide +kernel
theorem dL_writeMember_1 : decode cL_writeMember 1 = .ok (.iload_n 1, 1) := by decide +kernel
theorem dL_writeMember_2 : decode cL_writeMember 2 = .ok (.invokevirtual 141, 3) := by decide +kernel
theorem dL_writeMember_5 : decode cL_writeMember 5 = .ok (.ireturn, 1) := by decide +kernel
theorem dL_writeMember_6 : decode cL_writeMember 6 = .ok (.astore_n 2, 1) := by decide +kernel
theorem dL_writeMember_7 : decode cL_writeMember 7 = .ok (.bipush (-77), 2) := by decide +kernel
theorem dL_writeMember_9 : decode cL_writeMember 9 = .ok (.ireturn, 1) := by decide +kernel
theorem dL_undo_0 : decode cL_undo 0 = .ok (.aload_n 0, 1) := by decide +kernel
theorem dL_undo_1 : decode cL_undo 1 = .ok (.invokevirtual 148, 3) := by decide +kernel
theorem dL_undo_4 : decode cL_undo 4 = .ok (.ireturn, 1) := by decide +kernel
theorem dL_undo_5 : decode cL_undo 5 = .ok (.astore_n 1, 1) := by decide +kernel
theorem dL_undo_6 : decode cL_undo 6 = .ok (.bipush (-79), 2) := by decide +kernel
theorem dL_undo_8 : decode cL_undo 8 = .ok (.ireturn, 1) := by decide +kernel
theorem dL_restore_0 : decode cL_restore 0 = .ok (.aload_n 0, 1) := by decide +kernel
theorem dL_restore_1 : decode cL_restore 1 = .ok (.invokevirtual 151, 3) := by decide +kernel
theorem dL_restore_4 : decode cL_restore 4 = .ok (.iconst 0, 1) := by decide +kernel
theorem dL_restore_5 : decode cL_restore 5 = .ok (.ireturn, 1) := by decide +kernel
theorem dL_restore_6 : decode cL_restore 6 = .ok (.astore_n 1, 1) := by decide +kernel
theorem dL_restore_7 : decode cL_restore 7 = .ok (.bipush (-79), 2) := by decide +kernel
theorem dL_restore_9 : decode cL_restore 9 = .ok (.ireturn, 1) := by decide +kernel
theorem dL_runs_0 : decode cL_runs 0 = .ok (.iconst 0, 1) := by decide +kernel
theorem dL_runs_1 : decode cL_runs 1 = .ok (.istore_n 2, 1) := by decide +kernel
theorem dL_runs_2 : decode cL_runs 2 = .ok (.iload_n 2, 1) := by decide +kernel
theorem dL_runs_3 : decode cL_runs 3 = .ok (.aload_n 1, 1) := by decide +kernel
theorem dL_runs_4 : decode cL_runs 4 = .ok (.invokevirtual 154, 3) := by decide +kernel
theorem dL_runs_7 : decode cL_runs 7 = .ok (.if_icmp .ge 19, 3) := by decide +kernel
theorem dL_runs_10 : decode cL_runs 10 = .ok (.aload_n 0, 1) := by decide +kernel
theorem dL_runs_11 : decode cL_runs 11 = .ok (.aload_n 1, 1) := by decide +kernel
theorem dL_runs_12 : decode cL_runs 12 = .ok (.iload_n 2, 1) := by decide +kernel
theorem dL_runs_13 : decode cL_runs 13 = .ok (.invokevirtual 159, 3) := by decide +kernel
theorem dL_runs_16 : decode cL_runs 16 = .ok (.invokestatic 162, 3) := by decide +kernel
theorem dL_runs_19 : decode cL_runs 19 = .ok (.istore_n 3, 1) := by decide +kernel
theorem dL_runs_20 : decode cL_runs 20 = .ok (.iinc 2 1, 3) := by decide +kernel
theorem dL_runs_23 : decode cL_runs 23 = .ok (.goto (-21), 3) := by decide +kernel
theorem dL_runs_26 : decode cL_runs 26 = .ok (.aload_n 0, 1) := by decide +kernel
theorem dL_runs_27 : decode cL_runs 27 = .ok (.invokestatic 165, 3) := by decide +kernel
theorem dL_runs_30 : decode cL_runs 30 = .ok (.ireturn, 1) := by decide +kernel
theorem dL_law_0 : decode cL_law 0 = .ok (.new 15, 3) := by decide +kernel
theorem dL_law_3 : decode cL_law 3 = .ok (.dup, 1) := by decide +kernel
theorem dL_law_4 : decode cL_law 4 = .ok (.invokespecial 171, 3) := by decide +kernel
theorem dL_law_7 : decode cL_law 7 = .ok (.astore_n 1, 1) := by decide +kernel
theorem dL_law_8 : decode cL_law 8 = .ok (.bipush 70, 2) := by decide +kernel
theorem dL_law_10 : decode cL_law 10 = .ok (.newarray .long, 2) := by decide +kernel
theorem dL_law_12 : decode cL_law 12 = .ok (.astore_n 2, 1) := by decide +kernel
theorem dL_law_13 : decode cL_law 13 = .ok (.iconst 0, 1) := by decide +kernel
theorem dL_law_14 : decode cL_law 14 = .ok (.istore_n 3, 1) := by decide +kernel
theorem dL_law_15 : decode cL_law 15 = .ok (.aload_n 2, 1) := by decide +kernel
theorem dL_law_16 : decode cL_law 16 = .ok (.iload_n 3, 1) := by decide +kernel
theorem dL_law_17 : decode cL_law 17 = .ok (.aload_n 1, 1) := by decide +kernel
theorem dL_law_18 : decode cL_law 18 = .ok (.invokestatic 172, 3) := by decide +kernel
theorem dL_law_21 : decode cL_law 21 = .ok (.lastore, 1) := by decide +kernel
theorem dL_law_22 : decode cL_law 22 = .ok (.iconst 0, 1) := by decide +kernel
theorem dL_law_23 : decode cL_law 23 = .ok (.istore 4, 2) := by decide +kernel
theorem dL_law_25 : decode cL_law 25 = .ok (.iconst 0, 1) := by decide +kernel
theorem dL_law_26 : decode cL_law 26 = .ok (.istore 5, 2) := by decide +kernel
theorem dL_law_28 : decode cL_law 28 = .ok (.iload 5, 2) := by decide +kernel
theorem dL_law_30 : decode cL_law 30 = .ok (.bipush 56, 2) := by decide +kernel
theorem dL_law_32 : decode cL_law 32 = .ok (.if_icmp .ge 779, 3) := by decide +kernel
theorem dL_law_35 : decode cL_law 35 = .ok (.aload_n 1, 1) := by decide +kernel
theorem dL_law_36 : decode cL_law 36 = .ok (.invokestatic 172, 3) := by decide +kernel
theorem dL_law_39 : decode cL_law 39 = .ok (.lstore 6, 2) := by decide +kernel
theorem dL_law_41 : decode cL_law 41 = .ok (.iload 5, 2) := by decide +kernel
theorem dL_law_43 : decode cL_law 43 = .ok (.iconst 4, 1) := by decide +kernel
theorem dL_law_44 : decode cL_law 44 = .ok (.if_icmp .ge 7, 3) := by decide +kernel
theorem dL_law_47 : decode cL_law 47 = .ok (.iconst 0, 1) := by decide +kernel
theorem dL_law_48 : decode cL_law 48 = .ok (.goto 22, 3) := by decide +kernel
theorem dL_law_51 : decode cL_law 51 = .ok (.iload 5, 2) := by decide +kernel
theorem dL_law_53 : decode cL_law 53 = .ok (.bipush 8, 2) := by decide +kernel
theorem dL_law_55 : decode cL_law 55 = .ok (.if_icmp .ge 7, 3) := by decide +kernel
theorem dL_law_58 : decode cL_law 58 = .ok (.iconst 4, 1) := by decide +kernel
theorem dL_law_59 : decode cL_law 59 = .ok (.goto 11, 3) := by decide +kernel
theorem dL_law_62 : decode cL_law 62 = .ok (.aload_n 0, 1) := by decide +kernel
theorem dL_law_63 : decode cL_law 63 = .ok (.iload 4, 2) := by decide +kernel
theorem dL_law_65 : decode cL_law 65 = .ok (.bipush 38, 2) := by decide +kernel
theorem dL_law_67 : decode cL_law 67 = .ok (.invokestatic 176, 3) := by decide +kernel
theorem dL_law_70 : decode cL_law 70 = .ok (.istore 8, 2) := by decide +kernel
theorem dL_law_72 : decode cL_law 72 = .ok (.aload_n 1, 1) := by decide +kernel
theorem dL_law_73 : decode cL_law 73 = .ok (.invokevirtual 180, 3) := by decide +kernel
theorem dL_law_76 : decode cL_law 76 = .ok (.istore 9, 2) := by decide +kernel
theorem dL_law_78 : decode cL_law 78 = .ok (.aload_n 0, 1) := by decide +kernel
theorem dL_law_79 : decode cL_law 79 = .ok (.iload 4, 2) := by decide +kernel
theorem dL_law_81 : decode cL_law 81 = .ok (.iconst 1, 1) := by decide +kernel
theorem dL_law_82 : decode cL_law 82 = .ok (.iadd, 1) := by decide +kernel
theorem dL_law_83 : decode cL_law 83 = .ok (.iload 9, 2) := by decide +kernel
theorem dL_law_85 : decode cL_law 85 = .ok (.iload 5, 2) := by decide +kernel
theorem dL_law_87 : decode cL_law 87 = .ok (.bipush 13, 2) := by decide +kernel
theorem dL_law_89 : decode cL_law 89 = .ok (.irem, 1) := by decide +kernel
theorem dL_law_90 : decode cL_law 90 = .ok (.bipush 12, 2) := by decide +kernel
theorem dL_law_92 : decode cL_law 92 = .ok (.if_icmp .eq 8, 3) := by decide +kernel
theorem dL_law_95 : decode cL_law 95 = .ok (.iload 9, 2) := by decide +kernel
theorem dL_law_97 : decode cL_law 97 = .ok (.ifCond .ne 7, 3) := by decide +kernel
theorem dL_law_100 : decode cL_law 100 = .ok (.iconst 1, 1) := by decide +kernel
theorem dL_law_101 : decode cL_law 101 = .ok (.goto 4, 3) := by decide +kernel
theorem dL_law_104 : decode cL_law 104 = .ok (.iconst 0, 1) := by decide +kernel
theorem dL_law_105 : decode cL_law 105 = .ok (.iadd, 1) := by decide +kernel
theorem dL_law_106 : decode cL_law 106 = .ok (.invokestatic 176, 3) := by decide +kernel
theorem dL_law_109 : decode cL_law 109 = .ok (.istore 10, 2) := by decide +kernel
theorem dL_law_111 : decode cL_law 111 = .ok (.iconst 1, 1) := by decide +kernel
theorem dL_law_112 : decode cL_law 112 = .ok (.aload_n 0, 1) := by decide +kernel
theorem dL_law_113 : decode cL_law 113 = .ok (.iload 4, 2) := by decide +kernel
theorem dL_law_115 : decode cL_law 115 = .ok (.iconst 2, 1) := by decide +kernel
theorem dL_law_116 : decode cL_law 116 = .ok (.iadd, 1) := by decide +kernel
theorem dL_law_117 : decode cL_law 117 = .ok (.bipush 20, 2) := by decide +kernel
theorem dL_law_119 : decode cL_law 119 = .ok (.invokestatic 176, 3) := by decide +kernel
theorem dL_law_122 : decode cL_law 122 = .ok (.iadd, 1) := by decide +kernel
theorem dL_law_123 : decode cL_law 123 = .ok (.istore 11, 2) := by decide +kernel
theorem dL_law_125 : decode cL_law 125 = .ok (.aload_n 1, 1) := by decide +kernel
theorem dL_law_126 : decode cL_law 126 = .ok (.iload 11, 2) := by decide +kernel
theorem dL_law_128 : decode cL_law 128 = .ok (.invokestatic 183, 3) := by decide +kernel
theorem dL_law_131 : decode cL_law 131 = .ok (.istore 12, 2) := by decide +kernel
theorem dL_law_133 : decode cL_law 133 = .ok (.aload_n 0, 1) := by decide +kernel
theorem dL_law_134 : decode cL_law 134 = .ok (.iload 4, 2) := by decide +kernel
theorem dL_law_136 : decode cL_law 136 = .ok (.iconst 3, 1) := by decide +kernel
theorem dL_law_137 : decode cL_law 137 = .ok (.iadd, 1) := by decide +kernel
theorem dL_law_138 : decode cL_law 138 = .ok (.bipush 12, 2) := by decide +kernel
theorem dL_law_140 : decode cL_law 140 = .ok (.invokestatic 176, 3) := by decide +kernel
theorem dL_law_143 : decode cL_law 143 = .ok (.istore 13, 2) := by decide +kernel
theorem dL_law_145 : decode cL_law 145 = .ok (.aload_n 0, 1) := by decide +kernel
theorem dL_law_146 : decode cL_law 146 = .ok (.iload 4, 2) := by decide +kernel
theorem dL_law_148 : decode cL_law 148 = .ok (.iconst 4, 1) := by decide +kernel
theorem dL_law_149 : decode cL_law 149 = .ok (.iadd, 1) := by decide +kernel
theorem dL_law_150 : decode cL_law 150 = .ok (.bipush 7, 2) := by decide +kernel
theorem dL_law_152 : decode cL_law 152 = .ok (.invokestatic 176, 3) := by decide +kernel
theorem dL_law_155 : decode cL_law 155 = .ok (.istore 14, 2) := by decide +kernel
theorem dL_law_157 : decode cL_law 157 = .ok (.aload_n 1, 1) := by decide +kernel
theorem dL_law_158 : decode cL_law 158 = .ok (.iload 13, 2) := by decide +kernel
theorem dL_law_160 : decode cL_law 160 = .ok (.iload 14, 2) := by decide +kernel
theorem dL_law_162 : decode cL_law 162 = .ok (.invokestatic 185, 3) := by decide +kernel
theorem dL_law_165 : decode cL_law 165 = .ok (.istore 15, 2) := by decide +kernel
theorem dL_law_167 : decode cL_law 167 = .ok (.aload_n 1, 1) := by decide +kernel
theorem dL_law_168 : decode cL_law 168 = .ok (.invokevirtual 188, 3) := by decide +kernel
theorem dL_law_171 : decode cL_law 171 = .ok (.istore 16, 2) := by decide +kernel
theorem dL_law_173 : decode cL_law 173 = .ok (.aload_n 1, 1) := by decide +kernel
theorem dL_law_174 : decode cL_law 174 = .ok (.invokevirtual 191, 3) := by decide +kernel
theorem dL_law_177 : decode cL_law 177 = .ok (.istore 17, 2) := by decide +kernel
theorem dL_law_179 : decode cL_law 179 = .ok (.aload_n 1, 1) := by decide +kernel
theorem dL_law_180 : decode cL_law 180 = .ok (.invokevirtual 194, 3) := by decide +kernel
theorem dL_law_183 : decode cL_law 183 = .ok (.istore 18, 2) := by decide +kernel
theorem dL_law_185 : decode cL_law 185 = .ok (.aload_n 1, 1) := by decide +kernel
theorem dL_law_186 : decode cL_law 186 = .ok (.invokevirtual 197, 3) := by decide +kernel
theorem dL_law_189 : decode cL_law 189 = .ok (.istore 19, 2) := by decide +kernel
theorem dL_law_191 : decode cL_law 191 = .ok (.aload_n 1, 1) := by decide +kernel
theorem dL_law_192 : decode cL_law 192 = .ok (.invokevirtual 200, 3) := by decide +kernel
theorem dL_law_195 : decode cL_law 195 = .ok (.istore 20, 2) := by decide +kernel
theorem dL_law_197 : decode cL_law 197 = .ok (.aload_n 1, 1) := by decide +kernel
theorem dL_law_198 : decode cL_law 198 = .ok (.iconst 0, 1) := by decide +kernel
theorem dL_law_199 : decode cL_law 199 = .ok (.invokestatic 203, 3) := by decide +kernel
theorem dL_law_202 : decode cL_law 202 = .ok (.istore 21, 2) := by decide +kernel
theorem dL_law_204 : decode cL_law 204 = .ok (.aload_n 1, 1) := by decide +kernel
theorem dL_law_205 : decode cL_law 205 = .ok (.iload 10, 2) := by decide +kernel
theorem dL_law_207 : decode cL_law 207 = .ok (.invokestatic 205, 3) := by decide +kernel
theorem dL_law_210 : decode cL_law 210 = .ok (.istore 22, 2) := by decide +kernel
theorem dL_law_212 : decode cL_law 212 = .ok (.aload_n 1, 1) := by decide +kernel
theorem dL_law_213 : decode cL_law 213 = .ok (.iload 10, 2) := by decide +kernel
theorem dL_law_215 : decode cL_law 215 = .ok (.invokestatic 207, 3) := by decide +kernel
theorem dL_law_218 : decode cL_law 218 = .ok (.istore 23, 2) := by decide +kernel
theorem dL_law_220 : decode cL_law 220 = .ok (.aload_n 1, 1) := by decide +kernel
theorem dL_law_221 : decode cL_law 221 = .ok (.iload 10, 2) := by decide +kernel
theorem dL_law_223 : decode cL_law 223 = .ok (.invokestatic 209, 3) := by decide +kernel
theorem dL_law_226 : decode cL_law 226 = .ok (.istore 24, 2) := by decide +kernel
theorem dL_law_228 : decode cL_law 228 = .ok (.aload_n 1, 1) := by decide +kernel
theorem dL_law_229 : decode cL_law 229 = .ok (.iload 10, 2) := by decide +kernel
theorem dL_law_231 : decode cL_law 231 = .ok (.invokestatic 211, 3) := by decide +kernel
theorem dL_law_234 : decode cL_law 234 = .ok (.istore 25, 2) := by decide +kernel
theorem dL_law_236 : decode cL_law 236 = .ok (.aload_n 1, 1) := by decide +kernel
theorem dL_law_237 : decode cL_law 237 = .ok (.iload 10, 2) := by decide +kernel
theorem dL_law_239 : decode cL_law 239 = .ok (.invokestatic 213, 3) := by decide +kernel
theorem dL_law_242 : decode cL_law 242 = .ok (.istore 26, 2) := by decide +kernel
theorem dL_law_244 : decode cL_law 244 = .ok (.iconst 1, 1) := by decide +kernel
theorem dL_law_245 : decode cL_law 245 = .ok (.aload_n 0, 1) := by decide +kernel
theorem dL_law_246 : decode cL_law 246 = .ok (.iload 4, 2) := by decide +kernel
theorem dL_law_248 : decode cL_law 248 = .ok (.iconst 2, 1) := by decide +kernel
theorem dL_law_249 : decode cL_law 249 = .ok (.iadd, 1) := by decide +kernel
theorem dL_law_250 : decode cL_law 250 = .ok (.iconst 3, 1) := by decide +kernel
theorem dL_law_251 : decode cL_law 251 = .ok (.invokestatic 176, 3) := by decide +kernel
theorem dL_law_254 : decode cL_law 254 = .ok (.iadd, 1) := by decide +kernel
theorem dL_law_255 : decode cL_law 255 = .ok (.istore 27, 2) := by decide +kernel
theorem dL_law_257 : decode cL_law 257 = .ok (.aload_n 0, 1) := by decide +kernel
theorem dL_law_258 : decode cL_law 258 = .ok (.iload 4, 2) := by decide +kernel
theorem dL_law_260 : decode cL_law 260 = .ok (.iload 8, 2) := by decide +kernel
theorem dL_law_262 : decode cL_law 262 = .ok (.aload_n 1, 1) := by decide +kernel
theorem dL_law_263 : decode cL_law 263 = .ok (.iload 10, 2) := by decide +kernel
theorem dL_law_265 : decode cL_law 265 = .ok (.iload 11, 2) := by decide +kernel
theorem dL_law_267 : decode cL_law 267 = .ok (.iload 13, 2) := by decide +kernel
theorem dL_law_269 : decode cL_law 269 = .ok (.iload 14, 2) := by decide +kernel
theorem dL_law_271 : decode cL_law 271 = .ok (.iload 27, 2) := by decide +kernel
theorem dL_law_273 : decode cL_law 273 = .ok (.invokestatic 215, 3) := by decide +kernel
theorem dL_law_276 : decode cL_law 276 = .ok (.istore 28, 2) := by decide +kernel
theorem dL_law_278 : decode cL_law 278 = .ok (.iload 28, 2) := by decide +kernel
theorem dL_law_280 : decode cL_law 280 = .ok (.bipush (-70), 2) := by decide +kernel
theorem dL_law_282 : decode cL_law 282 = .ok (.if_icmp .le 7, 3) := by decide +kernel
theorem dL_law_285 : decode cL_law 285 = .ok (.iconst 1, 1) := by decide +kernel
theorem dL_law_286 : decode cL_law 286 = .ok (.goto 4, 3) := by decide +kernel
theorem dL_law_289 : decode cL_law 289 = .ok (.iconst 0, 1) := by decide +kernel
theorem dL_law_290 : decode cL_law 290 = .ok (.istore 29, 2) := by decide +kernel
theorem dL_law_292 : decode cL_law 292 = .ok (.iload 29, 2) := by decide +kernel
theorem dL_law_294 : decode cL_law 294 = .ok (.ifCond .eq 43, 3) := by decide +kernel
theorem dL_law_297 : decode cL_law 297 = .ok (.iload 8, 2) := by decide +kernel
theorem dL_law_299 : decode cL_law 299 = .ok (.iconst 3, 1) := by decide +kernel
theorem dL_law_300 : decode cL_law 300 = .ok (.if_icmp .gt 37, 3) := by decide +kernel
theorem dL_law_303 : decode cL_law 303 = .ok (.iload 28, 2) := by decide +kernel
theorem dL_law_305 : decode cL_law 305 = .ok (.iload 9, 2) := by decide +kernel
theorem dL_law_307 : decode cL_law 307 = .ok (.if_icmp .ne 34, 3) := by decide +kernel
theorem dL_law_310 : decode cL_law 310 = .ok (.aload_n 1, 1) := by decide +kernel
theorem dL_law_311 : decode cL_law 311 = .ok (.iload 28, 2) := by decide +kernel
theorem dL_law_313 : decode cL_law 313 = .ok (.invokestatic 213, 3) := by decide +kernel
theorem dL_law_316 : decode cL_law 316 = .ok (.ifCond .ne 25, 3) := by decide +kernel
theorem dL_law_319 : decode cL_law 319 = .ok (.aload_n 1, 1) := by decide +kernel
theorem dL_law_320 : decode cL_law 320 = .ok (.iload 28, 2) := by decide +kernel
theorem dL_law_322 : decode cL_law 322 = .ok (.invokestatic 207, 3) := by decide +kernel
theorem dL_law_325 : decode cL_law 325 = .ok (.ifCond .ne 16, 3) := by decide +kernel
theorem dL_law_328 : decode cL_law 328 = .ok (.aload_n 1, 1) := by decide +kernel
theorem dL_law_329 : decode cL_law 329 = .ok (.iload 28, 2) := by decide +kernel
theorem dL_law_331 : decode cL_law 331 = .ok (.invokestatic 211, 3) := by decide +kernel
theorem dL_law_334 : decode cL_law 334 = .ok (.ifCond .ne 7, 3) := by decide +kernel
theorem dL_law_337 : decode cL_law 337 = .ok (.iconst 1, 1) := by decide +kernel
theorem dL_law_338 : decode cL_law 338 = .ok (.goto 4, 3) := by decide +kernel
theorem dL_law_341 : decode cL_law 341 = .ok (.iconst 0, 1) := by decide +kernel
theorem dL_law_342 : decode cL_law 342 = .ok (.istore 30, 2) := by decide +kernel
theorem dL_law_344 : decode cL_law 344 = .ok (.iload 30, 2) := by decide +kernel
theorem dL_law_346 : decode cL_law 346 = .ok (.iload 29, 2) := by decide +kernel
theorem dL_law_348 : decode cL_law 348 = .ok (.ifCond .eq 57, 3) := by decide +kernel
theorem dL_law_351 : decode cL_law 351 = .ok (.iload 8, 2) := by decide +kernel
theorem dL_law_353 : decode cL_law 353 = .ok (.bipush 16, 2) := by decide +kernel
theorem dL_law_355 : decode cL_law 355 = .ok (.if_icmp .lt 50, 3) := by decide +kernel
theorem dL_law_358 : decode cL_law 358 = .ok (.iload 8, 2) := by decide +kernel
theorem dL_law_360 : decode cL_law 360 = .ok (.bipush 18, 2) := by decide +kernel
theorem dL_law_362 : decode cL_law 362 = .ok (.if_icmp .gt 43, 3) := by decide +kernel
theorem dL_law_365 : decode cL_law 365 = .ok (.iload 28, 2) := by decide +kernel
theorem dL_law_367 : decode cL_law 367 = .ok (.iload 24, 2) := by decide +kernel
theorem dL_law_369 : decode cL_law 369 = .ok (.iload 27, 2) := by decide +kernel
theorem dL_law_371 : decode cL_law 371 = .ok (.iadd, 1) := by decide +kernel
theorem dL_law_372 : decode cL_law 372 = .ok (.if_icmp .ne 37, 3) := by decide +kernel
theorem dL_law_375 : decode cL_law 375 = .ok (.aload_n 1, 1) := by decide +kernel
theorem dL_law_376 : decode cL_law 376 = .ok (.iload 10, 2) := by decide +kernel
theorem dL_law_378 : decode cL_law 378 = .ok (.invokestatic 207, 3) := by decide +kernel
theorem dL_law_381 : decode cL_law 381 = .ok (.iload 23, 2) := by decide +kernel
theorem dL_law_383 : decode cL_law 383 = .ok (.iconst 5, 1) := by decide +kernel
theorem dL_law_384 : decode cL_law 384 = .ok (.iload 27, 2) := by decide +kernel
theorem dL_law_386 : decode cL_law 386 = .ok (.imul, 1) := by decide +kernel
theorem dL_law_387 : decode cL_law 387 = .ok (.isub, 1) := by decide +kernel
theorem dL_law_388 : decode cL_law 388 = .ok (.if_icmp .ne 21, 3) := by decide +kernel
theorem dL_law_391 : decode cL_law 391 = .ok (.aload_n 1, 1) := by decide +kernel
theorem dL_law_392 : decode cL_law 392 = .ok (.invokevirtual 197, 3) := by decide +kernel
theorem dL_law_395 : decode cL_law 395 = .ok (.iload 19, 2) := by decide +kernel
theorem dL_law_397 : decode cL_law 397 = .ok (.iconst 5, 1) := by decide +kernel
theorem dL_law_398 : decode cL_law 398 = .ok (.iload 27, 2) := by decide +kernel
theorem dL_law_400 : decode cL_law 400 = .ok (.imul, 1) := by decide +kernel
theorem dL_law_401 : decode cL_law 401 = .ok (.iadd, 1) := by decide +kernel
theorem dL_law_402 : decode cL_law 402 = .ok (.if_icmp .ne 7, 3) := by decide +kernel
theorem dL_law_405 : decode cL_law 405 = .ok (.iconst 1, 1) := by decide +kernel
theorem dL_law_406 : decode cL_law 406 = .ok (.goto 4, 3) := by decide +kernel
theorem dL_law_409 : decode cL_law 409 = .ok (.iconst 0, 1) := by decide +kernel
theorem dL_law_410 : decode cL_law 410 = .ok (.iand, 1) := by decide +kernel
theorem dL_law_411 : decode cL_law 411 = .ok (.istore 30, 2) := by decide +kernel
theorem dL_law_413 : decode cL_law 413 = .ok (.iload 29, 2) := by decide +kernel
theorem dL_law_415 : decode cL_law 415 = .ok (.ifCond .eq 21, 3) := by decide +kernel
theorem dL_law_418 : decode cL_law 418 = .ok (.iload 8, 2) := by decide +kernel
theorem dL_law_420 : decode cL_law 420 = .ok (.bipush 18, 2) := by decide +kernel
theorem dL_law_422 : decode cL_law 422 = .ok (.if_icmp .le 14, 3) := by decide +kernel
theorem dL_law_425 : decode cL_law 425 = .ok (.iload 8, 2) := by decide +kernel
theorem dL_law_427 : decode cL_law 427 = .ok (.bipush 28, 2) := by decide +kernel
theorem dL_law_429 : decode cL_law 429 = .ok (.if_icmp .ge 7, 3) := by decide +kernel
theorem dL_law_432 : decode cL_law 432 = .ok (.iconst 1, 1) := by decide +kernel
theorem dL_law_433 : decode cL_law 433 = .ok (.goto 4, 3) := by decide +kernel
theorem dL_law_436 : decode cL_law 436 = .ok (.iconst 0, 1) := by decide +kernel
theorem dL_law_437 : decode cL_law 437 = .ok (.istore 31, 2) := by decide +kernel
theorem dL_law_439 : decode cL_law 439 = .ok (.iload 30, 2) := by decide +kernel
theorem dL_law_441 : decode cL_law 441 = .ok (.iload 31, 2) := by decide +kernel
theorem dL_law_443 : decode cL_law 443 = .ok (.ifCond .eq 97, 3) := by decide +kernel
theorem dL_law_446 : decode cL_law 446 = .ok (.iload 28, 2) := by decide +kernel
theorem dL_law_448 : decode cL_law 448 = .ok (.iload 12, 2) := by decide +kernel
theorem dL_law_450 : decode cL_law 450 = .ok (.if_icmp .ne 94, 3) := by decide +kernel
theorem dL_law_453 : decode cL_law 453 = .ok (.aload_n 1, 1) := by decide +kernel
theorem dL_law_454 : decode cL_law 454 = .ok (.invokevirtual 197, 3) := by decide +kernel
theorem dL_law_457 : decode cL_law 457 = .ok (.iload 19, 2) := by decide +kernel
theorem dL_law_459 : decode cL_law 459 = .ok (.iload 28, 2) := by decide +kernel
theorem dL_law_461 : decode cL_law 461 = .ok (.iadd, 1) := by decide +kernel
theorem dL_law_462 : decode cL_law 462 = .ok (.if_icmp .ne 82, 3) := by decide +kernel
theorem dL_law_465 : decode cL_law 465 = .ok (.aload_n 1, 1) := by decide +kernel
theorem dL_law_466 : decode cL_law 466 = .ok (.invokevirtual 194, 3) := by decide +kernel
theorem dL_law_469 : decode cL_law 469 = .ok (.iload 18, 2) := by decide +kernel
theorem dL_law_471 : decode cL_law 471 = .ok (.iload 11, 2) := by decide +kernel
theorem dL_law_473 : decode cL_law 473 = .ok (.iadd, 1) := by decide +kernel
theorem dL_law_474 : decode cL_law 474 = .ok (.if_icmp .ne 70, 3) := by decide +kernel
theorem dL_law_477 : decode cL_law 477 = .ok (.aload_n 1, 1) := by decide +kernel
theorem dL_law_478 : decode cL_law 478 = .ok (.invokevirtual 200, 3) := by decide +kernel
theorem dL_law_481 : decode cL_law 481 = .ok (.iload 20, 2) := by decide +kernel
theorem dL_law_483 : decode cL_law 483 = .ok (.iload 28, 2) := by decide +kernel
theorem dL_law_485 : decode cL_law 485 = .ok (.iadd, 1) := by decide +kernel
theorem dL_law_486 : decode cL_law 486 = .ok (.if_icmp .lt 58, 3) := by decide +kernel
theorem dL_law_489 : decode cL_law 489 = .ok (.iload 9, 2) := by decide +kernel
theorem dL_law_491 : decode cL_law 491 = .ok (.ifCond .eq 14, 3) := by decide +kernel
theorem dL_law_494 : decode cL_law 494 = .ok (.aload_n 1, 1) := by decide +kernel
theorem dL_law_495 : decode cL_law 495 = .ok (.iload 10, 2) := by decide +kernel
theorem dL_law_497 : decode cL_law 497 = .ok (.invokestatic 213, 3) := by decide +kernel
theorem dL_law_500 : decode cL_law 500 = .ok (.iload 26, 2) := by decide +kernel
theorem dL_law_502 : decode cL_law 502 = .ok (.if_icmp .gt 42, 3) := by decide +kernel
theorem dL_law_505 : decode cL_law 505 = .ok (.aload_n 1, 1) := by decide +kernel
theorem dL_law_506 : decode cL_law 506 = .ok (.invokevirtual 200, 3) := by decide +kernel
theorem dL_law_509 : decode cL_law 509 = .ok (.iload 20, 2) := by decide +kernel
theorem dL_law_511 : decode cL_law 511 = .ok (.isub, 1) := by decide +kernel
theorem dL_law_512 : decode cL_law 512 = .ok (.iload 28, 2) := by decide +kernel
theorem dL_law_514 : decode cL_law 514 = .ok (.if_icmp .ne 7, 3) := by decide +kernel
theorem dL_law_517 : decode cL_law 517 = .ok (.iconst 1, 1) := by decide +kernel
theorem dL_law_518 : decode cL_law 518 = .ok (.goto 4, 3) := by decide +kernel
theorem dL_law_521 : decode cL_law 521 = .ok (.iconst 0, 1) := by decide +kernel
theorem dL_law_522 : decode cL_law 522 = .ok (.aload_n 1, 1) := by decide +kernel
theorem dL_law_523 : decode cL_law 523 = .ok (.iconst 0, 1) := by decide +kernel
theorem dL_law_524 : decode cL_law 524 = .ok (.invokestatic 203, 3) := by decide +kernel
theorem dL_law_527 : decode cL_law 527 = .ok (.iload 21, 2) := by decide +kernel
theorem dL_law_529 : decode cL_law 529 = .ok (.if_icmp .ne 7, 3) := by decide +kernel
theorem dL_law_532 : decode cL_law 532 = .ok (.iconst 1, 1) := by decide +kernel
theorem dL_law_533 : decode cL_law 533 = .ok (.goto 4, 3) := by decide +kernel
theorem dL_law_536 : decode cL_law 536 = .ok (.iconst 0, 1) := by decide +kernel
theorem dL_law_537 : decode cL_law 537 = .ok (.if_icmp .ne 7, 3) := by decide +kernel
theorem dL_law_540 : decode cL_law 540 = .ok (.iconst 1, 1) := by decide +kernel
theorem dL_law_541 : decode cL_law 541 = .ok (.goto 4, 3) := by decide +kernel
theorem dL_law_544 : decode cL_law 544 = .ok (.iconst 0, 1) := by decide +kernel
theorem dL_law_545 : decode cL_law 545 = .ok (.iand, 1) := by decide +kernel
theorem dL_law_546 : decode cL_law 546 = .ok (.istore 30, 2) := by decide +kernel
theorem dL_law_548 : decode cL_law 548 = .ok (.iload 30, 2) := by decide +kernel
theorem dL_law_550 : decode cL_law 550 = .ok (.iload 29, 2) := by decide +kernel
theorem dL_law_552 : decode cL_law 552 = .ok (.ifCond .eq 52, 3) := by decide +kernel
theorem dL_law_555 : decode cL_law 555 = .ok (.iload 8, 2) := by decide +kernel
theorem dL_law_557 : decode cL_law 557 = .ok (.bipush 28, 2) := by decide +kernel
theorem dL_law_559 : decode cL_law 559 = .ok (.if_icmp .lt 45, 3) := by decide +kernel
theorem dL_law_562 : decode cL_law 562 = .ok (.iload 8, 2) := by decide +kernel
theorem dL_law_564 : decode cL_law 564 = .ok (.bipush 30, 2) := by decide +kernel
theorem dL_law_566 : decode cL_law 566 = .ok (.if_icmp .gt 38, 3) := by decide +kernel
theorem dL_law_569 : decode cL_law 569 = .ok (.iload 28, 2) := by decide +kernel
theorem dL_law_571 : decode cL_law 571 = .ok (.iload 19, 2) := by decide +kernel
theorem dL_law_573 : decode cL_law 573 = .ok (.if_icmp .ne 35, 3) := by decide +kernel
theorem dL_law_576 : decode cL_law 576 = .ok (.aload_n 1, 1) := by decide +kernel
theorem dL_law_577 : decode cL_law 577 = .ok (.invokevirtual 197, 3) := by decide +kernel
theorem dL_law_580 : decode cL_law 580 = .ok (.ifCond .ne 28, 3) := by decide +kernel
theorem dL_law_583 : decode cL_law 583 = .ok (.iload 10, 2) := by decide +kernel
theorem dL_law_585 : decode cL_law 585 = .ok (.iload 9, 2) := by decide +kernel
theorem dL_law_587 : decode cL_law 587 = .ok (.if_icmp .ge 17, 3) := by decide +kernel
theorem dL_law_590 : decode cL_law 590 = .ok (.aload_n 1, 1) := by decide +kernel
theorem dL_law_591 : decode cL_law 591 = .ok (.iload 10, 2) := by decide +kernel
theorem dL_law_593 : decode cL_law 593 = .ok (.invokestatic 207, 3) := by decide +kernel
theorem dL_law_596 : decode cL_law 596 = .ok (.iload 23, 2) := by decide +kernel
theorem dL_law_598 : decode cL_law 598 = .ok (.iload 22, 2) := by decide +kernel
theorem dL_law_600 : decode cL_law 600 = .ok (.iadd, 1) := by decide +kernel
theorem dL_law_601 : decode cL_law 601 = .ok (.if_icmp .ne 7, 3) := by decide +kernel
theorem dL_law_604 : decode cL_law 604 = .ok (.iconst 1, 1) := by decide +kernel
theorem dL_law_605 : decode cL_law 605 = .ok (.goto 4, 3) := by decide +kernel
theorem dL_law_608 : decode cL_law 608 = .ok (.iconst 0, 1) := by decide +kernel
theorem dL_law_609 : decode cL_law 609 = .ok (.iand, 1) := by decide +kernel
theorem dL_law_610 : decode cL_law 610 = .ok (.istore 30, 2) := by decide +kernel
theorem dL_law_612 : decode cL_law 612 = .ok (.iload 30, 2) := by decide +kernel
theorem dL_law_614 : decode cL_law 614 = .ok (.iload 8, 2) := by decide +kernel
theorem dL_law_616 : decode cL_law 616 = .ok (.bipush 31, 2) := by decide +kernel
theorem dL_law_618 : decode cL_law 618 = .ok (.if_icmp .lt 79, 3) := by decide +kernel
theorem dL_law_621 : decode cL_law 621 = .ok (.iload 8, 2) := by decide +kernel
theorem dL_law_623 : decode cL_law 623 = .ok (.bipush 35, 2) := by decide +kernel
theorem dL_law_625 : decode cL_law 625 = .ok (.if_icmp .gt 72, 3) := by decide +kernel
theorem dL_law_628 : decode cL_law 628 = .ok (.iload 28, 2) := by decide +kernel
theorem dL_law_630 : decode cL_law 630 = .ok (.iload 15, 2) := by decide +kernel
theorem dL_law_632 : decode cL_law 632 = .ok (.iload 16, 2) := by decide +kernel
theorem dL_law_634 : decode cL_law 634 = .ok (.if_icmp .lt 7, 3) := by decide +kernel
theorem dL_law_637 : decode cL_law 637 = .ok (.iconst 1, 1) := by decide +kernel
theorem dL_law_638 : decode cL_law 638 = .ok (.goto 4, 3) := by decide +kernel
theorem dL_law_641 : decode cL_law 641 = .ok (.iconst 0, 1) := by decide +kernel
theorem dL_law_642 : decode cL_law 642 = .ok (.if_icmp .ne 59, 3) := by decide +kernel
theorem dL_law_645 : decode cL_law 645 = .ok (.aload_n 1, 1) := by decide +kernel
theorem dL_law_646 : decode cL_law 646 = .ok (.invokevirtual 191, 3) := by decide +kernel
theorem dL_law_649 : decode cL_law 649 = .ok (.iload 28, 2) := by decide +kernel
theorem dL_law_651 : decode cL_law 651 = .ok (.iconst 1, 1) := by decide +kernel
theorem dL_law_652 : decode cL_law 652 = .ok (.if_icmp .ne 8, 3) := by decide +kernel
theorem dL_law_655 : decode cL_law 655 = .ok (.iload 13, 2) := by decide +kernel
theorem dL_law_657 : decode cL_law 657 = .ok (.goto 5, 3) := by decide +kernel
theorem dL_law_660 : decode cL_law 660 = .ok (.iload 17, 2) := by decide +kernel
theorem dL_law_662 : decode cL_law 662 = .ok (.if_icmp .ne 39, 3) := by decide +kernel
theorem dL_law_665 : decode cL_law 665 = .ok (.iload 10, 2) := by decide +kernel
theorem dL_law_667 : decode cL_law 667 = .ok (.iload 9, 2) := by decide +kernel
theorem dL_law_669 : decode cL_law 669 = .ok (.if_icmp .ge 28, 3) := by decide +kernel
theorem dL_law_672 : decode cL_law 672 = .ok (.aload_n 1, 1) := by decide +kernel
theorem dL_law_673 : decode cL_law 673 = .ok (.iload 10, 2) := by decide +kernel
theorem dL_law_675 : decode cL_law 675 = .ok (.invokestatic 211, 3) := by decide +kernel
theorem dL_law_678 : decode cL_law 678 = .ok (.iload 25, 2) := by decide +kernel
theorem dL_law_680 : decode cL_law 680 = .ok (.if_icmp .lt 21, 3) := by decide +kernel
theorem dL_law_683 : decode cL_law 683 = .ok (.aload_n 1, 1) := by decide +kernel
theorem dL_law_684 : decode cL_law 684 = .ok (.iload 10, 2) := by decide +kernel
theorem dL_law_686 : decode cL_law 686 = .ok (.invokestatic 211, 3) := by decide +kernel
theorem dL_law_689 : decode cL_law 689 = .ok (.iload 25, 2) := by decide +kernel
theorem dL_law_691 : decode cL_law 691 = .ok (.iload 28, 2) := by decide +kernel
theorem dL_law_693 : decode cL_law 693 = .ok (.iadd, 1) := by decide +kernel
theorem dL_law_694 : decode cL_law 694 = .ok (.if_icmp .gt 7, 3) := by decide +kernel
theorem dL_law_697 : decode cL_law 697 = .ok (.iconst 1, 1) := by decide +kernel
theorem dL_law_698 : decode cL_law 698 = .ok (.goto 4, 3) := by decide +kernel
theorem dL_law_701 : decode cL_law 701 = .ok (.iconst 0, 1) := by decide +kernel
theorem dL_law_702 : decode cL_law 702 = .ok (.iand, 1) := by decide +kernel
theorem dL_law_703 : decode cL_law 703 = .ok (.istore 30, 2) := by decide +kernel
theorem dL_law_705 : decode cL_law 705 = .ok (.iload 30, 2) := by decide +kernel
theorem dL_law_707 : decode cL_law 707 = .ok (.iload 31, 2) := by decide +kernel
theorem dL_law_709 : decode cL_law 709 = .ok (.ifCond .ne 28, 3) := by decide +kernel
theorem dL_law_712 : decode cL_law 712 = .ok (.iload 8, 2) := by decide +kernel
theorem dL_law_714 : decode cL_law 714 = .ok (.bipush 35, 2) := by decide +kernel
theorem dL_law_716 : decode cL_law 716 = .ok (.if_icmp .gt 21, 3) := by decide +kernel
theorem dL_law_719 : decode cL_law 719 = .ok (.aload_n 1, 1) := by decide +kernel
theorem dL_law_720 : decode cL_law 720 = .ok (.invokevirtual 194, 3) := by decide +kernel
theorem dL_law_723 : decode cL_law 723 = .ok (.iload 18, 2) := by decide +kernel
theorem dL_law_725 : decode cL_law 725 = .ok (.if_icmp .ne 16, 3) := by decide +kernel
theorem dL_law_728 : decode cL_law 728 = .ok (.aload_n 1, 1) := by decide +kernel
theorem dL_law_729 : decode cL_law 729 = .ok (.invokevirtual 200, 3) := by decide +kernel
theorem dL_law_732 : decode cL_law 732 = .ok (.iload 20, 2) := by decide +kernel
theorem dL_law_734 : decode cL_law 734 = .ok (.if_icmp .ne 7, 3) := by decide +kernel
theorem dL_law_737 : decode cL_law 737 = .ok (.iconst 1, 1) := by decide +kernel
theorem dL_law_738 : decode cL_law 738 = .ok (.goto 4, 3) := by decide +kernel
theorem dL_law_741 : decode cL_law 741 = .ok (.iconst 0, 1) := by decide +kernel
theorem dL_law_742 : decode cL_law 742 = .ok (.iand, 1) := by decide +kernel
theorem dL_law_743 : decode cL_law 743 = .ok (.istore 30, 2) := by decide +kernel
theorem dL_law_745 : decode cL_law 745 = .ok (.iinc 4 5, 3) := by decide +kernel
theorem dL_law_748 : decode cL_law 748 = .ok (.iload 30, 2) := by decide +kernel
theorem dL_law_750 : decode cL_law 750 = .ok (.ifCond .eq 26, 3) := by decide +kernel
theorem dL_law_753 : decode cL_law 753 = .ok (.aload_n 1, 1) := by decide +kernel
theorem dL_law_754 : decode cL_law 754 = .ok (.aload_n 0, 1) := by decide +kernel
theorem dL_law_755 : decode cL_law 755 = .ok (.iload 4, 2) := by decide +kernel
theorem dL_law_757 : decode cL_law 757 = .ok (.iload 5, 2) := by decide +kernel
theorem dL_law_759 : decode cL_law 759 = .ok (.iconst 4, 1) := by decide +kernel
theorem dL_law_760 : decode cL_law 760 = .ok (.irem, 1) := by decide +kernel
theorem dL_law_761 : decode cL_law 761 = .ok (.iconst 3, 1) := by decide +kernel
theorem dL_law_762 : decode cL_law 762 = .ok (.if_icmp .ne 7, 3) := by decide +kernel
theorem dL_law_765 : decode cL_law 765 = .ok (.iconst 1, 1) := by decide +kernel
theorem dL_law_766 : decode cL_law 766 = .ok (.goto 4, 3) := by decide +kernel
theorem dL_law_769 : decode cL_law 769 = .ok (.iconst 0, 1) := by decide +kernel
theorem dL_law_770 : decode cL_law 770 = .ok (.invokestatic 219, 3) := by decide +kernel
theorem dL_law_773 : decode cL_law 773 = .ok (.ifCond .ne 5, 3) := by decide +kernel
theorem dL_law_776 : decode cL_law 776 = .ok (.iconst 0, 1) := by decide +kernel
theorem dL_law_777 : decode cL_law 777 = .ok (.ireturn, 1) := by decide +kernel
theorem dL_law_778 : decode cL_law 778 = .ok (.iload 29, 2) := by decide +kernel
theorem dL_law_780 : decode cL_law 780 = .ok (.ifCond .ne 15, 3) := by decide +kernel
theorem dL_law_783 : decode cL_law 783 = .ok (.aload_n 1, 1) := by decide +kernel
theorem dL_law_784 : decode cL_law 784 = .ok (.invokestatic 172, 3) := by decide +kernel
theorem dL_law_787 : decode cL_law 787 = .ok (.lload 6, 2) := by decide +kernel
theorem dL_law_789 : decode cL_law 789 = .ok (.lcmp, 1) := by decide +kernel
theorem dL_law_790 : decode cL_law 790 = .ok (.ifCond .eq 15, 3) := by decide +kernel
theorem dL_law_793 : decode cL_law 793 = .ok (.iconst 0, 1) := by decide +kernel
theorem dL_law_794 : decode cL_law 794 = .ok (.ireturn, 1) := by decide +kernel
theorem dL_law_795 : decode cL_law 795 = .ok (.iinc 3 1, 3) := by decide +kernel
theorem dL_law_798 : decode cL_law 798 = .ok (.aload_n 2, 1) := by decide +kernel
theorem dL_law_799 : decode cL_law 799 = .ok (.iload_n 3, 1) := by decide +kernel
theorem dL_law_800 : decode cL_law 800 = .ok (.aload_n 1, 1) := by decide +kernel
theorem dL_law_801 : decode cL_law 801 = .ok (.invokestatic 172, 3) := by decide +kernel
theorem dL_law_804 : decode cL_law 804 = .ok (.lastore, 1) := by decide +kernel
theorem dL_law_805 : decode cL_law 805 = .ok (.iinc 5 1, 3) := by decide +kernel
theorem dL_law_808 : decode cL_law 808 = .ok (.goto (-780), 3) := by decide +kernel
theorem dL_law_811 : decode cL_law 811 = .ok (.aload_n 1, 1) := by decide +kernel
theorem dL_law_812 : decode cL_law 812 = .ok (.aload_n 2, 1) := by decide +kernel
theorem dL_law_813 : decode cL_law 813 = .ok (.iload_n 3, 1) := by decide +kernel
theorem dL_law_814 : decode cL_law 814 = .ok (.invokestatic 223, 3) := by decide +kernel
theorem dL_law_817 : decode cL_law 817 = .ok (.ireturn, 1) := by decide +kernel
theorem dL_does_0 : decode cL_does 0 = .ok (.aload_n 0, 1) := by decide +kernel
theorem dL_does_1 : decode cL_does 1 = .ok (.iload_n 1, 1) := by decide +kernel
theorem dL_does_2 : decode cL_does 2 = .ok (.iconst 3, 1) := by decide +kernel
theorem dL_does_3 : decode cL_does 3 = .ok (.iadd, 1) := by decide +kernel
theorem dL_does_4 : decode cL_does 4 = .ok (.sipush 1000, 3) := by decide +kernel
theorem dL_does_7 : decode cL_does 7 = .ok (.invokestatic 176, 3) := by decide +kernel
theorem dL_does_10 : decode cL_does 10 = .ok (.istore 9, 2) := by decide +kernel
theorem dL_does_12 : decode cL_does 12 = .ok (.aload_n 0, 1) := by decide +kernel
theorem dL_does_13 : decode cL_does 13 = .ok (.iload_n 1, 1) := by decide +kernel
theorem dL_does_14 : decode cL_does 14 = .ok (.iconst 4, 1) := by decide +kernel
theorem dL_does_15 : decode cL_does 15 = .ok (.iadd, 1) := by decide +kernel
theorem dL_does_16 : decode cL_does 16 = .ok (.sipush 1000, 3) := by decide +kernel
theorem dL_does_19 : decode cL_does 19 = .ok (.invokestatic 176, 3) := by decide +kernel
theorem dL_does_22 : decode cL_does 22 = .ok (.istore 10, 2) := by decide +kernel
theorem dL_does_24 : decode cL_does 24 = .ok (.iload_n 2, 1) := by decide +kernel
theorem dL_does_25 : decode cL_does 25 = .ok (.iconst 4, 1) := by decide +kernel
theorem dL_does_26 : decode cL_does 26 = .ok (.if_icmp .ge 62, 3) := by decide +kernel
theorem dL_does_29 : decode cL_does 29 = .ok (.iconst 2, 1) := by decide +kernel
theorem dL_does_30 : decode cL_does 30 = .ok (.iload 10, 2) := by decide +kernel
theorem dL_does_32 : decode cL_does 32 = .ok (.bipush 11, 2) := by decide +kernel
theorem dL_does_34 : decode cL_does 34 = .ok (.irem, 1) := by decide +kernel
theorem dL_does_35 : decode cL_does 35 = .ok (.iadd, 1) := by decide +kernel
theorem dL_does_36 : decode cL_does 36 = .ok (.istore 11, 2) := by decide +kernel
theorem dL_does_38 : decode cL_does 38 = .ok (.aload_n 3, 1) := by decide +kernel
theorem dL_does_39 : decode cL_does 39 = .ok (.iload 9, 2) := by decide +kernel
theorem dL_does_41 : decode cL_does 41 = .ok (.bipush 29, 2) := by decide +kernel
theorem dL_does_43 : decode cL_does 43 = .ok (.irem, 1) := by decide +kernel
theorem dL_does_44 : decode cL_does 44 = .ok (.ifCond .ne 8, 3) := by decide +kernel
theorem dL_does_47 : decode cL_does 47 = .ok (.bipush 51, 2) := by decide +kernel
theorem dL_does_49 : decode cL_does 49 = .ok (.goto 10, 3) := by decide +kernel
theorem dL_does_52 : decode cL_does 52 = .ok (.iconst 1, 1) := by decide +kernel
theorem dL_does_53 : decode cL_does 53 = .ok (.iload 9, 2) := by decide +kernel
theorem dL_does_55 : decode cL_does 55 = .ok (.bipush 50, 2) := by decide +kernel
theorem dL_does_57 : decode cL_does 57 = .ok (.irem, 1) := by decide +kernel
theorem dL_does_58 : decode cL_does 58 = .ok (.iadd, 1) := by decide +kernel
theorem dL_does_59 : decode cL_does 59 = .ok (.iload 11, 2) := by decide +kernel
theorem dL_does_61 : decode cL_does 61 = .ok (.iload 9, 2) := by decide +kernel
theorem dL_does_63 : decode cL_does 63 = .ok (.bipush 37, 2) := by decide +kernel
theorem dL_does_65 : decode cL_does 65 = .ok (.irem, 1) := by decide +kernel
theorem dL_does_66 : decode cL_does 66 = .ok (.ifCond .ne 8, 3) := by decide +kernel
theorem dL_does_69 : decode cL_does 69 = .ok (.iload 11, 2) := by decide +kernel
theorem dL_does_71 : decode cL_does 71 = .ok (.goto 8, 3) := by decide +kernel
theorem dL_does_74 : decode cL_does 74 = .ok (.iload 9, 2) := by decide +kernel
theorem dL_does_76 : decode cL_does 76 = .ok (.iload 11, 2) := by decide +kernel
theorem dL_does_78 : decode cL_does 78 = .ok (.irem, 1) := by decide +kernel
theorem dL_does_79 : decode cL_does 79 = .ok (.iload 10, 2) := by decide +kernel
theorem dL_does_81 : decode cL_does 81 = .ok (.bipush 12, 2) := by decide +kernel
theorem dL_does_83 : decode cL_does 83 = .ok (.irem, 1) := by decide +kernel
theorem dL_does_84 : decode cL_does 84 = .ok (.invokestatic 227, 3) := by decide +kernel
theorem dL_does_87 : decode cL_does 87 = .ok (.ireturn, 1) := by decide +kernel
theorem dL_does_88 : decode cL_does 88 = .ok (.iload_n 2, 1) := by decide +kernel
theorem dL_does_89 : decode cL_does 89 = .ok (.bipush 13, 2) := by decide +kernel
theorem dL_does_91 : decode cL_does 91 = .ok (.if_icmp .ge 41, 3) := by decide +kernel
theorem dL_does_94 : decode cL_does 94 = .ok (.aload_n 3, 1) := by decide +kernel
theorem dL_does_95 : decode cL_does 95 = .ok (.iload 4, 2) := by decide +kernel
theorem dL_does_97 : decode cL_does 97 = .ok (.iload 9, 2) := by decide +kernel
theorem dL_does_99 : decode cL_does 99 = .ok (.bipush 29, 2) := by decide +kernel
theorem dL_does_101 : decode cL_does 101 = .ok (.irem, 1) := by decide +kernel
theorem dL_does_102 : decode cL_does 102 = .ok (.ifCond .ne 7, 3) := by decide +kernel
theorem dL_does_105 : decode cL_does 105 = .ok (.iconst 0, 1) := by decide +kernel
theorem dL_does_106 : decode cL_does 106 = .ok (.goto 22, 3) := by decide +kernel
theorem dL_does_109 : decode cL_does 109 = .ok (.iconst 1, 1) := by decide +kernel
theorem dL_does_110 : decode cL_does 110 = .ok (.iload 9, 2) := by decide +kernel
theorem dL_does_112 : decode cL_does 112 = .ok (.iload 10, 2) := by decide +kernel
theorem dL_does_114 : decode cL_does 114 = .ok (.iconst 3, 1) := by decide +kernel
theorem dL_does_115 : decode cL_does 115 = .ok (.irem, 1) := by decide +kernel
theorem dL_does_116 : decode cL_does 116 = .ok (.ifCond .ne 8, 3) := by decide +kernel
theorem dL_does_119 : decode cL_does 119 = .ok (.bipush 60, 2) := by decide +kernel
theorem dL_does_121 : decode cL_does 121 = .ok (.goto 5, 3) := by decide +kernel
theorem dL_does_124 : decode cL_does 124 = .ok (.bipush 20, 2) := by decide +kernel
theorem dL_does_126 : decode cL_does 126 = .ok (.irem, 1) := by decide +kernel
theorem dL_does_127 : decode cL_does 127 = .ok (.iadd, 1) := by decide +kernel
theorem dL_does_128 : decode cL_does 128 = .ok (.invokestatic 230, 3) := by decide +kernel
theorem dL_does_131 : decode cL_does 131 = .ok (.ireturn, 1) := by decide +kernel
theorem dL_does_132 : decode cL_does 132 = .ok (.iload_n 2, 1) := by decide +kernel
theorem dL_does_133 : decode cL_does 133 = .ok (.bipush 16, 2) := by decide +kernel
theorem dL_does_135 : decode cL_does 135 = .ok (.if_icmp .ge 28, 3) := by decide +kernel
theorem dL_does_138 : decode cL_does 138 = .ok (.aload_n 3, 1) := by decide +kernel
theorem dL_does_139 : decode cL_does 139 = .ok (.iload 4, 2) := by decide +kernel
theorem dL_does_141 : decode cL_does 141 = .ok (.iload 9, 2) := by decide +kernel
theorem dL_does_143 : decode cL_does 143 = .ok (.bipush 29, 2) := by decide +kernel
theorem dL_does_145 : decode cL_does 145 = .ok (.irem, 1) := by decide +kernel
theorem dL_does_146 : decode cL_does 146 = .ok (.ifCond .ne 8, 3) := by decide +kernel
theorem dL_does_149 : decode cL_does 149 = .ok (.bipush 12, 2) := by decide +kernel
theorem dL_does_151 : decode cL_does 151 = .ok (.goto 8, 3) := by decide +kernel
theorem dL_does_154 : decode cL_does 154 = .ok (.iload 10, 2) := by decide +kernel
theorem dL_does_156 : decode cL_does 156 = .ok (.bipush 12, 2) := by decide +kernel
theorem dL_does_158 : decode cL_does 158 = .ok (.irem, 1) := by decide +kernel
theorem dL_does_159 : decode cL_does 159 = .ok (.invokestatic 232, 3) := by decide +kernel
theorem dL_does_162 : decode cL_does 162 = .ok (.ireturn, 1) := by decide +kernel
theorem dL_does_163 : decode cL_does 163 = .ok (.iload_n 2, 1) := by decide +kernel
theorem dL_does_164 : decode cL_does 164 = .ok (.bipush 19, 2) := by decide +kernel
theorem dL_does_166 : decode cL_does 166 = .ok (.if_icmp .ge 12, 3) := by decide +kernel
theorem dL_does_169 : decode cL_does 169 = .ok (.aload_n 3, 1) := by decide +kernel
theorem dL_does_170 : decode cL_does 170 = .ok (.iload 4, 2) := by decide +kernel
theorem dL_does_172 : decode cL_does 172 = .ok (.iload 8, 2) := by decide +kernel
theorem dL_does_174 : decode cL_does 174 = .ok (.invokestatic 234, 3) := by decide +kernel
theorem dL_does_177 : decode cL_does 177 = .ok (.ireturn, 1) := by decide +kernel
theorem dL_does_178 : decode cL_does 178 = .ok (.iload_n 2, 1) := by decide +kernel
theorem dL_does_179 : decode cL_does 179 = .ok (.bipush 28, 2) := by decide +kernel
theorem dL_does_181 : decode cL_does 181 = .ok (.if_icmp .ge 10, 3) := by decide +kernel
theorem dL_does_184 : decode cL_does 184 = .ok (.aload_n 3, 1) := by decide +kernel
theorem dL_does_185 : decode cL_does 185 = .ok (.iload 5, 2) := by decide +kernel
theorem dL_does_187 : decode cL_does 187 = .ok (.invokestatic 236, 3) := by decide +kernel
theorem dL_does_190 : decode cL_does 190 = .ok (.ireturn, 1) := by decide +kernel
theorem dL_does_191 : decode cL_does 191 = .ok (.iload_n 2, 1) := by decide +kernel
theorem dL_does_192 : decode cL_does 192 = .ok (.bipush 31, 2) := by decide +kernel
theorem dL_does_194 : decode cL_does 194 = .ok (.if_icmp .ge 8, 3) := by decide +kernel
theorem dL_does_197 : decode cL_does 197 = .ok (.aload_n 3, 1) := by decide +kernel
theorem dL_does_198 : decode cL_does 198 = .ok (.invokestatic 238, 3) := by decide +kernel
theorem dL_does_201 : decode cL_does 201 = .ok (.ireturn, 1) := by decide +kernel
theorem dL_does_202 : decode cL_does 202 = .ok (.iload_n 2, 1) := by decide +kernel
theorem dL_does_203 : decode cL_does 203 = .ok (.bipush 36, 2) := by decide +kernel
theorem dL_does_205 : decode cL_does 205 = .ok (.if_icmp .ge 12, 3) := by decide +kernel
theorem dL_does_208 : decode cL_does 208 = .ok (.aload_n 3, 1) := by decide +kernel
theorem dL_does_209 : decode cL_does 209 = .ok (.iload 6, 2) := by decide +kernel
theorem dL_does_211 : decode cL_does 211 = .ok (.iload 7, 2) := by decide +kernel
theorem dL_does_213 : decode cL_does 213 = .ok (.invokestatic 240, 3) := by decide +kernel
theorem dL_does_216 : decode cL_does 216 = .ok (.ireturn, 1) := by decide +kernel
theorem dL_does_217 : decode cL_does 217 = .ok (.aload_n 3, 1) := by decide +kernel
theorem dL_does_218 : decode cL_does 218 = .ok (.new 242, 3) := by decide +kernel
theorem dL_does_221 : decode cL_does 221 = .ok (.dup, 1) := by decide +kernel
theorem dL_does_222 : decode cL_does 222 = .ok (.invokespecial 244, 3) := by decide +kernel
theorem dL_does_225 : decode cL_does 225 = .ok (.ldc 245, 2) := by decide +kernel
theorem dL_does_227 : decode cL_does 227 = .ok (.invokevirtual 247, 3) := by decide +kernel
theorem dL_does_230 : decode cL_does 230 = .ok (.iload 5, 2) := by decide +kernel
theorem dL_does_232 : decode cL_does 232 = .ok (.invokevirtual 250, 3) := by decide +kernel
theorem dL_does_235 : decode cL_does 235 = .ok (.iload 9, 2) := by decide +kernel
theorem dL_does_237 : decode cL_does 237 = .ok (.iconst 4, 1) := by decide +kernel
theorem dL_does_238 : decode cL_does 238 = .ok (.irem, 1) := by decide +kernel
theorem dL_does_239 : decode cL_does 239 = .ok (.ifCond .ne 8, 3) := by decide +kernel
theorem dL_does_242 : decode cL_does 242 = .ok (.ldc 253, 2) := by decide +kernel
theorem dL_does_244 : decode cL_does 244 = .ok (.goto 81, 3) := by decide +kernel
theorem dL_does_247 : decode cL_does 247 = .ok (.iload 9, 2) := by decide +kernel
theorem dL_does_249 : decode cL_does 249 = .ok (.iconst 4, 1) := by decide +kernel
theorem dL_does_250 : decode cL_does 250 = .ok (.irem, 1) := by decide +kernel
theorem dL_does_251 : decode cL_does 251 = .ok (.iconst 1, 1) := by decide +kernel
theorem dL_does_252 : decode cL_does 252 = .ok (.if_icmp .ne 32, 3) := by decide +kernel
theorem dL_does_255 : decode cL_does 255 = .ok (.new 242, 3) := by decide +kernel
theorem dL_does_258 : decode cL_does 258 = .ok (.dup, 1) := by decide +kernel
theorem dL_does_259 : decode cL_does 259 = .ok (.invokespecial 244, 3) := by decide +kernel
theorem dL_does_262 : decode cL_does 262 = .ok (.ldc 255, 2) := by decide +kernel
theorem dL_does_264 : decode cL_does 264 = .ok (.invokevirtual 247, 3) := by decide +kernel
theorem dL_does_267 : decode cL_does 267 = .ok (.iload 4, 2) := by decide +kernel
theorem dL_does_269 : decode cL_does 269 = .ok (.invokevirtual 250, 3) := by decide +kernel
theorem dL_does_272 : decode cL_does 272 = .ok (.ldc_w 257, 3) := by decide +kernel
theorem dL_does_275 : decode cL_does 275 = .ok (.invokevirtual 247, 3) := by decide +kernel
theorem dL_does_278 : decode cL_does 278 = .ok (.invokevirtual 259, 3) := by decide +kernel
theorem dL_does_281 : decode cL_does 281 = .ok (.goto 44, 3) := by decide +kernel
theorem dL_does_284 : decode cL_does 284 = .ok (.iload 9, 2) := by decide +kernel
theorem dL_does_286 : decode cL_does 286 = .ok (.iconst 4, 1) := by decide +kernel
theorem dL_does_287 : decode cL_does 287 = .ok (.irem, 1) := by decide +kernel
theorem dL_does_288 : decode cL_does 288 = .ok (.iconst 2, 1) := by decide +kernel
theorem dL_does_289 : decode cL_does 289 = .ok (.if_icmp .ne 33, 3) := by decide +kernel
theorem dL_does_292 : decode cL_does 292 = .ok (.new 242, 3) := by decide +kernel
theorem dL_does_295 : decode cL_does 295 = .ok (.dup, 1) := by decide +kernel
theorem dL_does_296 : decode cL_does 296 = .ok (.invokespecial 244, 3) := by decide +kernel
theorem dL_does_299 : decode cL_does 299 = .ok (.ldc_w 263, 3) := by decide +kernel
theorem dL_does_302 : decode cL_does 302 = .ok (.invokevirtual 247, 3) := by decide +kernel
theorem dL_does_305 : decode cL_does 305 = .ok (.iload 4, 2) := by decide +kernel
theorem dL_does_307 : decode cL_does 307 = .ok (.invokevirtual 250, 3) := by decide +kernel
theorem dL_does_310 : decode cL_does 310 = .ok (.ldc_w 265, 3) := by decide +kernel
theorem dL_does_313 : decode cL_does 313 = .ok (.invokevirtual 247, 3) := by decide +kernel
theorem dL_does_316 : decode cL_does 316 = .ok (.invokevirtual 259, 3) := by decide +kernel
theorem dL_does_319 : decode cL_does 319 = .ok (.goto 6, 3) := by decide +kernel
theorem dL_does_322 : decode cL_does 322 = .ok (.ldc_w 267, 3) := by decide +kernel
theorem dL_does_325 : decode cL_does 325 = .ok (.invokevirtual 247, 3) := by decide +kernel
theorem dL_does_328 : decode cL_does 328 = .ok (.invokevirtual 259, 3) := by decide +kernel
theorem dL_does_331 : decode cL_does 331 = .ok (.invokestatic 269, 3) := by decide +kernel
theorem dL_does_334 : decode cL_does 334 = .ok (.ireturn, 1) := by decide +kernel
theorem dL_sum_0 : decode cL_sum 0 = .ok (.ldc2_w 273, 3) := by decide +kernel
theorem dL_sum_3 : decode cL_sum 3 = .ok (.aload_n 0, 1) := by decide +kernel
theorem dL_sum_4 : decode cL_sum 4 = .ok (.invokevirtual 194, 3) := by decide +kernel
theorem dL_sum_7 : decode cL_sum 7 = .ok (.i2l, 1) := by decide +kernel
theorem dL_sum_8 : decode cL_sum 8 = .ok (.lmul, 1) := by decide +kernel
theorem dL_sum_9 : decode cL_sum 9 = .ok (.ldc2_w 275, 3) := by decide +kernel
theorem dL_sum_12 : decode cL_sum 12 = .ok (.aload_n 0, 1) := by decide +kernel
theorem dL_sum_13 : decode cL_sum 13 = .ok (.invokevirtual 197, 3) := by decide +kernel
theorem dL_sum_16 : decode cL_sum 16 = .ok (.i2l, 1) := by decide +kernel
theorem dL_sum_17 : decode cL_sum 17 = .ok (.lmul, 1) := by decide +kernel
theorem dL_sum_18 : decode cL_sum 18 = .ok (.ladd, 1) := by decide +kernel
theorem dL_sum_19 : decode cL_sum 19 = .ok (.ldc2_w 277, 3) := by decide +kernel
theorem dL_sum_22 : decode cL_sum 22 = .ok (.aload_n 0, 1) := by decide +kernel
theorem dL_sum_23 : decode cL_sum 23 = .ok (.invokevirtual 191, 3) := by decide +kernel
theorem dL_sum_26 : decode cL_sum 26 = .ok (.i2l, 1) := by decide +kernel
theorem dL_sum_27 : decode cL_sum 27 = .ok (.lmul, 1) := by decide +kernel
theorem dL_sum_28 : decode cL_sum 28 = .ok (.ladd, 1) := by decide +kernel
theorem dL_sum_29 : decode cL_sum 29 = .ok (.ldc2_w 279, 3) := by decide +kernel
theorem dL_sum_32 : decode cL_sum 32 = .ok (.aload_n 0, 1) := by decide +kernel
theorem dL_sum_33 : decode cL_sum 33 = .ok (.invokevirtual 281, 3) := by decide +kernel
theorem dL_sum_36 : decode cL_sum 36 = .ok (.i2l, 1) := by decide +kernel
theorem dL_sum_37 : decode cL_sum 37 = .ok (.lmul, 1) := by decide +kernel
theorem dL_sum_38 : decode cL_sum 38 = .ok (.ladd, 1) := by decide +kernel
theorem dL_sum_39 : decode cL_sum 39 = .ok (.ldc2_w 284, 3) := by decide +kernel
theorem dL_sum_42 : decode cL_sum 42 = .ok (.aload_n 0, 1) := by decide +kernel
theorem dL_sum_43 : decode cL_sum 43 = .ok (.invokevirtual 200, 3) := by decide +kernel
theorem dL_sum_46 : decode cL_sum 46 = .ok (.i2l, 1) := by decide +kernel
theorem dL_sum_47 : decode cL_sum 47 = .ok (.lmul, 1) := by decide +kernel
theorem dL_sum_48 : decode cL_sum 48 = .ok (.ladd, 1) := by decide +kernel
theorem dL_sum_49 : decode cL_sum 49 = .ok (.aload_n 0, 1) := by decide +kernel
theorem dL_sum_50 : decode cL_sum 50 = .ok (.invokevirtual 286, 3) := by decide +kernel
theorem dL_sum_53 : decode cL_sum 53 = .ok (.i2l, 1) := by decide +kernel
theorem dL_sum_54 : decode cL_sum 54 = .ok (.ladd, 1) := by decide +kernel
theorem dL_sum_55 : decode cL_sum 55 = .ok (.lstore_n 1, 1) := by decide +kernel
theorem dL_sum_56 : decode cL_sum 56 = .ok (.iconst 0, 1) := by decide +kernel
theorem dL_sum_57 : decode cL_sum 57 = .ok (.istore_n 3, 1) := by decide +kernel
theorem dL_sum_58 : decode cL_sum 58 = .ok (.iload_n 3, 1) := by decide +kernel
theorem dL_sum_59 : decode cL_sum 59 = .ok (.aload_n 0, 1) := by decide +kernel
theorem dL_sum_60 : decode cL_sum 60 = .ok (.invokevirtual 180, 3) := by decide +kernel
theorem dL_sum_63 : decode cL_sum 63 = .ok (.if_icmp .ge 82, 3) := by decide +kernel
theorem dL_sum_66 : decode cL_sum 66 = .ok (.ldc2_w 277, 3) := by decide +kernel
theorem dL_sum_69 : decode cL_sum 69 = .ok (.lload_n 1, 1) := by decide +kernel
theorem dL_sum_70 : decode cL_sum 70 = .ok (.lmul, 1) := by decide +kernel
theorem dL_sum_71 : decode cL_sum 71 = .ok (.ldc2_w 273, 3) := by decide +kernel
theorem dL_sum_74 : decode cL_sum 74 = .ok (.aload_n 0, 1) := by decide +kernel
theorem dL_sum_75 : decode cL_sum 75 = .ok (.iload_n 3, 1) := by decide +kernel
theorem dL_sum_76 : decode cL_sum 76 = .ok (.invokestatic 209, 3) := by decide +kernel
theorem dL_sum_79 : decode cL_sum 79 = .ok (.i2l, 1) := by decide +kernel
theorem dL_sum_80 : decode cL_sum 80 = .ok (.lmul, 1) := by decide +kernel
theorem dL_sum_81 : decode cL_sum 81 = .ok (.ladd, 1) := by decide +kernel
theorem dL_sum_82 : decode cL_sum 82 = .ok (.ldc2_w 275, 3) := by decide +kernel
theorem dL_sum_85 : decode cL_sum 85 = .ok (.aload_n 0, 1) := by decide +kernel
theorem dL_sum_86 : decode cL_sum 86 = .ok (.iload_n 3, 1) := by decide +kernel
theorem dL_sum_87 : decode cL_sum 87 = .ok (.invokestatic 213, 3) := by decide +kernel
theorem dL_sum_90 : decode cL_sum 90 = .ok (.i2l, 1) := by decide +kernel
theorem dL_sum_91 : decode cL_sum 91 = .ok (.lmul, 1) := by decide +kernel
theorem dL_sum_92 : decode cL_sum 92 = .ok (.ladd, 1) := by decide +kernel
theorem dL_sum_93 : decode cL_sum 93 = .ok (.ldc2_w 277, 3) := by decide +kernel
theorem dL_sum_96 : decode cL_sum 96 = .ok (.aload_n 0, 1) := by decide +kernel
theorem dL_sum_97 : decode cL_sum 97 = .ok (.iload_n 3, 1) := by decide +kernel
theorem dL_sum_98 : decode cL_sum 98 = .ok (.invokestatic 289, 3) := by decide +kernel
theorem dL_sum_101 : decode cL_sum 101 = .ok (.i2l, 1) := by decide +kernel
theorem dL_sum_102 : decode cL_sum 102 = .ok (.lmul, 1) := by decide +kernel
theorem dL_sum_103 : decode cL_sum 103 = .ok (.ladd, 1) := by decide +kernel
theorem dL_sum_104 : decode cL_sum 104 = .ok (.ldc2_w 279, 3) := by decide +kernel
theorem dL_sum_107 : decode cL_sum 107 = .ok (.aload_n 0, 1) := by decide +kernel
theorem dL_sum_108 : decode cL_sum 108 = .ok (.iload_n 3, 1) := by decide +kernel
theorem dL_sum_109 : decode cL_sum 109 = .ok (.invokestatic 207, 3) := by decide +kernel
theorem dL_sum_112 : decode cL_sum 112 = .ok (.i2l, 1) := by decide +kernel
theorem dL_sum_113 : decode cL_sum 113 = .ok (.lmul, 1) := by decide +kernel
theorem dL_sum_114 : decode cL_sum 114 = .ok (.ladd, 1) := by decide +kernel
theorem dL_sum_115 : decode cL_sum 115 = .ok (.aload_n 0, 1) := by decide +kernel
theorem dL_sum_116 : decode cL_sum 116 = .ok (.iload_n 3, 1) := by decide +kernel
theorem dL_sum_117 : decode cL_sum 117 = .ok (.invokestatic 211, 3) := by decide +kernel
theorem dL_sum_120 : decode cL_sum 120 = .ok (.i2l, 1) := by decide +kernel
theorem dL_sum_121 : decode cL_sum 121 = .ok (.ladd, 1) := by decide +kernel
theorem dL_sum_122 : decode cL_sum 122 = .ok (.lstore_n 1, 1) := by decide +kernel
theorem dL_sum_123 : decode cL_sum 123 = .ok (.ldc2_w 277, 3) := by decide +kernel
theorem dL_sum_126 : decode cL_sum 126 = .ok (.lload_n 1, 1) := by decide +kernel
theorem dL_sum_127 : decode cL_sum 127 = .ok (.lmul, 1) := by decide +kernel
theorem dL_sum_128 : decode cL_sum 128 = .ok (.aload_n 0, 1) := by decide +kernel
theorem dL_sum_129 : decode cL_sum 129 = .ok (.iload_n 3, 1) := by decide +kernel
theorem dL_sum_130 : decode cL_sum 130 = .ok (.invokestatic 291, 3) := by decide +kernel
theorem dL_sum_133 : decode cL_sum 133 = .ok (.ldc2_w 294, 3) := by decide +kernel
theorem dL_sum_136 : decode cL_sum 136 = .ok (.lrem, 1) := by decide +kernel
theorem dL_sum_137 : decode cL_sum 137 = .ok (.ladd, 1) := by decide +kernel
theorem dL_sum_138 : decode cL_sum 138 = .ok (.lstore_n 1, 1) := by decide +kernel
theorem dL_sum_139 : decode cL_sum 139 = .ok (.iinc 3 1, 3) := by decide +kernel
theorem dL_sum_142 : decode cL_sum 142 = .ok (.goto (-84), 3) := by decide +kernel
theorem dL_sum_145 : decode cL_sum 145 = .ok (.iconst 0, 1) := by decide +kernel
theorem dL_sum_146 : decode cL_sum 146 = .ok (.istore_n 3, 1) := by decide +kernel
theorem dL_sum_147 : decode cL_sum 147 = .ok (.iload_n 3, 1) := by decide +kernel
theorem dL_sum_148 : decode cL_sum 148 = .ok (.bipush 10, 2) := by decide +kernel
theorem dL_sum_150 : decode cL_sum 150 = .ok (.if_icmp .ge 22, 3) := by decide +kernel
theorem dL_sum_153 : decode cL_sum 153 = .ok (.ldc2_w 277, 3) := by decide +kernel
theorem dL_sum_156 : decode cL_sum 156 = .ok (.lload_n 1, 1) := by decide +kernel
theorem dL_sum_157 : decode cL_sum 157 = .ok (.lmul, 1) := by decide +kernel
theorem dL_sum_158 : decode cL_sum 158 = .ok (.aload_n 0, 1) := by decide +kernel
theorem dL_sum_159 : decode cL_sum 159 = .ok (.iload_n 3, 1) := by decide +kernel
theorem dL_sum_160 : decode cL_sum 160 = .ok (.invokestatic 203, 3) := by decide +kernel
theorem dL_sum_163 : decode cL_sum 163 = .ok (.i2l, 1) := by decide +kernel
theorem dL_sum_164 : decode cL_sum 164 = .ok (.ladd, 1) := by decide +kernel
theorem dL_sum_165 : decode cL_sum 165 = .ok (.lstore_n 1, 1) := by decide +kernel
theorem dL_sum_166 : decode cL_sum 166 = .ok (.iinc 3 1, 3) := by decide +kernel
theorem dL_sum_169 : decode cL_sum 169 = .ok (.goto (-22), 3) := by decide +kernel
theorem dL_sum_172 : decode cL_sum 172 = .ok (.lload_n 1, 1) := by decide +kernel
theorem dL_sum_173 : decode cL_sum 173 = .ok (.lreturn, 1) := by decide +kernel
theorem dL_bits_0 : decode cL_bits 0 = .ok (.iconst 0, 1) := by decide +kernel
theorem dL_bits_1 : decode cL_bits 1 = .ok (.istore_n 2, 1) := by decide +kernel
theorem dL_bits_2 : decode cL_bits 2 = .ok (.iconst 0, 1) := by decide +kernel
theorem dL_bits_3 : decode cL_bits 3 = .ok (.istore_n 3, 1) := by decide +kernel
theorem dL_bits_4 : decode cL_bits 4 = .ok (.iload_n 3, 1) := by decide +kernel
theorem dL_bits_5 : decode cL_bits 5 = .ok (.bipush 60, 2) := by decide +kernel
theorem dL_bits_7 : decode cL_bits 7 = .ok (.if_icmp .ge 27, 3) := by decide +kernel
theorem dL_bits_10 : decode cL_bits 10 = .ok (.iload_n 2, 1) := by decide +kernel
theorem dL_bits_11 : decode cL_bits 11 = .ok (.lload_n 0, 1) := by decide +kernel
theorem dL_bits_12 : decode cL_bits 12 = .ok (.iload_n 3, 1) := by decide +kernel
theorem dL_bits_13 : decode cL_bits 13 = .ok (.lshr, 1) := by decide +kernel
theorem dL_bits_14 : decode cL_bits 14 = .ok (.lconst 1, 1) := by decide +kernel
theorem dL_bits_15 : decode cL_bits 15 = .ok (.land, 1) := by decide +kernel
theorem dL_bits_16 : decode cL_bits 16 = .ok (.lconst 1, 1) := by decide +kernel
theorem dL_bits_17 : decode cL_bits 17 = .ok (.lcmp, 1) := by decide +kernel
theorem dL_bits_18 : decode cL_bits 18 = .ok (.ifCond .ne 7, 3) := by decide +kernel
theorem dL_bits_21 : decode cL_bits 21 = .ok (.iconst 1, 1) := by decide +kernel
theorem dL_bits_22 : decode cL_bits 22 = .ok (.goto 4, 3) := by decide +kernel
theorem dL_bits_25 : decode cL_bits 25 = .ok (.iconst 0, 1) := by decide +kernel
theorem dL_bits_26 : decode cL_bits 26 = .ok (.iadd, 1) := by decide +kernel
theorem dL_bits_27 : decode cL_bits 27 = .ok (.istore_n 2, 1) := by decide +kernel
theorem dL_bits_28 : decode cL_bits 28 = .ok (.iinc 3 1, 3) := by decide +kernel
theorem dL_bits_31 : decode cL_bits 31 = .ok (.goto (-27), 3) := by decide +kernel
theorem dL_bits_34 : decode cL_bits 34 = .ok (.iload_n 2, 1) := by decide +kernel
theorem dL_bits_35 : decode cL_bits 35 = .ok (.ireturn, 1) := by decide +kernel
theorem dL_isMember_0 : decode cL_isMember 0 = .ok (.aload_n 0, 1) := by decide +kernel
theorem dL_isMember_1 : decode cL_isMember 1 = .ok (.invokevirtual 180, 3) := by decide +kernel
theorem dL_isMember_4 : decode cL_isMember 4 = .ok (.istore_n 3, 1) := by decide +kernel
theorem dL_isMember_5 : decode cL_isMember 5 = .ok (.aload_n 0, 1) := by decide +kernel
theorem dL_isMember_6 : decode cL_isMember 6 = .ok (.iload_n 1, 1) := by decide +kernel
theorem dL_isMember_7 : decode cL_isMember 7 = .ok (.invokestatic 291, 3) := by decide +kernel
theorem dL_isMember_10 : decode cL_isMember 10 = .ok (.lstore 4, 2) := by decide +kernel
theorem dL_isMember_12 : decode cL_isMember 12 = .ok (.iconst 0, 1) := by decide +kernel
theorem dL_isMember_13 : decode cL_isMember 13 = .ok (.istore 6, 2) := by decide +kernel
theorem dL_isMember_15 : decode cL_isMember 15 = .ok (.iconst 0, 1) := by decide +kernel
theorem dL_isMember_16 : decode cL_isMember 16 = .ok (.istore 7, 2) := by decide +kernel
theorem dL_isMember_18 : decode cL_isMember 18 = .ok (.iload 7, 2) := by decide +kernel
theorem dL_isMember_20 : decode cL_isMember 20 = .ok (.iload_n 3, 1) := by decide +kernel
theorem dL_isMember_21 : decode cL_isMember 21 = .ok (.if_icmp .ge 137, 3) := by decide +kernel
theorem dL_isMember_24 : decode cL_isMember 24 = .ok (.iload 6, 2) := by decide +kernel
theorem dL_isMember_26 : decode cL_isMember 26 = .ok (.aload_n 0, 1) := by decide +kernel
theorem dL_isMember_27 : decode cL_isMember 27 = .ok (.iload 7, 2) := by decide +kernel
theorem dL_isMember_29 : decode cL_isMember 29 = .ok (.invokestatic 296, 3) := by decide +kernel
theorem dL_isMember_32 : decode cL_isMember 32 = .ok (.iadd, 1) := by decide +kernel
theorem dL_isMember_33 : decode cL_isMember 33 = .ok (.istore 6, 2) := by decide +kernel
theorem dL_isMember_35 : decode cL_isMember 35 = .ok (.aload_n 0, 1) := by decide +kernel
theorem dL_isMember_36 : decode cL_isMember 36 = .ok (.iload_n 1, 1) := by decide +kernel
theorem dL_isMember_37 : decode cL_isMember 37 = .ok (.iload 7, 2) := by decide +kernel
theorem dL_isMember_39 : decode cL_isMember 39 = .ok (.invokestatic 298, 3) := by decide +kernel
theorem dL_isMember_42 : decode cL_isMember 42 = .ok (.istore 8, 2) := by decide +kernel
theorem dL_isMember_44 : decode cL_isMember 44 = .ok (.iload 8, 2) := by decide +kernel
theorem dL_isMember_46 : decode cL_isMember 46 = .ok (.aload_n 0, 1) := by decide +kernel
theorem dL_isMember_47 : decode cL_isMember 47 = .ok (.iload 7, 2) := by decide +kernel
theorem dL_isMember_49 : decode cL_isMember 49 = .ok (.iload_n 1, 1) := by decide +kernel
theorem dL_isMember_50 : decode cL_isMember 50 = .ok (.invokestatic 298, 3) := by decide +kernel
theorem dL_isMember_53 : decode cL_isMember 53 = .ok (.if_icmp .ne 97, 3) := by decide +kernel
theorem dL_isMember_56 : decode cL_isMember 56 = .ok (.iload 8, 2) := by decide +kernel
theorem dL_isMember_58 : decode cL_isMember 58 = .ok (.ifCond .lt 92, 3) := by decide +kernel
theorem dL_isMember_61 : decode cL_isMember 61 = .ok (.iload 8, 2) := by decide +kernel
theorem dL_isMember_63 : decode cL_isMember 63 = .ok (.bipush 6, 2) := by decide +kernel
theorem dL_isMember_65 : decode cL_isMember 65 = .ok (.if_icmp .gt 85, 3) := by decide +kernel
theorem dL_isMember_68 : decode cL_isMember 68 = .ok (.iload 8, 2) := by decide +kernel
theorem dL_isMember_70 : decode cL_isMember 70 = .ok (.ifCond .ne 7, 3) := by decide +kernel
theorem dL_isMember_73 : decode cL_isMember 73 = .ok (.iconst 1, 1) := by decide +kernel
theorem dL_isMember_74 : decode cL_isMember 74 = .ok (.goto 4, 3) := by decide +kernel
theorem dL_isMember_77 : decode cL_isMember 77 = .ok (.iconst 0, 1) := by decide +kernel
theorem dL_isMember_78 : decode cL_isMember 78 = .ok (.aload_n 0, 1) := by decide +kernel
theorem dL_isMember_79 : decode cL_isMember 79 = .ok (.iload_n 1, 1) := by decide +kernel
theorem dL_isMember_80 : decode cL_isMember 80 = .ok (.invokestatic 289, 3) := by decide +kernel
theorem dL_isMember_83 : decode cL_isMember 83 = .ok (.aload_n 0, 1) := by decide +kernel
theorem dL_isMember_84 : decode cL_isMember 84 = .ok (.iload 7, 2) := by decide +kernel
theorem dL_isMember_86 : decode cL_isMember 86 = .ok (.invokestatic 289, 3) := by decide +kernel
theorem dL_isMember_89 : decode cL_isMember 89 = .ok (.if_icmp .ne 7, 3) := by decide +kernel
theorem dL_isMember_92 : decode cL_isMember 92 = .ok (.iconst 1, 1) := by decide +kernel
theorem dL_isMember_93 : decode cL_isMember 93 = .ok (.goto 4, 3) := by decide +kernel
theorem dL_isMember_96 : decode cL_isMember 96 = .ok (.iconst 0, 1) := by decide +kernel
theorem dL_isMember_97 : decode cL_isMember 97 = .ok (.if_icmp .ne 53, 3) := by decide +kernel
theorem dL_isMember_100 : decode cL_isMember 100 = .ok (.aload_n 0, 1) := by decide +kernel
theorem dL_isMember_101 : decode cL_isMember 101 = .ok (.iload_n 1, 1) := by decide +kernel
theorem dL_isMember_102 : decode cL_isMember 102 = .ok (.iload 7, 2) := by decide +kernel
theorem dL_isMember_104 : decode cL_isMember 104 = .ok (.invokestatic 300, 3) := by decide +kernel
theorem dL_isMember_107 : decode cL_isMember 107 = .ok (.lload 4, 2) := by decide +kernel
theorem dL_isMember_109 : decode cL_isMember 109 = .ok (.aload_n 0, 1) := by decide +kernel
theorem dL_isMember_110 : decode cL_isMember 110 = .ok (.iload 7, 2) := by decide +kernel
theorem dL_isMember_112 : decode cL_isMember 112 = .ok (.invokestatic 291, 3) := by decide +kernel
theorem dL_isMember_115 : decode cL_isMember 115 = .ok (.land, 1) := by decide +kernel
theorem dL_isMember_116 : decode cL_isMember 116 = .ok (.invokestatic 302, 3) := by decide +kernel
theorem dL_isMember_119 : decode cL_isMember 119 = .ok (.if_icmp .ne 31, 3) := by decide +kernel
theorem dL_isMember_122 : decode cL_isMember 122 = .ok (.aload_n 0, 1) := by decide +kernel
theorem dL_isMember_123 : decode cL_isMember 123 = .ok (.iload 7, 2) := by decide +kernel
theorem dL_isMember_125 : decode cL_isMember 125 = .ok (.invokestatic 209, 3) := by decide +kernel
theorem dL_isMember_128 : decode cL_isMember 128 = .ok (.aload_n 0, 1) := by decide +kernel
theorem dL_isMember_129 : decode cL_isMember 129 = .ok (.iload_n 1, 1) := by decide +kernel
theorem dL_isMember_130 : decode cL_isMember 130 = .ok (.invokestatic 209, 3) := by decide +kernel
theorem dL_isMember_133 : decode cL_isMember 133 = .ok (.if_icmp .le 19, 3) := by decide +kernel
theorem dL_isMember_136 : decode cL_isMember 136 = .ok (.aload_n 0, 1) := by decide +kernel
theorem dL_isMember_137 : decode cL_isMember 137 = .ok (.iload 7, 2) := by decide +kernel
theorem dL_isMember_139 : decode cL_isMember 139 = .ok (.invokestatic 296, 3) := by decide +kernel
theorem dL_isMember_142 : decode cL_isMember 142 = .ok (.aload_n 0, 1) := by decide +kernel
theorem dL_isMember_143 : decode cL_isMember 143 = .ok (.iload_n 1, 1) := by decide +kernel
theorem dL_isMember_144 : decode cL_isMember 144 = .ok (.invokestatic 296, 3) := by decide +kernel
theorem dL_isMember_147 : decode cL_isMember 147 = .ok (.if_icmp .ge 5, 3) := by decide +kernel
theorem dL_isMember_150 : decode cL_isMember 150 = .ok (.iconst 0, 1) := by decide +kernel
theorem dL_isMember_151 : decode cL_isMember 151 = .ok (.ireturn, 1) := by decide +kernel
theorem dL_isMember_152 : decode cL_isMember 152 = .ok (.iinc 7 1, 3) := by decide +kernel
theorem dL_isMember_155 : decode cL_isMember 155 = .ok (.goto (-137), 3) := by decide +kernel
theorem dL_isMember_158 : decode cL_isMember 158 = .ok (.aload_n 0, 1) := by decide +kernel
theorem dL_isMember_159 : decode cL_isMember 159 = .ok (.invokevirtual 197, 3) := by decide +kernel
theorem dL_isMember_162 : decode cL_isMember 162 = .ok (.i2l, 1) := by decide +kernel
theorem dL_isMember_163 : decode cL_isMember 163 = .ok (.aload_n 0, 1) := by decide +kernel
theorem dL_isMember_164 : decode cL_isMember 164 = .ok (.iload_n 1, 1) := by decide +kernel
theorem dL_isMember_165 : decode cL_isMember 165 = .ok (.invokestatic 209, 3) := by decide +kernel
theorem dL_isMember_168 : decode cL_isMember 168 = .ok (.i2l, 1) := by decide +kernel
theorem dL_isMember_169 : decode cL_isMember 169 = .ok (.lmul, 1) := by decide +kernel
theorem dL_isMember_170 : decode cL_isMember 170 = .ok (.iload_n 2, 1) := by decide +kernel
theorem dL_isMember_171 : decode cL_isMember 171 = .ok (.i2l, 1) := by decide +kernel
theorem dL_isMember_172 : decode cL_isMember 172 = .ok (.ldiv, 1) := by decide +kernel
theorem dL_isMember_173 : decode cL_isMember 173 = .ok (.l2i, 1) := by decide +kernel
theorem dL_isMember_174 : decode cL_isMember 174 = .ok (.istore 7, 2) := by decide +kernel
theorem dL_isMember_176 : decode cL_isMember 176 = .ok (.aload_n 0, 1) := by decide +kernel
theorem dL_isMember_177 : decode cL_isMember 177 = .ok (.iload_n 1, 1) := by decide +kernel
theorem dL_isMember_178 : decode cL_isMember 178 = .ok (.invokestatic 205, 3) := by decide +kernel
theorem dL_isMember_181 : decode cL_isMember 181 = .ok (.aload_n 0, 1) := by decide +kernel
theorem dL_isMember_182 : decode cL_isMember 182 = .ok (.iload_n 1, 1) := by decide +kernel
theorem dL_isMember_183 : decode cL_isMember 183 = .ok (.invokestatic 306, 3) := by decide +kernel
theorem dL_isMember_186 : decode cL_isMember 186 = .ok (.if_icmp .ne 29, 3) := by decide +kernel
theorem dL_isMember_189 : decode cL_isMember 189 = .ok (.aload_n 0, 1) := by decide +kernel
theorem dL_isMember_190 : decode cL_isMember 190 = .ok (.iload_n 1, 1) := by decide +kernel
theorem dL_isMember_191 : decode cL_isMember 191 = .ok (.invokestatic 205, 3) := by decide +kernel
theorem dL_isMember_194 : decode cL_isMember 194 = .ok (.iload 7, 2) := by decide +kernel
theorem dL_isMember_196 : decode cL_isMember 196 = .ok (.if_icmp .eq 15, 3) := by decide +kernel
theorem dL_isMember_199 : decode cL_isMember 199 = .ok (.aload_n 0, 1) := by decide +kernel
theorem dL_isMember_200 : decode cL_isMember 200 = .ok (.iload_n 1, 1) := by decide +kernel
theorem dL_isMember_201 : decode cL_isMember 201 = .ok (.invokestatic 205, 3) := by decide +kernel
theorem dL_isMember_204 : decode cL_isMember 204 = .ok (.iload 7, 2) := by decide +kernel
theorem dL_isMember_206 : decode cL_isMember 206 = .ok (.iconst 1, 1) := by decide +kernel
theorem dL_isMember_207 : decode cL_isMember 207 = .ok (.iadd, 1) := by decide +kernel
theorem dL_isMember_208 : decode cL_isMember 208 = .ok (.if_icmp .ne 7, 3) := by decide +kernel
theorem dL_isMember_211 : decode cL_isMember 211 = .ok (.iconst 1, 1) := by decide +kernel
theorem dL_isMember_212 : decode cL_isMember 212 = .ok (.goto 4, 3) := by decide +kernel
theorem dL_isMember_215 : decode cL_isMember 215 = .ok (.iconst 0, 1) := by decide +kernel
theorem dL_isMember_216 : decode cL_isMember 216 = .ok (.istore 8, 2) := by decide +kernel
theorem dL_isMember_218 : decode cL_isMember 218 = .ok (.aload_n 0, 1) := by decide +kernel
theorem dL_isMember_219 : decode cL_isMember 219 = .ok (.iload_n 1, 1) := by decide +kernel
theorem dL_isMember_220 : decode cL_isMember 220 = .ok (.invokestatic 308, 3) := by decide +kernel
theorem dL_isMember_223 : decode cL_isMember 223 = .ok (.aload_n 0, 1) := by decide +kernel
theorem dL_isMember_224 : decode cL_isMember 224 = .ok (.iload_n 1, 1) := by decide +kernel
theorem dL_isMember_225 : decode cL_isMember 225 = .ok (.invokestatic 296, 3) := by decide +kernel
theorem dL_isMember_228 : decode cL_isMember 228 = .ok (.if_icmp .ne 52, 3) := by decide +kernel
theorem dL_isMember_231 : decode cL_isMember 231 = .ok (.aload_n 0, 1) := by decide +kernel
theorem dL_isMember_232 : decode cL_isMember 232 = .ok (.iload_n 1, 1) := by decide +kernel
theorem dL_isMember_233 : decode cL_isMember 233 = .ok (.invokestatic 296, 3) := by decide +kernel
theorem dL_isMember_236 : decode cL_isMember 236 = .ok (.ifCond .lt 44, 3) := by decide +kernel
theorem dL_isMember_239 : decode cL_isMember 239 = .ok (.aload_n 0, 1) := by decide +kernel
theorem dL_isMember_240 : decode cL_isMember 240 = .ok (.iload_n 1, 1) := by decide +kernel
theorem dL_isMember_241 : decode cL_isMember 241 = .ok (.invokestatic 296, 3) := by decide +kernel
theorem dL_isMember_244 : decode cL_isMember 244 = .ok (.iconst 1, 1) := by decide +kernel
theorem dL_isMember_245 : decode cL_isMember 245 = .ok (.iload_n 3, 1) := by decide +kernel
theorem dL_isMember_246 : decode cL_isMember 246 = .ok (.iconst 1, 1) := by decide +kernel
theorem dL_isMember_247 : decode cL_isMember 247 = .ok (.isub, 1) := by decide +kernel
theorem dL_isMember_248 : decode cL_isMember 248 = .ok (.ishl, 1) := by decide +kernel
theorem dL_isMember_249 : decode cL_isMember 249 = .ok (.if_icmp .gt 31, 3) := by decide +kernel
theorem dL_isMember_252 : decode cL_isMember 252 = .ok (.iload 6, 2) := by decide +kernel
theorem dL_isMember_254 : decode cL_isMember 254 = .ok (.ifCond .le 26, 3) := by decide +kernel
theorem dL_isMember_257 : decode cL_isMember 257 = .ok (.aload_n 0, 1) := by decide +kernel
theorem dL_isMember_258 : decode cL_isMember 258 = .ok (.iload_n 1, 1) := by decide +kernel
theorem dL_isMember_259 : decode cL_isMember 259 = .ok (.invokestatic 310, 3) := by decide +kernel
theorem dL_isMember_262 : decode cL_isMember 262 = .ok (.aload_n 0, 1) := by decide +kernel
theorem dL_isMember_263 : decode cL_isMember 263 = .ok (.iload_n 1, 1) := by decide +kernel
theorem dL_isMember_264 : decode cL_isMember 264 = .ok (.invokestatic 296, 3) := by decide +kernel
theorem dL_isMember_267 : decode cL_isMember 267 = .ok (.i2f, 1) := by decide +kernel
theorem dL_isMember_268 : decode cL_isMember 268 = .ok (.iload 6, 2) := by decide +kernel
theorem dL_isMember_270 : decode cL_isMember 270 = .ok (.i2f, 1) := by decide +kernel
theorem dL_isMember_271 : decode cL_isMember 271 = .ok (.fdiv, 1) := by decide +kernel
theorem dL_isMember_272 : decode cL_isMember 272 = .ok (.fcmp .l, 1) := by decide +kernel
theorem dL_isMember_273 : decode cL_isMember 273 = .ok (.ifCond .ne 7, 3) := by decide +kernel
theorem dL_isMember_276 : decode cL_isMember 276 = .ok (.iconst 1, 1) := by decide +kernel
theorem dL_isMember_277 : decode cL_isMember 277 = .ok (.goto 4, 3) := by decide +kernel
theorem dL_isMember_280 : decode cL_isMember 280 = .ok (.iconst 0, 1) := by decide +kernel
theorem dL_isMember_281 : decode cL_isMember 281 = .ok (.istore 9, 2) := by decide +kernel
theorem dL_isMember_283 : decode cL_isMember 283 = .ok (.aload_n 0, 1) := by decide +kernel
theorem dL_isMember_284 : decode cL_isMember 284 = .ok (.iload_n 1, 1) := by decide +kernel
theorem dL_isMember_285 : decode cL_isMember 285 = .ok (.invokestatic 313, 3) := by decide +kernel
theorem dL_isMember_288 : decode cL_isMember 288 = .ok (.istore 10, 2) := by decide +kernel
theorem dL_isMember_290 : decode cL_isMember 290 = .ok (.iload 8, 2) := by decide +kernel
theorem dL_isMember_292 : decode cL_isMember 292 = .ok (.ifCond .eq 94, 3) := by decide +kernel
theorem dL_isMember_295 : decode cL_isMember 295 = .ok (.iload 9, 2) := by decide +kernel
theorem dL_isMember_297 : decode cL_isMember 297 = .ok (.ifCond .eq 89, 3) := by decide +kernel
theorem dL_isMember_300 : decode cL_isMember 300 = .ok (.aload_n 0, 1) := by decide +kernel
theorem dL_isMember_301 : decode cL_isMember 301 = .ok (.iload_n 1, 1) := by decide +kernel
theorem dL_isMember_302 : decode cL_isMember 302 = .ok (.invokestatic 315, 3) := by decide +kernel
theorem dL_isMember_305 : decode cL_isMember 305 = .ok (.lload 4, 2) := by decide +kernel
theorem dL_isMember_307 : decode cL_isMember 307 = .ok (.lcmp, 1) := by decide +kernel
theorem dL_isMember_308 : decode cL_isMember 308 = .ok (.ifCond .ne 78, 3) := by decide +kernel
theorem dL_isMember_311 : decode cL_isMember 311 = .ok (.lload 4, 2) := by decide +kernel
theorem dL_isMember_313 : decode cL_isMember 313 = .ok (.invokestatic 302, 3) := by decide +kernel
theorem dL_isMember_316 : decode cL_isMember 316 = .ok (.iconst 5, 1) := by decide +kernel
theorem dL_isMember_317 : decode cL_isMember 317 = .ok (.if_icmp .lt 69, 3) := by decide +kernel
theorem dL_isMember_320 : decode cL_isMember 320 = .ok (.lload 4, 2) := by decide +kernel
theorem dL_isMember_322 : decode cL_isMember 322 = .ok (.invokestatic 302, 3) := by decide +kernel
theorem dL_isMember_325 : decode cL_isMember 325 = .ok (.bipush 30, 2) := by decide +kernel
theorem dL_isMember_327 : decode cL_isMember 327 = .ok (.if_icmp .gt 59, 3) := by decide +kernel
theorem dL_isMember_330 : decode cL_isMember 330 = .ok (.aload_n 0, 1) := by decide +kernel
theorem dL_isMember_331 : decode cL_isMember 331 = .ok (.iload_n 1, 1) := by decide +kernel
theorem dL_isMember_332 : decode cL_isMember 332 = .ok (.invokestatic 209, 3) := by decide +kernel
theorem dL_isMember_335 : decode cL_isMember 335 = .ok (.iconst 1, 1) := by decide +kernel
theorem dL_isMember_336 : decode cL_isMember 336 = .ok (.if_icmp .lt 50, 3) := by decide +kernel
theorem dL_isMember_339 : decode cL_isMember 339 = .ok (.aload_n 0, 1) := by decide +kernel
theorem dL_isMember_340 : decode cL_isMember 340 = .ok (.iload_n 1, 1) := by decide +kernel
theorem dL_isMember_341 : decode cL_isMember 341 = .ok (.invokestatic 209, 3) := by decide +kernel
theorem dL_isMember_344 : decode cL_isMember 344 = .ok (.bipush 50, 2) := by decide +kernel
theorem dL_isMember_346 : decode cL_isMember 346 = .ok (.if_icmp .gt 40, 3) := by decide +kernel
theorem dL_isMember_349 : decode cL_isMember 349 = .ok (.aload_n 0, 1) := by decide +kernel
theorem dL_isMember_350 : decode cL_isMember 350 = .ok (.iload_n 1, 1) := by decide +kernel
theorem dL_isMember_351 : decode cL_isMember 351 = .ok (.invokestatic 213, 3) := by decide +kernel
theorem dL_isMember_354 : decode cL_isMember 354 = .ok (.ifCond .lt 32, 3) := by decide +kernel
theorem dL_isMember_357 : decode cL_isMember 357 = .ok (.aload_n 0, 1) := by decide +kernel
theorem dL_isMember_358 : decode cL_isMember 358 = .ok (.iload_n 1, 1) := by decide +kernel
theorem dL_isMember_359 : decode cL_isMember 359 = .ok (.invokestatic 213, 3) := by decide +kernel
theorem dL_isMember_362 : decode cL_isMember 362 = .ok (.bipush 60, 2) := by decide +kernel
theorem dL_isMember_364 : decode cL_isMember 364 = .ok (.if_icmp .gt 22, 3) := by decide +kernel
theorem dL_isMember_367 : decode cL_isMember 367 = .ok (.aload_n 0, 1) := by decide +kernel
theorem dL_isMember_368 : decode cL_isMember 368 = .ok (.iload_n 1, 1) := by decide +kernel
theorem dL_isMember_369 : decode cL_isMember 369 = .ok (.invokestatic 207, 3) := by decide +kernel
theorem dL_isMember_372 : decode cL_isMember 372 = .ok (.ifCond .lt 14, 3) := by decide +kernel
theorem dL_isMember_375 : decode cL_isMember 375 = .ok (.iload 10, 2) := by decide +kernel
theorem dL_isMember_377 : decode cL_isMember 377 = .ok (.bipush 11, 2) := by decide +kernel
theorem dL_isMember_379 : decode cL_isMember 379 = .ok (.if_icmp .lt 7, 3) := by decide +kernel
theorem dL_isMember_382 : decode cL_isMember 382 = .ok (.iconst 1, 1) := by decide +kernel
theorem dL_isMember_383 : decode cL_isMember 383 = .ok (.goto 4, 3) := by decide +kernel
theorem dL_isMember_386 : decode cL_isMember 386 = .ok (.iconst 0, 1) := by decide +kernel
theorem dL_isMember_387 : decode cL_isMember 387 = .ok (.ireturn, 1) := by decide +kernel
theorem dL_isWhole_0 : decode cL_isWhole 0 = .ok (.aload_n 0, 1) := by decide +kernel
theorem dL_isWhole_1 : decode cL_isWhole 1 = .ok (.invokevirtual 180, 3) := by decide +kernel
theorem dL_isWhole_4 : decode cL_isWhole 4 = .ok (.istore 4, 2) := by decide +kernel
theorem dL_isWhole_6 : decode cL_isWhole 6 = .ok (.iconst 0, 1) := by decide +kernel
theorem dL_isWhole_7 : decode cL_isWhole 7 = .ok (.istore 5, 2) := by decide +kernel
theorem dL_isWhole_9 : decode cL_isWhole 9 = .ok (.iconst 0, 1) := by decide +kernel
theorem dL_isWhole_10 : decode cL_isWhole 10 = .ok (.istore 6, 2) := by decide +kernel
theorem dL_isWhole_12 : decode cL_isWhole 12 = .ok (.iconst 0, 1) := by decide +kernel
theorem dL_isWhole_13 : decode cL_isWhole 13 = .ok (.istore 7, 2) := by decide +kernel
theorem dL_isWhole_15 : decode cL_isWhole 15 = .ok (.ldc2_w 317, 3) := by decide +kernel
theorem dL_isWhole_18 : decode cL_isWhole 18 = .ok (.lstore 8, 2) := by decide +kernel
theorem dL_isWhole_20 : decode cL_isWhole 20 = .ok (.iconst 0, 1) := by decide +kernel
theorem dL_isWhole_21 : decode cL_isWhole 21 = .ok (.istore 10, 2) := by decide +kernel
theorem dL_isWhole_23 : decode cL_isWhole 23 = .ok (.iload 10, 2) := by decide +kernel
theorem dL_isWhole_25 : decode cL_isWhole 25 = .ok (.iload 4, 2) := by decide +kernel
theorem dL_isWhole_27 : decode cL_isWhole 27 = .ok (.if_icmp .ge 53, 3) := by decide +kernel
theorem dL_isWhole_30 : decode cL_isWhole 30 = .ok (.iload 5, 2) := by decide +kernel
theorem dL_isWhole_32 : decode cL_isWhole 32 = .ok (.aload_n 0, 1) := by decide +kernel
theorem dL_isWhole_33 : decode cL_isWhole 33 = .ok (.iload 10, 2) := by decide +kernel
theorem dL_isWhole_35 : decode cL_isWhole 35 = .ok (.invokestatic 209, 3) := by decide +kernel
theorem dL_isWhole_38 : decode cL_isWhole 38 = .ok (.iadd, 1) := by decide +kernel
theorem dL_isWhole_39 : decode cL_isWhole 39 = .ok (.istore 5, 2) := by decide +kernel
theorem dL_isWhole_41 : decode cL_isWhole 41 = .ok (.iload 6, 2) := by decide +kernel
theorem dL_isWhole_43 : decode cL_isWhole 43 = .ok (.aload_n 0, 1) := by decide +kernel
theorem dL_isWhole_44 : decode cL_isWhole 44 = .ok (.iload 10, 2) := by decide +kernel
theorem dL_isWhole_46 : decode cL_isWhole 46 = .ok (.invokestatic 207, 3) := by decide +kernel
theorem dL_isWhole_49 : decode cL_isWhole 49 = .ok (.iadd, 1) := by decide +kernel
theorem dL_isWhole_50 : decode cL_isWhole 50 = .ok (.istore 6, 2) := by decide +kernel
theorem dL_isWhole_52 : decode cL_isWhole 52 = .ok (.iload 7, 2) := by decide +kernel
theorem dL_isWhole_54 : decode cL_isWhole 54 = .ok (.aload_n 0, 1) := by decide +kernel
theorem dL_isWhole_55 : decode cL_isWhole 55 = .ok (.iload 10, 2) := by decide +kernel
theorem dL_isWhole_57 : decode cL_isWhole 57 = .ok (.invokestatic 205, 3) := by decide +kernel
theorem dL_isWhole_60 : decode cL_isWhole 60 = .ok (.iadd, 1) := by decide +kernel
theorem dL_isWhole_61 : decode cL_isWhole 61 = .ok (.istore 7, 2) := by decide +kernel
theorem dL_isWhole_63 : decode cL_isWhole 63 = .ok (.lload 8, 2) := by decide +kernel
theorem dL_isWhole_65 : decode cL_isWhole 65 = .ok (.aload_n 0, 1) := by decide +kernel
theorem dL_isWhole_66 : decode cL_isWhole 66 = .ok (.iload 10, 2) := by decide +kernel
theorem dL_isWhole_68 : decode cL_isWhole 68 = .ok (.invokestatic 291, 3) := by decide +kernel
theorem dL_isWhole_71 : decode cL_isWhole 71 = .ok (.land, 1) := by decide +kernel
theorem dL_isWhole_72 : decode cL_isWhole 72 = .ok (.lstore 8, 2) := by decide +kernel
theorem dL_isWhole_74 : decode cL_isWhole 74 = .ok (.iinc 10 1, 3) := by decide +kernel
theorem dL_isWhole_77 : decode cL_isWhole 77 = .ok (.goto (-54), 3) := by decide +kernel
theorem dL_isWhole_80 : decode cL_isWhole 80 = .ok (.iconst 0, 1) := by decide +kernel
theorem dL_isWhole_81 : decode cL_isWhole 81 = .ok (.istore 10, 2) := by decide +kernel
theorem dL_isWhole_83 : decode cL_isWhole 83 = .ok (.iload 10, 2) := by decide +kernel
theorem dL_isWhole_85 : decode cL_isWhole 85 = .ok (.iload 4, 2) := by decide +kernel
theorem dL_isWhole_87 : decode cL_isWhole 87 = .ok (.if_icmp .ge 40, 3) := by decide +kernel
theorem dL_isWhole_90 : decode cL_isWhole 90 = .ok (.iload_n 3, 1) := by decide +kernel
theorem dL_isWhole_91 : decode cL_isWhole 91 = .ok (.ifCond .ne 17, 3) := by decide +kernel
theorem dL_isWhole_94 : decode cL_isWhole 94 = .ok (.iload 10, 2) := by decide +kernel
theorem dL_isWhole_96 : decode cL_isWhole 96 = .ok (.aload_n 1, 1) := by decide +kernel
theorem dL_isWhole_97 : decode cL_isWhole 97 = .ok (.iload_n 2, 1) := by decide +kernel
theorem dL_isWhole_98 : decode cL_isWhole 98 = .ok (.iconst 1, 1) := by decide +kernel
theorem dL_isWhole_99 : decode cL_isWhole 99 = .ok (.iadd, 1) := by decide +kernel
theorem dL_isWhole_100 : decode cL_isWhole 100 = .ok (.bipush 8, 2) := by decide +kernel
theorem dL_isWhole_102 : decode cL_isWhole 102 = .ok (.invokestatic 176, 3) := by decide +kernel
theorem dL_isWhole_105 : decode cL_isWhole 105 = .ok (.if_icmp .ne 16, 3) := by decide +kernel
theorem dL_isWhole_108 : decode cL_isWhole 108 = .ok (.aload_n 0, 1) := by decide +kernel
theorem dL_isWhole_109 : decode cL_isWhole 109 = .ok (.iload 10, 2) := by decide +kernel
theorem dL_isWhole_111 : decode cL_isWhole 111 = .ok (.iload 5, 2) := by decide +kernel
theorem dL_isWhole_113 : decode cL_isWhole 113 = .ok (.invokestatic 319, 3) := by decide +kernel
theorem dL_isWhole_116 : decode cL_isWhole 116 = .ok (.ifCond .ne 5, 3) := by decide +kernel
theorem dL_isWhole_119 : decode cL_isWhole 119 = .ok (.iconst 0, 1) := by decide +kernel
theorem dL_isWhole_120 : decode cL_isWhole 120 = .ok (.ireturn, 1) := by decide +kernel
theorem dL_isWhole_121 : decode cL_isWhole 121 = .ok (.iinc 10 1, 3) := by decide +kernel
theorem dL_isWhole_124 : decode cL_isWhole 124 = .ok (.goto (-41), 3) := by decide +kernel
theorem dL_isWhole_127 : decode cL_isWhole 127 = .ok (.iconst 1, 1) := by decide +kernel
theorem dL_isWhole_128 : decode cL_isWhole 128 = .ok (.istore 10, 2) := by decide +kernel
theorem dL_isWhole_130 : decode cL_isWhole 130 = .ok (.iload 10, 2) := by decide +kernel
theorem dL_isWhole_132 : decode cL_isWhole 132 = .ok (.iload 4, 2) := by decide +kernel
theorem dL_isWhole_134 : decode cL_isWhole 134 = .ok (.if_icmp .ge 96, 3) := by decide +kernel
theorem dL_isWhole_137 : decode cL_isWhole 137 = .ok (.aload_n 0, 1) := by decide +kernel
theorem dL_isWhole_138 : decode cL_isWhole 138 = .ok (.iload 10, 2) := by decide +kernel
theorem dL_isWhole_140 : decode cL_isWhole 140 = .ok (.iconst 1, 1) := by decide +kernel
theorem dL_isWhole_141 : decode cL_isWhole 141 = .ok (.isub, 1) := by decide +kernel
theorem dL_isWhole_142 : decode cL_isWhole 142 = .ok (.invokestatic 323, 3) := by decide +kernel
theorem dL_isWhole_145 : decode cL_isWhole 145 = .ok (.istore 11, 2) := by decide +kernel
theorem dL_isWhole_147 : decode cL_isWhole 147 = .ok (.aload_n 0, 1) := by decide +kernel
theorem dL_isWhole_148 : decode cL_isWhole 148 = .ok (.iload 10, 2) := by decide +kernel
theorem dL_isWhole_150 : decode cL_isWhole 150 = .ok (.invokestatic 323, 3) := by decide +kernel
theorem dL_isWhole_153 : decode cL_isWhole 153 = .ok (.istore 12, 2) := by decide +kernel
theorem dL_isWhole_155 : decode cL_isWhole 155 = .ok (.aload_n 0, 1) := by decide +kernel
theorem dL_isWhole_156 : decode cL_isWhole 156 = .ok (.iload 11, 2) := by decide +kernel
theorem dL_isWhole_158 : decode cL_isWhole 158 = .ok (.invokestatic 209, 3) := by decide +kernel
theorem dL_isWhole_161 : decode cL_isWhole 161 = .ok (.aload_n 0, 1) := by decide +kernel
theorem dL_isWhole_162 : decode cL_isWhole 162 = .ok (.iload 12, 2) := by decide +kernel
theorem dL_isWhole_164 : decode cL_isWhole 164 = .ok (.invokestatic 209, 3) := by decide +kernel
theorem dL_isWhole_167 : decode cL_isWhole 167 = .ok (.if_icmp .lt 55, 3) := by decide +kernel
theorem dL_isWhole_170 : decode cL_isWhole 170 = .ok (.aload_n 0, 1) := by decide +kernel
theorem dL_isWhole_171 : decode cL_isWhole 171 = .ok (.iload 11, 2) := by decide +kernel
theorem dL_isWhole_173 : decode cL_isWhole 173 = .ok (.invokestatic 209, 3) := by decide +kernel
theorem dL_isWhole_176 : decode cL_isWhole 176 = .ok (.aload_n 0, 1) := by decide +kernel
theorem dL_isWhole_177 : decode cL_isWhole 177 = .ok (.iload 12, 2) := by decide +kernel
theorem dL_isWhole_179 : decode cL_isWhole 179 = .ok (.invokestatic 209, 3) := by decide +kernel
theorem dL_isWhole_182 : decode cL_isWhole 182 = .ok (.if_icmp .ne 42, 3) := by decide +kernel
theorem dL_isWhole_185 : decode cL_isWhole 185 = .ok (.aload_n 0, 1) := by decide +kernel
theorem dL_isWhole_186 : decode cL_isWhole 186 = .ok (.iload 11, 2) := by decide +kernel
theorem dL_isWhole_188 : decode cL_isWhole 188 = .ok (.invokestatic 207, 3) := by decide +kernel
theorem dL_isWhole_191 : decode cL_isWhole 191 = .ok (.aload_n 0, 1) := by decide +kernel
theorem dL_isWhole_192 : decode cL_isWhole 192 = .ok (.iload 12, 2) := by decide +kernel
theorem dL_isWhole_194 : decode cL_isWhole 194 = .ok (.invokestatic 207, 3) := by decide +kernel
theorem dL_isWhole_197 : decode cL_isWhole 197 = .ok (.if_icmp .lt 25, 3) := by decide +kernel
theorem dL_isWhole_200 : decode cL_isWhole 200 = .ok (.aload_n 0, 1) := by decide +kernel
theorem dL_isWhole_201 : decode cL_isWhole 201 = .ok (.iload 11, 2) := by decide +kernel
theorem dL_isWhole_203 : decode cL_isWhole 203 = .ok (.invokestatic 207, 3) := by decide +kernel
theorem dL_isWhole_206 : decode cL_isWhole 206 = .ok (.aload_n 0, 1) := by decide +kernel
theorem dL_isWhole_207 : decode cL_isWhole 207 = .ok (.iload 12, 2) := by decide +kernel
theorem dL_isWhole_209 : decode cL_isWhole 209 = .ok (.invokestatic 207, 3) := by decide +kernel
theorem dL_isWhole_212 : decode cL_isWhole 212 = .ok (.if_icmp .ne 12, 3) := by decide +kernel
theorem dL_isWhole_215 : decode cL_isWhole 215 = .ok (.iload 11, 2) := by decide +kernel
theorem dL_isWhole_217 : decode cL_isWhole 217 = .ok (.iload 12, 2) := by decide +kernel
theorem dL_isWhole_219 : decode cL_isWhole 219 = .ok (.if_icmp .le 5, 3) := by decide +kernel
theorem dL_isWhole_222 : decode cL_isWhole 222 = .ok (.iconst 0, 1) := by decide +kernel
theorem dL_isWhole_223 : decode cL_isWhole 223 = .ok (.ireturn, 1) := by decide +kernel
theorem dL_isWhole_224 : decode cL_isWhole 224 = .ok (.iinc 10 1, 3) := by decide +kernel
theorem dL_isWhole_227 : decode cL_isWhole 227 = .ok (.goto (-97), 3) := by decide +kernel
theorem dL_isWhole_230 : decode cL_isWhole 230 = .ok (.aload_n 0, 1) := by decide +kernel
theorem dL_isWhole_231 : decode cL_isWhole 231 = .ok (.invokestatic 325, 3) := by decide +kernel
theorem dL_isWhole_234 : decode cL_isWhole 234 = .ok (.istore 10, 2) := by decide +kernel
theorem dL_isWhole_236 : decode cL_isWhole 236 = .ok (.iload 4, 2) := by decide +kernel
theorem dL_isWhole_238 : decode cL_isWhole 238 = .ok (.ifCond .eq 11, 3) := by decide +kernel
theorem dL_isWhole_241 : decode cL_isWhole 241 = .ok (.lload 8, 2) := by decide +kernel
theorem dL_isWhole_243 : decode cL_isWhole 243 = .ok (.invokestatic 302, 3) := by decide +kernel
theorem dL_isWhole_246 : decode cL_isWhole 246 = .ok (.ifCond .ne 18, 3) := by decide +kernel
theorem dL_isWhole_249 : decode cL_isWhole 249 = .ok (.iload 10, 2) := by decide +kernel
theorem dL_isWhole_251 : decode cL_isWhole 251 = .ok (.bipush (-75), 2) := by decide +kernel
theorem dL_isWhole_253 : decode cL_isWhole 253 = .ok (.if_icmp .ne 7, 3) := by decide +kernel
theorem dL_isWhole_256 : decode cL_isWhole 256 = .ok (.iconst 1, 1) := by decide +kernel
theorem dL_isWhole_257 : decode cL_isWhole 257 = .ok (.goto 49, 3) := by decide +kernel
theorem dL_isWhole_260 : decode cL_isWhole 260 = .ok (.iconst 0, 1) := by decide +kernel
theorem dL_isWhole_261 : decode cL_isWhole 261 = .ok (.goto 45, 3) := by decide +kernel
theorem dL_isWhole_264 : decode cL_isWhole 264 = .ok (.iload 10, 2) := by decide +kernel
theorem dL_isWhole_266 : decode cL_isWhole 266 = .ok (.iconst 1, 1) := by decide +kernel
theorem dL_isWhole_267 : decode cL_isWhole 267 = .ok (.if_icmp .lt 38, 3) := by decide +kernel
theorem dL_isWhole_270 : decode cL_isWhole 270 = .ok (.lload 8, 2) := by decide +kernel
theorem dL_isWhole_272 : decode cL_isWhole 272 = .ok (.iload 10, 2) := by decide +kernel
theorem dL_isWhole_274 : decode cL_isWhole 274 = .ok (.iconst 1, 1) := by decide +kernel
theorem dL_isWhole_275 : decode cL_isWhole 275 = .ok (.isub, 1) := by decide +kernel
theorem dL_isWhole_276 : decode cL_isWhole 276 = .ok (.lshr, 1) := by decide +kernel
theorem dL_isWhole_277 : decode cL_isWhole 277 = .ok (.lconst 1, 1) := by decide +kernel
theorem dL_isWhole_278 : decode cL_isWhole 278 = .ok (.land, 1) := by decide +kernel
theorem dL_isWhole_279 : decode cL_isWhole 279 = .ok (.lconst 1, 1) := by decide +kernel
theorem dL_isWhole_280 : decode cL_isWhole 280 = .ok (.lcmp, 1) := by decide +kernel
theorem dL_isWhole_281 : decode cL_isWhole 281 = .ok (.ifCond .ne 24, 3) := by decide +kernel
theorem dL_isWhole_284 : decode cL_isWhole 284 = .ok (.lload 8, 2) := by decide +kernel
theorem dL_isWhole_286 : decode cL_isWhole 286 = .ok (.lconst 1, 1) := by decide +kernel
theorem dL_isWhole_287 : decode cL_isWhole 287 = .ok (.iload 10, 2) := by decide +kernel
theorem dL_isWhole_289 : decode cL_isWhole 289 = .ok (.iconst 1, 1) := by decide +kernel
theorem dL_isWhole_290 : decode cL_isWhole 290 = .ok (.isub, 1) := by decide +kernel
theorem dL_isWhole_291 : decode cL_isWhole 291 = .ok (.lshl, 1) := by decide +kernel
theorem dL_isWhole_292 : decode cL_isWhole 292 = .ok (.lconst 1, 1) := by decide +kernel
theorem dL_isWhole_293 : decode cL_isWhole 293 = .ok (.lsub, 1) := by decide +kernel
theorem dL_isWhole_294 : decode cL_isWhole 294 = .ok (.land, 1) := by decide +kernel
theorem dL_isWhole_295 : decode cL_isWhole 295 = .ok (.invokestatic 302, 3) := by decide +kernel
theorem dL_isWhole_298 : decode cL_isWhole 298 = .ok (.ifCond .ne 7, 3) := by decide +kernel
theorem dL_isWhole_301 : decode cL_isWhole 301 = .ok (.iconst 1, 1) := by decide +kernel
theorem dL_isWhole_302 : decode cL_isWhole 302 = .ok (.goto 4, 3) := by decide +kernel
theorem dL_isWhole_305 : decode cL_isWhole 305 = .ok (.iconst 0, 1) := by decide +kernel
theorem dL_isWhole_306 : decode cL_isWhole 306 = .ok (.istore 11, 2) := by decide +kernel
theorem dL_isWhole_308 : decode cL_isWhole 308 = .ok (.aload_n 1, 1) := by decide +kernel
theorem dL_isWhole_309 : decode cL_isWhole 309 = .ok (.iload_n 2, 1) := by decide +kernel
theorem dL_isWhole_310 : decode cL_isWhole 310 = .ok (.iconst 2, 1) := by decide +kernel
theorem dL_isWhole_311 : decode cL_isWhole 311 = .ok (.iadd, 1) := by decide +kernel
theorem dL_isWhole_312 : decode cL_isWhole 312 = .ok (.bipush 7, 2) := by decide +kernel
theorem dL_isWhole_314 : decode cL_isWhole 314 = .ok (.invokestatic 176, 3) := by decide +kernel
theorem dL_isWhole_317 : decode cL_isWhole 317 = .ok (.istore 12, 2) := by decide +kernel
theorem dL_isWhole_319 : decode cL_isWhole 319 = .ok (.aload_n 0, 1) := by decide +kernel
theorem dL_isWhole_320 : decode cL_isWhole 320 = .ok (.iload 12, 2) := by decide +kernel
theorem dL_isWhole_322 : decode cL_isWhole 322 = .ok (.invokestatic 327, 3) := by decide +kernel
theorem dL_isWhole_325 : decode cL_isWhole 325 = .ok (.istore 13, 2) := by decide +kernel
theorem dL_isWhole_327 : decode cL_isWhole 327 = .ok (.iload 13, 2) := by decide +kernel
theorem dL_isWhole_329 : decode cL_isWhole 329 = .ok (.bipush (-75), 2) := by decide +kernel
theorem dL_isWhole_331 : decode cL_isWhole 331 = .ok (.if_icmp .eq 18, 3) := by decide +kernel
theorem dL_isWhole_334 : decode cL_isWhole 334 = .ok (.aload_n 0, 1) := by decide +kernel
theorem dL_isWhole_335 : decode cL_isWhole 335 = .ok (.iload 13, 2) := by decide +kernel
theorem dL_isWhole_337 : decode cL_isWhole 337 = .ok (.iload 12, 2) := by decide +kernel
theorem dL_isWhole_339 : decode cL_isWhole 339 = .ok (.invokestatic 185, 3) := by decide +kernel
theorem dL_isWhole_342 : decode cL_isWhole 342 = .ok (.aload_n 0, 1) := by decide +kernel
theorem dL_isWhole_343 : decode cL_isWhole 343 = .ok (.invokevirtual 188, 3) := by decide +kernel
theorem dL_isWhole_346 : decode cL_isWhole 346 = .ok (.if_icmp .lt 7, 3) := by decide +kernel
theorem dL_isWhole_349 : decode cL_isWhole 349 = .ok (.iconst 1, 1) := by decide +kernel
theorem dL_isWhole_350 : decode cL_isWhole 350 = .ok (.goto 4, 3) := by decide +kernel
theorem dL_isWhole_353 : decode cL_isWhole 353 = .ok (.iconst 0, 1) := by decide +kernel
theorem dL_isWhole_354 : decode cL_isWhole 354 = .ok (.istore 14, 2) := by decide +kernel
theorem dL_isWhole_356 : decode cL_isWhole 356 = .ok (.iconst 0, 1) := by decide +kernel
theorem dL_isWhole_357 : decode cL_isWhole 357 = .ok (.istore 15, 2) := by decide +kernel
theorem dL_isWhole_359 : decode cL_isWhole 359 = .ok (.iload 15, 2) := by decide +kernel
theorem dL_isWhole_361 : decode cL_isWhole 361 = .ok (.iload 13, 2) := by decide +kernel
theorem dL_isWhole_363 : decode cL_isWhole 363 = .ok (.ifCond .ge 8, 3) := by decide +kernel
theorem dL_isWhole_366 : decode cL_isWhole 366 = .ok (.bipush 12, 2) := by decide +kernel
theorem dL_isWhole_368 : decode cL_isWhole 368 = .ok (.goto 5, 3) := by decide +kernel
theorem dL_isWhole_371 : decode cL_isWhole 371 = .ok (.iload 13, 2) := by decide +kernel
theorem dL_isWhole_373 : decode cL_isWhole 373 = .ok (.if_icmp .ge 34, 3) := by decide +kernel
theorem dL_isWhole_376 : decode cL_isWhole 376 = .ok (.iload 14, 2) := by decide +kernel
theorem dL_isWhole_378 : decode cL_isWhole 378 = .ok (.aload_n 0, 1) := by decide +kernel
theorem dL_isWhole_379 : decode cL_isWhole 379 = .ok (.iload 15, 2) := by decide +kernel
theorem dL_isWhole_381 : decode cL_isWhole 381 = .ok (.iload 12, 2) := by decide +kernel
theorem dL_isWhole_383 : decode cL_isWhole 383 = .ok (.invokestatic 185, 3) := by decide +kernel
theorem dL_isWhole_386 : decode cL_isWhole 386 = .ok (.aload_n 0, 1) := by decide +kernel
theorem dL_isWhole_387 : decode cL_isWhole 387 = .ok (.invokevirtual 188, 3) := by decide +kernel
theorem dL_isWhole_390 : decode cL_isWhole 390 = .ok (.if_icmp .ge 7, 3) := by decide +kernel
theorem dL_isWhole_393 : decode cL_isWhole 393 = .ok (.iconst 1, 1) := by decide +kernel
theorem dL_isWhole_394 : decode cL_isWhole 394 = .ok (.goto 4, 3) := by decide +kernel
theorem dL_isWhole_397 : decode cL_isWhole 397 = .ok (.iconst 0, 1) := by decide +kernel
theorem dL_isWhole_398 : decode cL_isWhole 398 = .ok (.iand, 1) := by decide +kernel
theorem dL_isWhole_399 : decode cL_isWhole 399 = .ok (.istore 14, 2) := by decide +kernel
theorem dL_isWhole_401 : decode cL_isWhole 401 = .ok (.iinc 15 1, 3) := by decide +kernel
theorem dL_isWhole_404 : decode cL_isWhole 404 = .ok (.goto (-45), 3) := by decide +kernel
theorem dL_isWhole_407 : decode cL_isWhole 407 = .ok (.aload_n 0, 1) := by decide +kernel
theorem dL_isWhole_408 : decode cL_isWhole 408 = .ok (.invokevirtual 329, 3) := by decide +kernel
theorem dL_isWhole_411 : decode cL_isWhole 411 = .ok (.istore 15, 2) := by decide +kernel
theorem dL_isWhole_413 : decode cL_isWhole 413 = .ok (.aload_n 0, 1) := by decide +kernel
theorem dL_isWhole_414 : decode cL_isWhole 414 = .ok (.invokevirtual 188, 3) := by decide +kernel
theorem dL_isWhole_417 : decode cL_isWhole 417 = .ok (.iload 5, 2) := by decide +kernel
theorem dL_isWhole_419 : decode cL_isWhole 419 = .ok (.iconst 2, 1) := by decide +kernel
theorem dL_isWhole_420 : decode cL_isWhole 420 = .ok (.idiv, 1) := by decide +kernel
theorem dL_isWhole_421 : decode cL_isWhole 421 = .ok (.iconst 1, 1) := by decide +kernel
theorem dL_isWhole_422 : decode cL_isWhole 422 = .ok (.iadd, 1) := by decide +kernel
theorem dL_isWhole_423 : decode cL_isWhole 423 = .ok (.if_icmp .ne 75, 3) := by decide +kernel
theorem dL_isWhole_426 : decode cL_isWhole 426 = .ok (.aload_n 0, 1) := by decide +kernel
theorem dL_isWhole_427 : decode cL_isWhole 427 = .ok (.invokevirtual 332, 3) := by decide +kernel
theorem dL_isWhole_430 : decode cL_isWhole 430 = .ok (.iload 15, 2) := by decide +kernel
theorem dL_isWhole_432 : decode cL_isWhole 432 = .ok (.if_icmp .ne 66, 3) := by decide +kernel
theorem dL_isWhole_435 : decode cL_isWhole 435 = .ok (.iload 4, 2) := by decide +kernel
theorem dL_isWhole_437 : decode cL_isWhole 437 = .ok (.ifCond .ne 11, 3) := by decide +kernel
theorem dL_isWhole_440 : decode cL_isWhole 440 = .ok (.iload 15, 2) := by decide +kernel
theorem dL_isWhole_442 : decode cL_isWhole 442 = .ok (.ifCond .ne 56, 3) := by decide +kernel
theorem dL_isWhole_445 : decode cL_isWhole 445 = .ok (.goto 37, 3) := by decide +kernel
theorem dL_isWhole_448 : decode cL_isWhole 448 = .ok (.iload 15, 2) := by decide +kernel
theorem dL_isWhole_450 : decode cL_isWhole 450 = .ok (.iconst 1, 1) := by decide +kernel
theorem dL_isWhole_451 : decode cL_isWhole 451 = .ok (.if_icmp .lt 47, 3) := by decide +kernel
theorem dL_isWhole_454 : decode cL_isWhole 454 = .ok (.iload 15, 2) := by decide +kernel
theorem dL_isWhole_456 : decode cL_isWhole 456 = .ok (.iconst 1, 1) := by decide +kernel
theorem dL_isWhole_457 : decode cL_isWhole 457 = .ok (.iload 4, 2) := by decide +kernel
theorem dL_isWhole_459 : decode cL_isWhole 459 = .ok (.iconst 1, 1) := by decide +kernel
theorem dL_isWhole_460 : decode cL_isWhole 460 = .ok (.isub, 1) := by decide +kernel
theorem dL_isWhole_461 : decode cL_isWhole 461 = .ok (.ishl, 1) := by decide +kernel
theorem dL_isWhole_462 : decode cL_isWhole 462 = .ok (.if_icmp .gt 36, 3) := by decide +kernel
theorem dL_isWhole_465 : decode cL_isWhole 465 = .ok (.aload_n 0, 1) := by decide +kernel
theorem dL_isWhole_466 : decode cL_isWhole 466 = .ok (.invokestatic 335, 3) := by decide +kernel
theorem dL_isWhole_469 : decode cL_isWhole 469 = .ok (.iconst 1, 1) := by decide +kernel
theorem dL_isWhole_470 : decode cL_isWhole 470 = .ok (.if_icmp .lt 28, 3) := by decide +kernel
theorem dL_isWhole_473 : decode cL_isWhole 473 = .ok (.aload_n 0, 1) := by decide +kernel
theorem dL_isWhole_474 : decode cL_isWhole 474 = .ok (.invokestatic 335, 3) := by decide +kernel
theorem dL_isWhole_477 : decode cL_isWhole 477 = .ok (.iload 4, 2) := by decide +kernel
theorem dL_isWhole_479 : decode cL_isWhole 479 = .ok (.if_icmp .gt 19, 3) := by decide +kernel
theorem dL_isWhole_482 : decode cL_isWhole 482 = .ok (.aload_n 0, 1) := by decide +kernel
theorem dL_isWhole_483 : decode cL_isWhole 483 = .ok (.iconst 0, 1) := by decide +kernel
theorem dL_isWhole_484 : decode cL_isWhole 484 = .ok (.bipush 6, 2) := by decide +kernel
theorem dL_isWhole_486 : decode cL_isWhole 486 = .ok (.invokestatic 185, 3) := by decide +kernel
theorem dL_isWhole_489 : decode cL_isWhole 489 = .ok (.iload 5, 2) := by decide +kernel
theorem dL_isWhole_491 : decode cL_isWhole 491 = .ok (.if_icmp .ne 7, 3) := by decide +kernel
theorem dL_isWhole_494 : decode cL_isWhole 494 = .ok (.iconst 1, 1) := by decide +kernel
theorem dL_isWhole_495 : decode cL_isWhole 495 = .ok (.goto 4, 3) := by decide +kernel
theorem dL_isWhole_498 : decode cL_isWhole 498 = .ok (.iconst 0, 1) := by decide +kernel
theorem dL_isWhole_499 : decode cL_isWhole 499 = .ok (.istore 16, 2) := by decide +kernel
theorem dL_isWhole_501 : decode cL_isWhole 501 = .ok (.aload_n 0, 1) := by decide +kernel
theorem dL_isWhole_502 : decode cL_isWhole 502 = .ok (.iconst 0, 1) := by decide +kernel
theorem dL_isWhole_503 : decode cL_isWhole 503 = .ok (.invokestatic 203, 3) := by decide +kernel
theorem dL_isWhole_506 : decode cL_isWhole 506 = .ok (.istore 17, 2) := by decide +kernel
theorem dL_isWhole_508 : decode cL_isWhole 508 = .ok (.iconst 1, 1) := by decide +kernel
theorem dL_isWhole_509 : decode cL_isWhole 509 = .ok (.istore 18, 2) := by decide +kernel
theorem dL_isWhole_511 : decode cL_isWhole 511 = .ok (.aload_n 0, 1) := by decide +kernel
theorem dL_isWhole_512 : decode cL_isWhole 512 = .ok (.iload 18, 2) := by decide +kernel
theorem dL_isWhole_514 : decode cL_isWhole 514 = .ok (.invokestatic 203, 3) := by decide +kernel
theorem dL_isWhole_517 : decode cL_isWhole 517 = .ok (.ifCond .lt 35, 3) := by decide +kernel
theorem dL_isWhole_520 : decode cL_isWhole 520 = .ok (.aload_n 0, 1) := by decide +kernel
theorem dL_isWhole_521 : decode cL_isWhole 521 = .ok (.iload 18, 2) := by decide +kernel
theorem dL_isWhole_523 : decode cL_isWhole 523 = .ok (.invokestatic 203, 3) := by decide +kernel
theorem dL_isWhole_526 : decode cL_isWhole 526 = .ok (.aload_n 0, 1) := by decide +kernel
theorem dL_isWhole_527 : decode cL_isWhole 527 = .ok (.iload 18, 2) := by decide +kernel
theorem dL_isWhole_529 : decode cL_isWhole 529 = .ok (.iconst 1, 1) := by decide +kernel
theorem dL_isWhole_530 : decode cL_isWhole 530 = .ok (.isub, 1) := by decide +kernel
theorem dL_isWhole_531 : decode cL_isWhole 531 = .ok (.invokestatic 203, 3) := by decide +kernel
theorem dL_isWhole_534 : decode cL_isWhole 534 = .ok (.if_icmp .ge 10, 3) := by decide +kernel
theorem dL_isWhole_537 : decode cL_isWhole 537 = .ok (.iload 18, 2) := by decide +kernel
theorem dL_isWhole_539 : decode cL_isWhole 539 = .ok (.bipush 9, 2) := by decide +kernel
theorem dL_isWhole_541 : decode cL_isWhole 541 = .ok (.if_icmp .le 5, 3) := by decide +kernel
theorem dL_isWhole_544 : decode cL_isWhole 544 = .ok (.iconst 0, 1) := by decide +kernel
theorem dL_isWhole_545 : decode cL_isWhole 545 = .ok (.ireturn, 1) := by decide +kernel
theorem dL_isWhole_546 : decode cL_isWhole 546 = .ok (.iinc 18 1, 3) := by decide +kernel
theorem dL_isWhole_549 : decode cL_isWhole 549 = .ok (.goto (-38), 3) := by decide +kernel
theorem dL_isWhole_552 : decode cL_isWhole 552 = .ok (.aload_n 0, 1) := by decide +kernel
theorem dL_isWhole_553 : decode cL_isWhole 553 = .ok (.invokevirtual 337, 3) := by decide +kernel
theorem dL_isWhole_556 : decode cL_isWhole 556 = .ok (.iload 6, 2) := by decide +kernel
theorem dL_isWhole_558 : decode cL_isWhole 558 = .ok (.aload_n 0, 1) := by decide +kernel
theorem dL_isWhole_559 : decode cL_isWhole 559 = .ok (.invokevirtual 197, 3) := by decide +kernel
theorem dL_isWhole_562 : decode cL_isWhole 562 = .ok (.iadd, 1) := by decide +kernel
theorem dL_isWhole_563 : decode cL_isWhole 563 = .ok (.if_icmp .ne 69, 3) := by decide +kernel
theorem dL_isWhole_566 : decode cL_isWhole 566 = .ok (.aload_n 0, 1) := by decide +kernel
theorem dL_isWhole_567 : decode cL_isWhole 567 = .ok (.invokevirtual 286, 3) := by decide +kernel
theorem dL_isWhole_570 : decode cL_isWhole 570 = .ok (.aload_n 0, 1) := by decide +kernel
theorem dL_isWhole_571 : decode cL_isWhole 571 = .ok (.invokevirtual 337, 3) := by decide +kernel
theorem dL_isWhole_574 : decode cL_isWhole 574 = .ok (.if_icmp .ne 58, 3) := by decide +kernel
theorem dL_isWhole_577 : decode cL_isWhole 577 = .ok (.aload_n 0, 1) := by decide +kernel
theorem dL_isWhole_578 : decode cL_isWhole 578 = .ok (.invokevirtual 286, 3) := by decide +kernel
theorem dL_isWhole_581 : decode cL_isWhole 581 = .ok (.aload_n 0, 1) := by decide +kernel
theorem dL_isWhole_582 : decode cL_isWhole 582 = .ok (.invokevirtual 200, 3) := by decide +kernel
theorem dL_isWhole_585 : decode cL_isWhole 585 = .ok (.if_icmp .gt 47, 3) := by decide +kernel
theorem dL_isWhole_588 : decode cL_isWhole 588 = .ok (.iload 4, 2) := by decide +kernel
theorem dL_isWhole_590 : decode cL_isWhole 590 = .ok (.ifCond .eq 12, 3) := by decide +kernel
theorem dL_isWhole_593 : decode cL_isWhole 593 = .ok (.iload 7, 2) := by decide +kernel
theorem dL_isWhole_595 : decode cL_isWhole 595 = .ok (.aload_n 0, 1) := by decide +kernel
theorem dL_isWhole_596 : decode cL_isWhole 596 = .ok (.invokevirtual 197, 3) := by decide +kernel
theorem dL_isWhole_599 : decode cL_isWhole 599 = .ok (.if_icmp .ne 33, 3) := by decide +kernel
theorem dL_isWhole_602 : decode cL_isWhole 602 = .ok (.aload_n 0, 1) := by decide +kernel
theorem dL_isWhole_603 : decode cL_isWhole 603 = .ok (.invokestatic 340, 3) := by decide +kernel
theorem dL_isWhole_606 : decode cL_isWhole 606 = .ok (.iload 4, 2) := by decide +kernel
theorem dL_isWhole_608 : decode cL_isWhole 608 = .ok (.ifCond .ne 9, 3) := by decide +kernel
theorem dL_isWhole_611 : decode cL_isWhole 611 = .ok (.ldc2_w 121, 3) := by decide +kernel
theorem dL_isWhole_614 : decode cL_isWhole 614 = .ok (.goto 10, 3) := by decide +kernel
theorem dL_isWhole_617 : decode cL_isWhole 617 = .ok (.iload 6, 2) := by decide +kernel
theorem dL_isWhole_619 : decode cL_isWhole 619 = .ok (.i2d, 1) := by decide +kernel
theorem dL_isWhole_620 : decode cL_isWhole 620 = .ok (.iload 4, 2) := by decide +kernel
theorem dL_isWhole_622 : decode cL_isWhole 622 = .ok (.i2d, 1) := by decide +kernel
theorem dL_isWhole_623 : decode cL_isWhole 623 = .ok (.ddiv, 1) := by decide +kernel
theorem dL_isWhole_624 : decode cL_isWhole 624 = .ok (.dcmp .l, 1) := by decide +kernel
theorem dL_isWhole_625 : decode cL_isWhole 625 = .ok (.ifCond .ne 7, 3) := by decide +kernel
theorem dL_isWhole_628 : decode cL_isWhole 628 = .ok (.iconst 1, 1) := by decide +kernel
theorem dL_isWhole_629 : decode cL_isWhole 629 = .ok (.goto 4, 3) := by decide +kernel
theorem dL_isWhole_632 : decode cL_isWhole 632 = .ok (.iconst 0, 1) := by decide +kernel
theorem dL_isWhole_633 : decode cL_isWhole 633 = .ok (.istore 18, 2) := by decide +kernel
theorem dL_isWhole_635 : decode cL_isWhole 635 = .ok (.iload 11, 2) := by decide +kernel
theorem dL_isWhole_637 : decode cL_isWhole 637 = .ok (.ifCond .eq 71, 3) := by decide +kernel
theorem dL_isWhole_640 : decode cL_isWhole 640 = .ok (.iload 14, 2) := by decide +kernel
theorem dL_isWhole_642 : decode cL_isWhole 642 = .ok (.ifCond .eq 66, 3) := by decide +kernel
theorem dL_isWhole_645 : decode cL_isWhole 645 = .ok (.iload 16, 2) := by decide +kernel
theorem dL_isWhole_647 : decode cL_isWhole 647 = .ok (.ifCond .eq 61, 3) := by decide +kernel
theorem dL_isWhole_650 : decode cL_isWhole 650 = .ok (.iload 18, 2) := by decide +kernel
theorem dL_isWhole_652 : decode cL_isWhole 652 = .ok (.ifCond .eq 56, 3) := by decide +kernel
theorem dL_isWhole_655 : decode cL_isWhole 655 = .ok (.iload 17, 2) := by decide +kernel
theorem dL_isWhole_657 : decode cL_isWhole 657 = .ok (.aload_n 0, 1) := by decide +kernel
theorem dL_isWhole_658 : decode cL_isWhole 658 = .ok (.invokevirtual 194, 3) := by decide +kernel
theorem dL_isWhole_661 : decode cL_isWhole 661 = .ok (.if_icmp .gt 47, 3) := by decide +kernel
theorem dL_isWhole_664 : decode cL_isWhole 664 = .ok (.iload 4, 2) := by decide +kernel
theorem dL_isWhole_666 : decode cL_isWhole 666 = .ok (.bipush 8, 2) := by decide +kernel
theorem dL_isWhole_668 : decode cL_isWhole 668 = .ok (.if_icmp .gt 40, 3) := by decide +kernel
theorem dL_isWhole_671 : decode cL_isWhole 671 = .ok (.aload_n 0, 1) := by decide +kernel
theorem dL_isWhole_672 : decode cL_isWhole 672 = .ok (.iload 4, 2) := by decide +kernel
theorem dL_isWhole_674 : decode cL_isWhole 674 = .ok (.invokestatic 209, 3) := by decide +kernel
theorem dL_isWhole_677 : decode cL_isWhole 677 = .ok (.bipush (-77), 2) := by decide +kernel
theorem dL_isWhole_679 : decode cL_isWhole 679 = .ok (.if_icmp .ne 29, 3) := by decide +kernel
theorem dL_isWhole_682 : decode cL_isWhole 682 = .ok (.aload_n 0, 1) := by decide +kernel
theorem dL_isWhole_683 : decode cL_isWhole 683 = .ok (.iload 4, 2) := by decide +kernel
theorem dL_isWhole_685 : decode cL_isWhole 685 = .ok (.invokestatic 323, 3) := by decide +kernel
theorem dL_isWhole_688 : decode cL_isWhole 688 = .ok (.bipush (-75), 2) := by decide +kernel
theorem dL_isWhole_690 : decode cL_isWhole 690 = .ok (.if_icmp .ne 18, 3) := by decide +kernel
theorem dL_isWhole_693 : decode cL_isWhole 693 = .ok (.iload_n 3, 1) := by decide +kernel
theorem dL_isWhole_694 : decode cL_isWhole 694 = .ok (.ifCond .eq 10, 3) := by decide +kernel
theorem dL_isWhole_697 : decode cL_isWhole 697 = .ok (.aload_n 0, 1) := by decide +kernel
theorem dL_isWhole_698 : decode cL_isWhole 698 = .ok (.invokevirtual 343, 3) := by decide +kernel
theorem dL_isWhole_701 : decode cL_isWhole 701 = .ok (.ifCond .eq 7, 3) := by decide +kernel
theorem dL_isWhole_704 : decode cL_isWhole 704 = .ok (.iconst 1, 1) := by decide +kernel
theorem dL_isWhole_705 : decode cL_isWhole 705 = .ok (.goto 4, 3) := by decide +kernel
theorem dL_isWhole_708 : decode cL_isWhole 708 = .ok (.iconst 0, 1) := by decide +kernel
theorem dL_isWhole_709 : decode cL_isWhole 709 = .ok (.ireturn, 1) := by decide +kernel
theorem dL_isKept_0 : decode cL_isKept 0 = .ok (.aload_n 0, 1) := by decide +kernel
theorem dL_isKept_1 : decode cL_isKept 1 = .ok (.invokevirtual 347, 3) := by decide +kernel
theorem dL_isKept_4 : decode cL_isKept 4 = .ok (.bipush 8, 2) := by decide +kernel
theorem dL_isKept_6 : decode cL_isKept 6 = .ok (.iload_n 2, 1) := by decide +kernel
theorem dL_isKept_7 : decode cL_isKept 7 = .ok (.invokestatic 350, 3) := by decide +kernel
theorem dL_isKept_10 : decode cL_isKept 10 = .ok (.istore_n 3, 1) := by decide +kernel
theorem dL_isKept_11 : decode cL_isKept 11 = .ok (.iload_n 2, 1) := by decide +kernel
theorem dL_isKept_12 : decode cL_isKept 12 = .ok (.iconst 1, 1) := by decide +kernel
theorem dL_isKept_13 : decode cL_isKept 13 = .ok (.isub, 1) := by decide +kernel
theorem dL_isKept_14 : decode cL_isKept 14 = .ok (.istore 4, 2) := by decide +kernel
theorem dL_isKept_16 : decode cL_isKept 16 = .ok (.iload_n 3, 1) := by decide +kernel
theorem dL_isKept_17 : decode cL_isKept 17 = .ok (.ifCond .le 34, 3) := by decide +kernel
theorem dL_isKept_20 : decode cL_isKept 20 = .ok (.iinc 3 (-1), 3) := by decide +kernel
theorem dL_isKept_23 : decode cL_isKept 23 = .ok (.aload_n 0, 1) := by decide +kernel
theorem dL_isKept_24 : decode cL_isKept 24 = .ok (.invokestatic 355, 3) := by decide +kernel
theorem dL_isKept_27 : decode cL_isKept 27 = .ok (.iload_n 3, 1) := by decide +kernel
theorem dL_isKept_28 : decode cL_isKept 28 = .ok (.if_icmp .ne 15, 3) := by decide +kernel
theorem dL_isKept_31 : decode cL_isKept 31 = .ok (.aload_n 0, 1) := by decide +kernel
theorem dL_isKept_32 : decode cL_isKept 32 = .ok (.invokestatic 172, 3) := by decide +kernel
theorem dL_isKept_35 : decode cL_isKept 35 = .ok (.aload_n 1, 1) := by decide +kernel
theorem dL_isKept_36 : decode cL_isKept 36 = .ok (.iload 4, 2) := by decide +kernel
theorem dL_isKept_38 : decode cL_isKept 38 = .ok (.laload, 1) := by decide +kernel
theorem dL_isKept_39 : decode cL_isKept 39 = .ok (.lcmp, 1) := by decide +kernel
theorem dL_isKept_40 : decode cL_isKept 40 = .ok (.ifCond .eq 5, 3) := by decide +kernel
theorem dL_isKept_43 : decode cL_isKept 43 = .ok (.iconst 0, 1) := by decide +kernel
theorem dL_isKept_44 : decode cL_isKept 44 = .ok (.ireturn, 1) := by decide +kernel
theorem dL_isKept_45 : decode cL_isKept 45 = .ok (.iinc 4 (-1), 3) := by decide +kernel
theorem dL_isKept_48 : decode cL_isKept 48 = .ok (.goto (-32), 3) := by decide +kernel
theorem dL_isKept_51 : decode cL_isKept 51 = .ok (.aload_n 0, 1) := by decide +kernel
theorem dL_isKept_52 : decode cL_isKept 52 = .ok (.invokestatic 355, 3) := by decide +kernel
theorem dL_isKept_55 : decode cL_isKept 55 = .ok (.bipush (-79), 2) := by decide +kernel
theorem dL_isKept_57 : decode cL_isKept 57 = .ok (.if_icmp .ne 34, 3) := by decide +kernel
theorem dL_isKept_60 : decode cL_isKept 60 = .ok (.aload_n 0, 1) := by decide +kernel
theorem dL_isKept_61 : decode cL_isKept 61 = .ok (.invokestatic 357, 3) := by decide +kernel
theorem dL_isKept_64 : decode cL_isKept 64 = .ok (.ifCond .ne 27, 3) := by decide +kernel
theorem dL_isKept_67 : decode cL_isKept 67 = .ok (.aload_n 0, 1) := by decide +kernel
theorem dL_isKept_68 : decode cL_isKept 68 = .ok (.invokestatic 172, 3) := by decide +kernel
theorem dL_isKept_71 : decode cL_isKept 71 = .ok (.aload_n 1, 1) := by decide +kernel
theorem dL_isKept_72 : decode cL_isKept 72 = .ok (.iload_n 2, 1) := by decide +kernel
theorem dL_isKept_73 : decode cL_isKept 73 = .ok (.laload, 1) := by decide +kernel
theorem dL_isKept_74 : decode cL_isKept 74 = .ok (.lcmp, 1) := by decide +kernel
theorem dL_isKept_75 : decode cL_isKept 75 = .ok (.ifCond .ne 16, 3) := by decide +kernel
theorem dL_isKept_78 : decode cL_isKept 78 = .ok (.aload_n 0, 1) := by decide +kernel
theorem dL_isKept_79 : decode cL_isKept 79 = .ok (.invokestatic 355, 3) := by decide +kernel
theorem dL_isKept_82 : decode cL_isKept 82 = .ok (.bipush (-79), 2) := by decide +kernel
theorem dL_isKept_84 : decode cL_isKept 84 = .ok (.if_icmp .ne 7, 3) := by decide +kernel
theorem dL_isKept_87 : decode cL_isKept 87 = .ok (.iconst 1, 1) := by decide +kernel
theorem dL_isKept_88 : decode cL_isKept 88 = .ok (.goto 4, 3) := by decide +kernel
theorem dL_isKept_91 : decode cL_isKept 91 = .ok (.iconst 0, 1) := by decide +kernel
theorem dL_isKept_92 : decode cL_isKept 92 = .ok (.ireturn, 1) := by decide +kernel
