def sgX6_held_0_8bcf7 : List Instr := [.aload_n 0, .iload_n 1]
theorem sgX6_held_0_8bcf7d : am_dec cX6_held 0 sgX6_held_0_8bcf7 = true := by decide +kernel
theorem dX6_held_2 : decode cX6_held 2 = .ok (.invokevirtual 161, 3) := by decide +kernel
theorem dX6_held_5 : decode cX6_held 5 = .ok (.ifCond .ne 5, 3) := by decide +kernel
def sgX6_held_8_4de0a : List Instr := [.iconst 1]
theorem sgX6_held_8_4de0ad : am_dec cX6_held 8 sgX6_held_8_4de0a = true := by decide +kernel
theorem dX6_held_9 : decode cX6_held 9 = .ok (.ireturn, 1) := by decide +kernel
def sgX6_held_10_34db8 : List Instr := [.aload_n 0]
theorem sgX6_held_10_34db8d : am_dec cX6_held 10 sgX6_held_10_34db8 = true := by decide +kernel
theorem dX6_held_11 : decode cX6_held 11 = .ok (.getfield 68, 3) := by decide +kernel
def sgX6_held_14_840bf : List Instr := [.iload_n 1]
theorem sgX6_held_14_840bfd : am_dec cX6_held 14 sgX6_held_14_840bf = true := by decide +kernel
theorem dX6_held_15 : decode cX6_held 15 = .ok (.iaload, 1) := by decide +kernel
def sgX6_held_16_4de0a : List Instr := [.iconst 1]
theorem sgX6_held_16_4de0ad : am_dec cX6_held 16 sgX6_held_16_4de0a = true := by decide +kernel
theorem dX6_held_17 : decode cX6_held 17 = .ok (.if_icmp .ne 12, 3) := by decide +kernel
def sgX6_held_29_abe91 : List Instr := [.iconst 2, .goto 4]
theorem sgX6_held_29_abe91d : am_dec cX6_held 29 sgX6_held_29_abe91 = true := by decide +kernel
theorem dX6_held_34 : decode cX6_held 34 = .ok (.ireturn, 1) := by decide +kernel
def sgX6_held_20_34db8 : List Instr := [.aload_n 0]
theorem sgX6_held_20_34db8d : am_dec cX6_held 20 sgX6_held_20_34db8 = true := by decide +kernel
theorem dX6_held_21 : decode cX6_held 21 = .ok (.getfield 77, 3) := by decide +kernel
def sgX6_held_24_840bf : List Instr := [.iload_n 1]
theorem sgX6_held_24_840bfd : am_dec cX6_held 24 sgX6_held_24_840bf = true := by decide +kernel
theorem dX6_held_25 : decode cX6_held 25 = .ok (.baload, 1) := by decide +kernel
theorem dX6_held_26 : decode cX6_held 26 = .ok (.ifCond .eq 7, 3) := by decide +kernel
def sgX6_held_33_56c54 : List Instr := [.iconst 0]
theorem sgX6_held_33_56c54d : am_dec cX6_held 33 sgX6_held_33_56c54 = true := by decide +kernel
def sgX6_asks_0_6b3ba : List Instr := [.aload_n 0, .aload_n 0, .iload_n 1]
theorem sgX6_asks_0_6b3bad : am_dec cX6_asks 0 sgX6_asks_0_6b3ba = true := by decide +kernel
theorem dX6_asks_3 : decode cX6_asks 3 = .ok (.invokevirtual 161, 3) := by decide +kernel
theorem dX6_asks_6 : decode cX6_asks 6 = .ok (.ifCond .eq 7, 3) := by decide +kernel
def sgX6_asks_13_4de0a : List Instr := [.iconst 1]
theorem sgX6_asks_13_4de0ad : am_dec cX6_asks 13 sgX6_asks_13_4de0a = true := by decide +kernel
theorem dX6_asks_14 : decode cX6_asks 14 = .ok (.putfield 104, 3) := by decide +kernel
def sgX6_asks_17_34db8 : List Instr := [.aload_n 0]
theorem sgX6_asks_17_34db8d : am_dec cX6_asks 17 sgX6_asks_17_34db8 = true := by decide +kernel
theorem dX6_asks_18 : decode cX6_asks 18 = .ok (.getfield 104, 3) := by decide +kernel
theorem dX6_asks_21 : decode cX6_asks 21 = .ok (.ifCond .ne 7, 3) := by decide +kernel
def sgX6_asks_28_56c54 : List Instr := [.iconst 0]
theorem sgX6_asks_28_56c54d : am_dec cX6_asks 28 sgX6_asks_28_56c54 = true := by decide +kernel
theorem dX6_asks_29 : decode cX6_asks 29 = .ok (.ireturn, 1) := by decide +kernel
def sgX6_asks_9_1cbe9 : List Instr := [.iconst 0, .goto 4]
theorem sgX6_asks_9_1cbe9d : am_dec cX6_asks 9 sgX6_asks_9_1cbe9 = true := by decide +kernel
def sgX6_asks_24_1c64c : List Instr := [.iconst 1, .goto 4]
theorem sgX6_asks_24_1c64cd : am_dec cX6_asks 24 sgX6_asks_24_1c64c = true := by decide +kernel
def sgX6_asksPerson_0_8bcf7 : List Instr := [.aload_n 0, .iload_n 1]
theorem sgX6_asksPerson_0_8bcf7d : am_dec cX6_asksPerson 0 sgX6_asksPerson_0_8bcf7 = true := by decide +kernel
theorem dX6_asksPerson_2 : decode cX6_asksPerson 2 = .ok (.invokestatic 118, 3) := by decide +kernel
theorem dX6_asksPerson_5 : decode cX6_asksPerson 5 = .ok (.ifCond .eq 7, 3) := by decide +kernel
def sgX6_asksPerson_12_4de0a : List Instr := [.iconst 1]
theorem sgX6_asksPerson_12_4de0ad : am_dec cX6_asksPerson 12 sgX6_asksPerson_12_4de0a = true := by decide +kernel
theorem dX6_asksPerson_13 : decode cX6_asksPerson 13 = .ok (.putfield 104, 3) := by decide +kernel
def sgX6_asksPerson_16_34db8 : List Instr := [.aload_n 0]
theorem sgX6_asksPerson_16_34db8d : am_dec cX6_asksPerson 16 sgX6_asksPerson_16_34db8 = true := by decide +kernel
theorem dX6_asksPerson_17 : decode cX6_asksPerson 17 = .ok (.getfield 104, 3) := by decide +kernel
theorem dX6_asksPerson_20 : decode cX6_asksPerson 20 = .ok (.ifCond .ne 7, 3) := by decide +kernel
def sgX6_asksPerson_27_56c54 : List Instr := [.iconst 0]
theorem sgX6_asksPerson_27_56c54d : am_dec cX6_asksPerson 27 sgX6_asksPerson_27_56c54 = true := by decide +kernel
theorem dX6_asksPerson_28 : decode cX6_asksPerson 28 = .ok (.ireturn, 1) := by decide +kernel
def sgX6_asksPerson_8_1cbe9 : List Instr := [.iconst 0, .goto 4]
theorem sgX6_asksPerson_8_1cbe9d : am_dec cX6_asksPerson 8 sgX6_asksPerson_8_1cbe9 = true := by decide +kernel
def sgX6_asksPerson_23_1c64c : List Instr := [.iconst 1, .goto 4]
theorem sgX6_asksPerson_23_1c64cd : am_dec cX6_asksPerson 23 sgX6_asksPerson_23_1c64c = true := by decide +kernel
def sgX6_state_0_8bcf7 : List Instr := [.aload_n 0, .iload_n 1]
theorem sgX6_state_0_8bcf7d : am_dec cX6_state 0 sgX6_state_0_8bcf7 = true := by decide +kernel
theorem dX6_state_2 : decode cX6_state 2 = .ok (.invokevirtual 184, 3) := by decide +kernel
theorem dX6_state_5 : decode cX6_state 5 = .ok (.ifCond .eq 12, 3) := by decide +kernel
def sgX6_state_17_56c54 : List Instr := [.iconst 0]
theorem sgX6_state_17_56c54d : am_dec cX6_state 17 sgX6_state_17_56c54 = true := by decide +kernel
theorem dX6_state_18 : decode cX6_state 18 = .ok (.ireturn, 1) := by decide +kernel
def sgX6_state_8_34db8 : List Instr := [.aload_n 0]
theorem sgX6_state_8_34db8d : am_dec cX6_state 8 sgX6_state_8_34db8 = true := by decide +kernel
theorem dX6_state_9 : decode cX6_state 9 = .ok (.getfield 68, 3) := by decide +kernel
def sgX6_state_12_840bf : List Instr := [.iload_n 1]
theorem sgX6_state_12_840bfd : am_dec cX6_state 12 sgX6_state_12_840bf = true := by decide +kernel
theorem dX6_state_13 : decode cX6_state 13 = .ok (.iaload, 1) := by decide +kernel
def sgX6_state_14_c4397 : List Instr := [.goto 4]
theorem sgX6_state_14_c4397d : am_dec cX6_state 14 sgX6_state_14_c4397 = true := by decide +kernel
def sgX6_cause_0_8bcf7 : List Instr := [.aload_n 0, .iload_n 1]
theorem sgX6_cause_0_8bcf7d : am_dec cX6_cause 0 sgX6_cause_0_8bcf7 = true := by decide +kernel
theorem dX6_cause_2 : decode cX6_cause 2 = .ok (.invokevirtual 184, 3) := by decide +kernel
theorem dX6_cause_5 : decode cX6_cause 5 = .ok (.ifCond .eq 12, 3) := by decide +kernel
def sgX6_cause_17_56c54 : List Instr := [.iconst 0]
theorem sgX6_cause_17_56c54d : am_dec cX6_cause 17 sgX6_cause_17_56c54 = true := by decide +kernel
theorem dX6_cause_18 : decode cX6_cause 18 = .ok (.ireturn, 1) := by decide +kernel
def sgX6_cause_8_34db8 : List Instr := [.aload_n 0]
theorem sgX6_cause_8_34db8d : am_dec cX6_cause 8 sgX6_cause_8_34db8 = true := by decide +kernel
theorem dX6_cause_9 : decode cX6_cause 9 = .ok (.getfield 65, 3) := by decide +kernel
def sgX6_cause_12_840bf : List Instr := [.iload_n 1]
theorem sgX6_cause_12_840bfd : am_dec cX6_cause 12 sgX6_cause_12_840bf = true := by decide +kernel
theorem dX6_cause_13 : decode cX6_cause 13 = .ok (.iaload, 1) := by decide +kernel
def sgX6_cause_14_c4397 : List Instr := [.goto 4]
theorem sgX6_cause_14_c4397d : am_dec cX6_cause 14 sgX6_cause_14_c4397 = true := by decide +kernel
def sgX6_score_0_8bcf7 : List Instr := [.aload_n 0, .iload_n 1]
theorem sgX6_score_0_8bcf7d : am_dec cX6_score 0 sgX6_score_0_8bcf7 = true := by decide +kernel
theorem dX6_score_2 : decode cX6_score 2 = .ok (.invokevirtual 184, 3) := by decide +kernel
theorem dX6_score_5 : decode cX6_score 5 = .ok (.ifCond .eq 12, 3) := by decide +kernel
def sgX6_score_17_56c54 : List Instr := [.iconst 0]
theorem sgX6_score_17_56c54d : am_dec cX6_score 17 sgX6_score_17_56c54 = true := by decide +kernel
theorem dX6_score_18 : decode cX6_score 18 = .ok (.ireturn, 1) := by decide +kernel
def sgX6_score_8_34db8 : List Instr := [.aload_n 0]
theorem sgX6_score_8_34db8d : am_dec cX6_score 8 sgX6_score_8_34db8 = true := by decide +kernel
theorem dX6_score_9 : decode cX6_score 9 = .ok (.getfield 62, 3) := by decide +kernel
def sgX6_score_12_840bf : List Instr := [.iload_n 1]
theorem sgX6_score_12_840bfd : am_dec cX6_score 12 sgX6_score_12_840bf = true := by decide +kernel
theorem dX6_score_13 : decode cX6_score 13 = .ok (.iaload, 1) := by decide +kernel
def sgX6_score_14_c4397 : List Instr := [.goto 4]
theorem sgX6_score_14_c4397d : am_dec cX6_score 14 sgX6_score_14_c4397 = true := by decide +kernel
def sgX6_reached_0_8bcf7 : List Instr := [.aload_n 0, .iload_n 1]
theorem sgX6_reached_0_8bcf7d : am_dec cX6_reached 0 sgX6_reached_0_8bcf7 = true := by decide +kernel
theorem dX6_reached_2 : decode cX6_reached 2 = .ok (.invokevirtual 184, 3) := by decide +kernel
theorem dX6_reached_5 : decode cX6_reached 5 = .ok (.ifCond .eq 12, 3) := by decide +kernel
def sgX6_reached_17_56c54 : List Instr := [.iconst 0]
theorem sgX6_reached_17_56c54d : am_dec cX6_reached 17 sgX6_reached_17_56c54 = true := by decide +kernel
theorem dX6_reached_18 : decode cX6_reached 18 = .ok (.ireturn, 1) := by decide +kernel
def sgX6_reached_8_34db8 : List Instr := [.aload_n 0]
theorem sgX6_reached_8_34db8d : am_dec cX6_reached 8 sgX6_reached_8_34db8 = true := by decide +kernel
theorem dX6_reached_9 : decode cX6_reached 9 = .ok (.getfield 71, 3) := by decide +kernel
def sgX6_reached_12_840bf : List Instr := [.iload_n 1]
theorem sgX6_reached_12_840bfd : am_dec cX6_reached 12 sgX6_reached_12_840bf = true := by decide +kernel
theorem dX6_reached_13 : decode cX6_reached 13 = .ok (.iaload, 1) := by decide +kernel
def sgX6_reached_14_c4397 : List Instr := [.goto 4]
theorem sgX6_reached_14_c4397d : am_dec cX6_reached 14 sgX6_reached_14_c4397 = true := by decide +kernel
def sgX6_lapses_0_8bcf7 : List Instr := [.aload_n 0, .iload_n 1]
theorem sgX6_lapses_0_8bcf7d : am_dec cX6_lapses 0 sgX6_lapses_0_8bcf7 = true := by decide +kernel
theorem dX6_lapses_2 : decode cX6_lapses 2 = .ok (.invokevirtual 184, 3) := by decide +kernel
theorem dX6_lapses_5 : decode cX6_lapses 5 = .ok (.ifCond .ne 5, 3) := by decide +kernel
def sgX6_lapses_8_56c54 : List Instr := [.iconst 0]
theorem sgX6_lapses_8_56c54d : am_dec cX6_lapses 8 sgX6_lapses_8_56c54 = true := by decide +kernel
theorem dX6_lapses_9 : decode cX6_lapses 9 = .ok (.ireturn, 1) := by decide +kernel
def sgX6_jurors_0_8bcf7 : List Instr := [.aload_n 0, .iload_n 1]
theorem sgX6_jurors_0_8bcf7d : am_dec cX6_jurors 0 sgX6_jurors_0_8bcf7 = true := by decide +kernel
theorem dX6_jurors_2 : decode cX6_jurors 2 = .ok (.invokevirtual 184, 3) := by decide +kernel
theorem dX6_jurors_5 : decode cX6_jurors 5 = .ok (.ifCond .eq 21, 3) := by decide +kernel
def sgX6_jurors_26_56c54 : List Instr := [.iconst 0]
theorem sgX6_jurors_26_56c54d : am_dec cX6_jurors 26 sgX6_jurors_26_56c54 = true := by decide +kernel
theorem dX6_jurors_27 : decode cX6_jurors 27 = .ok (.ireturn, 1) := by decide +kernel
def sgX6_lapses_10_34db8 : List Instr := [.aload_n 0]
theorem sgX6_lapses_10_34db8d : am_dec cX6_lapses 10 sgX6_lapses_10_34db8 = true := by decide +kernel
theorem dX6_lapses_11 : decode cX6_lapses 11 = .ok (.getfield 68, 3) := by decide +kernel
def sgX6_lapses_14_840bf : List Instr := [.iload_n 1]
theorem sgX6_lapses_14_840bfd : am_dec cX6_lapses 14 sgX6_lapses_14_840bf = true := by decide +kernel
theorem dX6_lapses_15 : decode cX6_lapses 15 = .ok (.iaload, 1) := by decide +kernel
def sgX6_lapses_16_4de0a : List Instr := [.iconst 1]
theorem sgX6_lapses_16_4de0ad : am_dec cX6_lapses 16 sgX6_lapses_16_4de0a = true := by decide +kernel
theorem dX6_lapses_17 : decode cX6_lapses 17 = .ok (.if_icmp .ne 21, 3) := by decide +kernel
def sgX6_lapses_38_5ff24 : List Instr := [.iconst (-1)]
theorem sgX6_lapses_38_5ff24d : am_dec cX6_lapses 38 sgX6_lapses_38_5ff24 = true := by decide +kernel
theorem dX6_lapses_39 : decode cX6_lapses 39 = .ok (.ireturn, 1) := by decide +kernel
def sgX6_lapses_20_34db8 : List Instr := [.aload_n 0]
theorem sgX6_lapses_20_34db8d : am_dec cX6_lapses 20 sgX6_lapses_20_34db8 = true := by decide +kernel
theorem dX6_lapses_21 : decode cX6_lapses 21 = .ok (.getfield 74, 3) := by decide +kernel
def sgX6_lapses_24_840bf : List Instr := [.iload_n 1]
theorem sgX6_lapses_24_840bfd : am_dec cX6_lapses 24 sgX6_lapses_24_840bf = true := by decide +kernel
theorem dX6_lapses_25 : decode cX6_lapses 25 = .ok (.baload, 1) := by decide +kernel
theorem dX6_lapses_26 : decode cX6_lapses 26 = .ok (.ifCond .ne 12, 3) := by decide +kernel
def sgX6_lapses_29_34db8 : List Instr := [.aload_n 0]
theorem sgX6_lapses_29_34db8d : am_dec cX6_lapses 29 sgX6_lapses_29_34db8 = true := by decide +kernel
theorem dX6_lapses_30 : decode cX6_lapses 30 = .ok (.getfield 59, 3) := by decide +kernel
def sgX6_lapses_33_840bf : List Instr := [.iload_n 1]
theorem sgX6_lapses_33_840bfd : am_dec cX6_lapses 33 sgX6_lapses_33_840bf = true := by decide +kernel
theorem dX6_lapses_34 : decode cX6_lapses 34 = .ok (.iaload, 1) := by decide +kernel
def sgX6_lapses_35_c4397 : List Instr := [.goto 4]
theorem sgX6_lapses_35_c4397d : am_dec cX6_lapses 35 sgX6_lapses_35_c4397 = true := by decide +kernel
def sgX6_jurors_8_34db8 : List Instr := [.aload_n 0]
theorem sgX6_jurors_8_34db8d : am_dec cX6_jurors 8 sgX6_jurors_8_34db8 = true := by decide +kernel
theorem dX6_jurors_9 : decode cX6_jurors 9 = .ok (.getfield 77, 3) := by decide +kernel
def sgX6_jurors_12_840bf : List Instr := [.iload_n 1]
theorem sgX6_jurors_12_840bfd : am_dec cX6_jurors 12 sgX6_jurors_12_840bf = true := by decide +kernel
theorem dX6_jurors_13 : decode cX6_jurors 13 = .ok (.baload, 1) := by decide +kernel
theorem dX6_jurors_14 : decode cX6_jurors 14 = .ok (.ifCond .eq 12, 3) := by decide +kernel
def sgX6_jurors_17_34db8 : List Instr := [.aload_n 0]
theorem sgX6_jurors_17_34db8d : am_dec cX6_jurors 17 sgX6_jurors_17_34db8 = true := by decide +kernel
theorem dX6_jurors_18 : decode cX6_jurors 18 = .ok (.getfield 80, 3) := by decide +kernel
def sgX6_jurors_21_840bf : List Instr := [.iload_n 1]
theorem sgX6_jurors_21_840bfd : am_dec cX6_jurors 21 sgX6_jurors_21_840bf = true := by decide +kernel
theorem dX6_jurors_22 : decode cX6_jurors 22 = .ok (.iaload, 1) := by decide +kernel
def sgX6_jurors_23_c4397 : List Instr := [.goto 4]
theorem sgX6_jurors_23_c4397d : am_dec cX6_jurors 23 sgX6_jurors_23_c4397 = true := by decide +kernel
def sgX6_weight_0_8bcf7 : List Instr := [.aload_n 0, .iload_n 1]
theorem sgX6_weight_0_8bcf7d : am_dec cX6_weight 0 sgX6_weight_0_8bcf7 = true := by decide +kernel
theorem dX6_weight_2 : decode cX6_weight 2 = .ok (.invokevirtual 187, 3) := by decide +kernel
theorem dX6_weight_5 : decode cX6_weight 5 = .ok (.ifCond .eq 12, 3) := by decide +kernel
def sgX6_weight_17_56c54 : List Instr := [.iconst 0]
theorem sgX6_weight_17_56c54d : am_dec cX6_weight 17 sgX6_weight_17_56c54 = true := by decide +kernel
theorem dX6_weight_18 : decode cX6_weight 18 = .ok (.ireturn, 1) := by decide +kernel
def sgX6_weight_8_34db8 : List Instr := [.aload_n 0]
theorem sgX6_weight_8_34db8d : am_dec cX6_weight 8 sgX6_weight_8_34db8 = true := by decide +kernel
theorem dX6_weight_9 : decode cX6_weight 9 = .ok (.getfield 13, 3) := by decide +kernel
def sgX6_weight_12_840bf : List Instr := [.iload_n 1]
theorem sgX6_weight_12_840bfd : am_dec cX6_weight 12 sgX6_weight_12_840bf = true := by decide +kernel
theorem dX6_weight_13 : decode cX6_weight 13 = .ok (.iaload, 1) := by decide +kernel
def sgX6_weight_14_c4397 : List Instr := [.goto 4]
theorem sgX6_weight_14_c4397d : am_dec cX6_weight 14 sgX6_weight_14_c4397 = true := by decide +kernel
def sgX6_judged_0_8bcf7 : List Instr := [.aload_n 0, .iload_n 1]
theorem sgX6_judged_0_8bcf7d : am_dec cX6_judged 0 sgX6_judged_0_8bcf7 = true := by decide +kernel
theorem dX6_judged_2 : decode cX6_judged 2 = .ok (.invokevirtual 187, 3) := by decide +kernel
theorem dX6_judged_5 : decode cX6_judged 5 = .ok (.ifCond .eq 12, 3) := by decide +kernel
def sgX6_judged_17_56c54 : List Instr := [.iconst 0]
theorem sgX6_judged_17_56c54d : am_dec cX6_judged 17 sgX6_judged_17_56c54 = true := by decide +kernel
theorem dX6_judged_18 : decode cX6_judged 18 = .ok (.ireturn, 1) := by decide +kernel
def sgX6_judged_8_34db8 : List Instr := [.aload_n 0]
theorem sgX6_judged_8_34db8d : am_dec cX6_judged 8 sgX6_judged_8_34db8 = true := by decide +kernel
theorem dX6_judged_9 : decode cX6_judged 9 = .ok (.getfield 16, 3) := by decide +kernel
def sgX6_judged_12_840bf : List Instr := [.iload_n 1]
theorem sgX6_judged_12_840bfd : am_dec cX6_judged 12 sgX6_judged_12_840bf = true := by decide +kernel
theorem dX6_judged_13 : decode cX6_judged 13 = .ok (.iaload, 1) := by decide +kernel
def sgX6_judged_14_c4397 : List Instr := [.goto 4]
theorem sgX6_judged_14_c4397d : am_dec cX6_judged 14 sgX6_judged_14_c4397 = true := by decide +kernel
def sgX6_bounces_0_8bcf7 : List Instr := [.aload_n 0, .iload_n 1]
theorem sgX6_bounces_0_8bcf7d : am_dec cX6_bounces 0 sgX6_bounces_0_8bcf7 = true := by decide +kernel
theorem dX6_bounces_2 : decode cX6_bounces 2 = .ok (.invokevirtual 187, 3) := by decide +kernel
theorem dX6_bounces_5 : decode cX6_bounces 5 = .ok (.ifCond .eq 12, 3) := by decide +kernel
def sgX6_bounces_17_56c54 : List Instr := [.iconst 0]
theorem sgX6_bounces_17_56c54d : am_dec cX6_bounces 17 sgX6_bounces_17_56c54 = true := by decide +kernel
theorem dX6_bounces_18 : decode cX6_bounces 18 = .ok (.ireturn, 1) := by decide +kernel
def sgX6_bounces_8_34db8 : List Instr := [.aload_n 0]
theorem sgX6_bounces_8_34db8d : am_dec cX6_bounces 8 sgX6_bounces_8_34db8 = true := by decide +kernel
theorem dX6_bounces_9 : decode cX6_bounces 9 = .ok (.getfield 19, 3) := by decide +kernel
def sgX6_bounces_12_840bf : List Instr := [.iload_n 1]
theorem sgX6_bounces_12_840bfd : am_dec cX6_bounces 12 sgX6_bounces_12_840bf = true := by decide +kernel
theorem dX6_bounces_13 : decode cX6_bounces 13 = .ok (.iaload, 1) := by decide +kernel
def sgX6_bounces_14_c4397 : List Instr := [.goto 4]
theorem sgX6_bounces_14_c4397d : am_dec cX6_bounces 14 sgX6_bounces_14_c4397 = true := by decide +kernel
def sgX6_box_0_8bcf7 : List Instr := [.aload_n 0, .iload_n 1]
theorem sgX6_box_0_8bcf7d : am_dec cX6_box 0 sgX6_box_0_8bcf7 = true := by decide +kernel
theorem dX6_box_2 : decode cX6_box 2 = .ok (.invokevirtual 187, 3) := by decide +kernel
theorem dX6_box_5 : decode cX6_box 5 = .ok (.ifCond .eq 12, 3) := by decide +kernel
def sgX6_box_17_56c54 : List Instr := [.iconst 0]
theorem sgX6_box_17_56c54d : am_dec cX6_box 17 sgX6_box_17_56c54 = true := by decide +kernel
theorem dX6_box_18 : decode cX6_box 18 = .ok (.ireturn, 1) := by decide +kernel
def sgX6_box_8_34db8 : List Instr := [.aload_n 0]
theorem sgX6_box_8_34db8d : am_dec cX6_box 8 sgX6_box_8_34db8 = true := by decide +kernel
theorem dX6_box_9 : decode cX6_box 9 = .ok (.getfield 22, 3) := by decide +kernel
def sgX6_box_12_840bf : List Instr := [.iload_n 1]
theorem sgX6_box_12_840bfd : am_dec cX6_box 12 sgX6_box_12_840bf = true := by decide +kernel
theorem dX6_box_13 : decode cX6_box 13 = .ok (.iaload, 1) := by decide +kernel
def sgX6_box_14_c4397 : List Instr := [.goto 4]
theorem sgX6_box_14_c4397d : am_dec cX6_box 14 sgX6_box_14_c4397 = true := by decide +kernel
def sgX6_thrown_0_34db8 : List Instr := [.aload_n 0]
theorem sgX6_thrown_0_34db8d : am_dec cX6_thrown 0 sgX6_thrown_0_34db8 = true := by decide +kernel
theorem dX6_thrown_1 : decode cX6_thrown 1 = .ok (.getfield 104, 3) := by decide +kernel
theorem dX6_thrown_4 : decode cX6_thrown 4 = .ok (.ireturn, 1) := by decide +kernel
def sgX6_mails_0_9cf18 : List Instr := [.aload_n 0, .iconst 0]
theorem sgX6_mails_0_9cf18d : am_dec cX6_mails 0 sgX6_mails_0_9cf18 = true := by decide +kernel
theorem dX6_mails_2 : decode cX6_mails 2 = .ok (.putfield 104, 3) := by decide +kernel
def sgX6_mails_5_34db8 : List Instr := [.aload_n 0]
theorem sgX6_mails_5_34db8d : am_dec cX6_mails 5 sgX6_mails_5_34db8 = true := by decide +kernel
theorem dX6_mails_6 : decode cX6_mails 6 = .ok (.getfield 115, 3) := by decide +kernel
theorem dX6_mails_9 : decode cX6_mails 9 = .ok (.ireturn, 1) := by decide +kernel
set_option maxRecDepth 100000 in
set_option maxHeartbeats 4000000 in
theorem c_held_1 {G : am_S} {T S : am_T} {o : Nat → Int64} {m : Nat} (hm : S 17 0 = nI m) (hm80 : m ≤ 80) {x : Int32} (hx : x < 0 ∨ nI m ≤ x) : am_D G yX6_held (.code yX6_held cX6_held 2 (some .int) :: am_G) { frames := 2, cells := 0, slots := 0, locals := 43 } (hp T S o) [.ref 465, .int x] (hp T S o) (some (.int 1)) := by
  refine am_of (by decide +kernel) (Nat.le_of_ble_eq_true rfl) ?_
  intro C hse hret hname hF hO
  subst hse
  refine am_go hF sgX6_held_0_8bcf7 2 [(0, .ref 465), (1, .int x)] [.int x, .ref 465] sgX6_held_0_8bcf7d rfl ?_
  refine am_dV hF hO [.int x] [] (c_isMail_f (S := S) hm hm80 hx) myX6_isMail vyX6_isMail lm_RX6_161 (hp_m _ _ _) rfl rfl 0 0 ⟨Nat.le_of_ble_eq_true rfl, Nat.le_of_ble_eq_true rfl⟩ ⟨Nat.le_of_ble_eq_true rfl, Nat.le_of_ble_eq_true rfl, Nat.le_of_ble_eq_true rfl, Nat.le_of_ble_eq_true rfl⟩ rfl (am_lv_ref (hp_m _ _ _) (am_lv_int am_lv_nil)) (Nat.le_of_ble_eq_true rfl) dX6_held_2 [.int 0] rfl ?_
  refine am_ifne hF 10 dX6_held_5 (by decide) (fun h9 => False.elim ((by revert h9; decide))) (fun _ => ?_)
  refine am_go hF sgX6_held_8_4de0a 9 [(0, .ref 465), (1, .int x)] [.int 1] sgX6_held_8_4de0ad rfl ?_
  exact am_iret hF hO hret rfl dX6_held_9 ⟨rfl, rfl⟩
set_option maxRecDepth 100000 in
set_option maxHeartbeats 4000000 in
theorem c_held_2 {G : am_S} {T S : am_T} {o : Nat → Int64} {m : Nat} (hm : S 17 0 = nI m) (hm80 : m ≤ 80) {k : Nat} (hk : k < m) : am_D G yX6_held (.code yX6_held cX6_held 2 (some .int) :: am_G) { frames := 2, cells := 0, slots := 0, locals := 43 } (hp T S o) [.ref 465, .int (nI k)] (hp T S o) (some (.int (if S 24 k = 1 ∧ S 27 k = 0 then 0 else 2))) := by
  refine am_of (by decide +kernel) (Nat.le_of_ble_eq_true rfl) ?_
  intro C hse hret hname hF hO
  subst hse
  refine am_go hF sgX6_held_0_8bcf7 2 [(0, .ref 465), (1, .int (nI k))] [.int (nI k), .ref 465] sgX6_held_0_8bcf7d rfl ?_
  refine am_dV hF hO [.int (nI k)] [] (c_isMail_t (S := S) hm hm80 (show k < m by omega) rfl) myX6_isMail vyX6_isMail lm_RX6_161 (hp_m _ _ _) rfl rfl 0 0 ⟨Nat.le_of_ble_eq_true rfl, Nat.le_of_ble_eq_true rfl⟩ ⟨Nat.le_of_ble_eq_true rfl, Nat.le_of_ble_eq_true rfl, Nat.le_of_ble_eq_true rfl, Nat.le_of_ble_eq_true rfl⟩ rfl (am_lv_ref (hp_m _ _ _) (am_lv_int am_lv_nil)) (Nat.le_of_ble_eq_true rfl) dX6_held_2 [.int 1] rfl ?_
  refine am_ifne hF 10 dX6_held_5 (by decide) (fun _ => ?_) (fun h9 => False.elim ((by revert h9; decide)))
  refine am_go hF sgX6_held_10_34db8 11 [(0, .ref 465), (1, .int (nI k))] [.ref 465] sgX6_held_10_34db8d rfl ?_
  refine sv_get hF 24 (by decide) rfl lf_RX6_68 (.ref 524) rfl dX6_held_11 ?_
  refine am_go hF sgX6_held_14_840bf 15 [(0, .ref 465), (1, .int (nI k))] [.int (nI k), .ref 524] sgX6_held_14_840bfd rfl ?_
  refine sv_iald hF 24 (by decide) ⟨rfl, rfl, by decide⟩ k rfl (show k < 80 by omega) dX6_held_15 ?_
  refine am_go hF sgX6_held_16_4de0a 17 [(0, .ref 465), (1, .int (nI k))] [.int 1, .int (S 24 k)] sgX6_held_16_4de0ad rfl ?_
  refine am_icmpne hF 29 dX6_held_17 (by decide) (fun c2 => ?_) (fun c2 => ?_)
  · skip
    refine am_go hF sgX6_held_29_abe91 34 [(0, .ref 465), (1, .int (nI k))] [.int 2] sgX6_held_29_abe91d rfl ?_
    exact am_iret hF hO hret rfl dX6_held_34 ⟨rfl, by simp only [c2, not_false_eq_true, not_true_eq_false, and_self, and_true, true_and, and_false, false_and, true_or, or_true, or_false, false_or, or_self, ↓reduceIte]⟩
  · skip
    refine am_go hF sgX6_held_20_34db8 21 [(0, .ref 465), (1, .int (nI k))] [.ref 465] sgX6_held_20_34db8d rfl ?_
    refine sv_get hF 27 (by decide) rfl lf_RX6_77 (.ref 527) rfl dX6_held_21 ?_
    refine am_go hF sgX6_held_24_840bf 25 [(0, .ref 465), (1, .int (nI k))] [.int (nI k), .ref 527] sgX6_held_24_840bfd rfl ?_
    refine sv_zald hF 27 (by decide) ⟨rfl, rfl, by decide⟩ k rfl (show k < 80 by omega) dX6_held_25 ?_
    refine am_ifeq hF 33 dX6_held_26 (by decide) (fun c3 => ?_) (fun c3 => ?_)
    · skip
      refine am_go hF sgX6_held_33_56c54 34 [(0, .ref 465), (1, .int (nI k))] [.int 0] sgX6_held_33_56c54d rfl ?_
      exact am_iret hF hO hret rfl dX6_held_34 ⟨rfl, by simp only [(eq_true c2), (eq_true c3), not_false_eq_true, not_true_eq_false, and_self, and_true, true_and, and_false, false_and, true_or, or_true, or_false, false_or, or_self, ↓reduceIte]⟩
    · skip
      refine am_go hF sgX6_held_29_abe91 34 [(0, .ref 465), (1, .int (nI k))] [.int 2] sgX6_held_29_abe91d rfl ?_
      exact am_iret hF hO hret rfl dX6_held_34 ⟨rfl, by simp only [(eq_true c2), c3, not_false_eq_true, not_true_eq_false, and_self, and_true, true_and, and_false, false_and, true_or, or_true, or_false, false_or, or_self, ↓reduceIte]⟩
set_option maxRecDepth 100000 in
set_option maxHeartbeats 4000000 in
theorem c_asks_f {G : am_S} {T S : am_T} {o : Nat → Int64} {m : Nat} (hm : S 17 0 = nI m) (hm80 : m ≤ 80) {x : Int32} (hx : x < 0 ∨ nI m ≤ x) : am_D G yX6_asks (.code yX6_asks cX6_asks 2 (some .boolean) :: am_G) { frames := 2, cells := 0, slots := 0, locals := 43 } (hp T S o) [.ref 465, .int x] (hp T (st1 S 0 0 1) o) (some (.int 0)) := by
  refine am_of (by decide +kernel) (Nat.le_of_ble_eq_true rfl) ?_
  intro C hse hret hname hF hO
  subst hse
  refine am_go hF sgX6_asks_0_6b3ba 3 [(0, .ref 465), (1, .int x)] [.int x, .ref 465, .ref 465] sgX6_asks_0_6b3bad rfl ?_
  refine am_dV hF hO [.int x] [.ref 465] (c_isMail_f (S := S) hm hm80 hx) myX6_isMail vyX6_isMail lm_RX6_161 (hp_m _ _ _) rfl rfl 0 0 ⟨Nat.le_of_ble_eq_true rfl, Nat.le_of_ble_eq_true rfl⟩ ⟨Nat.le_of_ble_eq_true rfl, Nat.le_of_ble_eq_true rfl, Nat.le_of_ble_eq_true rfl, Nat.le_of_ble_eq_true rfl⟩ rfl (am_lv_ref (hp_m _ _ _) (am_lv_int (am_lv_ref (hp_m _ _ _) am_lv_nil))) (Nat.le_of_ble_eq_true rfl) dX6_asks_3 [.int 0, .ref 465] rfl ?_
  refine am_ifeq hF 13 dX6_asks_6 (by decide) (fun _ => ?_) (fun h9 => False.elim ((by revert h9; decide)))
  refine am_go hF sgX6_asks_13_4de0a 14 [(0, .ref 465), (1, .int x)] [.int 1, .ref 465] sgX6_asks_13_4de0ad rfl ?_
  refine sv_put hF 0 (by decide) rfl rfl rfl lf_RX6_104 dX6_asks_14 ?_
  refine am_go hF sgX6_asks_17_34db8 18 [(0, .ref 465), (1, .int x)] [.ref 465] sgX6_asks_17_34db8d rfl ?_
  refine sv_get hF 0 (by decide) rfl lf_RX6_104 (.int 1) rfl dX6_asks_18 ?_
  refine am_ifne hF 28 dX6_asks_21 (by decide) (fun _ => ?_) (fun h9 => False.elim ((by revert h9; decide)))
  refine am_go hF sgX6_asks_28_56c54 29 [(0, .ref 465), (1, .int x)] [.int 0] sgX6_asks_28_56c54d rfl ?_
  exact am_iret hF hO hret rfl dX6_asks_29 ⟨rfl, rfl⟩
set_option maxRecDepth 100000 in
set_option maxHeartbeats 4000000 in
theorem c_asks_t {G : am_S} {T S : am_T} {o : Nat → Int64} {m : Nat} (hm : S 17 0 = nI m) (hm80 : m ≤ 80) {k : Nat} (hk : k < m) : am_D G yX6_asks (.code yX6_asks cX6_asks 2 (some .boolean) :: am_G) { frames := 2, cells := 0, slots := 0, locals := 43 } (hp T S o) [.ref 465, .int (nI k)] (hp T (st1 S 0 0 0) o) (some (.int 1)) := by
  refine am_of (by decide +kernel) (Nat.le_of_ble_eq_true rfl) ?_
  intro C hse hret hname hF hO
  subst hse
  refine am_go hF sgX6_asks_0_6b3ba 3 [(0, .ref 465), (1, .int (nI k))] [.int (nI k), .ref 465, .ref 465] sgX6_asks_0_6b3bad rfl ?_
  refine am_dV hF hO [.int (nI k)] [.ref 465] (c_isMail_t (S := S) hm hm80 (show k < m by omega) rfl) myX6_isMail vyX6_isMail lm_RX6_161 (hp_m _ _ _) rfl rfl 0 0 ⟨Nat.le_of_ble_eq_true rfl, Nat.le_of_ble_eq_true rfl⟩ ⟨Nat.le_of_ble_eq_true rfl, Nat.le_of_ble_eq_true rfl, Nat.le_of_ble_eq_true rfl, Nat.le_of_ble_eq_true rfl⟩ rfl (am_lv_ref (hp_m _ _ _) (am_lv_int (am_lv_ref (hp_m _ _ _) am_lv_nil))) (Nat.le_of_ble_eq_true rfl) dX6_asks_3 [.int 1, .ref 465] rfl ?_
  refine am_ifeq hF 13 dX6_asks_6 (by decide) (fun h9 => False.elim ((by revert h9; decide))) (fun _ => ?_)
  refine am_go hF sgX6_asks_9_1cbe9 14 [(0, .ref 465), (1, .int (nI k))] [.int 0, .ref 465] sgX6_asks_9_1cbe9d rfl ?_
  refine sv_put hF 0 (by decide) rfl rfl rfl lf_RX6_104 dX6_asks_14 ?_
  refine am_go hF sgX6_asks_17_34db8 18 [(0, .ref 465), (1, .int (nI k))] [.ref 465] sgX6_asks_17_34db8d rfl ?_
  refine sv_get hF 0 (by decide) rfl lf_RX6_104 (.int 0) rfl dX6_asks_18 ?_
  refine am_ifne hF 28 dX6_asks_21 (by decide) (fun h9 => False.elim ((by revert h9; decide))) (fun _ => ?_)
  refine am_go hF sgX6_asks_24_1c64c 29 [(0, .ref 465), (1, .int (nI k))] [.int 1] sgX6_asks_24_1c64cd rfl ?_
  exact am_iret hF hO hret rfl dX6_asks_29 ⟨rfl, rfl⟩
set_option maxRecDepth 100000 in
set_option maxHeartbeats 4000000 in
theorem c_asksPerson_f {G : am_S} {T S : am_T} {o : Nat → Int64} {x : Int32} (hx : x < 0 ∨ nI 16 ≤ x) : am_D G yX6_asksPerson (.code yX6_asksPerson cX6_asksPerson 2 (some .boolean) :: am_G) { frames := 2, cells := 0, slots := 0, locals := 42 } (hp T S o) [.ref 465, .int x] (hp T (st1 S 0 0 1) o) (some (.int 0)) := by
  refine am_of (by decide +kernel) (Nat.le_of_ble_eq_true rfl) ?_
  intro C hse hret hname hF hO
  subst hse
  refine am_go hF sgX6_asksPerson_0_8bcf7 2 [(0, .ref 465), (1, .int x)] [.int x, .ref 465] sgX6_asksPerson_0_8bcf7d rfl ?_
  refine am_dS hF hO [.int x] [.ref 465] (c_isPerson_f hx) myX6_isPerson syX6_isPerson lm_RX6_118 rfl 0 0 ⟨Nat.le_of_ble_eq_true rfl, Nat.le_of_ble_eq_true rfl⟩ ⟨Nat.le_of_ble_eq_true rfl, Nat.le_of_ble_eq_true rfl, Nat.le_of_ble_eq_true rfl, Nat.le_of_ble_eq_true rfl⟩ rfl (am_lv_ref (hp_m _ _ _) (am_lv_int (am_lv_ref (hp_m _ _ _) am_lv_nil))) (Nat.le_of_ble_eq_true rfl) dX6_asksPerson_2 [.int 0, .ref 465] rfl ?_
  refine am_ifeq hF 12 dX6_asksPerson_5 (by decide) (fun _ => ?_) (fun h9 => False.elim ((by revert h9; decide)))
  refine am_go hF sgX6_asksPerson_12_4de0a 13 [(0, .ref 465), (1, .int x)] [.int 1, .ref 465] sgX6_asksPerson_12_4de0ad rfl ?_
  refine sv_put hF 0 (by decide) rfl rfl rfl lf_RX6_104 dX6_asksPerson_13 ?_
  refine am_go hF sgX6_asksPerson_16_34db8 17 [(0, .ref 465), (1, .int x)] [.ref 465] sgX6_asksPerson_16_34db8d rfl ?_
  refine sv_get hF 0 (by decide) rfl lf_RX6_104 (.int 1) rfl dX6_asksPerson_17 ?_
  refine am_ifne hF 27 dX6_asksPerson_20 (by decide) (fun _ => ?_) (fun h9 => False.elim ((by revert h9; decide)))
  refine am_go hF sgX6_asksPerson_27_56c54 28 [(0, .ref 465), (1, .int x)] [.int 0] sgX6_asksPerson_27_56c54d rfl ?_
  exact am_iret hF hO hret rfl dX6_asksPerson_28 ⟨rfl, rfl⟩
set_option maxRecDepth 100000 in
set_option maxHeartbeats 4000000 in
theorem c_asksPerson_t {G : am_S} {T S : am_T} {o : Nat → Int64} {p : Nat} (hp9 : p < 16) : am_D G yX6_asksPerson (.code yX6_asksPerson cX6_asksPerson 2 (some .boolean) :: am_G) { frames := 2, cells := 0, slots := 0, locals := 42 } (hp T S o) [.ref 465, .int (nI p)] (hp T (st1 S 0 0 0) o) (some (.int 1)) := by
  refine am_of (by decide +kernel) (Nat.le_of_ble_eq_true rfl) ?_
  intro C hse hret hname hF hO
  subst hse
  refine am_go hF sgX6_asksPerson_0_8bcf7 2 [(0, .ref 465), (1, .int (nI p))] [.int (nI p), .ref 465] sgX6_asksPerson_0_8bcf7d rfl ?_
  refine am_dS hF hO [.int (nI p)] [.ref 465] (c_isPerson_t (show p < 16 by omega) rfl) myX6_isPerson syX6_isPerson lm_RX6_118 rfl 0 0 ⟨Nat.le_of_ble_eq_true rfl, Nat.le_of_ble_eq_true rfl⟩ ⟨Nat.le_of_ble_eq_true rfl, Nat.le_of_ble_eq_true rfl, Nat.le_of_ble_eq_true rfl, Nat.le_of_ble_eq_true rfl⟩ rfl (am_lv_ref (hp_m _ _ _) (am_lv_int (am_lv_ref (hp_m _ _ _) am_lv_nil))) (Nat.le_of_ble_eq_true rfl) dX6_asksPerson_2 [.int 1, .ref 465] rfl ?_
  refine am_ifeq hF 12 dX6_asksPerson_5 (by decide) (fun h9 => False.elim ((by revert h9; decide))) (fun _ => ?_)
  refine am_go hF sgX6_asksPerson_8_1cbe9 13 [(0, .ref 465), (1, .int (nI p))] [.int 0, .ref 465] sgX6_asksPerson_8_1cbe9d rfl ?_
  refine sv_put hF 0 (by decide) rfl rfl rfl lf_RX6_104 dX6_asksPerson_13 ?_
  refine am_go hF sgX6_asksPerson_16_34db8 17 [(0, .ref 465), (1, .int (nI p))] [.ref 465] sgX6_asksPerson_16_34db8d rfl ?_
  refine sv_get hF 0 (by decide) rfl lf_RX6_104 (.int 0) rfl dX6_asksPerson_17 ?_
  refine am_ifne hF 27 dX6_asksPerson_20 (by decide) (fun h9 => False.elim ((by revert h9; decide))) (fun _ => ?_)
  refine am_go hF sgX6_asksPerson_23_1c64c 28 [(0, .ref 465), (1, .int (nI p))] [.int 1] sgX6_asksPerson_23_1c64cd rfl ?_
  exact am_iret hF hO hret rfl dX6_asksPerson_28 ⟨rfl, rfl⟩
set_option maxRecDepth 100000 in
set_option maxHeartbeats 4000000 in
theorem c_r_state_f {G : am_S} {T S : am_T} {o : Nat → Int64} {m : Nat} (hm : S 17 0 = nI m) (hm80 : m ≤ 80) {x : Int32} (hx : x < 0 ∨ nI m ≤ x) : am_D G yX6_state (.code yX6_state cX6_state 2 (some .int) :: am_G) { frames := 3, cells := 0, slots := 0, locals := 64 } (hp T S o) [.ref 465, .int x] (hp T (st1 S 0 0 1) o) (some (.int 0)) := by
  refine am_of (by decide +kernel) (Nat.le_of_ble_eq_true rfl) ?_
  intro C hse hret hname hF hO
  subst hse
  refine am_go hF sgX6_state_0_8bcf7 2 [(0, .ref 465), (1, .int x)] [.int x, .ref 465] sgX6_state_0_8bcf7d rfl ?_
  refine am_dV hF hO [.int x] [] (c_asks_f (S := S) hm hm80 hx) myX6_asks vyX6_asks lm_RX6_184 (hp_m _ _ _) rfl rfl 0 0 ⟨Nat.le_of_ble_eq_true rfl, Nat.le_of_ble_eq_true rfl⟩ ⟨Nat.le_of_ble_eq_true rfl, Nat.le_of_ble_eq_true rfl, Nat.le_of_ble_eq_true rfl, Nat.le_of_ble_eq_true rfl⟩ rfl (am_lv_ref (hp_m _ _ _) (am_lv_int am_lv_nil)) (Nat.le_of_ble_eq_true rfl) dX6_state_2 [.int 0] rfl ?_
  refine am_ifeq hF 17 dX6_state_5 (by decide) (fun _ => ?_) (fun h9 => False.elim ((by revert h9; decide)))
  refine am_go hF sgX6_state_17_56c54 18 [(0, .ref 465), (1, .int x)] [.int 0] sgX6_state_17_56c54d rfl ?_
  exact am_iret hF hO hret rfl dX6_state_18 ⟨rfl, rfl⟩
set_option maxRecDepth 100000 in
set_option maxHeartbeats 4000000 in
theorem c_r_state_t {G : am_S} {T S : am_T} {o : Nat → Int64} {m : Nat} (hm : S 17 0 = nI m) (hm80 : m ≤ 80) {k : Nat} (hk : k < m) : am_D G yX6_state (.code yX6_state cX6_state 2 (some .int) :: am_G) { frames := 3, cells := 0, slots := 0, locals := 64 } (hp T S o) [.ref 465, .int (nI k)] (hp T (st1 S 0 0 0) o) (some (.int (S 24 k))) := by
  refine am_of (by decide +kernel) (Nat.le_of_ble_eq_true rfl) ?_
  intro C hse hret hname hF hO
  subst hse
  refine am_go hF sgX6_state_0_8bcf7 2 [(0, .ref 465), (1, .int (nI k))] [.int (nI k), .ref 465] sgX6_state_0_8bcf7d rfl ?_
  refine am_dV hF hO [.int (nI k)] [] (c_asks_t (S := S) hm hm80 (by omega)) myX6_asks vyX6_asks lm_RX6_184 (hp_m _ _ _) rfl rfl 0 0 ⟨Nat.le_of_ble_eq_true rfl, Nat.le_of_ble_eq_true rfl⟩ ⟨Nat.le_of_ble_eq_true rfl, Nat.le_of_ble_eq_true rfl, Nat.le_of_ble_eq_true rfl, Nat.le_of_ble_eq_true rfl⟩ rfl (am_lv_ref (hp_m _ _ _) (am_lv_int am_lv_nil)) (Nat.le_of_ble_eq_true rfl) dX6_state_2 [.int 1] rfl ?_
  refine am_ifeq hF 17 dX6_state_5 (by decide) (fun h9 => False.elim ((by revert h9; decide))) (fun _ => ?_)
  refine am_go hF sgX6_state_8_34db8 9 [(0, .ref 465), (1, .int (nI k))] [.ref 465] sgX6_state_8_34db8d rfl ?_
  refine sv_get hF 24 (by decide) rfl lf_RX6_68 (.ref 524) rfl dX6_state_9 ?_
  refine am_go hF sgX6_state_12_840bf 13 [(0, .ref 465), (1, .int (nI k))] [.int (nI k), .ref 524] sgX6_state_12_840bfd rfl ?_
  refine sv_iald hF 24 (by decide) ⟨rfl, rfl, by decide⟩ k rfl (show k < 80 by omega) dX6_state_13 ?_
  refine am_top (S 24 k) rfl ?_
  refine am_go hF sgX6_state_14_c4397 18 [(0, .ref 465), (1, .int (nI k))] [.int (S 24 k)] sgX6_state_14_c4397d rfl ?_
  exact am_iret hF hO hret rfl dX6_state_18 ⟨rfl, rfl⟩
set_option maxRecDepth 100000 in
set_option maxHeartbeats 4000000 in
theorem c_r_cause_f {G : am_S} {T S : am_T} {o : Nat → Int64} {m : Nat} (hm : S 17 0 = nI m) (hm80 : m ≤ 80) {x : Int32} (hx : x < 0 ∨ nI m ≤ x) : am_D G yX6_cause (.code yX6_cause cX6_cause 2 (some .int) :: am_G) { frames := 3, cells := 0, slots := 0, locals := 64 } (hp T S o) [.ref 465, .int x] (hp T (st1 S 0 0 1) o) (some (.int 0)) := by
  refine am_of (by decide +kernel) (Nat.le_of_ble_eq_true rfl) ?_
  intro C hse hret hname hF hO
  subst hse
  refine am_go hF sgX6_cause_0_8bcf7 2 [(0, .ref 465), (1, .int x)] [.int x, .ref 465] sgX6_cause_0_8bcf7d rfl ?_
  refine am_dV hF hO [.int x] [] (c_asks_f (S := S) hm hm80 hx) myX6_asks vyX6_asks lm_RX6_184 (hp_m _ _ _) rfl rfl 0 0 ⟨Nat.le_of_ble_eq_true rfl, Nat.le_of_ble_eq_true rfl⟩ ⟨Nat.le_of_ble_eq_true rfl, Nat.le_of_ble_eq_true rfl, Nat.le_of_ble_eq_true rfl, Nat.le_of_ble_eq_true rfl⟩ rfl (am_lv_ref (hp_m _ _ _) (am_lv_int am_lv_nil)) (Nat.le_of_ble_eq_true rfl) dX6_cause_2 [.int 0] rfl ?_
  refine am_ifeq hF 17 dX6_cause_5 (by decide) (fun _ => ?_) (fun h9 => False.elim ((by revert h9; decide)))
  refine am_go hF sgX6_cause_17_56c54 18 [(0, .ref 465), (1, .int x)] [.int 0] sgX6_cause_17_56c54d rfl ?_
  exact am_iret hF hO hret rfl dX6_cause_18 ⟨rfl, rfl⟩
set_option maxRecDepth 100000 in
set_option maxHeartbeats 4000000 in
theorem c_r_cause_t {G : am_S} {T S : am_T} {o : Nat → Int64} {m : Nat} (hm : S 17 0 = nI m) (hm80 : m ≤ 80) {k : Nat} (hk : k < m) : am_D G yX6_cause (.code yX6_cause cX6_cause 2 (some .int) :: am_G) { frames := 3, cells := 0, slots := 0, locals := 64 } (hp T S o) [.ref 465, .int (nI k)] (hp T (st1 S 0 0 0) o) (some (.int (S 23 k))) := by
  refine am_of (by decide +kernel) (Nat.le_of_ble_eq_true rfl) ?_
  intro C hse hret hname hF hO
  subst hse
  refine am_go hF sgX6_cause_0_8bcf7 2 [(0, .ref 465), (1, .int (nI k))] [.int (nI k), .ref 465] sgX6_cause_0_8bcf7d rfl ?_
  refine am_dV hF hO [.int (nI k)] [] (c_asks_t (S := S) hm hm80 (by omega)) myX6_asks vyX6_asks lm_RX6_184 (hp_m _ _ _) rfl rfl 0 0 ⟨Nat.le_of_ble_eq_true rfl, Nat.le_of_ble_eq_true rfl⟩ ⟨Nat.le_of_ble_eq_true rfl, Nat.le_of_ble_eq_true rfl, Nat.le_of_ble_eq_true rfl, Nat.le_of_ble_eq_true rfl⟩ rfl (am_lv_ref (hp_m _ _ _) (am_lv_int am_lv_nil)) (Nat.le_of_ble_eq_true rfl) dX6_cause_2 [.int 1] rfl ?_
  refine am_ifeq hF 17 dX6_cause_5 (by decide) (fun h9 => False.elim ((by revert h9; decide))) (fun _ => ?_)
  refine am_go hF sgX6_cause_8_34db8 9 [(0, .ref 465), (1, .int (nI k))] [.ref 465] sgX6_cause_8_34db8d rfl ?_
  refine sv_get hF 23 (by decide) rfl lf_RX6_65 (.ref 523) rfl dX6_cause_9 ?_
  refine am_go hF sgX6_cause_12_840bf 13 [(0, .ref 465), (1, .int (nI k))] [.int (nI k), .ref 523] sgX6_cause_12_840bfd rfl ?_
  refine sv_iald hF 23 (by decide) ⟨rfl, rfl, by decide⟩ k rfl (show k < 80 by omega) dX6_cause_13 ?_
  refine am_top (S 23 k) rfl ?_
  refine am_go hF sgX6_cause_14_c4397 18 [(0, .ref 465), (1, .int (nI k))] [.int (S 23 k)] sgX6_cause_14_c4397d rfl ?_
  exact am_iret hF hO hret rfl dX6_cause_18 ⟨rfl, rfl⟩
set_option maxRecDepth 100000 in
set_option maxHeartbeats 4000000 in
theorem c_r_score_f {G : am_S} {T S : am_T} {o : Nat → Int64} {m : Nat} (hm : S 17 0 = nI m) (hm80 : m ≤ 80) {x : Int32} (hx : x < 0 ∨ nI m ≤ x) : am_D G yX6_score (.code yX6_score cX6_score 2 (some .int) :: am_G) { frames := 3, cells := 0, slots := 0, locals := 64 } (hp T S o) [.ref 465, .int x] (hp T (st1 S 0 0 1) o) (some (.int 0)) := by
  refine am_of (by decide +kernel) (Nat.le_of_ble_eq_true rfl) ?_
  intro C hse hret hname hF hO
  subst hse
  refine am_go hF sgX6_score_0_8bcf7 2 [(0, .ref 465), (1, .int x)] [.int x, .ref 465] sgX6_score_0_8bcf7d rfl ?_
  refine am_dV hF hO [.int x] [] (c_asks_f (S := S) hm hm80 hx) myX6_asks vyX6_asks lm_RX6_184 (hp_m _ _ _) rfl rfl 0 0 ⟨Nat.le_of_ble_eq_true rfl, Nat.le_of_ble_eq_true rfl⟩ ⟨Nat.le_of_ble_eq_true rfl, Nat.le_of_ble_eq_true rfl, Nat.le_of_ble_eq_true rfl, Nat.le_of_ble_eq_true rfl⟩ rfl (am_lv_ref (hp_m _ _ _) (am_lv_int am_lv_nil)) (Nat.le_of_ble_eq_true rfl) dX6_score_2 [.int 0] rfl ?_
  refine am_ifeq hF 17 dX6_score_5 (by decide) (fun _ => ?_) (fun h9 => False.elim ((by revert h9; decide)))
  refine am_go hF sgX6_score_17_56c54 18 [(0, .ref 465), (1, .int x)] [.int 0] sgX6_score_17_56c54d rfl ?_
  exact am_iret hF hO hret rfl dX6_score_18 ⟨rfl, rfl⟩
set_option maxRecDepth 100000 in
set_option maxHeartbeats 4000000 in
theorem c_r_score_t {G : am_S} {T S : am_T} {o : Nat → Int64} {m : Nat} (hm : S 17 0 = nI m) (hm80 : m ≤ 80) {k : Nat} (hk : k < m) : am_D G yX6_score (.code yX6_score cX6_score 2 (some .int) :: am_G) { frames := 3, cells := 0, slots := 0, locals := 64 } (hp T S o) [.ref 465, .int (nI k)] (hp T (st1 S 0 0 0) o) (some (.int (S 22 k))) := by
  refine am_of (by decide +kernel) (Nat.le_of_ble_eq_true rfl) ?_
  intro C hse hret hname hF hO
  subst hse
  refine am_go hF sgX6_score_0_8bcf7 2 [(0, .ref 465), (1, .int (nI k))] [.int (nI k), .ref 465] sgX6_score_0_8bcf7d rfl ?_
  refine am_dV hF hO [.int (nI k)] [] (c_asks_t (S := S) hm hm80 (by omega)) myX6_asks vyX6_asks lm_RX6_184 (hp_m _ _ _) rfl rfl 0 0 ⟨Nat.le_of_ble_eq_true rfl, Nat.le_of_ble_eq_true rfl⟩ ⟨Nat.le_of_ble_eq_true rfl, Nat.le_of_ble_eq_true rfl, Nat.le_of_ble_eq_true rfl, Nat.le_of_ble_eq_true rfl⟩ rfl (am_lv_ref (hp_m _ _ _) (am_lv_int am_lv_nil)) (Nat.le_of_ble_eq_true rfl) dX6_score_2 [.int 1] rfl ?_
  refine am_ifeq hF 17 dX6_score_5 (by decide) (fun h9 => False.elim ((by revert h9; decide))) (fun _ => ?_)
  refine am_go hF sgX6_score_8_34db8 9 [(0, .ref 465), (1, .int (nI k))] [.ref 465] sgX6_score_8_34db8d rfl ?_
  refine sv_get hF 22 (by decide) rfl lf_RX6_62 (.ref 522) rfl dX6_score_9 ?_
  refine am_go hF sgX6_score_12_840bf 13 [(0, .ref 465), (1, .int (nI k))] [.int (nI k), .ref 522] sgX6_score_12_840bfd rfl ?_
  refine sv_iald hF 22 (by decide) ⟨rfl, rfl, by decide⟩ k rfl (show k < 80 by omega) dX6_score_13 ?_
  refine am_top (S 22 k) rfl ?_
  refine am_go hF sgX6_score_14_c4397 18 [(0, .ref 465), (1, .int (nI k))] [.int (S 22 k)] sgX6_score_14_c4397d rfl ?_
  exact am_iret hF hO hret rfl dX6_score_18 ⟨rfl, rfl⟩
set_option maxRecDepth 100000 in
set_option maxHeartbeats 4000000 in
theorem c_r_reached_f {G : am_S} {T S : am_T} {o : Nat → Int64} {m : Nat} (hm : S 17 0 = nI m) (hm80 : m ≤ 80) {x : Int32} (hx : x < 0 ∨ nI m ≤ x) : am_D G yX6_reached (.code yX6_reached cX6_reached 2 (some .int) :: am_G) { frames := 3, cells := 0, slots := 0, locals := 64 } (hp T S o) [.ref 465, .int x] (hp T (st1 S 0 0 1) o) (some (.int 0)) := by
  refine am_of (by decide +kernel) (Nat.le_of_ble_eq_true rfl) ?_
  intro C hse hret hname hF hO
  subst hse
  refine am_go hF sgX6_reached_0_8bcf7 2 [(0, .ref 465), (1, .int x)] [.int x, .ref 465] sgX6_reached_0_8bcf7d rfl ?_
  refine am_dV hF hO [.int x] [] (c_asks_f (S := S) hm hm80 hx) myX6_asks vyX6_asks lm_RX6_184 (hp_m _ _ _) rfl rfl 0 0 ⟨Nat.le_of_ble_eq_true rfl, Nat.le_of_ble_eq_true rfl⟩ ⟨Nat.le_of_ble_eq_true rfl, Nat.le_of_ble_eq_true rfl, Nat.le_of_ble_eq_true rfl, Nat.le_of_ble_eq_true rfl⟩ rfl (am_lv_ref (hp_m _ _ _) (am_lv_int am_lv_nil)) (Nat.le_of_ble_eq_true rfl) dX6_reached_2 [.int 0] rfl ?_
  refine am_ifeq hF 17 dX6_reached_5 (by decide) (fun _ => ?_) (fun h9 => False.elim ((by revert h9; decide)))
  refine am_go hF sgX6_reached_17_56c54 18 [(0, .ref 465), (1, .int x)] [.int 0] sgX6_reached_17_56c54d rfl ?_
  exact am_iret hF hO hret rfl dX6_reached_18 ⟨rfl, rfl⟩
set_option maxRecDepth 100000 in
set_option maxHeartbeats 4000000 in
theorem c_r_reached_t {G : am_S} {T S : am_T} {o : Nat → Int64} {m : Nat} (hm : S 17 0 = nI m) (hm80 : m ≤ 80) {k : Nat} (hk : k < m) : am_D G yX6_reached (.code yX6_reached cX6_reached 2 (some .int) :: am_G) { frames := 3, cells := 0, slots := 0, locals := 64 } (hp T S o) [.ref 465, .int (nI k)] (hp T (st1 S 0 0 0) o) (some (.int (S 25 k))) := by
  refine am_of (by decide +kernel) (Nat.le_of_ble_eq_true rfl) ?_
  intro C hse hret hname hF hO
  subst hse
  refine am_go hF sgX6_reached_0_8bcf7 2 [(0, .ref 465), (1, .int (nI k))] [.int (nI k), .ref 465] sgX6_reached_0_8bcf7d rfl ?_
  refine am_dV hF hO [.int (nI k)] [] (c_asks_t (S := S) hm hm80 (by omega)) myX6_asks vyX6_asks lm_RX6_184 (hp_m _ _ _) rfl rfl 0 0 ⟨Nat.le_of_ble_eq_true rfl, Nat.le_of_ble_eq_true rfl⟩ ⟨Nat.le_of_ble_eq_true rfl, Nat.le_of_ble_eq_true rfl, Nat.le_of_ble_eq_true rfl, Nat.le_of_ble_eq_true rfl⟩ rfl (am_lv_ref (hp_m _ _ _) (am_lv_int am_lv_nil)) (Nat.le_of_ble_eq_true rfl) dX6_reached_2 [.int 1] rfl ?_
  refine am_ifeq hF 17 dX6_reached_5 (by decide) (fun h9 => False.elim ((by revert h9; decide))) (fun _ => ?_)
  refine am_go hF sgX6_reached_8_34db8 9 [(0, .ref 465), (1, .int (nI k))] [.ref 465] sgX6_reached_8_34db8d rfl ?_
  refine sv_get hF 25 (by decide) rfl lf_RX6_71 (.ref 525) rfl dX6_reached_9 ?_
  refine am_go hF sgX6_reached_12_840bf 13 [(0, .ref 465), (1, .int (nI k))] [.int (nI k), .ref 525] sgX6_reached_12_840bfd rfl ?_
  refine sv_iald hF 25 (by decide) ⟨rfl, rfl, by decide⟩ k rfl (show k < 80 by omega) dX6_reached_13 ?_
  refine am_top (S 25 k) rfl ?_
  refine am_go hF sgX6_reached_14_c4397 18 [(0, .ref 465), (1, .int (nI k))] [.int (S 25 k)] sgX6_reached_14_c4397d rfl ?_
  exact am_iret hF hO hret rfl dX6_reached_18 ⟨rfl, rfl⟩
set_option maxRecDepth 100000 in
set_option maxHeartbeats 4000000 in
theorem c_r_lapses_f {G : am_S} {T S : am_T} {o : Nat → Int64} {m : Nat} (hm : S 17 0 = nI m) (hm80 : m ≤ 80) {x : Int32} (hx : x < 0 ∨ nI m ≤ x) : am_D G yX6_lapses (.code yX6_lapses cX6_lapses 2 (some .int) :: am_G) { frames := 3, cells := 0, slots := 0, locals := 64 } (hp T S o) [.ref 465, .int x] (hp T (st1 S 0 0 1) o) (some (.int 0)) := by
  refine am_of (by decide +kernel) (Nat.le_of_ble_eq_true rfl) ?_
  intro C hse hret hname hF hO
  subst hse
  refine am_go hF sgX6_lapses_0_8bcf7 2 [(0, .ref 465), (1, .int x)] [.int x, .ref 465] sgX6_lapses_0_8bcf7d rfl ?_
  refine am_dV hF hO [.int x] [] (c_asks_f (S := S) hm hm80 hx) myX6_asks vyX6_asks lm_RX6_184 (hp_m _ _ _) rfl rfl 0 0 ⟨Nat.le_of_ble_eq_true rfl, Nat.le_of_ble_eq_true rfl⟩ ⟨Nat.le_of_ble_eq_true rfl, Nat.le_of_ble_eq_true rfl, Nat.le_of_ble_eq_true rfl, Nat.le_of_ble_eq_true rfl⟩ rfl (am_lv_ref (hp_m _ _ _) (am_lv_int am_lv_nil)) (Nat.le_of_ble_eq_true rfl) dX6_lapses_2 [.int 0] rfl ?_
  refine am_ifne hF 10 dX6_lapses_5 (by decide) (fun h9 => False.elim ((by revert h9; decide))) (fun _ => ?_)
  refine am_go hF sgX6_lapses_8_56c54 9 [(0, .ref 465), (1, .int x)] [.int 0] sgX6_lapses_8_56c54d rfl ?_
  exact am_iret hF hO hret rfl dX6_lapses_9 ⟨rfl, rfl⟩
set_option maxRecDepth 100000 in
set_option maxHeartbeats 4000000 in
theorem c_r_jurors_f {G : am_S} {T S : am_T} {o : Nat → Int64} {m : Nat} (hm : S 17 0 = nI m) (hm80 : m ≤ 80) {x : Int32} (hx : x < 0 ∨ nI m ≤ x) : am_D G yX6_jurors (.code yX6_jurors cX6_jurors 2 (some .int) :: am_G) { frames := 3, cells := 0, slots := 0, locals := 64 } (hp T S o) [.ref 465, .int x] (hp T (st1 S 0 0 1) o) (some (.int 0)) := by
  refine am_of (by decide +kernel) (Nat.le_of_ble_eq_true rfl) ?_
  intro C hse hret hname hF hO
  subst hse
  refine am_go hF sgX6_jurors_0_8bcf7 2 [(0, .ref 465), (1, .int x)] [.int x, .ref 465] sgX6_jurors_0_8bcf7d rfl ?_
  refine am_dV hF hO [.int x] [] (c_asks_f (S := S) hm hm80 hx) myX6_asks vyX6_asks lm_RX6_184 (hp_m _ _ _) rfl rfl 0 0 ⟨Nat.le_of_ble_eq_true rfl, Nat.le_of_ble_eq_true rfl⟩ ⟨Nat.le_of_ble_eq_true rfl, Nat.le_of_ble_eq_true rfl, Nat.le_of_ble_eq_true rfl, Nat.le_of_ble_eq_true rfl⟩ rfl (am_lv_ref (hp_m _ _ _) (am_lv_int am_lv_nil)) (Nat.le_of_ble_eq_true rfl) dX6_jurors_2 [.int 0] rfl ?_
  refine am_ifeq hF 26 dX6_jurors_5 (by decide) (fun _ => ?_) (fun h9 => False.elim ((by revert h9; decide)))
  refine am_go hF sgX6_jurors_26_56c54 27 [(0, .ref 465), (1, .int x)] [.int 0] sgX6_jurors_26_56c54d rfl ?_
  exact am_iret hF hO hret rfl dX6_jurors_27 ⟨rfl, rfl⟩
set_option maxRecDepth 100000 in
set_option maxHeartbeats 4000000 in
theorem c_r_lapses_t {G : am_S} {T S : am_T} {o : Nat → Int64} {m : Nat} (hm : S 17 0 = nI m) (hm80 : m ≤ 80) {k : Nat} (hk : k < m) : am_D G yX6_lapses (.code yX6_lapses cX6_lapses 2 (some .int) :: am_G) { frames := 3, cells := 0, slots := 0, locals := 64 } (hp T S o) [.ref 465, .int (nI k)] (hp T (st1 S 0 0 0) o) (some (.int (if S 24 k = 1 ∧ S 26 k = 0 then S 21 k else -1))) := by
  refine am_of (by decide +kernel) (Nat.le_of_ble_eq_true rfl) ?_
  intro C hse hret hname hF hO
  subst hse
  refine am_go hF sgX6_lapses_0_8bcf7 2 [(0, .ref 465), (1, .int (nI k))] [.int (nI k), .ref 465] sgX6_lapses_0_8bcf7d rfl ?_
  refine am_dV hF hO [.int (nI k)] [] (c_asks_t (S := S) hm hm80 (by omega)) myX6_asks vyX6_asks lm_RX6_184 (hp_m _ _ _) rfl rfl 0 0 ⟨Nat.le_of_ble_eq_true rfl, Nat.le_of_ble_eq_true rfl⟩ ⟨Nat.le_of_ble_eq_true rfl, Nat.le_of_ble_eq_true rfl, Nat.le_of_ble_eq_true rfl, Nat.le_of_ble_eq_true rfl⟩ rfl (am_lv_ref (hp_m _ _ _) (am_lv_int am_lv_nil)) (Nat.le_of_ble_eq_true rfl) dX6_lapses_2 [.int 1] rfl ?_
  refine am_ifne hF 10 dX6_lapses_5 (by decide) (fun _ => ?_) (fun h9 => False.elim ((by revert h9; decide)))
  refine am_go hF sgX6_lapses_10_34db8 11 [(0, .ref 465), (1, .int (nI k))] [.ref 465] sgX6_lapses_10_34db8d rfl ?_
  refine sv_get hF 24 (by decide) rfl lf_RX6_68 (.ref 524) rfl dX6_lapses_11 ?_
  refine am_go hF sgX6_lapses_14_840bf 15 [(0, .ref 465), (1, .int (nI k))] [.int (nI k), .ref 524] sgX6_lapses_14_840bfd rfl ?_
  refine sv_iald hF 24 (by decide) ⟨rfl, rfl, by decide⟩ k rfl (show k < 80 by omega) dX6_lapses_15 ?_
  refine am_top (S 24 k) rfl ?_
  refine am_go hF sgX6_lapses_16_4de0a 17 [(0, .ref 465), (1, .int (nI k))] [.int 1, .int (S 24 k)] sgX6_lapses_16_4de0ad rfl ?_
  refine am_icmpne hF 38 dX6_lapses_17 (by decide) (fun c2 => ?_) (fun c2 => ?_)
  · skip
    refine am_go hF sgX6_lapses_38_5ff24 39 [(0, .ref 465), (1, .int (nI k))] [.int (-1)] sgX6_lapses_38_5ff24d rfl ?_
    exact am_iret hF hO hret rfl dX6_lapses_39 ⟨rfl, by simp only [c2, not_false_eq_true, not_true_eq_false, and_self, and_true, true_and, and_false, false_and, true_or, or_true, or_false, false_or, or_self, ↓reduceIte]⟩
  · skip
    refine am_go hF sgX6_lapses_20_34db8 21 [(0, .ref 465), (1, .int (nI k))] [.ref 465] sgX6_lapses_20_34db8d rfl ?_
    refine sv_get hF 26 (by decide) rfl lf_RX6_74 (.ref 526) rfl dX6_lapses_21 ?_
    refine am_go hF sgX6_lapses_24_840bf 25 [(0, .ref 465), (1, .int (nI k))] [.int (nI k), .ref 526] sgX6_lapses_24_840bfd rfl ?_
    refine sv_zald hF 26 (by decide) ⟨rfl, rfl, by decide⟩ k rfl (show k < 80 by omega) dX6_lapses_25 ?_
    refine am_top (S 26 k) rfl ?_
    refine am_ifne hF 38 dX6_lapses_26 (by decide) (fun c3 => ?_) (fun c3 => ?_)
    · skip
      refine am_go hF sgX6_lapses_38_5ff24 39 [(0, .ref 465), (1, .int (nI k))] [.int (-1)] sgX6_lapses_38_5ff24d rfl ?_
      exact am_iret hF hO hret rfl dX6_lapses_39 ⟨rfl, by simp only [(eq_true c2), c3, not_false_eq_true, not_true_eq_false, and_self, and_true, true_and, and_false, false_and, true_or, or_true, or_false, false_or, or_self, ↓reduceIte]⟩
    · skip
      refine am_go hF sgX6_lapses_29_34db8 30 [(0, .ref 465), (1, .int (nI k))] [.ref 465] sgX6_lapses_29_34db8d rfl ?_
      refine sv_get hF 21 (by decide) rfl lf_RX6_59 (.ref 521) rfl dX6_lapses_30 ?_
      refine am_go hF sgX6_lapses_33_840bf 34 [(0, .ref 465), (1, .int (nI k))] [.int (nI k), .ref 521] sgX6_lapses_33_840bfd rfl ?_
      refine sv_iald hF 21 (by decide) ⟨rfl, rfl, by decide⟩ k rfl (show k < 80 by omega) dX6_lapses_34 ?_
      refine am_top (S 21 k) rfl ?_
      refine am_go hF sgX6_lapses_35_c4397 39 [(0, .ref 465), (1, .int (nI k))] [.int (S 21 k)] sgX6_lapses_35_c4397d rfl ?_
      exact am_iret hF hO hret rfl dX6_lapses_39 ⟨rfl, by simp only [(eq_true c2), (eq_true c3), not_false_eq_true, not_true_eq_false, and_self, and_true, true_and, and_false, false_and, true_or, or_true, or_false, false_or, or_self, ↓reduceIte]⟩
set_option maxRecDepth 100000 in
set_option maxHeartbeats 4000000 in
theorem c_r_jurors_t {G : am_S} {T S : am_T} {o : Nat → Int64} {m : Nat} (hm : S 17 0 = nI m) (hm80 : m ≤ 80) {k : Nat} (hk : k < m) : am_D G yX6_jurors (.code yX6_jurors cX6_jurors 2 (some .int) :: am_G) { frames := 3, cells := 0, slots := 0, locals := 64 } (hp T S o) [.ref 465, .int (nI k)] (hp T (st1 S 0 0 0) o) (some (.int (if S 27 k = 0 then 0 else S 28 k))) := by
  refine am_of (by decide +kernel) (Nat.le_of_ble_eq_true rfl) ?_
  intro C hse hret hname hF hO
  subst hse
  refine am_go hF sgX6_jurors_0_8bcf7 2 [(0, .ref 465), (1, .int (nI k))] [.int (nI k), .ref 465] sgX6_jurors_0_8bcf7d rfl ?_
  refine am_dV hF hO [.int (nI k)] [] (c_asks_t (S := S) hm hm80 (by omega)) myX6_asks vyX6_asks lm_RX6_184 (hp_m _ _ _) rfl rfl 0 0 ⟨Nat.le_of_ble_eq_true rfl, Nat.le_of_ble_eq_true rfl⟩ ⟨Nat.le_of_ble_eq_true rfl, Nat.le_of_ble_eq_true rfl, Nat.le_of_ble_eq_true rfl, Nat.le_of_ble_eq_true rfl⟩ rfl (am_lv_ref (hp_m _ _ _) (am_lv_int am_lv_nil)) (Nat.le_of_ble_eq_true rfl) dX6_jurors_2 [.int 1] rfl ?_
  refine am_ifeq hF 26 dX6_jurors_5 (by decide) (fun h9 => False.elim ((by revert h9; decide))) (fun _ => ?_)
  refine am_go hF sgX6_jurors_8_34db8 9 [(0, .ref 465), (1, .int (nI k))] [.ref 465] sgX6_jurors_8_34db8d rfl ?_
  refine sv_get hF 27 (by decide) rfl lf_RX6_77 (.ref 527) rfl dX6_jurors_9 ?_
  refine am_go hF sgX6_jurors_12_840bf 13 [(0, .ref 465), (1, .int (nI k))] [.int (nI k), .ref 527] sgX6_jurors_12_840bfd rfl ?_
  refine sv_zald hF 27 (by decide) ⟨rfl, rfl, by decide⟩ k rfl (show k < 80 by omega) dX6_jurors_13 ?_
  refine am_top (S 27 k) rfl ?_
  refine am_ifeq hF 26 dX6_jurors_14 (by decide) (fun c2 => ?_) (fun c2 => ?_)
  · skip
    refine am_go hF sgX6_jurors_26_56c54 27 [(0, .ref 465), (1, .int (nI k))] [.int 0] sgX6_jurors_26_56c54d rfl ?_
    exact am_iret hF hO hret rfl dX6_jurors_27 ⟨rfl, by simp only [(eq_true c2), not_false_eq_true, not_true_eq_false, and_self, and_true, true_and, and_false, false_and, true_or, or_true, or_false, false_or, or_self, ↓reduceIte]⟩
  · skip
    refine am_go hF sgX6_jurors_17_34db8 18 [(0, .ref 465), (1, .int (nI k))] [.ref 465] sgX6_jurors_17_34db8d rfl ?_
    refine sv_get hF 28 (by decide) rfl lf_RX6_80 (.ref 528) rfl dX6_jurors_18 ?_
    refine am_go hF sgX6_jurors_21_840bf 22 [(0, .ref 465), (1, .int (nI k))] [.int (nI k), .ref 528] sgX6_jurors_21_840bfd rfl ?_
    refine sv_iald hF 28 (by decide) ⟨rfl, rfl, by decide⟩ k rfl (show k < 80 by omega) dX6_jurors_22 ?_
    refine am_top (S 28 k) rfl ?_
    refine am_go hF sgX6_jurors_23_c4397 27 [(0, .ref 465), (1, .int (nI k))] [.int (S 28 k)] sgX6_jurors_23_c4397d rfl ?_
    exact am_iret hF hO hret rfl dX6_jurors_27 ⟨rfl, by simp only [c2, not_false_eq_true, not_true_eq_false, and_self, and_true, true_and, and_false, false_and, true_or, or_true, or_false, false_or, or_self, ↓reduceIte]⟩
set_option maxRecDepth 100000 in
set_option maxHeartbeats 4000000 in
theorem c_r_weight_f {G : am_S} {T S : am_T} {o : Nat → Int64} {x : Int32} (hx : x < 0 ∨ nI 16 ≤ x) : am_D G yX6_weight (.code yX6_weight cX6_weight 2 (some .int) :: am_G) { frames := 3, cells := 0, slots := 0, locals := 63 } (hp T S o) [.ref 465, .int x] (hp T (st1 S 0 0 1) o) (some (.int 0)) := by
  refine am_of (by decide +kernel) (Nat.le_of_ble_eq_true rfl) ?_
  intro C hse hret hname hF hO
  subst hse
  refine am_go hF sgX6_weight_0_8bcf7 2 [(0, .ref 465), (1, .int x)] [.int x, .ref 465] sgX6_weight_0_8bcf7d rfl ?_
  refine am_dV hF hO [.int x] [] (c_asksPerson_f (S := S) hx) myX6_asksPerson vyX6_asksPerson lm_RX6_187 (hp_m _ _ _) rfl rfl 0 0 ⟨Nat.le_of_ble_eq_true rfl, Nat.le_of_ble_eq_true rfl⟩ ⟨Nat.le_of_ble_eq_true rfl, Nat.le_of_ble_eq_true rfl, Nat.le_of_ble_eq_true rfl, Nat.le_of_ble_eq_true rfl⟩ rfl (am_lv_ref (hp_m _ _ _) (am_lv_int am_lv_nil)) (Nat.le_of_ble_eq_true rfl) dX6_weight_2 [.int 0] rfl ?_
  refine am_ifeq hF 17 dX6_weight_5 (by decide) (fun _ => ?_) (fun h9 => False.elim ((by revert h9; decide)))
  refine am_go hF sgX6_weight_17_56c54 18 [(0, .ref 465), (1, .int x)] [.int 0] sgX6_weight_17_56c54d rfl ?_
  exact am_iret hF hO hret rfl dX6_weight_18 ⟨rfl, rfl⟩
set_option maxRecDepth 100000 in
set_option maxHeartbeats 4000000 in
theorem c_r_weight_t {G : am_S} {T S : am_T} {o : Nat → Int64} {p : Nat} (hp9 : p < 16) : am_D G yX6_weight (.code yX6_weight cX6_weight 2 (some .int) :: am_G) { frames := 3, cells := 0, slots := 0, locals := 63 } (hp T S o) [.ref 465, .int (nI p)] (hp T (st1 S 0 0 0) o) (some (.int (S 4 p))) := by
  refine am_of (by decide +kernel) (Nat.le_of_ble_eq_true rfl) ?_
  intro C hse hret hname hF hO
  subst hse
  refine am_go hF sgX6_weight_0_8bcf7 2 [(0, .ref 465), (1, .int (nI p))] [.int (nI p), .ref 465] sgX6_weight_0_8bcf7d rfl ?_
  refine am_dV hF hO [.int (nI p)] [] (c_asksPerson_t (S := S) (by omega)) myX6_asksPerson vyX6_asksPerson lm_RX6_187 (hp_m _ _ _) rfl rfl 0 0 ⟨Nat.le_of_ble_eq_true rfl, Nat.le_of_ble_eq_true rfl⟩ ⟨Nat.le_of_ble_eq_true rfl, Nat.le_of_ble_eq_true rfl, Nat.le_of_ble_eq_true rfl, Nat.le_of_ble_eq_true rfl⟩ rfl (am_lv_ref (hp_m _ _ _) (am_lv_int am_lv_nil)) (Nat.le_of_ble_eq_true rfl) dX6_weight_2 [.int 1] rfl ?_
  refine am_ifeq hF 17 dX6_weight_5 (by decide) (fun h9 => False.elim ((by revert h9; decide))) (fun _ => ?_)
  refine am_go hF sgX6_weight_8_34db8 9 [(0, .ref 465), (1, .int (nI p))] [.ref 465] sgX6_weight_8_34db8d rfl ?_
  refine sv_get hF 4 (by decide) rfl lf_RX6_13 (.ref 504) rfl dX6_weight_9 ?_
  refine am_go hF sgX6_weight_12_840bf 13 [(0, .ref 465), (1, .int (nI p))] [.int (nI p), .ref 504] sgX6_weight_12_840bfd rfl ?_
  refine sv_iald hF 4 (by decide) ⟨rfl, rfl, by decide⟩ p rfl (show p < 16 by omega) dX6_weight_13 ?_
  refine am_top (S 4 p) rfl ?_
  refine am_go hF sgX6_weight_14_c4397 18 [(0, .ref 465), (1, .int (nI p))] [.int (S 4 p)] sgX6_weight_14_c4397d rfl ?_
  exact am_iret hF hO hret rfl dX6_weight_18 ⟨rfl, rfl⟩
set_option maxRecDepth 100000 in
set_option maxHeartbeats 4000000 in
theorem c_r_judged_f {G : am_S} {T S : am_T} {o : Nat → Int64} {x : Int32} (hx : x < 0 ∨ nI 16 ≤ x) : am_D G yX6_judged (.code yX6_judged cX6_judged 2 (some .int) :: am_G) { frames := 3, cells := 0, slots := 0, locals := 63 } (hp T S o) [.ref 465, .int x] (hp T (st1 S 0 0 1) o) (some (.int 0)) := by
  refine am_of (by decide +kernel) (Nat.le_of_ble_eq_true rfl) ?_
  intro C hse hret hname hF hO
  subst hse
  refine am_go hF sgX6_judged_0_8bcf7 2 [(0, .ref 465), (1, .int x)] [.int x, .ref 465] sgX6_judged_0_8bcf7d rfl ?_
  refine am_dV hF hO [.int x] [] (c_asksPerson_f (S := S) hx) myX6_asksPerson vyX6_asksPerson lm_RX6_187 (hp_m _ _ _) rfl rfl 0 0 ⟨Nat.le_of_ble_eq_true rfl, Nat.le_of_ble_eq_true rfl⟩ ⟨Nat.le_of_ble_eq_true rfl, Nat.le_of_ble_eq_true rfl, Nat.le_of_ble_eq_true rfl, Nat.le_of_ble_eq_true rfl⟩ rfl (am_lv_ref (hp_m _ _ _) (am_lv_int am_lv_nil)) (Nat.le_of_ble_eq_true rfl) dX6_judged_2 [.int 0] rfl ?_
  refine am_ifeq hF 17 dX6_judged_5 (by decide) (fun _ => ?_) (fun h9 => False.elim ((by revert h9; decide)))
  refine am_go hF sgX6_judged_17_56c54 18 [(0, .ref 465), (1, .int x)] [.int 0] sgX6_judged_17_56c54d rfl ?_
  exact am_iret hF hO hret rfl dX6_judged_18 ⟨rfl, rfl⟩
set_option maxRecDepth 100000 in
set_option maxHeartbeats 4000000 in
theorem c_r_judged_t {G : am_S} {T S : am_T} {o : Nat → Int64} {p : Nat} (hp9 : p < 16) : am_D G yX6_judged (.code yX6_judged cX6_judged 2 (some .int) :: am_G) { frames := 3, cells := 0, slots := 0, locals := 63 } (hp T S o) [.ref 465, .int (nI p)] (hp T (st1 S 0 0 0) o) (some (.int (S 5 p))) := by
  refine am_of (by decide +kernel) (Nat.le_of_ble_eq_true rfl) ?_
  intro C hse hret hname hF hO
  subst hse
  refine am_go hF sgX6_judged_0_8bcf7 2 [(0, .ref 465), (1, .int (nI p))] [.int (nI p), .ref 465] sgX6_judged_0_8bcf7d rfl ?_
  refine am_dV hF hO [.int (nI p)] [] (c_asksPerson_t (S := S) (by omega)) myX6_asksPerson vyX6_asksPerson lm_RX6_187 (hp_m _ _ _) rfl rfl 0 0 ⟨Nat.le_of_ble_eq_true rfl, Nat.le_of_ble_eq_true rfl⟩ ⟨Nat.le_of_ble_eq_true rfl, Nat.le_of_ble_eq_true rfl, Nat.le_of_ble_eq_true rfl, Nat.le_of_ble_eq_true rfl⟩ rfl (am_lv_ref (hp_m _ _ _) (am_lv_int am_lv_nil)) (Nat.le_of_ble_eq_true rfl) dX6_judged_2 [.int 1] rfl ?_
  refine am_ifeq hF 17 dX6_judged_5 (by decide) (fun h9 => False.elim ((by revert h9; decide))) (fun _ => ?_)
  refine am_go hF sgX6_judged_8_34db8 9 [(0, .ref 465), (1, .int (nI p))] [.ref 465] sgX6_judged_8_34db8d rfl ?_
  refine sv_get hF 5 (by decide) rfl lf_RX6_16 (.ref 505) rfl dX6_judged_9 ?_
  refine am_go hF sgX6_judged_12_840bf 13 [(0, .ref 465), (1, .int (nI p))] [.int (nI p), .ref 505] sgX6_judged_12_840bfd rfl ?_
  refine sv_iald hF 5 (by decide) ⟨rfl, rfl, by decide⟩ p rfl (show p < 16 by omega) dX6_judged_13 ?_
  refine am_top (S 5 p) rfl ?_
  refine am_go hF sgX6_judged_14_c4397 18 [(0, .ref 465), (1, .int (nI p))] [.int (S 5 p)] sgX6_judged_14_c4397d rfl ?_
  exact am_iret hF hO hret rfl dX6_judged_18 ⟨rfl, rfl⟩
set_option maxRecDepth 100000 in
set_option maxHeartbeats 4000000 in
theorem c_r_bounces_f {G : am_S} {T S : am_T} {o : Nat → Int64} {x : Int32} (hx : x < 0 ∨ nI 16 ≤ x) : am_D G yX6_bounces (.code yX6_bounces cX6_bounces 2 (some .int) :: am_G) { frames := 3, cells := 0, slots := 0, locals := 63 } (hp T S o) [.ref 465, .int x] (hp T (st1 S 0 0 1) o) (some (.int 0)) := by
  refine am_of (by decide +kernel) (Nat.le_of_ble_eq_true rfl) ?_
  intro C hse hret hname hF hO
  subst hse
  refine am_go hF sgX6_bounces_0_8bcf7 2 [(0, .ref 465), (1, .int x)] [.int x, .ref 465] sgX6_bounces_0_8bcf7d rfl ?_
  refine am_dV hF hO [.int x] [] (c_asksPerson_f (S := S) hx) myX6_asksPerson vyX6_asksPerson lm_RX6_187 (hp_m _ _ _) rfl rfl 0 0 ⟨Nat.le_of_ble_eq_true rfl, Nat.le_of_ble_eq_true rfl⟩ ⟨Nat.le_of_ble_eq_true rfl, Nat.le_of_ble_eq_true rfl, Nat.le_of_ble_eq_true rfl, Nat.le_of_ble_eq_true rfl⟩ rfl (am_lv_ref (hp_m _ _ _) (am_lv_int am_lv_nil)) (Nat.le_of_ble_eq_true rfl) dX6_bounces_2 [.int 0] rfl ?_
  refine am_ifeq hF 17 dX6_bounces_5 (by decide) (fun _ => ?_) (fun h9 => False.elim ((by revert h9; decide)))
  refine am_go hF sgX6_bounces_17_56c54 18 [(0, .ref 465), (1, .int x)] [.int 0] sgX6_bounces_17_56c54d rfl ?_
  exact am_iret hF hO hret rfl dX6_bounces_18 ⟨rfl, rfl⟩
set_option maxRecDepth 100000 in
set_option maxHeartbeats 4000000 in
theorem c_r_bounces_t {G : am_S} {T S : am_T} {o : Nat → Int64} {p : Nat} (hp9 : p < 16) : am_D G yX6_bounces (.code yX6_bounces cX6_bounces 2 (some .int) :: am_G) { frames := 3, cells := 0, slots := 0, locals := 63 } (hp T S o) [.ref 465, .int (nI p)] (hp T (st1 S 0 0 0) o) (some (.int (S 6 p))) := by
  refine am_of (by decide +kernel) (Nat.le_of_ble_eq_true rfl) ?_
  intro C hse hret hname hF hO
  subst hse
  refine am_go hF sgX6_bounces_0_8bcf7 2 [(0, .ref 465), (1, .int (nI p))] [.int (nI p), .ref 465] sgX6_bounces_0_8bcf7d rfl ?_
  refine am_dV hF hO [.int (nI p)] [] (c_asksPerson_t (S := S) (by omega)) myX6_asksPerson vyX6_asksPerson lm_RX6_187 (hp_m _ _ _) rfl rfl 0 0 ⟨Nat.le_of_ble_eq_true rfl, Nat.le_of_ble_eq_true rfl⟩ ⟨Nat.le_of_ble_eq_true rfl, Nat.le_of_ble_eq_true rfl, Nat.le_of_ble_eq_true rfl, Nat.le_of_ble_eq_true rfl⟩ rfl (am_lv_ref (hp_m _ _ _) (am_lv_int am_lv_nil)) (Nat.le_of_ble_eq_true rfl) dX6_bounces_2 [.int 1] rfl ?_
  refine am_ifeq hF 17 dX6_bounces_5 (by decide) (fun h9 => False.elim ((by revert h9; decide))) (fun _ => ?_)
  refine am_go hF sgX6_bounces_8_34db8 9 [(0, .ref 465), (1, .int (nI p))] [.ref 465] sgX6_bounces_8_34db8d rfl ?_
  refine sv_get hF 6 (by decide) rfl lf_RX6_19 (.ref 506) rfl dX6_bounces_9 ?_
  refine am_go hF sgX6_bounces_12_840bf 13 [(0, .ref 465), (1, .int (nI p))] [.int (nI p), .ref 506] sgX6_bounces_12_840bfd rfl ?_
  refine sv_iald hF 6 (by decide) ⟨rfl, rfl, by decide⟩ p rfl (show p < 16 by omega) dX6_bounces_13 ?_
  refine am_top (S 6 p) rfl ?_
  refine am_go hF sgX6_bounces_14_c4397 18 [(0, .ref 465), (1, .int (nI p))] [.int (S 6 p)] sgX6_bounces_14_c4397d rfl ?_
  exact am_iret hF hO hret rfl dX6_bounces_18 ⟨rfl, rfl⟩
set_option maxRecDepth 100000 in
set_option maxHeartbeats 4000000 in
theorem c_r_box_f {G : am_S} {T S : am_T} {o : Nat → Int64} {x : Int32} (hx : x < 0 ∨ nI 16 ≤ x) : am_D G yX6_box (.code yX6_box cX6_box 2 (some .int) :: am_G) { frames := 3, cells := 0, slots := 0, locals := 63 } (hp T S o) [.ref 465, .int x] (hp T (st1 S 0 0 1) o) (some (.int 0)) := by
  refine am_of (by decide +kernel) (Nat.le_of_ble_eq_true rfl) ?_
  intro C hse hret hname hF hO
  subst hse
  refine am_go hF sgX6_box_0_8bcf7 2 [(0, .ref 465), (1, .int x)] [.int x, .ref 465] sgX6_box_0_8bcf7d rfl ?_
  refine am_dV hF hO [.int x] [] (c_asksPerson_f (S := S) hx) myX6_asksPerson vyX6_asksPerson lm_RX6_187 (hp_m _ _ _) rfl rfl 0 0 ⟨Nat.le_of_ble_eq_true rfl, Nat.le_of_ble_eq_true rfl⟩ ⟨Nat.le_of_ble_eq_true rfl, Nat.le_of_ble_eq_true rfl, Nat.le_of_ble_eq_true rfl, Nat.le_of_ble_eq_true rfl⟩ rfl (am_lv_ref (hp_m _ _ _) (am_lv_int am_lv_nil)) (Nat.le_of_ble_eq_true rfl) dX6_box_2 [.int 0] rfl ?_
  refine am_ifeq hF 17 dX6_box_5 (by decide) (fun _ => ?_) (fun h9 => False.elim ((by revert h9; decide)))
  refine am_go hF sgX6_box_17_56c54 18 [(0, .ref 465), (1, .int x)] [.int 0] sgX6_box_17_56c54d rfl ?_
  exact am_iret hF hO hret rfl dX6_box_18 ⟨rfl, rfl⟩
set_option maxRecDepth 100000 in
set_option maxHeartbeats 4000000 in
theorem c_r_box_t {G : am_S} {T S : am_T} {o : Nat → Int64} {p : Nat} (hp9 : p < 16) : am_D G yX6_box (.code yX6_box cX6_box 2 (some .int) :: am_G) { frames := 3, cells := 0, slots := 0, locals := 63 } (hp T S o) [.ref 465, .int (nI p)] (hp T (st1 S 0 0 0) o) (some (.int (S 7 p))) := by
  refine am_of (by decide +kernel) (Nat.le_of_ble_eq_true rfl) ?_
  intro C hse hret hname hF hO
  subst hse
  refine am_go hF sgX6_box_0_8bcf7 2 [(0, .ref 465), (1, .int (nI p))] [.int (nI p), .ref 465] sgX6_box_0_8bcf7d rfl ?_
  refine am_dV hF hO [.int (nI p)] [] (c_asksPerson_t (S := S) (by omega)) myX6_asksPerson vyX6_asksPerson lm_RX6_187 (hp_m _ _ _) rfl rfl 0 0 ⟨Nat.le_of_ble_eq_true rfl, Nat.le_of_ble_eq_true rfl⟩ ⟨Nat.le_of_ble_eq_true rfl, Nat.le_of_ble_eq_true rfl, Nat.le_of_ble_eq_true rfl, Nat.le_of_ble_eq_true rfl⟩ rfl (am_lv_ref (hp_m _ _ _) (am_lv_int am_lv_nil)) (Nat.le_of_ble_eq_true rfl) dX6_box_2 [.int 1] rfl ?_
  refine am_ifeq hF 17 dX6_box_5 (by decide) (fun h9 => False.elim ((by revert h9; decide))) (fun _ => ?_)
  refine am_go hF sgX6_box_8_34db8 9 [(0, .ref 465), (1, .int (nI p))] [.ref 465] sgX6_box_8_34db8d rfl ?_
  refine sv_get hF 7 (by decide) rfl lf_RX6_22 (.ref 507) rfl dX6_box_9 ?_
  refine am_go hF sgX6_box_12_840bf 13 [(0, .ref 465), (1, .int (nI p))] [.int (nI p), .ref 507] sgX6_box_12_840bfd rfl ?_
  refine sv_iald hF 7 (by decide) ⟨rfl, rfl, by decide⟩ p rfl (show p < 16 by omega) dX6_box_13 ?_
  refine am_top (S 7 p) rfl ?_
  refine am_go hF sgX6_box_14_c4397 18 [(0, .ref 465), (1, .int (nI p))] [.int (S 7 p)] sgX6_box_14_c4397d rfl ?_
  exact am_iret hF hO hret rfl dX6_box_18 ⟨rfl, rfl⟩
set_option maxRecDepth 100000 in
set_option maxHeartbeats 4000000 in
theorem c_r_thrown {G : am_S} {T S : am_T} {o : Nat → Int64}  : am_D G yX6_thrown (.code yX6_thrown cX6_thrown 1 (some .int) :: am_G) { frames := 0, cells := 0, slots := 0, locals := 0 } (hp T S o) [.ref 465] (hp T S o) (some (.int (S 0 0))) := by
  refine am_of (by decide +kernel) (Nat.le_of_ble_eq_true rfl) ?_
  intro C hse hret hname hF hO
  subst hse
  refine am_go hF sgX6_thrown_0_34db8 1 [(0, .ref 465)] [.ref 465] sgX6_thrown_0_34db8d rfl ?_
  refine sv_get hF 0 (by decide) rfl lf_RX6_104 (.int (S 0 0)) rfl dX6_thrown_1 ?_
  exact am_iret hF hO hret rfl dX6_thrown_4 ⟨rfl, rfl⟩
set_option maxRecDepth 100000 in
set_option maxHeartbeats 4000000 in
theorem c_r_mails {G : am_S} {T S : am_T} {o : Nat → Int64} {m : Nat} (hm : S 17 0 = nI m) (hm80 : m ≤ 80) : am_D G yX6_mails (.code yX6_mails cX6_mails 1 (some .int) :: am_G) { frames := 0, cells := 0, slots := 0, locals := 0 } (hp T S o) [.ref 465] (hp T (st1 S 0 0 0) o) (some (.int (nI m))) := by
  refine am_of (by decide +kernel) (Nat.le_of_ble_eq_true rfl) ?_
  intro C hse hret hname hF hO
  subst hse
  refine am_go hF sgX6_mails_0_9cf18 2 [(0, .ref 465)] [.int 0, .ref 465] sgX6_mails_0_9cf18d rfl ?_
  refine sv_put hF 0 (by decide) rfl rfl rfl lf_RX6_104 dX6_mails_2 ?_
  refine am_go hF sgX6_mails_5_34db8 6 [(0, .ref 465)] [.ref 465] sgX6_mails_5_34db8d rfl ?_
  refine sv_get hF 17 (by decide) rfl lf_RX6_115 (.int (S 17 0)) rfl dX6_mails_6 ?_
  refine am_top (nI m) hm ?_
  exact am_iret hF hO hret rfl dX6_mails_9 ⟨rfl, rfl⟩
