theorem dL_cell_0 : decode cL_cell 0 = .ok (.iload_n 1, 1) := by decide +kernel
theorem dL_cell_1 : decode cL_cell 1 = .ok (.aload_n 0, 1) := by decide +kernel
theorem dL_cell_2 : decode cL_cell 2 = .ok (.arraylength, 1) := by decide +kernel
theorem dL_cell_3 : decode cL_cell 3 = .ok (.if_icmp .ge 9, 3) := by decide +kernel
theorem dL_cell_6 : decode cL_cell 6 = .ok (.aload_n 0, 1) := by decide +kernel
theorem dL_cell_7 : decode cL_cell 7 = .ok (.iload_n 1, 1) := by decide +kernel
theorem dL_cell_8 : decode cL_cell 8 = .ok (.iaload, 1) := by decide +kernel
theorem dL_cell_9 : decode cL_cell 9 = .ok (.goto 12, 3) := by decide +kernel
theorem dL_cell_12 : decode cL_cell 12 = .ok (.ldc 7, 2) := by decide +kernel
theorem dL_cell_14 : decode cL_cell 14 = .ok (.iload_n 1, 1) := by decide +kernel
theorem dL_cell_15 : decode cL_cell 15 = .ok (.iconst 3, 1) := by decide +kernel
theorem dL_cell_16 : decode cL_cell 16 = .ok (.iadd, 1) := by decide +kernel
theorem dL_cell_17 : decode cL_cell 17 = .ok (.imul, 1) := by decide +kernel
theorem dL_cell_18 : decode cL_cell 18 = .ok (.ldc 8, 2) := by decide +kernel
theorem dL_cell_20 : decode cL_cell 20 = .ok (.iadd, 1) := by decide +kernel
theorem dL_cell_21 : decode cL_cell 21 = .ok (.ireturn, 1) := by decide +kernel
theorem dL_low_0 : decode cL_low 0 = .ok (.iload_n 0, 1) := by decide +kernel
theorem dL_low_1 : decode cL_low 1 = .ok (.ldc 9, 2) := by decide +kernel
theorem dL_low_3 : decode cL_low 3 = .ok (.iand, 1) := by decide +kernel
theorem dL_low_4 : decode cL_low 4 = .ok (.iload_n 1, 1) := by decide +kernel
theorem dL_low_5 : decode cL_low 5 = .ok (.irem, 1) := by decide +kernel
theorem dL_low_6 : decode cL_low 6 = .ok (.ireturn, 1) := by decide +kernel
theorem dL_cut_0 : decode cL_cut 0 = .ok (.aload_n 0, 1) := by decide +kernel
theorem dL_cut_1 : decode cL_cut 1 = .ok (.iload_n 1, 1) := by decide +kernel
theorem dL_cut_2 : decode cL_cut 2 = .ok (.iload_n 2, 1) := by decide +kernel
theorem dL_cut_3 : decode cL_cut 3 = .ok (.invokevirtual 10, 3) := by decide +kernel
theorem dL_cut_6 : decode cL_cut 6 = .ok (.ireturn, 1) := by decide +kernel
theorem dL_cut_7 : decode cL_cut 7 = .ok (.astore_n 3, 1) := by decide +kernel
theorem dL_cut_8 : decode cL_cut 8 = .ok (.bipush (-102), 2) := by decide +kernel
theorem dL_cut_10 : decode cL_cut 10 = .ok (.ireturn, 1) := by decide +kernel
theorem dL_cut_11 : decode cL_cut 11 = .ok (.astore_n 3, 1) := by decide +kernel
theorem dL_cut_12 : decode cL_cut 12 = .ok (.bipush (-103), 2) := by decide +kernel
theorem dL_cut_14 : decode cL_cut 14 = .ok (.ireturn, 1) := by decide +kernel
theorem dL_deepen_0 : decode cL_deepen 0 = .ok (.aload_n 0, 1) := by decide +kernel
theorem dL_deepen_1 : decode cL_deepen 1 = .ok (.iload_n 1, 1) := by decide +kernel
theorem dL_deepen_2 : decode cL_deepen 2 = .ok (.iload_n 2, 1) := by decide +kernel
theorem dL_deepen_3 : decode cL_deepen 3 = .ok (.invokevirtual 20, 3) := by decide +kernel
theorem dL_deepen_6 : decode cL_deepen 6 = .ok (.ireturn, 1) := by decide +kernel
theorem dL_deepen_7 : decode cL_deepen 7 = .ok (.astore_n 3, 1) := by decide +kernel
theorem dL_deepen_8 : decode cL_deepen 8 = .ok (.bipush (-101), 2) := by decide +kernel
theorem dL_deepen_10 : decode cL_deepen 10 = .ok (.ireturn, 1) := by decide +kernel
theorem dL_deepen_11 : decode cL_deepen 11 = .ok (.astore_n 3, 1) := by decide +kernel
theorem dL_deepen_12 : decode cL_deepen 12 = .ok (.bipush (-103), 2) := by decide +kernel
theorem dL_deepen_14 : decode cL_deepen 14 = .ok (.ireturn, 1) := by decide +kernel
theorem dL_retire_0 : decode cL_retire 0 = .ok (.aload_n 0, 1) := by decide +kernel
theorem dL_retire_1 : decode cL_retire 1 = .ok (.iload_n 1, 1) := by decide +kernel
theorem dL_retire_2 : decode cL_retire 2 = .ok (.invokevirtual 25, 3) := by decide +kernel
theorem dL_retire_5 : decode cL_retire 5 = .ok (.ireturn, 1) := by decide +kernel
theorem dL_retire_6 : decode cL_retire 6 = .ok (.astore_n 2, 1) := by decide +kernel
theorem dL_retire_7 : decode cL_retire 7 = .ok (.bipush (-101), 2) := by decide +kernel
theorem dL_retire_9 : decode cL_retire 9 = .ok (.ireturn, 1) := by decide +kernel
theorem dL_give_0 : decode cL_give 0 = .ok (.aload_n 0, 1) := by decide +kernel
theorem dL_give_1 : decode cL_give 1 = .ok (.iload_n 1, 1) := by decide +kernel
theorem dL_give_2 : decode cL_give 2 = .ok (.iload_n 2, 1) := by decide +kernel
theorem dL_give_3 : decode cL_give 3 = .ok (.invokevirtual 29, 3) := by decide +kernel
theorem dL_give_6 : decode cL_give 6 = .ok (.ireturn, 1) := by decide +kernel
theorem dL_give_7 : decode cL_give 7 = .ok (.astore_n 3, 1) := by decide +kernel
theorem dL_give_8 : decode cL_give 8 = .ok (.bipush (-101), 2) := by decide +kernel
theorem dL_give_10 : decode cL_give 10 = .ok (.ireturn, 1) := by decide +kernel
theorem dL_give_11 : decode cL_give 11 = .ok (.astore_n 3, 1) := by decide +kernel
theorem dL_give_12 : decode cL_give 12 = .ok (.bipush (-102), 2) := by decide +kernel
theorem dL_give_14 : decode cL_give 14 = .ok (.ireturn, 1) := by decide +kernel
theorem dL_lose_0 : decode cL_lose 0 = .ok (.aload_n 0, 1) := by decide +kernel
theorem dL_lose_1 : decode cL_lose 1 = .ok (.iload_n 1, 1) := by decide +kernel
theorem dL_lose_2 : decode cL_lose 2 = .ok (.invokevirtual 32, 3) := by decide +kernel
theorem dL_lose_5 : decode cL_lose 5 = .ok (.ireturn, 1) := by decide +kernel
theorem dL_lose_6 : decode cL_lose 6 = .ok (.astore_n 2, 1) := by decide +kernel
theorem dL_lose_7 : decode cL_lose 7 = .ok (.bipush (-101), 2) := by decide +kernel
theorem dL_lose_9 : decode cL_lose 9 = .ok (.ireturn, 1) := by decide +kernel
theorem dL_lose_10 : decode cL_lose 10 = .ok (.astore_n 2, 1) := by decide +kernel
theorem dL_lose_11 : decode cL_lose 11 = .ok (.bipush (-103), 2) := by decide +kernel
theorem dL_lose_13 : decode cL_lose 13 = .ok (.ireturn, 1) := by decide +kernel
theorem dL_find_0 : decode cL_find 0 = .ok (.aload_n 0, 1) := by decide +kernel
theorem dL_find_1 : decode cL_find 1 = .ok (.iload_n 1, 1) := by decide +kernel
theorem dL_find_2 : decode cL_find 2 = .ok (.invokevirtual 35, 3) := by decide +kernel
theorem dL_find_5 : decode cL_find 5 = .ok (.ireturn, 1) := by decide +kernel
theorem dL_find_6 : decode cL_find 6 = .ok (.astore_n 2, 1) := by decide +kernel
theorem dL_find_7 : decode cL_find 7 = .ok (.bipush (-101), 2) := by decide +kernel
theorem dL_find_9 : decode cL_find 9 = .ok (.ireturn, 1) := by decide +kernel
theorem dL_find_10 : decode cL_find 10 = .ok (.astore_n 2, 1) := by decide +kernel
theorem dL_find_11 : decode cL_find 11 = .ok (.bipush (-103), 2) := by decide +kernel
theorem dL_find_13 : decode cL_find 13 = .ok (.ireturn, 1) := by decide +kernel
theorem dL_ward_0 : decode cL_ward 0 = .ok (.aload_n 0, 1) := by decide +kernel
theorem dL_ward_1 : decode cL_ward 1 = .ok (.iload_n 1, 1) := by decide +kernel
theorem dL_ward_2 : decode cL_ward 2 = .ok (.iload_n 2, 1) := by decide +kernel
theorem dL_ward_3 : decode cL_ward 3 = .ok (.invokevirtual 38, 3) := by decide +kernel
theorem dL_ward_6 : decode cL_ward 6 = .ok (.ireturn, 1) := by decide +kernel
theorem dL_ward_7 : decode cL_ward 7 = .ok (.astore_n 3, 1) := by decide +kernel
theorem dL_ward_8 : decode cL_ward 8 = .ok (.bipush (-101), 2) := by decide +kernel
theorem dL_ward_10 : decode cL_ward 10 = .ok (.ireturn, 1) := by decide +kernel
theorem dL_ward_11 : decode cL_ward 11 = .ok (.astore_n 3, 1) := by decide +kernel
theorem dL_ward_12 : decode cL_ward 12 = .ok (.bipush (-102), 2) := by decide +kernel
theorem dL_ward_14 : decode cL_ward 14 = .ok (.ireturn, 1) := by decide +kernel
theorem dL_guest_0 : decode cL_guest 0 = .ok (.aload_n 0, 1) := by decide +kernel
theorem dL_guest_1 : decode cL_guest 1 = .ok (.iload_n 1, 1) := by decide +kernel
theorem dL_guest_2 : decode cL_guest 2 = .ok (.iload_n 2, 1) := by decide +kernel
theorem dL_guest_3 : decode cL_guest 3 = .ok (.invokevirtual 41, 3) := by decide +kernel
theorem dL_guest_6 : decode cL_guest 6 = .ok (.ireturn, 1) := by decide +kernel
theorem dL_guest_7 : decode cL_guest 7 = .ok (.astore_n 3, 1) := by decide +kernel
theorem dL_guest_8 : decode cL_guest 8 = .ok (.bipush (-101), 2) := by decide +kernel
theorem dL_guest_10 : decode cL_guest 10 = .ok (.ireturn, 1) := by decide +kernel
theorem dL_guest_11 : decode cL_guest 11 = .ok (.astore_n 3, 1) := by decide +kernel
theorem dL_guest_12 : decode cL_guest 12 = .ok (.bipush (-102), 2) := by decide +kernel
theorem dL_guest_14 : decode cL_guest 14 = .ok (.ireturn, 1) := by decide +kernel
theorem dL_guest_15 : decode cL_guest 15 = .ok (.astore_n 3, 1) := by decide +kernel
theorem dL_guest_16 : decode cL_guest 16 = .ok (.bipush (-103), 2) := by decide +kernel
theorem dL_guest_18 : decode cL_guest 18 = .ok (.ireturn, 1) := by decide +kernel
theorem dL_take_0 : decode cL_take 0 = .ok (.aload_n 0, 1) := by decide +kernel
theorem dL_take_1 : decode cL_take 1 = .ok (.iload_n 1, 1) := by decide +kernel
theorem dL_take_2 : decode cL_take 2 = .ok (.invokevirtual 44, 3) := by decide +kernel
theorem dL_take_5 : decode cL_take 5 = .ok (.ireturn, 1) := by decide +kernel
theorem dL_take_6 : decode cL_take 6 = .ok (.astore_n 2, 1) := by decide +kernel
theorem dL_take_7 : decode cL_take 7 = .ok (.bipush (-101), 2) := by decide +kernel
theorem dL_take_9 : decode cL_take 9 = .ok (.ireturn, 1) := by decide +kernel
theorem dL_take_10 : decode cL_take 10 = .ok (.astore_n 2, 1) := by decide +kernel
theorem dL_take_11 : decode cL_take 11 = .ok (.bipush (-103), 2) := by decide +kernel
theorem dL_take_13 : decode cL_take 13 = .ok (.ireturn, 1) := by decide +kernel
theorem dL_turn_0 : decode cL_turn 0 = .ok (.aload_n 0, 1) := by decide +kernel
theorem dL_turn_1 : decode cL_turn 1 = .ok (.iload_n 1, 1) := by decide +kernel
theorem dL_turn_2 : decode cL_turn 2 = .ok (.iload_n 2, 1) := by decide +kernel
theorem dL_turn_3 : decode cL_turn 3 = .ok (.invokevirtual 47, 3) := by decide +kernel
theorem dL_turn_6 : decode cL_turn 6 = .ok (.ireturn, 1) := by decide +kernel
theorem dL_turn_7 : decode cL_turn 7 = .ok (.astore_n 3, 1) := by decide +kernel
theorem dL_turn_8 : decode cL_turn 8 = .ok (.bipush (-101), 2) := by decide +kernel
theorem dL_turn_10 : decode cL_turn 10 = .ok (.ireturn, 1) := by decide +kernel
theorem dL_turn_11 : decode cL_turn 11 = .ok (.astore_n 3, 1) := by decide +kernel
theorem dL_turn_12 : decode cL_turn 12 = .ok (.bipush (-103), 2) := by decide +kernel
theorem dL_turn_14 : decode cL_turn 14 = .ok (.ireturn, 1) := by decide +kernel
theorem dL_set_0 : decode cL_set 0 = .ok (.aload_n 0, 1) := by decide +kernel
theorem dL_set_1 : decode cL_set 1 = .ok (.iload_n 1, 1) := by decide +kernel
theorem dL_set_2 : decode cL_set 2 = .ok (.iload_n 2, 1) := by decide +kernel
theorem dL_set_3 : decode cL_set 3 = .ok (.invokevirtual 50, 3) := by decide +kernel
theorem dL_set_6 : decode cL_set 6 = .ok (.ireturn, 1) := by decide +kernel
theorem dL_set_7 : decode cL_set 7 = .ok (.astore_n 3, 1) := by decide +kernel
theorem dL_set_8 : decode cL_set 8 = .ok (.bipush (-101), 2) := by decide +kernel
theorem dL_set_10 : decode cL_set 10 = .ok (.ireturn, 1) := by decide +kernel
theorem dL_set_11 : decode cL_set 11 = .ok (.astore_n 3, 1) := by decide +kernel
theorem dL_set_12 : decode cL_set 12 = .ok (.bipush (-102), 2) := by decide +kernel
theorem dL_set_14 : decode cL_set 14 = .ok (.ireturn, 1) := by decide +kernel
theorem dL_undo_0 : decode cL_undo 0 = .ok (.aload_n 0, 1) := by decide +kernel
theorem dL_undo_1 : decode cL_undo 1 = .ok (.invokevirtual 53, 3) := by decide +kernel
theorem dL_undo_4 : decode cL_undo 4 = .ok (.ireturn, 1) := by decide +kernel
theorem dL_undo_5 : decode cL_undo 5 = .ok (.astore_n 1, 1) := by decide +kernel
theorem dL_undo_6 : decode cL_undo 6 = .ok (.bipush (-103), 2) := by decide +kernel
theorem dL_undo_8 : decode cL_undo 8 = .ok (.ireturn, 1) := by decide +kernel
theorem dL_key_0 : decode cL_key 0 = .ok (.aload_n 0, 1) := by decide +kernel
theorem dL_key_1 : decode cL_key 1 = .ok (.iload_n 1, 1) := by decide +kernel
theorem dL_key_2 : decode cL_key 2 = .ok (.iload_n 2, 1) := by decide +kernel
theorem dL_key_3 : decode cL_key 3 = .ok (.invokevirtual 57, 3) := by decide +kernel
theorem dL_key_6 : decode cL_key 6 = .ok (.ireturn, 1) := by decide +kernel
theorem dL_key_7 : decode cL_key 7 = .ok (.astore_n 3, 1) := by decide +kernel
theorem dL_key_8 : decode cL_key 8 = .ok (.bipush (-101), 2) := by decide +kernel
theorem dL_key_10 : decode cL_key 10 = .ok (.ireturn, 1) := by decide +kernel
theorem dL_key_11 : decode cL_key 11 = .ok (.astore_n 3, 1) := by decide +kernel
theorem dL_key_12 : decode cL_key 12 = .ok (.bipush (-102), 2) := by decide +kernel
theorem dL_key_14 : decode cL_key 14 = .ok (.ireturn, 1) := by decide +kernel
theorem dL_lock_0 : decode cL_lock 0 = .ok (.aload_n 0, 1) := by decide +kernel
theorem dL_lock_1 : decode cL_lock 1 = .ok (.iload_n 1, 1) := by decide +kernel
theorem dL_lock_2 : decode cL_lock 2 = .ok (.iload_n 2, 1) := by decide +kernel
theorem dL_lock_3 : decode cL_lock 3 = .ok (.invokevirtual 60, 3) := by decide +kernel
theorem dL_lock_6 : decode cL_lock 6 = .ok (.ireturn, 1) := by decide +kernel
theorem dL_lock_7 : decode cL_lock 7 = .ok (.astore_n 3, 1) := by decide +kernel
theorem dL_lock_8 : decode cL_lock 8 = .ok (.bipush (-101), 2) := by decide +kernel
theorem dL_lock_10 : decode cL_lock 10 = .ok (.ireturn, 1) := by decide +kernel
theorem dL_lock_11 : decode cL_lock 11 = .ok (.astore_n 3, 1) := by decide +kernel
theorem dL_lock_12 : decode cL_lock 12 = .ok (.bipush (-102), 2) := by decide +kernel
theorem dL_lock_14 : decode cL_lock 14 = .ok (.ireturn, 1) := by decide +kernel
theorem dL_person_0 : decode cL_person 0 = .ok (.aload_n 0, 1) := by decide +kernel
theorem dL_person_1 : decode cL_person 1 = .ok (.iload_n 1, 1) := by decide +kernel
theorem dL_person_2 : decode cL_person 2 = .ok (.iload_n 2, 1) := by decide +kernel
theorem dL_person_3 : decode cL_person 3 = .ok (.invokevirtual 63, 3) := by decide +kernel
theorem dL_person_6 : decode cL_person 6 = .ok (.ireturn, 1) := by decide +kernel
theorem dL_person_7 : decode cL_person 7 = .ok (.astore_n 3, 1) := by decide +kernel
theorem dL_person_8 : decode cL_person 8 = .ok (.bipush (-101), 2) := by decide +kernel
theorem dL_person_10 : decode cL_person 10 = .ok (.ireturn, 1) := by decide +kernel
theorem dL_person_11 : decode cL_person 11 = .ok (.astore_n 3, 1) := by decide +kernel
theorem dL_person_12 : decode cL_person 12 = .ok (.bipush (-102), 2) := by decide +kernel
theorem dL_person_14 : decode cL_person 14 = .ok (.ireturn, 1) := by decide +kernel
theorem dL_code_0 : decode cL_code 0 = .ok (.aload_n 0, 1) := by decide +kernel
theorem dL_code_1 : decode cL_code 1 = .ok (.iload_n 1, 1) := by decide +kernel
theorem dL_code_2 : decode cL_code 2 = .ok (.iload_n 2, 1) := by decide +kernel
theorem dL_code_3 : decode cL_code 3 = .ok (.invokevirtual 66, 3) := by decide +kernel
theorem dL_code_6 : decode cL_code 6 = .ok (.ireturn, 1) := by decide +kernel
theorem dL_code_7 : decode cL_code 7 = .ok (.astore_n 3, 1) := by decide +kernel
theorem dL_code_8 : decode cL_code 8 = .ok (.bipush (-102), 2) := by decide +kernel
theorem dL_code_10 : decode cL_code 10 = .ok (.ireturn, 1) := by decide +kernel
theorem dL_count_0 : decode cL_count 0 = .ok (.aload_n 0, 1) := by decide +kernel
theorem dL_count_1 : decode cL_count 1 = .ok (.iload_n 1, 1) := by decide +kernel
theorem dL_count_2 : decode cL_count 2 = .ok (.invokevirtual 72, 3) := by decide +kernel
theorem dL_count_5 : decode cL_count 5 = .ok (.ireturn, 1) := by decide +kernel
theorem dL_count_6 : decode cL_count 6 = .ok (.astore_n 2, 1) := by decide +kernel
theorem dL_count_7 : decode cL_count 7 = .ok (.bipush (-102), 2) := by decide +kernel
theorem dL_count_9 : decode cL_count 9 = .ok (.ireturn, 1) := by decide +kernel
theorem dL_why_0 : decode cL_why 0 = .ok (.aload_n 0, 1) := by decide +kernel
theorem dL_why_1 : decode cL_why 1 = .ok (.iload_n 1, 1) := by decide +kernel
theorem dL_why_2 : decode cL_why 2 = .ok (.iload_n 2, 1) := by decide +kernel
theorem dL_why_3 : decode cL_why 3 = .ok (.invokevirtual 75, 3) := by decide +kernel
theorem dL_why_6 : decode cL_why 6 = .ok (.ireturn, 1) := by decide +kernel
theorem dL_why_7 : decode cL_why 7 = .ok (.astore_n 3, 1) := by decide +kernel
theorem dL_why_8 : decode cL_why 8 = .ok (.bipush (-101), 2) := by decide +kernel
theorem dL_why_10 : decode cL_why 10 = .ok (.ireturn, 1) := by decide +kernel
theorem dL_most_0 : decode cL_most 0 = .ok (.aload_n 0, 1) := by decide +kernel
theorem dL_most_1 : decode cL_most 1 = .ok (.iload_n 1, 1) := by decide +kernel
theorem dL_most_2 : decode cL_most 2 = .ok (.invokevirtual 78, 3) := by decide +kernel
theorem dL_most_5 : decode cL_most 5 = .ok (.ireturn, 1) := by decide +kernel
theorem dL_most_6 : decode cL_most 6 = .ok (.astore_n 2, 1) := by decide +kernel
theorem dL_most_7 : decode cL_most 7 = .ok (.bipush (-102), 2) := by decide +kernel
theorem dL_most_9 : decode cL_most 9 = .ok (.ireturn, 1) := by decide +kernel
theorem dL_pick_0 : decode cL_pick 0 = .ok (.aload_n 0, 1) := by decide +kernel
theorem dL_pick_1 : decode cL_pick 1 = .ok (.iload_n 1, 1) := by decide +kernel
theorem dL_pick_2 : decode cL_pick 2 = .ok (.invokevirtual 81, 3) := by decide +kernel
theorem dL_pick_5 : decode cL_pick 5 = .ok (.ireturn, 1) := by decide +kernel
theorem dL_pick_6 : decode cL_pick 6 = .ok (.astore_n 2, 1) := by decide +kernel
theorem dL_pick_7 : decode cL_pick 7 = .ok (.bipush (-101), 2) := by decide +kernel
theorem dL_pick_9 : decode cL_pick 9 = .ok (.ireturn, 1) := by decide +kernel
theorem dL_opener_0 : decode cL_opener 0 = .ok (.aload_n 0, 1) := by decide +kernel
theorem dL_opener_1 : decode cL_opener 1 = .ok (.iload_n 1, 1) := by decide +kernel
theorem dL_opener_2 : decode cL_opener 2 = .ok (.invokevirtual 84, 3) := by decide +kernel
theorem dL_opener_5 : decode cL_opener 5 = .ok (.ireturn, 1) := by decide +kernel
theorem dL_opener_6 : decode cL_opener 6 = .ok (.astore_n 2, 1) := by decide +kernel
theorem dL_opener_7 : decode cL_opener 7 = .ok (.bipush (-102), 2) := by decide +kernel
theorem dL_opener_9 : decode cL_opener 9 = .ok (.ireturn, 1) := by decide +kernel
theorem dL_digit_0 : decode cL_digit 0 = .ok (.iload_n 0, 1) := by decide +kernel
theorem dL_digit_1 : decode cL_digit 1 = .ok (.istore_n 2, 1) := by decide +kernel
theorem dL_digit_2 : decode cL_digit 2 = .ok (.iload_n 1, 1) := by decide +kernel
theorem dL_digit_3 : decode cL_digit 3 = .ok (.istore_n 3, 1) := by decide +kernel
theorem dL_digit_4 : decode cL_digit 4 = .ok (.iload_n 3, 1) := by decide +kernel
theorem dL_digit_5 : decode cL_digit 5 = .ok (.iconst 3, 1) := by decide +kernel
theorem dL_digit_6 : decode cL_digit 6 = .ok (.if_icmp .ge 13, 3) := by decide +kernel
theorem dL_digit_9 : decode cL_digit 9 = .ok (.iload_n 2, 1) := by decide +kernel
theorem dL_digit_10 : decode cL_digit 10 = .ok (.iconst 3, 1) := by decide +kernel
theorem dL_digit_11 : decode cL_digit 11 = .ok (.idiv, 1) := by decide +kernel
theorem dL_digit_12 : decode cL_digit 12 = .ok (.istore_n 2, 1) := by decide +kernel
theorem dL_digit_13 : decode cL_digit 13 = .ok (.iinc 3 1, 3) := by decide +kernel
theorem dL_digit_16 : decode cL_digit 16 = .ok (.goto (-12), 3) := by decide +kernel
theorem dL_digit_19 : decode cL_digit 19 = .ok (.iload_n 2, 1) := by decide +kernel
theorem dL_digit_20 : decode cL_digit 20 = .ok (.iconst 3, 1) := by decide +kernel
theorem dL_digit_21 : decode cL_digit 21 = .ok (.irem, 1) := by decide +kernel
theorem dL_digit_22 : decode cL_digit 22 = .ok (.ireturn, 1) := by decide +kernel
theorem dL_step_0 : decode cL_step 0 = .ok (.iload_n 0, 1) := by decide +kernel
theorem dL_step_1 : decode cL_step 1 = .ok (.ifCond .ne 8, 3) := by decide +kernel
theorem dL_step_4 : decode cL_step 4 = .ok (.bipush 27, 2) := by decide +kernel
theorem dL_step_6 : decode cL_step 6 = .ok (.goto 23, 3) := by decide +kernel
theorem dL_step_9 : decode cL_step 9 = .ok (.iload_n 0, 1) := by decide +kernel
theorem dL_step_10 : decode cL_step 10 = .ok (.iconst 1, 1) := by decide +kernel
theorem dL_step_11 : decode cL_step 11 = .ok (.if_icmp .ne 8, 3) := by decide +kernel
theorem dL_step_14 : decode cL_step 14 = .ok (.bipush 9, 2) := by decide +kernel
theorem dL_step_16 : decode cL_step 16 = .ok (.goto 13, 3) := by decide +kernel
theorem dL_step_19 : decode cL_step 19 = .ok (.iload_n 0, 1) := by decide +kernel
theorem dL_step_20 : decode cL_step 20 = .ok (.iconst 2, 1) := by decide +kernel
theorem dL_step_21 : decode cL_step 21 = .ok (.if_icmp .ne 7, 3) := by decide +kernel
theorem dL_step_24 : decode cL_step 24 = .ok (.iconst 3, 1) := by decide +kernel
theorem dL_step_25 : decode cL_step 25 = .ok (.goto 4, 3) := by decide +kernel
theorem dL_step_28 : decode cL_step 28 = .ok (.iconst 1, 1) := by decide +kernel
theorem dL_step_29 : decode cL_step 29 = .ok (.ireturn, 1) := by decide +kernel
theorem dL_levelOf_0 : decode cL_levelOf 0 = .ok (.iload_n 0, 1) := by decide +kernel
theorem dL_levelOf_1 : decode cL_levelOf 1 = .ok (.iconst 0, 1) := by decide +kernel
theorem dL_levelOf_2 : decode cL_levelOf 2 = .ok (.invokestatic 87, 3) := by decide +kernel
theorem dL_levelOf_5 : decode cL_levelOf 5 = .ok (.iload_n 0, 1) := by decide +kernel
theorem dL_levelOf_6 : decode cL_levelOf 6 = .ok (.iconst 1, 1) := by decide +kernel
theorem dL_levelOf_7 : decode cL_levelOf 7 = .ok (.invokestatic 87, 3) := by decide +kernel
theorem dL_levelOf_10 : decode cL_levelOf 10 = .ok (.iadd, 1) := by decide +kernel
theorem dL_levelOf_11 : decode cL_levelOf 11 = .ok (.iload_n 0, 1) := by decide +kernel
theorem dL_levelOf_12 : decode cL_levelOf 12 = .ok (.iconst 2, 1) := by decide +kernel
theorem dL_levelOf_13 : decode cL_levelOf 13 = .ok (.invokestatic 87, 3) := by decide +kernel
theorem dL_levelOf_16 : decode cL_levelOf 16 = .ok (.iadd, 1) := by decide +kernel
theorem dL_levelOf_17 : decode cL_levelOf 17 = .ok (.iload_n 0, 1) := by decide +kernel
theorem dL_levelOf_18 : decode cL_levelOf 18 = .ok (.iconst 3, 1) := by decide +kernel
theorem dL_levelOf_19 : decode cL_levelOf 19 = .ok (.invokestatic 87, 3) := by decide +kernel
theorem dL_levelOf_22 : decode cL_levelOf 22 = .ok (.iadd, 1) := by decide +kernel
theorem dL_levelOf_23 : decode cL_levelOf 23 = .ok (.ireturn, 1) := by decide +kernel
theorem dL_lie_0 : decode cL_lie 0 = .ok (.iconst 0, 1) := by decide +kernel
theorem dL_lie_1 : decode cL_lie 1 = .ok (.istore_n 2, 1) := by decide +kernel
theorem dL_lie_2 : decode cL_lie 2 = .ok (.iconst 0, 1) := by decide +kernel
theorem dL_lie_3 : decode cL_lie 3 = .ok (.istore_n 3, 1) := by decide +kernel
theorem dL_lie_4 : decode cL_lie 4 = .ok (.iconst 0, 1) := by decide +kernel
theorem dL_lie_5 : decode cL_lie 5 = .ok (.istore 4, 2) := by decide +kernel
theorem dL_lie_7 : decode cL_lie 7 = .ok (.iload 4, 2) := by decide +kernel
theorem dL_lie_9 : decode cL_lie 9 = .ok (.iconst 4, 1) := by decide +kernel
theorem dL_lie_10 : decode cL_lie 10 = .ok (.if_icmp .ge 55, 3) := by decide +kernel
theorem dL_lie_13 : decode cL_lie 13 = .ok (.iload_n 2, 1) := by decide +kernel
theorem dL_lie_14 : decode cL_lie 14 = .ok (.iload_n 0, 1) := by decide +kernel
theorem dL_lie_15 : decode cL_lie 15 = .ok (.iload 4, 2) := by decide +kernel
theorem dL_lie_17 : decode cL_lie 17 = .ok (.invokestatic 87, 3) := by decide +kernel
theorem dL_lie_20 : decode cL_lie 20 = .ok (.iload_n 1, 1) := by decide +kernel
theorem dL_lie_21 : decode cL_lie 21 = .ok (.iload 4, 2) := by decide +kernel
theorem dL_lie_23 : decode cL_lie 23 = .ok (.invokestatic 87, 3) := by decide +kernel
theorem dL_lie_26 : decode cL_lie 26 = .ok (.if_icmp .le 7, 3) := by decide +kernel
theorem dL_lie_29 : decode cL_lie 29 = .ok (.iconst 1, 1) := by decide +kernel
theorem dL_lie_30 : decode cL_lie 30 = .ok (.goto 4, 3) := by decide +kernel
theorem dL_lie_33 : decode cL_lie 33 = .ok (.iconst 0, 1) := by decide +kernel
theorem dL_lie_34 : decode cL_lie 34 = .ok (.iadd, 1) := by decide +kernel
theorem dL_lie_35 : decode cL_lie 35 = .ok (.istore_n 2, 1) := by decide +kernel
theorem dL_lie_36 : decode cL_lie 36 = .ok (.iload_n 3, 1) := by decide +kernel
theorem dL_lie_37 : decode cL_lie 37 = .ok (.iload_n 0, 1) := by decide +kernel
theorem dL_lie_38 : decode cL_lie 38 = .ok (.iload 4, 2) := by decide +kernel
theorem dL_lie_40 : decode cL_lie 40 = .ok (.invokestatic 87, 3) := by decide +kernel
theorem dL_lie_43 : decode cL_lie 43 = .ok (.iload_n 1, 1) := by decide +kernel
theorem dL_lie_44 : decode cL_lie 44 = .ok (.iload 4, 2) := by decide +kernel
theorem dL_lie_46 : decode cL_lie 46 = .ok (.invokestatic 87, 3) := by decide +kernel
theorem dL_lie_49 : decode cL_lie 49 = .ok (.if_icmp .ge 7, 3) := by decide +kernel
theorem dL_lie_52 : decode cL_lie 52 = .ok (.iconst 1, 1) := by decide +kernel
theorem dL_lie_53 : decode cL_lie 53 = .ok (.goto 4, 3) := by decide +kernel
theorem dL_lie_56 : decode cL_lie 56 = .ok (.iconst 0, 1) := by decide +kernel
theorem dL_lie_57 : decode cL_lie 57 = .ok (.iadd, 1) := by decide +kernel
theorem dL_lie_58 : decode cL_lie 58 = .ok (.istore_n 3, 1) := by decide +kernel
theorem dL_lie_59 : decode cL_lie 59 = .ok (.iinc 4 1, 3) := by decide +kernel
theorem dL_lie_62 : decode cL_lie 62 = .ok (.goto (-55), 3) := by decide +kernel
theorem dL_lie_65 : decode cL_lie 65 = .ok (.iload_n 2, 1) := by decide +kernel
theorem dL_lie_66 : decode cL_lie 66 = .ok (.iload_n 3, 1) := by decide +kernel
theorem dL_lie_67 : decode cL_lie 67 = .ok (.iadd, 1) := by decide +kernel
theorem dL_lie_68 : decode cL_lie 68 = .ok (.ifCond .ne 7, 3) := by decide +kernel
theorem dL_lie_71 : decode cL_lie 71 = .ok (.iconst 3, 1) := by decide +kernel
theorem dL_lie_72 : decode cL_lie 72 = .ok (.goto 20, 3) := by decide +kernel
theorem dL_lie_75 : decode cL_lie 75 = .ok (.iload_n 2, 1) := by decide +kernel
theorem dL_lie_76 : decode cL_lie 76 = .ok (.ifCond .ne 7, 3) := by decide +kernel
theorem dL_lie_79 : decode cL_lie 79 = .ok (.iconst 4, 1) := by decide +kernel
theorem dL_lie_80 : decode cL_lie 80 = .ok (.goto 12, 3) := by decide +kernel
theorem dL_lie_83 : decode cL_lie 83 = .ok (.iload_n 3, 1) := by decide +kernel
theorem dL_lie_84 : decode cL_lie 84 = .ok (.ifCond .ne 7, 3) := by decide +kernel
theorem dL_lie_87 : decode cL_lie 87 = .ok (.iconst 5, 1) := by decide +kernel
theorem dL_lie_88 : decode cL_lie 88 = .ok (.goto 4, 3) := by decide +kernel
theorem dL_lie_91 : decode cL_lie 91 = .ok (.iconst 0, 1) := by decide +kernel
theorem dL_lie_92 : decode cL_lie 92 = .ok (.ireturn, 1) := by decide +kernel
theorem dL_isSound_0 : decode cL_isSound 0 = .ok (.iconst 0, 1) := by decide +kernel
theorem dL_isSound_1 : decode cL_isSound 1 = .ok (.istore_n 2, 1) := by decide +kernel
theorem dL_isSound_2 : decode cL_isSound 2 = .ok (.iconst 0, 1) := by decide +kernel
theorem dL_isSound_3 : decode cL_isSound 3 = .ok (.istore_n 3, 1) := by decide +kernel
theorem dL_isSound_4 : decode cL_isSound 4 = .ok (.iload_n 3, 1) := by decide +kernel
theorem dL_isSound_5 : decode cL_isSound 5 = .ok (.iconst 3, 1) := by decide +kernel
theorem dL_isSound_6 : decode cL_isSound 6 = .ok (.if_icmp .ge 50, 3) := by decide +kernel
theorem dL_isSound_9 : decode cL_isSound 9 = .ok (.iload_n 0, 1) := by decide +kernel
theorem dL_isSound_10 : decode cL_isSound 10 = .ok (.iload_n 3, 1) := by decide +kernel
theorem dL_isSound_11 : decode cL_isSound 11 = .ok (.invokestatic 87, 3) := by decide +kernel
theorem dL_isSound_14 : decode cL_isSound 14 = .ok (.iload_n 0, 1) := by decide +kernel
theorem dL_isSound_15 : decode cL_isSound 15 = .ok (.iload_n 3, 1) := by decide +kernel
theorem dL_isSound_16 : decode cL_isSound 16 = .ok (.iconst 1, 1) := by decide +kernel
theorem dL_isSound_17 : decode cL_isSound 17 = .ok (.iadd, 1) := by decide +kernel
theorem dL_isSound_18 : decode cL_isSound 18 = .ok (.invokestatic 87, 3) := by decide +kernel
theorem dL_isSound_21 : decode cL_isSound 21 = .ok (.isub, 1) := by decide +kernel
theorem dL_isSound_22 : decode cL_isSound 22 = .ok (.istore 4, 2) := by decide +kernel
theorem dL_isSound_24 : decode cL_isSound 24 = .ok (.iload 4, 2) := by decide +kernel
theorem dL_isSound_26 : decode cL_isSound 26 = .ok (.iload_n 2, 1) := by decide +kernel
theorem dL_isSound_27 : decode cL_isSound 27 = .ok (.if_icmp .le 8, 3) := by decide +kernel
theorem dL_isSound_30 : decode cL_isSound 30 = .ok (.iload 4, 2) := by decide +kernel
theorem dL_isSound_32 : decode cL_isSound 32 = .ok (.goto 17, 3) := by decide +kernel
theorem dL_isSound_35 : decode cL_isSound 35 = .ok (.iload 4, 2) := by decide +kernel
theorem dL_isSound_37 : decode cL_isSound 37 = .ok (.ineg, 1) := by decide +kernel
theorem dL_isSound_38 : decode cL_isSound 38 = .ok (.iload_n 2, 1) := by decide +kernel
theorem dL_isSound_39 : decode cL_isSound 39 = .ok (.if_icmp .le 9, 3) := by decide +kernel
theorem dL_isSound_42 : decode cL_isSound 42 = .ok (.iload 4, 2) := by decide +kernel
theorem dL_isSound_44 : decode cL_isSound 44 = .ok (.ineg, 1) := by decide +kernel
theorem dL_isSound_45 : decode cL_isSound 45 = .ok (.goto 4, 3) := by decide +kernel
theorem dL_isSound_48 : decode cL_isSound 48 = .ok (.iload_n 2, 1) := by decide +kernel
theorem dL_isSound_49 : decode cL_isSound 49 = .ok (.istore_n 2, 1) := by decide +kernel
theorem dL_isSound_50 : decode cL_isSound 50 = .ok (.iinc 3 1, 3) := by decide +kernel
theorem dL_isSound_53 : decode cL_isSound 53 = .ok (.goto (-49), 3) := by decide +kernel
theorem dL_isSound_56 : decode cL_isSound 56 = .ok (.iload_n 2, 1) := by decide +kernel
theorem dL_isSound_57 : decode cL_isSound 57 = .ok (.aload_n 1, 1) := by decide +kernel
theorem dL_isSound_58 : decode cL_isSound 58 = .ok (.bipush 6, 2) := by decide +kernel
theorem dL_isSound_60 : decode cL_isSound 60 = .ok (.iaload, 1) := by decide +kernel
theorem dL_isSound_61 : decode cL_isSound 61 = .ok (.if_icmp .gt 7, 3) := by decide +kernel
theorem dL_isSound_64 : decode cL_isSound 64 = .ok (.iconst 1, 1) := by decide +kernel
theorem dL_isSound_65 : decode cL_isSound 65 = .ok (.goto 4, 3) := by decide +kernel
theorem dL_isSound_68 : decode cL_isSound 68 = .ok (.iconst 0, 1) := by decide +kernel
theorem dL_isSound_69 : decode cL_isSound 69 = .ok (.ireturn, 1) := by decide +kernel
theorem dL_clash_0 : decode cL_clash 0 = .ok (.bipush 9, 2) := by decide +kernel
theorem dL_clash_2 : decode cL_clash 2 = .ok (.istore 4, 2) := by decide +kernel
theorem dL_clash_4 : decode cL_clash 4 = .ok (.iconst 0, 1) := by decide +kernel
theorem dL_clash_5 : decode cL_clash 5 = .ok (.istore 5, 2) := by decide +kernel
theorem dL_clash_7 : decode cL_clash 7 = .ok (.iload 5, 2) := by decide +kernel
theorem dL_clash_9 : decode cL_clash 9 = .ok (.aload_n 2, 1) := by decide +kernel
theorem dL_clash_10 : decode cL_clash 10 = .ok (.iconst 0, 1) := by decide +kernel
theorem dL_clash_11 : decode cL_clash 11 = .ok (.iaload, 1) := by decide +kernel
theorem dL_clash_12 : decode cL_clash 12 = .ok (.if_icmp .ge 73, 3) := by decide +kernel
theorem dL_clash_15 : decode cL_clash 15 = .ok (.iload 5, 2) := by decide +kernel
theorem dL_clash_17 : decode cL_clash 17 = .ok (.iload_n 1, 1) := by decide +kernel
theorem dL_clash_18 : decode cL_clash 18 = .ok (.if_icmp .eq 23, 3) := by decide +kernel
theorem dL_clash_21 : decode cL_clash 21 = .ok (.aload_n 3, 1) := by decide +kernel
theorem dL_clash_22 : decode cL_clash 22 = .ok (.bipush 6, 2) := by decide +kernel
theorem dL_clash_24 : decode cL_clash 24 = .ok (.iload 5, 2) := by decide +kernel
theorem dL_clash_26 : decode cL_clash 26 = .ok (.imul, 1) := by decide +kernel
theorem dL_clash_27 : decode cL_clash 27 = .ok (.iconst 2, 1) := by decide +kernel
theorem dL_clash_28 : decode cL_clash 28 = .ok (.iadd, 1) := by decide +kernel
theorem dL_clash_29 : decode cL_clash 29 = .ok (.iaload, 1) := by decide +kernel
theorem dL_clash_30 : decode cL_clash 30 = .ok (.iconst 1, 1) := by decide +kernel
theorem dL_clash_31 : decode cL_clash 31 = .ok (.if_icmp .ne 14, 3) := by decide +kernel
theorem dL_clash_34 : decode cL_clash 34 = .ok (.aload_n 2, 1) := by decide +kernel
theorem dL_clash_35 : decode cL_clash 35 = .ok (.bipush 9, 2) := by decide +kernel
theorem dL_clash_37 : decode cL_clash 37 = .ok (.iaload, 1) := by decide +kernel
theorem dL_clash_38 : decode cL_clash 38 = .ok (.ifCond .ne 7, 3) := by decide +kernel
theorem dL_clash_41 : decode cL_clash 41 = .ok (.iconst 0, 1) := by decide +kernel
theorem dL_clash_42 : decode cL_clash 42 = .ok (.goto 14, 3) := by decide +kernel
theorem dL_clash_45 : decode cL_clash 45 = .ok (.iload_n 0, 1) := by decide +kernel
theorem dL_clash_46 : decode cL_clash 46 = .ok (.aload_n 3, 1) := by decide +kernel
theorem dL_clash_47 : decode cL_clash 47 = .ok (.bipush 6, 2) := by decide +kernel
theorem dL_clash_49 : decode cL_clash 49 = .ok (.iload 5, 2) := by decide +kernel
theorem dL_clash_51 : decode cL_clash 51 = .ok (.imul, 1) := by decide +kernel
theorem dL_clash_52 : decode cL_clash 52 = .ok (.iaload, 1) := by decide +kernel
theorem dL_clash_53 : decode cL_clash 53 = .ok (.invokestatic 92, 3) := by decide +kernel
theorem dL_clash_56 : decode cL_clash 56 = .ok (.istore 6, 2) := by decide +kernel
theorem dL_clash_58 : decode cL_clash 58 = .ok (.iload 6, 2) := by decide +kernel
theorem dL_clash_60 : decode cL_clash 60 = .ok (.ifCond .le 15, 3) := by decide +kernel
theorem dL_clash_63 : decode cL_clash 63 = .ok (.iload 6, 2) := by decide +kernel
theorem dL_clash_65 : decode cL_clash 65 = .ok (.iload 4, 2) := by decide +kernel
theorem dL_clash_67 : decode cL_clash 67 = .ok (.if_icmp .ge 8, 3) := by decide +kernel
theorem dL_clash_70 : decode cL_clash 70 = .ok (.iload 6, 2) := by decide +kernel
theorem dL_clash_72 : decode cL_clash 72 = .ok (.goto 5, 3) := by decide +kernel
theorem dL_clash_75 : decode cL_clash 75 = .ok (.iload 4, 2) := by decide +kernel
theorem dL_clash_77 : decode cL_clash 77 = .ok (.istore 4, 2) := by decide +kernel
theorem dL_clash_79 : decode cL_clash 79 = .ok (.iinc 5 1, 3) := by decide +kernel
theorem dL_clash_82 : decode cL_clash 82 = .ok (.goto (-75), 3) := by decide +kernel
theorem dL_clash_85 : decode cL_clash 85 = .ok (.iload 4, 2) := by decide +kernel
theorem dL_clash_87 : decode cL_clash 87 = .ok (.bipush 9, 2) := by decide +kernel
theorem dL_clash_89 : decode cL_clash 89 = .ok (.if_icmp .ne 7, 3) := by decide +kernel
theorem dL_clash_92 : decode cL_clash 92 = .ok (.iconst 0, 1) := by decide +kernel
theorem dL_clash_93 : decode cL_clash 93 = .ok (.goto 5, 3) := by decide +kernel
theorem dL_clash_96 : decode cL_clash 96 = .ok (.iload 4, 2) := by decide +kernel
theorem dL_clash_98 : decode cL_clash 98 = .ok (.ireturn, 1) := by decide +kernel
theorem dL_whyNotCut_0 : decode cL_whyNotCut 0 = .ok (.iload_n 0, 1) := by decide +kernel
theorem dL_whyNotCut_1 : decode cL_whyNotCut 1 = .ok (.aload_n 1, 1) := by decide +kernel
theorem dL_whyNotCut_2 : decode cL_whyNotCut 2 = .ok (.invokestatic 95, 3) := by decide +kernel
theorem dL_whyNotCut_5 : decode cL_whyNotCut 5 = .ok (.ifCond .ne 7, 3) := by decide +kernel
theorem dL_whyNotCut_8 : decode cL_whyNotCut 8 = .ok (.iconst 1, 1) := by decide +kernel
theorem dL_whyNotCut_9 : decode cL_whyNotCut 9 = .ok (.goto 22, 3) := by decide +kernel
theorem dL_whyNotCut_12 : decode cL_whyNotCut 12 = .ok (.aload_n 1, 1) := by decide +kernel
theorem dL_whyNotCut_13 : decode cL_whyNotCut 13 = .ok (.iconst 0, 1) := by decide +kernel
theorem dL_whyNotCut_14 : decode cL_whyNotCut 14 = .ok (.iaload, 1) := by decide +kernel
theorem dL_whyNotCut_15 : decode cL_whyNotCut 15 = .ok (.bipush 12, 2) := by decide +kernel
theorem dL_whyNotCut_17 : decode cL_whyNotCut 17 = .ok (.if_icmp .ne 7, 3) := by decide +kernel
theorem dL_whyNotCut_20 : decode cL_whyNotCut 20 = .ok (.iconst 2, 1) := by decide +kernel
theorem dL_whyNotCut_21 : decode cL_whyNotCut 21 = .ok (.goto 10, 3) := by decide +kernel
theorem dL_whyNotCut_24 : decode cL_whyNotCut 24 = .ok (.iload_n 0, 1) := by decide +kernel
theorem dL_whyNotCut_25 : decode cL_whyNotCut 25 = .ok (.iconst (-1), 1) := by decide +kernel
theorem dL_whyNotCut_26 : decode cL_whyNotCut 26 = .ok (.aload_n 1, 1) := by decide +kernel
theorem dL_whyNotCut_27 : decode cL_whyNotCut 27 = .ok (.aload_n 2, 1) := by decide +kernel
theorem dL_whyNotCut_28 : decode cL_whyNotCut 28 = .ok (.invokestatic 99, 3) := by decide +kernel
theorem dL_whyNotCut_31 : decode cL_whyNotCut 31 = .ok (.ireturn, 1) := by decide +kernel
theorem dL_whyNotDeeper_0 : decode cL_whyNotDeeper 0 = .ok (.aload_n 3, 1) := by decide +kernel
theorem dL_whyNotDeeper_1 : decode cL_whyNotDeeper 1 = .ok (.bipush 6, 2) := by decide +kernel
theorem dL_whyNotDeeper_3 : decode cL_whyNotDeeper 3 = .ok (.iload_n 0, 1) := by decide +kernel
theorem dL_whyNotDeeper_4 : decode cL_whyNotDeeper 4 = .ok (.imul, 1) := by decide +kernel
theorem dL_whyNotDeeper_5 : decode cL_whyNotDeeper 5 = .ok (.iaload, 1) := by decide +kernel
theorem dL_whyNotDeeper_6 : decode cL_whyNotDeeper 6 = .ok (.istore 4, 2) := by decide +kernel
theorem dL_whyNotDeeper_8 : decode cL_whyNotDeeper 8 = .ok (.iload 4, 2) := by decide +kernel
theorem dL_whyNotDeeper_10 : decode cL_whyNotDeeper 10 = .ok (.iload_n 1, 1) := by decide +kernel
theorem dL_whyNotDeeper_11 : decode cL_whyNotDeeper 11 = .ok (.invokestatic 87, 3) := by decide +kernel
theorem dL_whyNotDeeper_14 : decode cL_whyNotDeeper 14 = .ok (.iconst 2, 1) := by decide +kernel
theorem dL_whyNotDeeper_15 : decode cL_whyNotDeeper 15 = .ok (.if_icmp .ne 8, 3) := by decide +kernel
theorem dL_whyNotDeeper_18 : decode cL_whyNotDeeper 18 = .ok (.bipush 6, 2) := by decide +kernel
theorem dL_whyNotDeeper_20 : decode cL_whyNotDeeper 20 = .ok (.goto 34, 3) := by decide +kernel
theorem dL_whyNotDeeper_23 : decode cL_whyNotDeeper 23 = .ok (.iload 4, 2) := by decide +kernel
theorem dL_whyNotDeeper_25 : decode cL_whyNotDeeper 25 = .ok (.iload_n 1, 1) := by decide +kernel
theorem dL_whyNotDeeper_26 : decode cL_whyNotDeeper 26 = .ok (.invokestatic 103, 3) := by decide +kernel
theorem dL_whyNotDeeper_29 : decode cL_whyNotDeeper 29 = .ok (.iadd, 1) := by decide +kernel
theorem dL_whyNotDeeper_30 : decode cL_whyNotDeeper 30 = .ok (.aload_n 2, 1) := by decide +kernel
theorem dL_whyNotDeeper_31 : decode cL_whyNotDeeper 31 = .ok (.invokestatic 95, 3) := by decide +kernel
theorem dL_whyNotDeeper_34 : decode cL_whyNotDeeper 34 = .ok (.ifCond .ne 7, 3) := by decide +kernel
theorem dL_whyNotDeeper_37 : decode cL_whyNotDeeper 37 = .ok (.iconst 1, 1) := by decide +kernel
theorem dL_whyNotDeeper_38 : decode cL_whyNotDeeper 38 = .ok (.goto 16, 3) := by decide +kernel
theorem dL_whyNotDeeper_41 : decode cL_whyNotDeeper 41 = .ok (.iload 4, 2) := by decide +kernel
theorem dL_whyNotDeeper_43 : decode cL_whyNotDeeper 43 = .ok (.iload_n 1, 1) := by decide +kernel
theorem dL_whyNotDeeper_44 : decode cL_whyNotDeeper 44 = .ok (.invokestatic 103, 3) := by decide +kernel
theorem dL_whyNotDeeper_47 : decode cL_whyNotDeeper 47 = .ok (.iadd, 1) := by decide +kernel
theorem dL_whyNotDeeper_48 : decode cL_whyNotDeeper 48 = .ok (.iload_n 0, 1) := by decide +kernel
theorem dL_whyNotDeeper_49 : decode cL_whyNotDeeper 49 = .ok (.aload_n 2, 1) := by decide +kernel
theorem dL_whyNotDeeper_50 : decode cL_whyNotDeeper 50 = .ok (.aload_n 3, 1) := by decide +kernel
theorem dL_whyNotDeeper_51 : decode cL_whyNotDeeper 51 = .ok (.invokestatic 99, 3) := by decide +kernel
theorem dL_whyNotDeeper_54 : decode cL_whyNotDeeper 54 = .ok (.ireturn, 1) := by decide +kernel
theorem dL_opens_0 : decode cL_opens 0 = .ok (.aload_n 2, 1) := by decide +kernel
theorem dL_opens_1 : decode cL_opens 1 = .ok (.iconst 4, 1) := by decide +kernel
theorem dL_opens_2 : decode cL_opens 2 = .ok (.iload_n 1, 1) := by decide +kernel
theorem dL_opens_3 : decode cL_opens 3 = .ok (.imul, 1) := by decide +kernel
theorem dL_opens_4 : decode cL_opens 4 = .ok (.iaload, 1) := by decide +kernel
theorem dL_opens_5 : decode cL_opens 5 = .ok (.ifCond .ge 7, 3) := by decide +kernel
theorem dL_opens_8 : decode cL_opens 8 = .ok (.iconst 0, 1) := by decide +kernel
theorem dL_opens_9 : decode cL_opens 9 = .ok (.goto 12, 3) := by decide +kernel
theorem dL_opens_12 : decode cL_opens 12 = .ok (.iload_n 0, 1) := by decide +kernel
theorem dL_opens_13 : decode cL_opens 13 = .ok (.aload_n 2, 1) := by decide +kernel
theorem dL_opens_14 : decode cL_opens 14 = .ok (.iconst 4, 1) := by decide +kernel
theorem dL_opens_15 : decode cL_opens 15 = .ok (.iload_n 1, 1) := by decide +kernel
theorem dL_opens_16 : decode cL_opens 16 = .ok (.imul, 1) := by decide +kernel
theorem dL_opens_17 : decode cL_opens 17 = .ok (.iaload, 1) := by decide +kernel
theorem dL_opens_18 : decode cL_opens 18 = .ok (.invokestatic 92, 3) := by decide +kernel
theorem dL_opens_21 : decode cL_opens 21 = .ok (.istore_n 3, 1) := by decide +kernel
theorem dL_opens_22 : decode cL_opens 22 = .ok (.aload_n 2, 1) := by decide +kernel
theorem dL_opens_23 : decode cL_opens 23 = .ok (.iconst 4, 1) := by decide +kernel
theorem dL_opens_24 : decode cL_opens 24 = .ok (.iload_n 1, 1) := by decide +kernel
theorem dL_opens_25 : decode cL_opens 25 = .ok (.imul, 1) := by decide +kernel
theorem dL_opens_26 : decode cL_opens 26 = .ok (.iconst 1, 1) := by decide +kernel
theorem dL_opens_27 : decode cL_opens 27 = .ok (.iadd, 1) := by decide +kernel
theorem dL_opens_28 : decode cL_opens 28 = .ok (.iaload, 1) := by decide +kernel
theorem dL_opens_29 : decode cL_opens 29 = .ok (.ifCond .ge 7, 3) := by decide +kernel
theorem dL_opens_32 : decode cL_opens 32 = .ok (.iconst 0, 1) := by decide +kernel
theorem dL_opens_33 : decode cL_opens 33 = .ok (.goto 14, 3) := by decide +kernel
theorem dL_opens_36 : decode cL_opens 36 = .ok (.iload_n 0, 1) := by decide +kernel
theorem dL_opens_37 : decode cL_opens 37 = .ok (.aload_n 2, 1) := by decide +kernel
theorem dL_opens_38 : decode cL_opens 38 = .ok (.iconst 4, 1) := by decide +kernel
theorem dL_opens_39 : decode cL_opens 39 = .ok (.iload_n 1, 1) := by decide +kernel
theorem dL_opens_40 : decode cL_opens 40 = .ok (.imul, 1) := by decide +kernel
theorem dL_opens_41 : decode cL_opens 41 = .ok (.iconst 1, 1) := by decide +kernel
theorem dL_opens_42 : decode cL_opens 42 = .ok (.iadd, 1) := by decide +kernel
theorem dL_opens_43 : decode cL_opens 43 = .ok (.iaload, 1) := by decide +kernel
theorem dL_opens_44 : decode cL_opens 44 = .ok (.invokestatic 92, 3) := by decide +kernel
theorem dL_opens_47 : decode cL_opens 47 = .ok (.istore 4, 2) := by decide +kernel
theorem dL_opens_49 : decode cL_opens 49 = .ok (.iload_n 3, 1) := by decide +kernel
theorem dL_opens_50 : decode cL_opens 50 = .ok (.iconst 3, 1) := by decide +kernel
theorem dL_opens_51 : decode cL_opens 51 = .ok (.if_icmp .eq 20, 3) := by decide +kernel
theorem dL_opens_54 : decode cL_opens 54 = .ok (.iload_n 3, 1) := by decide +kernel
theorem dL_opens_55 : decode cL_opens 55 = .ok (.iconst 5, 1) := by decide +kernel
theorem dL_opens_56 : decode cL_opens 56 = .ok (.if_icmp .eq 15, 3) := by decide +kernel
theorem dL_opens_59 : decode cL_opens 59 = .ok (.iload 4, 2) := by decide +kernel
theorem dL_opens_61 : decode cL_opens 61 = .ok (.iconst 3, 1) := by decide +kernel
theorem dL_opens_62 : decode cL_opens 62 = .ok (.if_icmp .eq 9, 3) := by decide +kernel
theorem dL_opens_65 : decode cL_opens 65 = .ok (.iload 4, 2) := by decide +kernel
theorem dL_opens_67 : decode cL_opens 67 = .ok (.iconst 5, 1) := by decide +kernel
theorem dL_opens_68 : decode cL_opens 68 = .ok (.if_icmp .ne 7, 3) := by decide +kernel
theorem dL_opens_71 : decode cL_opens 71 = .ok (.iconst 1, 1) := by decide +kernel
theorem dL_opens_72 : decode cL_opens 72 = .ok (.goto 4, 3) := by decide +kernel
theorem dL_opens_75 : decode cL_opens 75 = .ok (.iconst 0, 1) := by decide +kernel
theorem dL_opens_76 : decode cL_opens 76 = .ok (.ireturn, 1) := by decide +kernel
theorem dL_locksOf_0 : decode cL_locksOf 0 = .ok (.iconst 0, 1) := by decide +kernel
theorem dL_locksOf_1 : decode cL_locksOf 1 = .ok (.istore_n 2, 1) := by decide +kernel
theorem dL_locksOf_2 : decode cL_locksOf 2 = .ok (.iconst 0, 1) := by decide +kernel
theorem dL_locksOf_3 : decode cL_locksOf 3 = .ok (.istore_n 3, 1) := by decide +kernel
theorem dL_locksOf_4 : decode cL_locksOf 4 = .ok (.iload_n 3, 1) := by decide +kernel
theorem dL_locksOf_5 : decode cL_locksOf 5 = .ok (.bipush 6, 2) := by decide +kernel
theorem dL_locksOf_7 : decode cL_locksOf 7 = .ok (.if_icmp .ge 28, 3) := by decide +kernel
theorem dL_locksOf_10 : decode cL_locksOf 10 = .ok (.iload_n 2, 1) := by decide +kernel
theorem dL_locksOf_11 : decode cL_locksOf 11 = .ok (.iload_n 0, 1) := by decide +kernel
theorem dL_locksOf_12 : decode cL_locksOf 12 = .ok (.iload_n 3, 1) := by decide +kernel
theorem dL_locksOf_13 : decode cL_locksOf 13 = .ok (.aload_n 1, 1) := by decide +kernel
theorem dL_locksOf_14 : decode cL_locksOf 14 = .ok (.invokestatic 106, 3) := by decide +kernel
theorem dL_locksOf_17 : decode cL_locksOf 17 = .ok (.ifCond .eq 9, 3) := by decide +kernel
theorem dL_locksOf_20 : decode cL_locksOf 20 = .ok (.iconst 1, 1) := by decide +kernel
theorem dL_locksOf_21 : decode cL_locksOf 21 = .ok (.iload_n 3, 1) := by decide +kernel
theorem dL_locksOf_22 : decode cL_locksOf 22 = .ok (.ishl, 1) := by decide +kernel
theorem dL_locksOf_23 : decode cL_locksOf 23 = .ok (.goto 4, 3) := by decide +kernel
theorem dL_locksOf_26 : decode cL_locksOf 26 = .ok (.iconst 0, 1) := by decide +kernel
theorem dL_locksOf_27 : decode cL_locksOf 27 = .ok (.ior, 1) := by decide +kernel
theorem dL_locksOf_28 : decode cL_locksOf 28 = .ok (.istore_n 2, 1) := by decide +kernel
theorem dL_locksOf_29 : decode cL_locksOf 29 = .ok (.iinc 3 1, 3) := by decide +kernel
theorem dL_locksOf_32 : decode cL_locksOf 32 = .ok (.goto (-28), 3) := by decide +kernel
theorem dL_locksOf_35 : decode cL_locksOf 35 = .ok (.iload_n 2, 1) := by decide +kernel
theorem dL_locksOf_36 : decode cL_locksOf 36 = .ok (.ireturn, 1) := by decide +kernel
theorem dL_ones_0 : decode cL_ones 0 = .ok (.iconst 0, 1) := by decide +kernel
theorem dL_ones_1 : decode cL_ones 1 = .ok (.istore_n 1, 1) := by decide +kernel
theorem dL_ones_2 : decode cL_ones 2 = .ok (.iload_n 0, 1) := by decide +kernel
theorem dL_ones_3 : decode cL_ones 3 = .ok (.istore_n 2, 1) := by decide +kernel
theorem dL_ones_4 : decode cL_ones 4 = .ok (.iload_n 2, 1) := by decide +kernel
theorem dL_ones_5 : decode cL_ones 5 = .ok (.ifCond .eq 15, 3) := by decide +kernel
theorem dL_ones_8 : decode cL_ones 8 = .ok (.iinc 1 1, 3) := by decide +kernel
theorem dL_ones_11 : decode cL_ones 11 = .ok (.iload_n 2, 1) := by decide +kernel
theorem dL_ones_12 : decode cL_ones 12 = .ok (.iload_n 2, 1) := by decide +kernel
theorem dL_ones_13 : decode cL_ones 13 = .ok (.iconst 1, 1) := by decide +kernel
theorem dL_ones_14 : decode cL_ones 14 = .ok (.isub, 1) := by decide +kernel
theorem dL_ones_15 : decode cL_ones 15 = .ok (.iand, 1) := by decide +kernel
theorem dL_ones_16 : decode cL_ones 16 = .ok (.istore_n 2, 1) := by decide +kernel
theorem dL_ones_17 : decode cL_ones 17 = .ok (.goto (-13), 3) := by decide +kernel
theorem dL_ones_20 : decode cL_ones 20 = .ok (.iload_n 1, 1) := by decide +kernel
theorem dL_ones_21 : decode cL_ones 21 = .ok (.ireturn, 1) := by decide +kernel
theorem dL_told_0 : decode cL_told 0 = .ok (.ldc2_w 110, 3) := by decide +kernel
theorem dL_told_3 : decode cL_told 3 = .ok (.lstore_n 1, 1) := by decide +kernel
theorem dL_told_4 : decode cL_told 4 = .ok (.iconst 0, 1) := by decide +kernel
theorem dL_told_5 : decode cL_told 5 = .ok (.istore_n 3, 1) := by decide +kernel
theorem dL_told_6 : decode cL_told 6 = .ok (.iload_n 3, 1) := by decide +kernel
theorem dL_told_7 : decode cL_told 7 = .ok (.bipush 9, 2) := by decide +kernel
theorem dL_told_9 : decode cL_told 9 = .ok (.if_icmp .ge 22, 3) := by decide +kernel
theorem dL_told_12 : decode cL_told 12 = .ok (.ldc2_w 112, 3) := by decide +kernel
theorem dL_told_15 : decode cL_told 15 = .ok (.lload_n 1, 1) := by decide +kernel
theorem dL_told_16 : decode cL_told 16 = .ok (.lmul, 1) := by decide +kernel
theorem dL_told_17 : decode cL_told 17 = .ok (.aload_n 0, 1) := by decide +kernel
theorem dL_told_18 : decode cL_told 18 = .ok (.iload_n 3, 1) := by decide +kernel
theorem dL_told_19 : decode cL_told 19 = .ok (.invokestatic 114, 3) := by decide +kernel
theorem dL_told_22 : decode cL_told 22 = .ok (.i2l, 1) := by decide +kernel
theorem dL_told_23 : decode cL_told 23 = .ok (.ladd, 1) := by decide +kernel
theorem dL_told_24 : decode cL_told 24 = .ok (.lstore_n 1, 1) := by decide +kernel
theorem dL_told_25 : decode cL_told 25 = .ok (.iinc 3 1, 3) := by decide +kernel
theorem dL_told_28 : decode cL_told 28 = .ok (.goto (-22), 3) := by decide +kernel
theorem dL_told_31 : decode cL_told 31 = .ok (.iconst 0, 1) := by decide +kernel
theorem dL_told_32 : decode cL_told 32 = .ok (.istore_n 3, 1) := by decide +kernel
theorem dL_told_33 : decode cL_told 33 = .ok (.iload_n 3, 1) := by decide +kernel
theorem dL_told_34 : decode cL_told 34 = .ok (.bipush 12, 2) := by decide +kernel
theorem dL_told_36 : decode cL_told 36 = .ok (.if_icmp .ge 88, 3) := by decide +kernel
theorem dL_told_39 : decode cL_told 39 = .ok (.ldc2_w 112, 3) := by decide +kernel
theorem dL_told_42 : decode cL_told 42 = .ok (.lload_n 1, 1) := by decide +kernel
theorem dL_told_43 : decode cL_told 43 = .ok (.lmul, 1) := by decide +kernel
theorem dL_told_44 : decode cL_told 44 = .ok (.aload_n 0, 1) := by decide +kernel
theorem dL_told_45 : decode cL_told 45 = .ok (.iload_n 3, 1) := by decide +kernel
theorem dL_told_46 : decode cL_told 46 = .ok (.iconst 0, 1) := by decide +kernel
theorem dL_told_47 : decode cL_told 47 = .ok (.invokestatic 117, 3) := by decide +kernel
theorem dL_told_50 : decode cL_told 50 = .ok (.i2l, 1) := by decide +kernel
theorem dL_told_51 : decode cL_told 51 = .ok (.ladd, 1) := by decide +kernel
theorem dL_told_52 : decode cL_told 52 = .ok (.lstore_n 1, 1) := by decide +kernel
theorem dL_told_53 : decode cL_told 53 = .ok (.ldc2_w 112, 3) := by decide +kernel
theorem dL_told_56 : decode cL_told 56 = .ok (.lload_n 1, 1) := by decide +kernel
theorem dL_told_57 : decode cL_told 57 = .ok (.lmul, 1) := by decide +kernel
theorem dL_told_58 : decode cL_told 58 = .ok (.ldc2_w 120, 3) := by decide +kernel
theorem dL_told_61 : decode cL_told 61 = .ok (.aload_n 0, 1) := by decide +kernel
theorem dL_told_62 : decode cL_told 62 = .ok (.iload_n 3, 1) := by decide +kernel
theorem dL_told_63 : decode cL_told 63 = .ok (.iconst 2, 1) := by decide +kernel
theorem dL_told_64 : decode cL_told 64 = .ok (.invokestatic 117, 3) := by decide +kernel
theorem dL_told_67 : decode cL_told 67 = .ok (.i2l, 1) := by decide +kernel
theorem dL_told_68 : decode cL_told 68 = .ok (.lmul, 1) := by decide +kernel
theorem dL_told_69 : decode cL_told 69 = .ok (.ladd, 1) := by decide +kernel
theorem dL_told_70 : decode cL_told 70 = .ok (.ldc2_w 122, 3) := by decide +kernel
theorem dL_told_73 : decode cL_told 73 = .ok (.aload_n 0, 1) := by decide +kernel
theorem dL_told_74 : decode cL_told 74 = .ok (.iload_n 3, 1) := by decide +kernel
theorem dL_told_75 : decode cL_told 75 = .ok (.iconst 4, 1) := by decide +kernel
theorem dL_told_76 : decode cL_told 76 = .ok (.invokestatic 117, 3) := by decide +kernel
theorem dL_told_79 : decode cL_told 79 = .ok (.i2l, 1) := by decide +kernel
theorem dL_told_80 : decode cL_told 80 = .ok (.lmul, 1) := by decide +kernel
theorem dL_told_81 : decode cL_told 81 = .ok (.ladd, 1) := by decide +kernel
theorem dL_told_82 : decode cL_told 82 = .ok (.aload_n 0, 1) := by decide +kernel
theorem dL_told_83 : decode cL_told 83 = .ok (.iload_n 3, 1) := by decide +kernel
theorem dL_told_84 : decode cL_told 84 = .ok (.iconst 5, 1) := by decide +kernel
theorem dL_told_85 : decode cL_told 85 = .ok (.invokestatic 117, 3) := by decide +kernel
theorem dL_told_88 : decode cL_told 88 = .ok (.i2l, 1) := by decide +kernel
theorem dL_told_89 : decode cL_told 89 = .ok (.ladd, 1) := by decide +kernel
theorem dL_told_90 : decode cL_told 90 = .ok (.lstore_n 1, 1) := by decide +kernel
theorem dL_told_91 : decode cL_told 91 = .ok (.ldc2_w 112, 3) := by decide +kernel
theorem dL_told_94 : decode cL_told 94 = .ok (.lload_n 1, 1) := by decide +kernel
theorem dL_told_95 : decode cL_told 95 = .ok (.lmul, 1) := by decide +kernel
theorem dL_told_96 : decode cL_told 96 = .ok (.ldc2_w 122, 3) := by decide +kernel
theorem dL_told_99 : decode cL_told 99 = .ok (.aload_n 0, 1) := by decide +kernel
theorem dL_told_100 : decode cL_told 100 = .ok (.iload_n 3, 1) := by decide +kernel
theorem dL_told_101 : decode cL_told 101 = .ok (.iconst 3, 1) := by decide +kernel
theorem dL_told_102 : decode cL_told 102 = .ok (.invokestatic 117, 3) := by decide +kernel
theorem dL_told_105 : decode cL_told 105 = .ok (.i2l, 1) := by decide +kernel
theorem dL_told_106 : decode cL_told 106 = .ok (.lmul, 1) := by decide +kernel
theorem dL_told_107 : decode cL_told 107 = .ok (.ladd, 1) := by decide +kernel
theorem dL_told_108 : decode cL_told 108 = .ok (.aload_n 0, 1) := by decide +kernel
theorem dL_told_109 : decode cL_told 109 = .ok (.iload_n 3, 1) := by decide +kernel
theorem dL_told_110 : decode cL_told 110 = .ok (.bipush 9, 2) := by decide +kernel
theorem dL_told_112 : decode cL_told 112 = .ok (.invokestatic 117, 3) := by decide +kernel
theorem dL_told_115 : decode cL_told 115 = .ok (.i2l, 1) := by decide +kernel
theorem dL_told_116 : decode cL_told 116 = .ok (.ladd, 1) := by decide +kernel
theorem dL_told_117 : decode cL_told 117 = .ok (.lstore_n 1, 1) := by decide +kernel
theorem dL_told_118 : decode cL_told 118 = .ok (.iinc 3 1, 3) := by decide +kernel
theorem dL_told_121 : decode cL_told 121 = .ok (.goto (-88), 3) := by decide +kernel
theorem dL_told_124 : decode cL_told 124 = .ok (.iconst 0, 1) := by decide +kernel
theorem dL_told_125 : decode cL_told 125 = .ok (.istore_n 3, 1) := by decide +kernel
theorem dL_told_126 : decode cL_told 126 = .ok (.iload_n 3, 1) := by decide +kernel
theorem dL_told_127 : decode cL_told 127 = .ok (.bipush 6, 2) := by decide +kernel
theorem dL_told_129 : decode cL_told 129 = .ok (.if_icmp .ge 61, 3) := by decide +kernel
theorem dL_told_132 : decode cL_told 132 = .ok (.ldc2_w 112, 3) := by decide +kernel
theorem dL_told_135 : decode cL_told 135 = .ok (.lload_n 1, 1) := by decide +kernel
theorem dL_told_136 : decode cL_told 136 = .ok (.lmul, 1) := by decide +kernel
theorem dL_told_137 : decode cL_told 137 = .ok (.ldc2_w 120, 3) := by decide +kernel
theorem dL_told_140 : decode cL_told 140 = .ok (.aload_n 0, 1) := by decide +kernel
theorem dL_told_141 : decode cL_told 141 = .ok (.iload_n 3, 1) := by decide +kernel
theorem dL_told_142 : decode cL_told 142 = .ok (.iconst 0, 1) := by decide +kernel
theorem dL_told_143 : decode cL_told 143 = .ok (.invokestatic 124, 3) := by decide +kernel
theorem dL_told_146 : decode cL_told 146 = .ok (.i2l, 1) := by decide +kernel
theorem dL_told_147 : decode cL_told 147 = .ok (.lmul, 1) := by decide +kernel
theorem dL_told_148 : decode cL_told 148 = .ok (.ladd, 1) := by decide +kernel
theorem dL_told_149 : decode cL_told 149 = .ok (.aload_n 0, 1) := by decide +kernel
theorem dL_told_150 : decode cL_told 150 = .ok (.iload_n 3, 1) := by decide +kernel
theorem dL_told_151 : decode cL_told 151 = .ok (.iconst 1, 1) := by decide +kernel
theorem dL_told_152 : decode cL_told 152 = .ok (.invokestatic 124, 3) := by decide +kernel
theorem dL_told_155 : decode cL_told 155 = .ok (.i2l, 1) := by decide +kernel
theorem dL_told_156 : decode cL_told 156 = .ok (.ladd, 1) := by decide +kernel
theorem dL_told_157 : decode cL_told 157 = .ok (.lstore_n 1, 1) := by decide +kernel
theorem dL_told_158 : decode cL_told 158 = .ok (.ldc2_w 112, 3) := by decide +kernel
theorem dL_told_161 : decode cL_told 161 = .ok (.lload_n 1, 1) := by decide +kernel
theorem dL_told_162 : decode cL_told 162 = .ok (.lmul, 1) := by decide +kernel
theorem dL_told_163 : decode cL_told 163 = .ok (.ldc2_w 122, 3) := by decide +kernel
theorem dL_told_166 : decode cL_told 166 = .ok (.aload_n 0, 1) := by decide +kernel
theorem dL_told_167 : decode cL_told 167 = .ok (.iload_n 3, 1) := by decide +kernel
theorem dL_told_168 : decode cL_told 168 = .ok (.iconst 3, 1) := by decide +kernel
theorem dL_told_169 : decode cL_told 169 = .ok (.invokestatic 124, 3) := by decide +kernel
theorem dL_told_172 : decode cL_told 172 = .ok (.i2l, 1) := by decide +kernel
theorem dL_told_173 : decode cL_told 173 = .ok (.lmul, 1) := by decide +kernel
theorem dL_told_174 : decode cL_told 174 = .ok (.ladd, 1) := by decide +kernel
theorem dL_told_175 : decode cL_told 175 = .ok (.aload_n 0, 1) := by decide +kernel
theorem dL_told_176 : decode cL_told 176 = .ok (.iload_n 3, 1) := by decide +kernel
theorem dL_told_177 : decode cL_told 177 = .ok (.iconst 4, 1) := by decide +kernel
theorem dL_told_178 : decode cL_told 178 = .ok (.invokestatic 124, 3) := by decide +kernel
theorem dL_told_181 : decode cL_told 181 = .ok (.i2l, 1) := by decide +kernel
theorem dL_told_182 : decode cL_told 182 = .ok (.ladd, 1) := by decide +kernel
theorem dL_told_183 : decode cL_told 183 = .ok (.lstore_n 1, 1) := by decide +kernel
theorem dL_told_184 : decode cL_told 184 = .ok (.iinc 3 1, 3) := by decide +kernel
theorem dL_told_187 : decode cL_told 187 = .ok (.goto (-61), 3) := by decide +kernel
theorem dL_told_190 : decode cL_told 190 = .ok (.ldc2_w 112, 3) := by decide +kernel
theorem dL_told_193 : decode cL_told 193 = .ok (.lload_n 1, 1) := by decide +kernel
theorem dL_told_194 : decode cL_told 194 = .ok (.lmul, 1) := by decide +kernel
theorem dL_told_195 : decode cL_told 195 = .ok (.ldc2_w 120, 3) := by decide +kernel
theorem dL_told_198 : decode cL_told 198 = .ok (.aload_n 0, 1) := by decide +kernel
theorem dL_told_199 : decode cL_told 199 = .ok (.iconst 0, 1) := by decide +kernel
theorem dL_told_200 : decode cL_told 200 = .ok (.iconst 2, 1) := by decide +kernel
theorem dL_told_201 : decode cL_told 201 = .ok (.invokestatic 126, 3) := by decide +kernel
theorem dL_told_204 : decode cL_told 204 = .ok (.i2l, 1) := by decide +kernel
theorem dL_told_205 : decode cL_told 205 = .ok (.lmul, 1) := by decide +kernel
theorem dL_told_206 : decode cL_told 206 = .ok (.ladd, 1) := by decide +kernel
theorem dL_told_207 : decode cL_told 207 = .ok (.ldc2_w 122, 3) := by decide +kernel
theorem dL_told_210 : decode cL_told 210 = .ok (.aload_n 0, 1) := by decide +kernel
theorem dL_told_211 : decode cL_told 211 = .ok (.iconst 1, 1) := by decide +kernel
theorem dL_told_212 : decode cL_told 212 = .ok (.iconst 2, 1) := by decide +kernel
theorem dL_told_213 : decode cL_told 213 = .ok (.invokestatic 126, 3) := by decide +kernel
theorem dL_told_216 : decode cL_told 216 = .ok (.i2l, 1) := by decide +kernel
theorem dL_told_217 : decode cL_told 217 = .ok (.lmul, 1) := by decide +kernel
theorem dL_told_218 : decode cL_told 218 = .ok (.ladd, 1) := by decide +kernel
theorem dL_told_219 : decode cL_told 219 = .ok (.aload_n 0, 1) := by decide +kernel
theorem dL_told_220 : decode cL_told 220 = .ok (.iconst 2, 1) := by decide +kernel
theorem dL_told_221 : decode cL_told 221 = .ok (.iconst 2, 1) := by decide +kernel
theorem dL_told_222 : decode cL_told 222 = .ok (.invokestatic 126, 3) := by decide +kernel
theorem dL_told_225 : decode cL_told 225 = .ok (.i2l, 1) := by decide +kernel
theorem dL_told_226 : decode cL_told 226 = .ok (.ladd, 1) := by decide +kernel
theorem dL_told_227 : decode cL_told 227 = .ok (.lreturn, 1) := by decide +kernel
theorem dL_call_0 : decode cL_call 0 = .ok (.iload_n 1, 1) := by decide +kernel
theorem dL_call_1 : decode cL_call 1 = .ok (.tableswitch 121 0 9 #[55, 62, 69, 75, 82, 88, 94, 101, 108, 114], 55) := by decide +kernel
theorem dL_call_56 : decode cL_call 56 = .ok (.aload_n 0, 1) := by decide +kernel
theorem dL_call_57 : decode cL_call 57 = .ok (.iload_n 2, 1) := by decide +kernel
theorem dL_call_58 : decode cL_call 58 = .ok (.iload_n 3, 1) := by decide +kernel
theorem dL_call_59 : decode cL_call 59 = .ok (.invokestatic 128, 3) := by decide +kernel
theorem dL_call_62 : decode cL_call 62 = .ok (.ireturn, 1) := by decide +kernel
theorem dL_call_63 : decode cL_call 63 = .ok (.aload_n 0, 1) := by decide +kernel
theorem dL_call_64 : decode cL_call 64 = .ok (.iload_n 2, 1) := by decide +kernel
theorem dL_call_65 : decode cL_call 65 = .ok (.iload_n 3, 1) := by decide +kernel
theorem dL_call_66 : decode cL_call 66 = .ok (.invokestatic 130, 3) := by decide +kernel
theorem dL_call_69 : decode cL_call 69 = .ok (.ireturn, 1) := by decide +kernel
theorem dL_call_70 : decode cL_call 70 = .ok (.aload_n 0, 1) := by decide +kernel
theorem dL_call_71 : decode cL_call 71 = .ok (.iload_n 2, 1) := by decide +kernel
theorem dL_call_72 : decode cL_call 72 = .ok (.invokestatic 132, 3) := by decide +kernel
theorem dL_call_75 : decode cL_call 75 = .ok (.ireturn, 1) := by decide +kernel
theorem dL_call_76 : decode cL_call 76 = .ok (.aload_n 0, 1) := by decide +kernel
theorem dL_call_77 : decode cL_call 77 = .ok (.iload_n 2, 1) := by decide +kernel
theorem dL_call_78 : decode cL_call 78 = .ok (.iload_n 3, 1) := by decide +kernel
theorem dL_call_79 : decode cL_call 79 = .ok (.invokestatic 134, 3) := by decide +kernel
theorem dL_call_82 : decode cL_call 82 = .ok (.ireturn, 1) := by decide +kernel
theorem dL_call_83 : decode cL_call 83 = .ok (.aload_n 0, 1) := by decide +kernel
theorem dL_call_84 : decode cL_call 84 = .ok (.iload_n 2, 1) := by decide +kernel
theorem dL_call_85 : decode cL_call 85 = .ok (.invokestatic 136, 3) := by decide +kernel
theorem dL_call_88 : decode cL_call 88 = .ok (.ireturn, 1) := by decide +kernel
theorem dL_call_89 : decode cL_call 89 = .ok (.aload_n 0, 1) := by decide +kernel
theorem dL_call_90 : decode cL_call 90 = .ok (.iload_n 2, 1) := by decide +kernel
theorem dL_call_91 : decode cL_call 91 = .ok (.invokestatic 138, 3) := by decide +kernel
theorem dL_call_94 : decode cL_call 94 = .ok (.ireturn, 1) := by decide +kernel
theorem dL_call_95 : decode cL_call 95 = .ok (.aload_n 0, 1) := by decide +kernel
theorem dL_call_96 : decode cL_call 96 = .ok (.iload_n 2, 1) := by decide +kernel
theorem dL_call_97 : decode cL_call 97 = .ok (.iload_n 3, 1) := by decide +kernel
theorem dL_call_98 : decode cL_call 98 = .ok (.invokestatic 140, 3) := by decide +kernel
theorem dL_call_101 : decode cL_call 101 = .ok (.ireturn, 1) := by decide +kernel
theorem dL_call_102 : decode cL_call 102 = .ok (.aload_n 0, 1) := by decide +kernel
theorem dL_call_103 : decode cL_call 103 = .ok (.iload_n 2, 1) := by decide +kernel
theorem dL_call_104 : decode cL_call 104 = .ok (.iload_n 3, 1) := by decide +kernel
theorem dL_call_105 : decode cL_call 105 = .ok (.invokestatic 142, 3) := by decide +kernel
theorem dL_call_108 : decode cL_call 108 = .ok (.ireturn, 1) := by decide +kernel
theorem dL_call_109 : decode cL_call 109 = .ok (.aload_n 0, 1) := by decide +kernel
theorem dL_call_110 : decode cL_call 110 = .ok (.iload_n 2, 1) := by decide +kernel
theorem dL_call_111 : decode cL_call 111 = .ok (.invokestatic 144, 3) := by decide +kernel
theorem dL_call_114 : decode cL_call 114 = .ok (.ireturn, 1) := by decide +kernel
theorem dL_call_115 : decode cL_call 115 = .ok (.aload_n 0, 1) := by decide +kernel
theorem dL_call_116 : decode cL_call 116 = .ok (.iload_n 2, 1) := by decide +kernel
theorem dL_call_117 : decode cL_call 117 = .ok (.iload_n 3, 1) := by decide +kernel
theorem dL_call_118 : decode cL_call 118 = .ok (.invokestatic 146, 3) := by decide +kernel
theorem dL_call_121 : decode cL_call 121 = .ok (.ireturn, 1) := by decide +kernel
theorem dL_call_122 : decode cL_call 122 = .ok (.aload_n 0, 1) := by decide +kernel
theorem dL_call_123 : decode cL_call 123 = .ok (.iload_n 2, 1) := by decide +kernel
theorem dL_call_124 : decode cL_call 124 = .ok (.iload_n 3, 1) := by decide +kernel
theorem dL_call_125 : decode cL_call 125 = .ok (.invokestatic 148, 3) := by decide +kernel
theorem dL_call_128 : decode cL_call 128 = .ok (.ireturn, 1) := by decide +kernel
theorem dL_turned_0 : decode cL_turned 0 = .ok (.aload_n 3, 1) := by decide +kernel
theorem dL_turned_1 : decode cL_turned 1 = .ok (.bipush 6, 2) := by decide +kernel
theorem dL_turned_3 : decode cL_turned 3 = .ok (.iload_n 0, 1) := by decide +kernel
theorem dL_turned_4 : decode cL_turned 4 = .ok (.imul, 1) := by decide +kernel
theorem dL_turned_5 : decode cL_turned 5 = .ok (.iconst 2, 1) := by decide +kernel
theorem dL_turned_6 : decode cL_turned 6 = .ok (.iadd, 1) := by decide +kernel
theorem dL_turned_7 : decode cL_turned 7 = .ok (.iaload, 1) := by decide +kernel
theorem dL_turned_8 : decode cL_turned 8 = .ok (.iconst 1, 1) := by decide +kernel
theorem dL_turned_9 : decode cL_turned 9 = .ok (.if_icmp .eq 12, 3) := by decide +kernel
theorem dL_turned_12 : decode cL_turned 12 = .ok (.aload 4, 2) := by decide +kernel
theorem dL_turned_14 : decode cL_turned 14 = .ok (.iconst 4, 1) := by decide +kernel
theorem dL_turned_15 : decode cL_turned 15 = .ok (.iload_n 1, 1) := by decide +kernel
theorem dL_turned_16 : decode cL_turned 16 = .ok (.imul, 1) := by decide +kernel
theorem dL_turned_17 : decode cL_turned 17 = .ok (.iaload, 1) := by decide +kernel
theorem dL_turned_18 : decode cL_turned 18 = .ok (.ifCond .ge 6, 3) := by decide +kernel
theorem dL_turned_21 : decode cL_turned 21 = .ok (.bipush (-103), 2) := by decide +kernel
theorem dL_turned_23 : decode cL_turned 23 = .ok (.ireturn, 1) := by decide +kernel
theorem dL_turned_24 : decode cL_turned 24 = .ok (.aload_n 3, 1) := by decide +kernel
theorem dL_turned_25 : decode cL_turned 25 = .ok (.bipush 6, 2) := by decide +kernel
theorem dL_turned_27 : decode cL_turned 27 = .ok (.iload_n 0, 1) := by decide +kernel
theorem dL_turned_28 : decode cL_turned 28 = .ok (.imul, 1) := by decide +kernel
theorem dL_turned_29 : decode cL_turned 29 = .ok (.iaload, 1) := by decide +kernel
theorem dL_turned_30 : decode cL_turned 30 = .ok (.istore 5, 2) := by decide +kernel
theorem dL_turned_32 : decode cL_turned 32 = .ok (.iload 5, 2) := by decide +kernel
theorem dL_turned_34 : decode cL_turned 34 = .ok (.iload_n 1, 1) := by decide +kernel
theorem dL_turned_35 : decode cL_turned 35 = .ok (.aload 4, 2) := by decide +kernel
theorem dL_turned_37 : decode cL_turned 37 = .ok (.invokestatic 106, 3) := by decide +kernel
theorem dL_turned_40 : decode cL_turned 40 = .ok (.ifCond .ne 24, 3) := by decide +kernel
theorem dL_turned_43 : decode cL_turned 43 = .ok (.aload 4, 2) := by decide +kernel
theorem dL_turned_45 : decode cL_turned 45 = .ok (.iconst 4, 1) := by decide +kernel
theorem dL_turned_46 : decode cL_turned 46 = .ok (.iload_n 1, 1) := by decide +kernel
theorem dL_turned_47 : decode cL_turned 47 = .ok (.imul, 1) := by decide +kernel
theorem dL_turned_48 : decode cL_turned 48 = .ok (.iconst 3, 1) := by decide +kernel
theorem dL_turned_49 : decode cL_turned 49 = .ok (.iadd, 1) := by decide +kernel
theorem dL_turned_50 : decode cL_turned 50 = .ok (.dup2, 1) := by decide +kernel
theorem dL_turned_51 : decode cL_turned 51 = .ok (.iaload, 1) := by decide +kernel
theorem dL_turned_52 : decode cL_turned 52 = .ok (.iconst 1, 1) := by decide +kernel
theorem dL_turned_53 : decode cL_turned 53 = .ok (.iadd, 1) := by decide +kernel
theorem dL_turned_54 : decode cL_turned 54 = .ok (.iastore, 1) := by decide +kernel
theorem dL_turned_55 : decode cL_turned 55 = .ok (.aload_n 2, 1) := by decide +kernel
theorem dL_turned_56 : decode cL_turned 56 = .ok (.iconst 3, 1) := by decide +kernel
theorem dL_turned_57 : decode cL_turned 57 = .ok (.dup2, 1) := by decide +kernel
theorem dL_turned_58 : decode cL_turned 58 = .ok (.iaload, 1) := by decide +kernel
theorem dL_turned_59 : decode cL_turned 59 = .ok (.iconst 1, 1) := by decide +kernel
theorem dL_turned_60 : decode cL_turned 60 = .ok (.iadd, 1) := by decide +kernel
theorem dL_turned_61 : decode cL_turned 61 = .ok (.iastore, 1) := by decide +kernel
theorem dL_turned_62 : decode cL_turned 62 = .ok (.iconst 0, 1) := by decide +kernel
theorem dL_turned_63 : decode cL_turned 63 = .ok (.ireturn, 1) := by decide +kernel
theorem dL_turned_64 : decode cL_turned 64 = .ok (.aload_n 3, 1) := by decide +kernel
theorem dL_turned_65 : decode cL_turned 65 = .ok (.bipush 6, 2) := by decide +kernel
theorem dL_turned_67 : decode cL_turned 67 = .ok (.iload_n 0, 1) := by decide +kernel
theorem dL_turned_68 : decode cL_turned 68 = .ok (.imul, 1) := by decide +kernel
theorem dL_turned_69 : decode cL_turned 69 = .ok (.iconst 4, 1) := by decide +kernel
theorem dL_turned_70 : decode cL_turned 70 = .ok (.iadd, 1) := by decide +kernel
theorem dL_turned_71 : decode cL_turned 71 = .ok (.dup2, 1) := by decide +kernel
theorem dL_turned_72 : decode cL_turned 72 = .ok (.iaload, 1) := by decide +kernel
theorem dL_turned_73 : decode cL_turned 73 = .ok (.iconst 1, 1) := by decide +kernel
theorem dL_turned_74 : decode cL_turned 74 = .ok (.iadd, 1) := by decide +kernel
theorem dL_turned_75 : decode cL_turned 75 = .ok (.iastore, 1) := by decide +kernel
theorem dL_turned_76 : decode cL_turned 76 = .ok (.aload_n 2, 1) := by decide +kernel
theorem dL_turned_77 : decode cL_turned 77 = .ok (.bipush 10, 2) := by decide +kernel
theorem dL_turned_79 : decode cL_turned 79 = .ok (.aload_n 3, 1) := by decide +kernel
theorem dL_turned_80 : decode cL_turned 80 = .ok (.bipush 6, 2) := by decide +kernel
theorem dL_turned_82 : decode cL_turned 82 = .ok (.iload_n 0, 1) := by decide +kernel
theorem dL_turned_83 : decode cL_turned 83 = .ok (.imul, 1) := by decide +kernel
theorem dL_turned_84 : decode cL_turned 84 = .ok (.iconst 1, 1) := by decide +kernel
theorem dL_turned_85 : decode cL_turned 85 = .ok (.iadd, 1) := by decide +kernel
theorem dL_turned_86 : decode cL_turned 86 = .ok (.iaload, 1) := by decide +kernel
theorem dL_turned_87 : decode cL_turned 87 = .ok (.iadd, 1) := by decide +kernel
theorem dL_turned_88 : decode cL_turned 88 = .ok (.dup2, 1) := by decide +kernel
theorem dL_turned_89 : decode cL_turned 89 = .ok (.iaload, 1) := by decide +kernel
theorem dL_turned_90 : decode cL_turned 90 = .ok (.iconst 1, 1) := by decide +kernel
theorem dL_turned_91 : decode cL_turned 91 = .ok (.iadd, 1) := by decide +kernel
theorem dL_turned_92 : decode cL_turned 92 = .ok (.iastore, 1) := by decide +kernel
theorem dL_turned_93 : decode cL_turned 93 = .ok (.aload 4, 2) := by decide +kernel
theorem dL_turned_95 : decode cL_turned 95 = .ok (.iconst 4, 1) := by decide +kernel
theorem dL_turned_96 : decode cL_turned 96 = .ok (.iload_n 1, 1) := by decide +kernel
theorem dL_turned_97 : decode cL_turned 97 = .ok (.imul, 1) := by decide +kernel
theorem dL_turned_98 : decode cL_turned 98 = .ok (.iconst 2, 1) := by decide +kernel
theorem dL_turned_99 : decode cL_turned 99 = .ok (.iadd, 1) := by decide +kernel
theorem dL_turned_100 : decode cL_turned 100 = .ok (.dup2, 1) := by decide +kernel
theorem dL_turned_101 : decode cL_turned 101 = .ok (.iaload, 1) := by decide +kernel
theorem dL_turned_102 : decode cL_turned 102 = .ok (.iconst 1, 1) := by decide +kernel
theorem dL_turned_103 : decode cL_turned 103 = .ok (.iadd, 1) := by decide +kernel
theorem dL_turned_104 : decode cL_turned 104 = .ok (.iastore, 1) := by decide +kernel
theorem dL_turned_105 : decode cL_turned 105 = .ok (.aload_n 2, 1) := by decide +kernel
theorem dL_turned_106 : decode cL_turned 106 = .ok (.iconst 2, 1) := by decide +kernel
theorem dL_turned_107 : decode cL_turned 107 = .ok (.dup2, 1) := by decide +kernel
theorem dL_turned_108 : decode cL_turned 108 = .ok (.iaload, 1) := by decide +kernel
theorem dL_turned_109 : decode cL_turned 109 = .ok (.iconst 1, 1) := by decide +kernel
theorem dL_turned_110 : decode cL_turned 110 = .ok (.iadd, 1) := by decide +kernel
theorem dL_turned_111 : decode cL_turned 111 = .ok (.iastore, 1) := by decide +kernel
theorem dL_turned_112 : decode cL_turned 112 = .ok (.iconst 0, 1) := by decide +kernel
theorem dL_turned_113 : decode cL_turned 113 = .ok (.istore 6, 2) := by decide +kernel
theorem dL_turned_115 : decode cL_turned 115 = .ok (.iconst 3, 1) := by decide +kernel
theorem dL_turned_116 : decode cL_turned 116 = .ok (.istore 7, 2) := by decide +kernel
theorem dL_turned_118 : decode cL_turned 118 = .ok (.iload 7, 2) := by decide +kernel
theorem dL_turned_120 : decode cL_turned 120 = .ok (.ifCond .lt 35, 3) := by decide +kernel
theorem dL_turned_123 : decode cL_turned 123 = .ok (.iload 5, 2) := by decide +kernel
theorem dL_turned_125 : decode cL_turned 125 = .ok (.iload 7, 2) := by decide +kernel
theorem dL_turned_127 : decode cL_turned 127 = .ok (.invokestatic 87, 3) := by decide +kernel
theorem dL_turned_130 : decode cL_turned 130 = .ok (.iload 5, 2) := by decide +kernel
theorem dL_turned_132 : decode cL_turned 132 = .ok (.iload 6, 2) := by decide +kernel
theorem dL_turned_134 : decode cL_turned 134 = .ok (.invokestatic 87, 3) := by decide +kernel
theorem dL_turned_137 : decode cL_turned 137 = .ok (.if_icmp .gt 8, 3) := by decide +kernel
theorem dL_turned_140 : decode cL_turned 140 = .ok (.iload 7, 2) := by decide +kernel
theorem dL_turned_142 : decode cL_turned 142 = .ok (.goto 5, 3) := by decide +kernel
theorem dL_turned_145 : decode cL_turned 145 = .ok (.iload 6, 2) := by decide +kernel
theorem dL_turned_147 : decode cL_turned 147 = .ok (.istore 6, 2) := by decide +kernel
theorem dL_turned_149 : decode cL_turned 149 = .ok (.iinc 7 (-1), 3) := by decide +kernel
theorem dL_turned_152 : decode cL_turned 152 = .ok (.goto (-34), 3) := by decide +kernel
theorem dL_turned_155 : decode cL_turned 155 = .ok (.aload_n 2, 1) := by decide +kernel
theorem dL_turned_156 : decode cL_turned 156 = .ok (.bipush 8, 2) := by decide +kernel
theorem dL_turned_158 : decode cL_turned 158 = .ok (.iaload, 1) := by decide +kernel
theorem dL_turned_159 : decode cL_turned 159 = .ok (.ifCond .le 63, 3) := by decide +kernel
theorem dL_turned_162 : decode cL_turned 162 = .ok (.aload_n 3, 1) := by decide +kernel
theorem dL_turned_163 : decode cL_turned 163 = .ok (.bipush 6, 2) := by decide +kernel
theorem dL_turned_165 : decode cL_turned 165 = .ok (.iload_n 0, 1) := by decide +kernel
theorem dL_turned_166 : decode cL_turned 166 = .ok (.imul, 1) := by decide +kernel
theorem dL_turned_167 : decode cL_turned 167 = .ok (.iconst 4, 1) := by decide +kernel
theorem dL_turned_168 : decode cL_turned 168 = .ok (.iadd, 1) := by decide +kernel
theorem dL_turned_169 : decode cL_turned 169 = .ok (.iaload, 1) := by decide +kernel
theorem dL_turned_170 : decode cL_turned 170 = .ok (.aload_n 2, 1) := by decide +kernel
theorem dL_turned_171 : decode cL_turned 171 = .ok (.bipush 8, 2) := by decide +kernel
theorem dL_turned_173 : decode cL_turned 173 = .ok (.iaload, 1) := by decide +kernel
theorem dL_turned_174 : decode cL_turned 174 = .ok (.irem, 1) := by decide +kernel
theorem dL_turned_175 : decode cL_turned 175 = .ok (.ifCond .ne 47, 3) := by decide +kernel
theorem dL_turned_178 : decode cL_turned 178 = .ok (.iload 5, 2) := by decide +kernel
theorem dL_turned_180 : decode cL_turned 180 = .ok (.iload 6, 2) := by decide +kernel
theorem dL_turned_182 : decode cL_turned 182 = .ok (.invokestatic 87, 3) := by decide +kernel
theorem dL_turned_185 : decode cL_turned 185 = .ok (.iconst 2, 1) := by decide +kernel
theorem dL_turned_186 : decode cL_turned 186 = .ok (.if_icmp .ge 36, 3) := by decide +kernel
theorem dL_turned_189 : decode cL_turned 189 = .ok (.aload_n 3, 1) := by decide +kernel
theorem dL_turned_190 : decode cL_turned 190 = .ok (.bipush 6, 2) := by decide +kernel
theorem dL_turned_192 : decode cL_turned 192 = .ok (.iload_n 0, 1) := by decide +kernel
theorem dL_turned_193 : decode cL_turned 193 = .ok (.imul, 1) := by decide +kernel
theorem dL_turned_194 : decode cL_turned 194 = .ok (.dup2, 1) := by decide +kernel
theorem dL_turned_195 : decode cL_turned 195 = .ok (.iaload, 1) := by decide +kernel
theorem dL_turned_196 : decode cL_turned 196 = .ok (.iload 6, 2) := by decide +kernel
theorem dL_turned_198 : decode cL_turned 198 = .ok (.invokestatic 103, 3) := by decide +kernel
theorem dL_turned_201 : decode cL_turned 201 = .ok (.iadd, 1) := by decide +kernel
theorem dL_turned_202 : decode cL_turned 202 = .ok (.iastore, 1) := by decide +kernel
theorem dL_turned_203 : decode cL_turned 203 = .ok (.aload_n 3, 1) := by decide +kernel
theorem dL_turned_204 : decode cL_turned 204 = .ok (.bipush 6, 2) := by decide +kernel
theorem dL_turned_206 : decode cL_turned 206 = .ok (.iload_n 0, 1) := by decide +kernel
theorem dL_turned_207 : decode cL_turned 207 = .ok (.imul, 1) := by decide +kernel
theorem dL_turned_208 : decode cL_turned 208 = .ok (.iconst 5, 1) := by decide +kernel
theorem dL_turned_209 : decode cL_turned 209 = .ok (.iadd, 1) := by decide +kernel
theorem dL_turned_210 : decode cL_turned 210 = .ok (.dup2, 1) := by decide +kernel
theorem dL_turned_211 : decode cL_turned 211 = .ok (.iaload, 1) := by decide +kernel
theorem dL_turned_212 : decode cL_turned 212 = .ok (.iconst 1, 1) := by decide +kernel
theorem dL_turned_213 : decode cL_turned 213 = .ok (.iadd, 1) := by decide +kernel
theorem dL_turned_214 : decode cL_turned 214 = .ok (.iastore, 1) := by decide +kernel
theorem dL_turned_215 : decode cL_turned 215 = .ok (.aload_n 2, 1) := by decide +kernel
theorem dL_turned_216 : decode cL_turned 216 = .ok (.iconst 4, 1) := by decide +kernel
theorem dL_turned_217 : decode cL_turned 217 = .ok (.dup2, 1) := by decide +kernel
theorem dL_turned_218 : decode cL_turned 218 = .ok (.iaload, 1) := by decide +kernel
theorem dL_turned_219 : decode cL_turned 219 = .ok (.iconst 1, 1) := by decide +kernel
theorem dL_turned_220 : decode cL_turned 220 = .ok (.iadd, 1) := by decide +kernel
theorem dL_turned_221 : decode cL_turned 221 = .ok (.iastore, 1) := by decide +kernel
theorem dL_turned_222 : decode cL_turned 222 = .ok (.iconst 1, 1) := by decide +kernel
theorem dL_turned_223 : decode cL_turned 223 = .ok (.ireturn, 1) := by decide +kernel
theorem dL_keyDue_0 : decode cL_keyDue 0 = .ok (.iload_n 0, 1) := by decide +kernel
theorem dL_keyDue_1 : decode cL_keyDue 1 = .ok (.ifCond .ne 98, 3) := by decide +kernel
theorem dL_keyDue_4 : decode cL_keyDue 4 = .ok (.iload_n 1, 1) := by decide +kernel
theorem dL_keyDue_5 : decode cL_keyDue 5 = .ok (.aload_n 3, 1) := by decide +kernel
theorem dL_keyDue_6 : decode cL_keyDue 6 = .ok (.aload 4, 2) := by decide +kernel
theorem dL_keyDue_8 : decode cL_keyDue 8 = .ok (.invokestatic 150, 3) := by decide +kernel
theorem dL_keyDue_11 : decode cL_keyDue 11 = .ok (.ifCond .eq 6, 3) := by decide +kernel
theorem dL_keyDue_14 : decode cL_keyDue 14 = .ok (.bipush (-103), 2) := by decide +kernel
theorem dL_keyDue_16 : decode cL_keyDue 16 = .ok (.ireturn, 1) := by decide +kernel
theorem dL_keyDue_17 : decode cL_keyDue 17 = .ok (.bipush 6, 2) := by decide +kernel
theorem dL_keyDue_19 : decode cL_keyDue 19 = .ok (.aload_n 3, 1) := by decide +kernel
theorem dL_keyDue_20 : decode cL_keyDue 20 = .ok (.iconst 0, 1) := by decide +kernel
theorem dL_keyDue_21 : decode cL_keyDue 21 = .ok (.iaload, 1) := by decide +kernel
theorem dL_keyDue_22 : decode cL_keyDue 22 = .ok (.imul, 1) := by decide +kernel
theorem dL_keyDue_23 : decode cL_keyDue 23 = .ok (.istore 6, 2) := by decide +kernel
theorem dL_keyDue_25 : decode cL_keyDue 25 = .ok (.aload 4, 2) := by decide +kernel
theorem dL_keyDue_27 : decode cL_keyDue 27 = .ok (.iload 6, 2) := by decide +kernel
theorem dL_keyDue_29 : decode cL_keyDue 29 = .ok (.iload_n 1, 1) := by decide +kernel
theorem dL_keyDue_30 : decode cL_keyDue 30 = .ok (.iastore, 1) := by decide +kernel
theorem dL_keyDue_31 : decode cL_keyDue 31 = .ok (.aload 4, 2) := by decide +kernel
theorem dL_keyDue_33 : decode cL_keyDue 33 = .ok (.iload 6, 2) := by decide +kernel
theorem dL_keyDue_35 : decode cL_keyDue 35 = .ok (.iconst 1, 1) := by decide +kernel
theorem dL_keyDue_36 : decode cL_keyDue 36 = .ok (.iadd, 1) := by decide +kernel
theorem dL_keyDue_37 : decode cL_keyDue 37 = .ok (.iload_n 2, 1) := by decide +kernel
theorem dL_keyDue_38 : decode cL_keyDue 38 = .ok (.iastore, 1) := by decide +kernel
theorem dL_keyDue_39 : decode cL_keyDue 39 = .ok (.aload 4, 2) := by decide +kernel
theorem dL_keyDue_41 : decode cL_keyDue 41 = .ok (.iload 6, 2) := by decide +kernel
theorem dL_keyDue_43 : decode cL_keyDue 43 = .ok (.iconst 2, 1) := by decide +kernel
theorem dL_keyDue_44 : decode cL_keyDue 44 = .ok (.iadd, 1) := by decide +kernel
theorem dL_keyDue_45 : decode cL_keyDue 45 = .ok (.iconst 0, 1) := by decide +kernel
theorem dL_keyDue_46 : decode cL_keyDue 46 = .ok (.iastore, 1) := by decide +kernel
theorem dL_keyDue_47 : decode cL_keyDue 47 = .ok (.aload 4, 2) := by decide +kernel
theorem dL_keyDue_49 : decode cL_keyDue 49 = .ok (.iload 6, 2) := by decide +kernel
theorem dL_keyDue_51 : decode cL_keyDue 51 = .ok (.iconst 3, 1) := by decide +kernel
theorem dL_keyDue_52 : decode cL_keyDue 52 = .ok (.iadd, 1) := by decide +kernel
theorem dL_keyDue_53 : decode cL_keyDue 53 = .ok (.iload_n 1, 1) := by decide +kernel
theorem dL_keyDue_54 : decode cL_keyDue 54 = .ok (.iastore, 1) := by decide +kernel
theorem dL_keyDue_55 : decode cL_keyDue 55 = .ok (.aload 4, 2) := by decide +kernel
theorem dL_keyDue_57 : decode cL_keyDue 57 = .ok (.iload 6, 2) := by decide +kernel
theorem dL_keyDue_59 : decode cL_keyDue 59 = .ok (.iconst 4, 1) := by decide +kernel
theorem dL_keyDue_60 : decode cL_keyDue 60 = .ok (.iadd, 1) := by decide +kernel
theorem dL_keyDue_61 : decode cL_keyDue 61 = .ok (.iconst 0, 1) := by decide +kernel
theorem dL_keyDue_62 : decode cL_keyDue 62 = .ok (.iastore, 1) := by decide +kernel
theorem dL_keyDue_63 : decode cL_keyDue 63 = .ok (.aload 4, 2) := by decide +kernel
theorem dL_keyDue_65 : decode cL_keyDue 65 = .ok (.iload 6, 2) := by decide +kernel
theorem dL_keyDue_67 : decode cL_keyDue 67 = .ok (.iconst 5, 1) := by decide +kernel
theorem dL_keyDue_68 : decode cL_keyDue 68 = .ok (.iadd, 1) := by decide +kernel
theorem dL_keyDue_69 : decode cL_keyDue 69 = .ok (.iconst 0, 1) := by decide +kernel
theorem dL_keyDue_70 : decode cL_keyDue 70 = .ok (.iastore, 1) := by decide +kernel
theorem dL_keyDue_71 : decode cL_keyDue 71 = .ok (.aload_n 3, 1) := by decide +kernel
theorem dL_keyDue_72 : decode cL_keyDue 72 = .ok (.iconst 1, 1) := by decide +kernel
theorem dL_keyDue_73 : decode cL_keyDue 73 = .ok (.dup2, 1) := by decide +kernel
theorem dL_keyDue_74 : decode cL_keyDue 74 = .ok (.iaload, 1) := by decide +kernel
theorem dL_keyDue_75 : decode cL_keyDue 75 = .ok (.aload_n 3, 1) := by decide +kernel
theorem dL_keyDue_76 : decode cL_keyDue 76 = .ok (.bipush 7, 2) := by decide +kernel
theorem dL_keyDue_78 : decode cL_keyDue 78 = .ok (.iaload, 1) := by decide +kernel
theorem dL_keyDue_79 : decode cL_keyDue 79 = .ok (.iload_n 1, 1) := by decide +kernel
theorem dL_keyDue_80 : decode cL_keyDue 80 = .ok (.invokestatic 154, 3) := by decide +kernel
theorem dL_keyDue_83 : decode cL_keyDue 83 = .ok (.imul, 1) := by decide +kernel
theorem dL_keyDue_84 : decode cL_keyDue 84 = .ok (.iadd, 1) := by decide +kernel
theorem dL_keyDue_85 : decode cL_keyDue 85 = .ok (.iastore, 1) := by decide +kernel
theorem dL_keyDue_86 : decode cL_keyDue 86 = .ok (.aload_n 3, 1) := by decide +kernel
theorem dL_keyDue_87 : decode cL_keyDue 87 = .ok (.iconst 0, 1) := by decide +kernel
theorem dL_keyDue_88 : decode cL_keyDue 88 = .ok (.dup2, 1) := by decide +kernel
theorem dL_keyDue_89 : decode cL_keyDue 89 = .ok (.iaload, 1) := by decide +kernel
theorem dL_keyDue_90 : decode cL_keyDue 90 = .ok (.iconst 1, 1) := by decide +kernel
theorem dL_keyDue_91 : decode cL_keyDue 91 = .ok (.iadd, 1) := by decide +kernel
theorem dL_keyDue_92 : decode cL_keyDue 92 = .ok (.iastore, 1) := by decide +kernel
theorem dL_keyDue_93 : decode cL_keyDue 93 = .ok (.aload_n 3, 1) := by decide +kernel
theorem dL_keyDue_94 : decode cL_keyDue 94 = .ok (.iconst 0, 1) := by decide +kernel
theorem dL_keyDue_95 : decode cL_keyDue 95 = .ok (.iaload, 1) := by decide +kernel
theorem dL_keyDue_96 : decode cL_keyDue 96 = .ok (.iconst 1, 1) := by decide +kernel
theorem dL_keyDue_97 : decode cL_keyDue 97 = .ok (.isub, 1) := by decide +kernel
theorem dL_keyDue_98 : decode cL_keyDue 98 = .ok (.ireturn, 1) := by decide +kernel
theorem dL_keyDue_99 : decode cL_keyDue 99 = .ok (.iload_n 1, 1) := by decide +kernel
theorem dL_keyDue_100 : decode cL_keyDue 100 = .ok (.aload_n 3, 1) := by decide +kernel
theorem dL_keyDue_101 : decode cL_keyDue 101 = .ok (.iconst 0, 1) := by decide +kernel
theorem dL_keyDue_102 : decode cL_keyDue 102 = .ok (.iaload, 1) := by decide +kernel
theorem dL_keyDue_103 : decode cL_keyDue 103 = .ok (.if_icmp .lt 6, 3) := by decide +kernel
theorem dL_keyDue_106 : decode cL_keyDue 106 = .ok (.bipush (-101), 2) := by decide +kernel
theorem dL_keyDue_108 : decode cL_keyDue 108 = .ok (.ireturn, 1) := by decide +kernel
theorem dL_keyDue_109 : decode cL_keyDue 109 = .ok (.aload 4, 2) := by decide +kernel
theorem dL_keyDue_111 : decode cL_keyDue 111 = .ok (.bipush 6, 2) := by decide +kernel
theorem dL_keyDue_113 : decode cL_keyDue 113 = .ok (.iload_n 1, 1) := by decide +kernel
theorem dL_keyDue_114 : decode cL_keyDue 114 = .ok (.imul, 1) := by decide +kernel
theorem dL_keyDue_115 : decode cL_keyDue 115 = .ok (.iconst 1, 1) := by decide +kernel
theorem dL_keyDue_116 : decode cL_keyDue 116 = .ok (.iadd, 1) := by decide +kernel
theorem dL_keyDue_117 : decode cL_keyDue 117 = .ok (.iaload, 1) := by decide +kernel
theorem dL_keyDue_118 : decode cL_keyDue 118 = .ok (.istore 6, 2) := by decide +kernel
theorem dL_keyDue_120 : decode cL_keyDue 120 = .ok (.iload_n 0, 1) := by decide +kernel
theorem dL_keyDue_121 : decode cL_keyDue 121 = .ok (.tableswitch 178 1 9 #[51, 97, 154, 178, 178, 178, 178, 178, 167], 51) := by decide +kernel
theorem dL_keyDue_172 : decode cL_keyDue 172 = .ok (.iload_n 1, 1) := by decide +kernel
theorem dL_keyDue_173 : decode cL_keyDue 173 = .ok (.iload_n 2, 1) := by decide +kernel
theorem dL_keyDue_174 : decode cL_keyDue 174 = .ok (.aload_n 3, 1) := by decide +kernel
theorem dL_keyDue_175 : decode cL_keyDue 175 = .ok (.aload 4, 2) := by decide +kernel
theorem dL_keyDue_177 : decode cL_keyDue 177 = .ok (.invokestatic 157, 3) := by decide +kernel
theorem dL_keyDue_180 : decode cL_keyDue 180 = .ok (.ifCond .eq 6, 3) := by decide +kernel
theorem dL_keyDue_183 : decode cL_keyDue 183 = .ok (.bipush (-103), 2) := by decide +kernel
theorem dL_keyDue_185 : decode cL_keyDue 185 = .ok (.ireturn, 1) := by decide +kernel
theorem dL_keyDue_186 : decode cL_keyDue 186 = .ok (.aload 4, 2) := by decide +kernel
theorem dL_keyDue_188 : decode cL_keyDue 188 = .ok (.bipush 6, 2) := by decide +kernel
theorem dL_keyDue_190 : decode cL_keyDue 190 = .ok (.iload_n 1, 1) := by decide +kernel
theorem dL_keyDue_191 : decode cL_keyDue 191 = .ok (.imul, 1) := by decide +kernel
theorem dL_keyDue_192 : decode cL_keyDue 192 = .ok (.dup2, 1) := by decide +kernel
theorem dL_keyDue_193 : decode cL_keyDue 193 = .ok (.iaload, 1) := by decide +kernel
theorem dL_keyDue_194 : decode cL_keyDue 194 = .ok (.iload_n 2, 1) := by decide +kernel
theorem dL_keyDue_195 : decode cL_keyDue 195 = .ok (.invokestatic 103, 3) := by decide +kernel
theorem dL_keyDue_198 : decode cL_keyDue 198 = .ok (.iadd, 1) := by decide +kernel
theorem dL_keyDue_199 : decode cL_keyDue 199 = .ok (.iastore, 1) := by decide +kernel
theorem dL_keyDue_200 : decode cL_keyDue 200 = .ok (.aload_n 3, 1) := by decide +kernel
theorem dL_keyDue_201 : decode cL_keyDue 201 = .ok (.iconst 1, 1) := by decide +kernel
theorem dL_keyDue_202 : decode cL_keyDue 202 = .ok (.dup2, 1) := by decide +kernel
theorem dL_keyDue_203 : decode cL_keyDue 203 = .ok (.iaload, 1) := by decide +kernel
theorem dL_keyDue_204 : decode cL_keyDue 204 = .ok (.aload_n 3, 1) := by decide +kernel
theorem dL_keyDue_205 : decode cL_keyDue 205 = .ok (.bipush 7, 2) := by decide +kernel
theorem dL_keyDue_207 : decode cL_keyDue 207 = .ok (.iaload, 1) := by decide +kernel
theorem dL_keyDue_208 : decode cL_keyDue 208 = .ok (.iadd, 1) := by decide +kernel
theorem dL_keyDue_209 : decode cL_keyDue 209 = .ok (.iastore, 1) := by decide +kernel
theorem dL_keyDue_210 : decode cL_keyDue 210 = .ok (.aload 4, 2) := by decide +kernel
theorem dL_keyDue_212 : decode cL_keyDue 212 = .ok (.bipush 6, 2) := by decide +kernel
theorem dL_keyDue_214 : decode cL_keyDue 214 = .ok (.iload_n 1, 1) := by decide +kernel
theorem dL_keyDue_215 : decode cL_keyDue 215 = .ok (.imul, 1) := by decide +kernel
theorem dL_keyDue_216 : decode cL_keyDue 216 = .ok (.iaload, 1) := by decide +kernel
theorem dL_keyDue_217 : decode cL_keyDue 217 = .ok (.ireturn, 1) := by decide +kernel
theorem dL_keyDue_218 : decode cL_keyDue 218 = .ok (.bipush 6, 2) := by decide +kernel
theorem dL_keyDue_220 : decode cL_keyDue 220 = .ok (.iload_n 1, 1) := by decide +kernel
theorem dL_keyDue_221 : decode cL_keyDue 221 = .ok (.imul, 1) := by decide +kernel
theorem dL_keyDue_222 : decode cL_keyDue 222 = .ok (.istore 7, 2) := by decide +kernel
theorem dL_keyDue_224 : decode cL_keyDue 224 = .ok (.iload 7, 2) := by decide +kernel
theorem dL_keyDue_226 : decode cL_keyDue 226 = .ok (.bipush 6, 2) := by decide +kernel
theorem dL_keyDue_228 : decode cL_keyDue 228 = .ok (.aload_n 3, 1) := by decide +kernel
theorem dL_keyDue_229 : decode cL_keyDue 229 = .ok (.iconst 0, 1) := by decide +kernel
theorem dL_keyDue_230 : decode cL_keyDue 230 = .ok (.iaload, 1) := by decide +kernel
theorem dL_keyDue_231 : decode cL_keyDue 231 = .ok (.imul, 1) := by decide +kernel
theorem dL_keyDue_232 : decode cL_keyDue 232 = .ok (.bipush 6, 2) := by decide +kernel
theorem dL_keyDue_234 : decode cL_keyDue 234 = .ok (.isub, 1) := by decide +kernel
theorem dL_keyDue_235 : decode cL_keyDue 235 = .ok (.if_icmp .ge 22, 3) := by decide +kernel
theorem dL_keyDue_238 : decode cL_keyDue 238 = .ok (.aload 4, 2) := by decide +kernel
theorem dL_keyDue_240 : decode cL_keyDue 240 = .ok (.iload 7, 2) := by decide +kernel
theorem dL_keyDue_242 : decode cL_keyDue 242 = .ok (.aload 4, 2) := by decide +kernel
theorem dL_keyDue_244 : decode cL_keyDue 244 = .ok (.iload 7, 2) := by decide +kernel
theorem dL_keyDue_246 : decode cL_keyDue 246 = .ok (.bipush 6, 2) := by decide +kernel
theorem dL_keyDue_248 : decode cL_keyDue 248 = .ok (.iadd, 1) := by decide +kernel
theorem dL_keyDue_249 : decode cL_keyDue 249 = .ok (.iaload, 1) := by decide +kernel
theorem dL_keyDue_250 : decode cL_keyDue 250 = .ok (.iastore, 1) := by decide +kernel
theorem dL_keyDue_251 : decode cL_keyDue 251 = .ok (.iinc 7 1, 3) := by decide +kernel
theorem dL_keyDue_254 : decode cL_keyDue 254 = .ok (.goto (-30), 3) := by decide +kernel
theorem dL_keyDue_257 : decode cL_keyDue 257 = .ok (.aload_n 3, 1) := by decide +kernel
theorem dL_keyDue_258 : decode cL_keyDue 258 = .ok (.iconst 0, 1) := by decide +kernel
theorem dL_keyDue_259 : decode cL_keyDue 259 = .ok (.dup2, 1) := by decide +kernel
theorem dL_keyDue_260 : decode cL_keyDue 260 = .ok (.iaload, 1) := by decide +kernel
theorem dL_keyDue_261 : decode cL_keyDue 261 = .ok (.iconst 1, 1) := by decide +kernel
theorem dL_keyDue_262 : decode cL_keyDue 262 = .ok (.isub, 1) := by decide +kernel
theorem dL_keyDue_263 : decode cL_keyDue 263 = .ok (.iastore, 1) := by decide +kernel
theorem dL_keyDue_264 : decode cL_keyDue 264 = .ok (.aload_n 3, 1) := by decide +kernel
theorem dL_keyDue_265 : decode cL_keyDue 265 = .ok (.iconst 5, 1) := by decide +kernel
theorem dL_keyDue_266 : decode cL_keyDue 266 = .ok (.dup2, 1) := by decide +kernel
theorem dL_keyDue_267 : decode cL_keyDue 267 = .ok (.iaload, 1) := by decide +kernel
theorem dL_keyDue_268 : decode cL_keyDue 268 = .ok (.iconst 1, 1) := by decide +kernel
theorem dL_keyDue_269 : decode cL_keyDue 269 = .ok (.iadd, 1) := by decide +kernel
theorem dL_keyDue_270 : decode cL_keyDue 270 = .ok (.iastore, 1) := by decide +kernel
theorem dL_keyDue_271 : decode cL_keyDue 271 = .ok (.aload_n 3, 1) := by decide +kernel
theorem dL_keyDue_272 : decode cL_keyDue 272 = .ok (.iconst 0, 1) := by decide +kernel
theorem dL_keyDue_273 : decode cL_keyDue 273 = .ok (.iaload, 1) := by decide +kernel
theorem dL_keyDue_274 : decode cL_keyDue 274 = .ok (.ireturn, 1) := by decide +kernel
theorem dL_keyDue_275 : decode cL_keyDue 275 = .ok (.aload 4, 2) := by decide +kernel
theorem dL_keyDue_277 : decode cL_keyDue 277 = .ok (.bipush 6, 2) := by decide +kernel
theorem dL_keyDue_279 : decode cL_keyDue 279 = .ok (.iload_n 1, 1) := by decide +kernel
theorem dL_keyDue_280 : decode cL_keyDue 280 = .ok (.imul, 1) := by decide +kernel
theorem dL_keyDue_281 : decode cL_keyDue 281 = .ok (.iconst 1, 1) := by decide +kernel
theorem dL_keyDue_282 : decode cL_keyDue 282 = .ok (.iadd, 1) := by decide +kernel
theorem dL_keyDue_283 : decode cL_keyDue 283 = .ok (.iload_n 2, 1) := by decide +kernel
theorem dL_keyDue_284 : decode cL_keyDue 284 = .ok (.iastore, 1) := by decide +kernel
theorem dL_keyDue_285 : decode cL_keyDue 285 = .ok (.iload 6, 2) := by decide +kernel
theorem dL_keyDue_287 : decode cL_keyDue 287 = .ok (.ireturn, 1) := by decide +kernel
theorem dL_keyDue_288 : decode cL_keyDue 288 = .ok (.iload_n 1, 1) := by decide +kernel
theorem dL_keyDue_289 : decode cL_keyDue 289 = .ok (.iload_n 2, 1) := by decide +kernel
theorem dL_keyDue_290 : decode cL_keyDue 290 = .ok (.aload_n 3, 1) := by decide +kernel
theorem dL_keyDue_291 : decode cL_keyDue 291 = .ok (.aload 4, 2) := by decide +kernel
theorem dL_keyDue_293 : decode cL_keyDue 293 = .ok (.aload 5, 2) := by decide +kernel
theorem dL_keyDue_295 : decode cL_keyDue 295 = .ok (.invokestatic 160, 3) := by decide +kernel
theorem dL_keyDue_298 : decode cL_keyDue 298 = .ok (.ireturn, 1) := by decide +kernel
theorem dL_keyDue_299 : decode cL_keyDue 299 = .ok (.iload_n 0, 1) := by decide +kernel
theorem dL_keyDue_300 : decode cL_keyDue 300 = .ok (.iconst 4, 1) := by decide +kernel
theorem dL_keyDue_301 : decode cL_keyDue 301 = .ok (.if_icmp .ne 7, 3) := by decide +kernel
theorem dL_keyDue_304 : decode cL_keyDue 304 = .ok (.iconst 1, 1) := by decide +kernel
theorem dL_keyDue_305 : decode cL_keyDue 305 = .ok (.goto 4, 3) := by decide +kernel
theorem dL_keyDue_308 : decode cL_keyDue 308 = .ok (.iconst 0, 1) := by decide +kernel
theorem dL_keyDue_309 : decode cL_keyDue 309 = .ok (.aload 4, 2) := by decide +kernel
theorem dL_keyDue_311 : decode cL_keyDue 311 = .ok (.bipush 6, 2) := by decide +kernel
theorem dL_keyDue_313 : decode cL_keyDue 313 = .ok (.iload_n 1, 1) := by decide +kernel
theorem dL_keyDue_314 : decode cL_keyDue 314 = .ok (.imul, 1) := by decide +kernel
theorem dL_keyDue_315 : decode cL_keyDue 315 = .ok (.iconst 2, 1) := by decide +kernel
theorem dL_keyDue_316 : decode cL_keyDue 316 = .ok (.iadd, 1) := by decide +kernel
theorem dL_keyDue_317 : decode cL_keyDue 317 = .ok (.iaload, 1) := by decide +kernel
theorem dL_keyDue_318 : decode cL_keyDue 318 = .ok (.iconst 1, 1) := by decide +kernel
theorem dL_keyDue_319 : decode cL_keyDue 319 = .ok (.if_icmp .ne 7, 3) := by decide +kernel
theorem dL_keyDue_322 : decode cL_keyDue 322 = .ok (.iconst 1, 1) := by decide +kernel
theorem dL_keyDue_323 : decode cL_keyDue 323 = .ok (.goto 4, 3) := by decide +kernel
theorem dL_keyDue_326 : decode cL_keyDue 326 = .ok (.iconst 0, 1) := by decide +kernel
theorem dL_keyDue_327 : decode cL_keyDue 327 = .ok (.if_icmp .ne 6, 3) := by decide +kernel
theorem dL_keyDue_330 : decode cL_keyDue 330 = .ok (.bipush (-103), 2) := by decide +kernel
theorem dL_keyDue_332 : decode cL_keyDue 332 = .ok (.ireturn, 1) := by decide +kernel
theorem dL_keyDue_333 : decode cL_keyDue 333 = .ok (.aload 4, 2) := by decide +kernel
theorem dL_keyDue_335 : decode cL_keyDue 335 = .ok (.bipush 6, 2) := by decide +kernel
theorem dL_keyDue_337 : decode cL_keyDue 337 = .ok (.iload_n 1, 1) := by decide +kernel
theorem dL_keyDue_338 : decode cL_keyDue 338 = .ok (.imul, 1) := by decide +kernel
theorem dL_keyDue_339 : decode cL_keyDue 339 = .ok (.iconst 2, 1) := by decide +kernel
theorem dL_keyDue_340 : decode cL_keyDue 340 = .ok (.iadd, 1) := by decide +kernel
theorem dL_keyDue_341 : decode cL_keyDue 341 = .ok (.dup2, 1) := by decide +kernel
theorem dL_keyDue_342 : decode cL_keyDue 342 = .ok (.iaload, 1) := by decide +kernel
theorem dL_keyDue_343 : decode cL_keyDue 343 = .ok (.iconst 1, 1) := by decide +kernel
theorem dL_keyDue_344 : decode cL_keyDue 344 = .ok (.ixor, 1) := by decide +kernel
theorem dL_keyDue_345 : decode cL_keyDue 345 = .ok (.iastore, 1) := by decide +kernel
theorem dL_keyDue_346 : decode cL_keyDue 346 = .ok (.aload 4, 2) := by decide +kernel
theorem dL_keyDue_348 : decode cL_keyDue 348 = .ok (.bipush 6, 2) := by decide +kernel
theorem dL_keyDue_350 : decode cL_keyDue 350 = .ok (.iload_n 1, 1) := by decide +kernel
theorem dL_keyDue_351 : decode cL_keyDue 351 = .ok (.imul, 1) := by decide +kernel
theorem dL_keyDue_352 : decode cL_keyDue 352 = .ok (.iaload, 1) := by decide +kernel
theorem dL_keyDue_353 : decode cL_keyDue 353 = .ok (.aload 5, 2) := by decide +kernel
theorem dL_keyDue_355 : decode cL_keyDue 355 = .ok (.invokestatic 164, 3) := by decide +kernel
theorem dL_keyDue_358 : decode cL_keyDue 358 = .ok (.invokestatic 168, 3) := by decide +kernel
theorem dL_keyDue_361 : decode cL_keyDue 361 = .ok (.ireturn, 1) := by decide +kernel
theorem dL_lockDue_0 : decode cL_lockDue 0 = .ok (.iload_n 0, 1) := by decide +kernel
theorem dL_lockDue_1 : decode cL_lockDue 1 = .ok (.bipush 10, 2) := by decide +kernel
theorem dL_lockDue_3 : decode cL_lockDue 3 = .ok (.if_icmp .ne 21, 3) := by decide +kernel
theorem dL_lockDue_6 : decode cL_lockDue 6 = .ok (.aload_n 3, 1) := by decide +kernel
theorem dL_lockDue_7 : decode cL_lockDue 7 = .ok (.bipush 6, 2) := by decide +kernel
theorem dL_lockDue_9 : decode cL_lockDue 9 = .ok (.iload_n 1, 1) := by decide +kernel
theorem dL_lockDue_10 : decode cL_lockDue 10 = .ok (.iadd, 1) := by decide +kernel
theorem dL_lockDue_11 : decode cL_lockDue 11 = .ok (.iaload, 1) := by decide +kernel
theorem dL_lockDue_12 : decode cL_lockDue 12 = .ok (.istore 6, 2) := by decide +kernel
theorem dL_lockDue_14 : decode cL_lockDue 14 = .ok (.aload_n 3, 1) := by decide +kernel
theorem dL_lockDue_15 : decode cL_lockDue 15 = .ok (.bipush 6, 2) := by decide +kernel
theorem dL_lockDue_17 : decode cL_lockDue 17 = .ok (.iload_n 1, 1) := by decide +kernel
theorem dL_lockDue_18 : decode cL_lockDue 18 = .ok (.iadd, 1) := by decide +kernel
theorem dL_lockDue_19 : decode cL_lockDue 19 = .ok (.iload_n 2, 1) := by decide +kernel
theorem dL_lockDue_20 : decode cL_lockDue 20 = .ok (.iastore, 1) := by decide +kernel
theorem dL_lockDue_21 : decode cL_lockDue 21 = .ok (.iload 6, 2) := by decide +kernel
theorem dL_lockDue_23 : decode cL_lockDue 23 = .ok (.ireturn, 1) := by decide +kernel
theorem dL_lockDue_24 : decode cL_lockDue 24 = .ok (.aload 5, 2) := by decide +kernel
theorem dL_lockDue_26 : decode cL_lockDue 26 = .ok (.iconst 4, 1) := by decide +kernel
theorem dL_lockDue_27 : decode cL_lockDue 27 = .ok (.iload_n 1, 1) := by decide +kernel
theorem dL_lockDue_28 : decode cL_lockDue 28 = .ok (.imul, 1) := by decide +kernel
theorem dL_lockDue_29 : decode cL_lockDue 29 = .ok (.iaload, 1) := by decide +kernel
theorem dL_lockDue_30 : decode cL_lockDue 30 = .ok (.istore 6, 2) := by decide +kernel
theorem dL_lockDue_32 : decode cL_lockDue 32 = .ok (.iload_n 0, 1) := by decide +kernel
theorem dL_lockDue_33 : decode cL_lockDue 33 = .ok (.bipush 6, 2) := by decide +kernel
theorem dL_lockDue_35 : decode cL_lockDue 35 = .ok (.if_icmp .ne 13, 3) := by decide +kernel
theorem dL_lockDue_38 : decode cL_lockDue 38 = .ok (.aload 5, 2) := by decide +kernel
theorem dL_lockDue_40 : decode cL_lockDue 40 = .ok (.iconst 4, 1) := by decide +kernel
theorem dL_lockDue_41 : decode cL_lockDue 41 = .ok (.iload_n 1, 1) := by decide +kernel
theorem dL_lockDue_42 : decode cL_lockDue 42 = .ok (.imul, 1) := by decide +kernel
theorem dL_lockDue_43 : decode cL_lockDue 43 = .ok (.iload_n 2, 1) := by decide +kernel
theorem dL_lockDue_44 : decode cL_lockDue 44 = .ok (.iastore, 1) := by decide +kernel
theorem dL_lockDue_45 : decode cL_lockDue 45 = .ok (.iload 6, 2) := by decide +kernel
theorem dL_lockDue_47 : decode cL_lockDue 47 = .ok (.ireturn, 1) := by decide +kernel
theorem dL_lockDue_48 : decode cL_lockDue 48 = .ok (.iload 6, 2) := by decide +kernel
theorem dL_lockDue_50 : decode cL_lockDue 50 = .ok (.ifCond .ge 6, 3) := by decide +kernel
theorem dL_lockDue_53 : decode cL_lockDue 53 = .ok (.bipush (-103), 2) := by decide +kernel
theorem dL_lockDue_55 : decode cL_lockDue 55 = .ok (.ireturn, 1) := by decide +kernel
theorem dL_lockDue_56 : decode cL_lockDue 56 = .ok (.iload_n 0, 1) := by decide +kernel
theorem dL_lockDue_57 : decode cL_lockDue 57 = .ok (.bipush 7, 2) := by decide +kernel
theorem dL_lockDue_59 : decode cL_lockDue 59 = .ok (.if_icmp .ne 25, 3) := by decide +kernel
theorem dL_lockDue_62 : decode cL_lockDue 62 = .ok (.aload 5, 2) := by decide +kernel
theorem dL_lockDue_64 : decode cL_lockDue 64 = .ok (.iconst 4, 1) := by decide +kernel
theorem dL_lockDue_65 : decode cL_lockDue 65 = .ok (.iload_n 1, 1) := by decide +kernel
theorem dL_lockDue_66 : decode cL_lockDue 66 = .ok (.imul, 1) := by decide +kernel
theorem dL_lockDue_67 : decode cL_lockDue 67 = .ok (.iconst 1, 1) := by decide +kernel
theorem dL_lockDue_68 : decode cL_lockDue 68 = .ok (.iadd, 1) := by decide +kernel
theorem dL_lockDue_69 : decode cL_lockDue 69 = .ok (.iaload, 1) := by decide +kernel
theorem dL_lockDue_70 : decode cL_lockDue 70 = .ok (.istore 6, 2) := by decide +kernel
theorem dL_lockDue_72 : decode cL_lockDue 72 = .ok (.aload 5, 2) := by decide +kernel
theorem dL_lockDue_74 : decode cL_lockDue 74 = .ok (.iconst 4, 1) := by decide +kernel
theorem dL_lockDue_75 : decode cL_lockDue 75 = .ok (.iload_n 1, 1) := by decide +kernel
theorem dL_lockDue_76 : decode cL_lockDue 76 = .ok (.imul, 1) := by decide +kernel
theorem dL_lockDue_77 : decode cL_lockDue 77 = .ok (.iconst 1, 1) := by decide +kernel
theorem dL_lockDue_78 : decode cL_lockDue 78 = .ok (.iadd, 1) := by decide +kernel
theorem dL_lockDue_79 : decode cL_lockDue 79 = .ok (.iload_n 2, 1) := by decide +kernel
theorem dL_lockDue_80 : decode cL_lockDue 80 = .ok (.iastore, 1) := by decide +kernel
theorem dL_lockDue_81 : decode cL_lockDue 81 = .ok (.iload 6, 2) := by decide +kernel
theorem dL_lockDue_83 : decode cL_lockDue 83 = .ok (.ireturn, 1) := by decide +kernel
theorem dL_lockDue_84 : decode cL_lockDue 84 = .ok (.iconst 0, 1) := by decide +kernel
theorem dL_lockDue_85 : decode cL_lockDue 85 = .ok (.istore 7, 2) := by decide +kernel
theorem dL_lockDue_87 : decode cL_lockDue 87 = .ok (.iconst 0, 1) := by decide +kernel
theorem dL_lockDue_88 : decode cL_lockDue 88 = .ok (.istore 8, 2) := by decide +kernel
theorem dL_lockDue_90 : decode cL_lockDue 90 = .ok (.iload 8, 2) := by decide +kernel
theorem dL_lockDue_92 : decode cL_lockDue 92 = .ok (.aload_n 3, 1) := by decide +kernel
theorem dL_lockDue_93 : decode cL_lockDue 93 = .ok (.iconst 0, 1) := by decide +kernel
theorem dL_lockDue_94 : decode cL_lockDue 94 = .ok (.iaload, 1) := by decide +kernel
theorem dL_lockDue_95 : decode cL_lockDue 95 = .ok (.if_icmp .ge 36, 3) := by decide +kernel
theorem dL_lockDue_98 : decode cL_lockDue 98 = .ok (.iload 7, 2) := by decide +kernel
theorem dL_lockDue_100 : decode cL_lockDue 100 = .ok (.aload 4, 2) := by decide +kernel
theorem dL_lockDue_102 : decode cL_lockDue 102 = .ok (.bipush 6, 2) := by decide +kernel
theorem dL_lockDue_104 : decode cL_lockDue 104 = .ok (.iload 8, 2) := by decide +kernel
theorem dL_lockDue_106 : decode cL_lockDue 106 = .ok (.imul, 1) := by decide +kernel
theorem dL_lockDue_107 : decode cL_lockDue 107 = .ok (.iaload, 1) := by decide +kernel
theorem dL_lockDue_108 : decode cL_lockDue 108 = .ok (.iload_n 1, 1) := by decide +kernel
theorem dL_lockDue_109 : decode cL_lockDue 109 = .ok (.aload 5, 2) := by decide +kernel
theorem dL_lockDue_111 : decode cL_lockDue 111 = .ok (.invokestatic 106, 3) := by decide +kernel
theorem dL_lockDue_114 : decode cL_lockDue 114 = .ok (.ifCond .eq 7, 3) := by decide +kernel
theorem dL_lockDue_117 : decode cL_lockDue 117 = .ok (.iconst 1, 1) := by decide +kernel
theorem dL_lockDue_118 : decode cL_lockDue 118 = .ok (.goto 4, 3) := by decide +kernel
theorem dL_lockDue_121 : decode cL_lockDue 121 = .ok (.iconst 0, 1) := by decide +kernel
theorem dL_lockDue_122 : decode cL_lockDue 122 = .ok (.iadd, 1) := by decide +kernel
theorem dL_lockDue_123 : decode cL_lockDue 123 = .ok (.istore 7, 2) := by decide +kernel
theorem dL_lockDue_125 : decode cL_lockDue 125 = .ok (.iinc 8 1, 3) := by decide +kernel
theorem dL_lockDue_128 : decode cL_lockDue 128 = .ok (.goto (-38), 3) := by decide +kernel
theorem dL_lockDue_131 : decode cL_lockDue 131 = .ok (.iconst 0, 1) := by decide +kernel
theorem dL_lockDue_132 : decode cL_lockDue 132 = .ok (.istore 8, 2) := by decide +kernel
theorem dL_lockDue_134 : decode cL_lockDue 134 = .ok (.iload 8, 2) := by decide +kernel
theorem dL_lockDue_136 : decode cL_lockDue 136 = .ok (.iconst 4, 1) := by decide +kernel
theorem dL_lockDue_137 : decode cL_lockDue 137 = .ok (.if_icmp .ge 29, 3) := by decide +kernel
theorem dL_lockDue_140 : decode cL_lockDue 140 = .ok (.aload 5, 2) := by decide +kernel
theorem dL_lockDue_142 : decode cL_lockDue 142 = .ok (.iconst 4, 1) := by decide +kernel
theorem dL_lockDue_143 : decode cL_lockDue 143 = .ok (.iload_n 1, 1) := by decide +kernel
theorem dL_lockDue_144 : decode cL_lockDue 144 = .ok (.imul, 1) := by decide +kernel
theorem dL_lockDue_145 : decode cL_lockDue 145 = .ok (.iload 8, 2) := by decide +kernel
theorem dL_lockDue_147 : decode cL_lockDue 147 = .ok (.iadd, 1) := by decide +kernel
theorem dL_lockDue_148 : decode cL_lockDue 148 = .ok (.iload 8, 2) := by decide +kernel
theorem dL_lockDue_150 : decode cL_lockDue 150 = .ok (.iconst 2, 1) := by decide +kernel
theorem dL_lockDue_151 : decode cL_lockDue 151 = .ok (.if_icmp .ge 7, 3) := by decide +kernel
theorem dL_lockDue_154 : decode cL_lockDue 154 = .ok (.iconst (-1), 1) := by decide +kernel
theorem dL_lockDue_155 : decode cL_lockDue 155 = .ok (.goto 4, 3) := by decide +kernel
theorem dL_lockDue_158 : decode cL_lockDue 158 = .ok (.iconst 0, 1) := by decide +kernel
theorem dL_lockDue_159 : decode cL_lockDue 159 = .ok (.iastore, 1) := by decide +kernel
theorem dL_lockDue_160 : decode cL_lockDue 160 = .ok (.iinc 8 1, 3) := by decide +kernel
theorem dL_lockDue_163 : decode cL_lockDue 163 = .ok (.goto (-29), 3) := by decide +kernel
theorem dL_lockDue_166 : decode cL_lockDue 166 = .ok (.iload 7, 2) := by decide +kernel
theorem dL_lockDue_168 : decode cL_lockDue 168 = .ok (.ireturn, 1) := by decide +kernel
theorem dL_isKey_0 : decode cL_isKey 0 = .ok (.iconst 0, 1) := by decide +kernel
theorem dL_isKey_1 : decode cL_isKey 1 = .ok (.istore 5, 2) := by decide +kernel
theorem dL_isKey_3 : decode cL_isKey 3 = .ok (.iconst 0, 1) := by decide +kernel
theorem dL_isKey_4 : decode cL_isKey 4 = .ok (.istore 6, 2) := by decide +kernel
theorem dL_isKey_6 : decode cL_isKey 6 = .ok (.iconst 0, 1) := by decide +kernel
theorem dL_isKey_7 : decode cL_isKey 7 = .ok (.istore 7, 2) := by decide +kernel
theorem dL_isKey_9 : decode cL_isKey 9 = .ok (.iload 7, 2) := by decide +kernel
theorem dL_isKey_11 : decode cL_isKey 11 = .ok (.aload_n 2, 1) := by decide +kernel
theorem dL_isKey_12 : decode cL_isKey 12 = .ok (.iconst 0, 1) := by decide +kernel
theorem dL_isKey_13 : decode cL_isKey 13 = .ok (.iaload, 1) := by decide +kernel
theorem dL_isKey_14 : decode cL_isKey 14 = .ok (.if_icmp .ge 65, 3) := by decide +kernel
theorem dL_isKey_17 : decode cL_isKey 17 = .ok (.aload_n 3, 1) := by decide +kernel
theorem dL_isKey_18 : decode cL_isKey 18 = .ok (.bipush 6, 2) := by decide +kernel
theorem dL_isKey_20 : decode cL_isKey 20 = .ok (.iload_n 1, 1) := by decide +kernel
theorem dL_isKey_21 : decode cL_isKey 21 = .ok (.imul, 1) := by decide +kernel
theorem dL_isKey_22 : decode cL_isKey 22 = .ok (.iaload, 1) := by decide +kernel
theorem dL_isKey_23 : decode cL_isKey 23 = .ok (.aload_n 3, 1) := by decide +kernel
theorem dL_isKey_24 : decode cL_isKey 24 = .ok (.bipush 6, 2) := by decide +kernel
theorem dL_isKey_26 : decode cL_isKey 26 = .ok (.iload 7, 2) := by decide +kernel
theorem dL_isKey_28 : decode cL_isKey 28 = .ok (.imul, 1) := by decide +kernel
theorem dL_isKey_29 : decode cL_isKey 29 = .ok (.iaload, 1) := by decide +kernel
theorem dL_isKey_30 : decode cL_isKey 30 = .ok (.invokestatic 92, 3) := by decide +kernel
theorem dL_isKey_33 : decode cL_isKey 33 = .ok (.istore 8, 2) := by decide +kernel
theorem dL_isKey_35 : decode cL_isKey 35 = .ok (.iload 5, 2) := by decide +kernel
theorem dL_isKey_37 : decode cL_isKey 37 = .ok (.iload 8, 2) := by decide +kernel
theorem dL_isKey_39 : decode cL_isKey 39 = .ok (.iconst 4, 1) := by decide +kernel
theorem dL_isKey_40 : decode cL_isKey 40 = .ok (.if_icmp .ne 10, 3) := by decide +kernel
theorem dL_isKey_43 : decode cL_isKey 43 = .ok (.iconst 1, 1) := by decide +kernel
theorem dL_isKey_44 : decode cL_isKey 44 = .ok (.iload 7, 2) := by decide +kernel
theorem dL_isKey_46 : decode cL_isKey 46 = .ok (.ishl, 1) := by decide +kernel
theorem dL_isKey_47 : decode cL_isKey 47 = .ok (.goto 4, 3) := by decide +kernel
theorem dL_isKey_50 : decode cL_isKey 50 = .ok (.iconst 0, 1) := by decide +kernel
theorem dL_isKey_51 : decode cL_isKey 51 = .ok (.ior, 1) := by decide +kernel
theorem dL_isKey_52 : decode cL_isKey 52 = .ok (.istore 5, 2) := by decide +kernel
theorem dL_isKey_54 : decode cL_isKey 54 = .ok (.iload 6, 2) := by decide +kernel
theorem dL_isKey_56 : decode cL_isKey 56 = .ok (.iload 8, 2) := by decide +kernel
theorem dL_isKey_58 : decode cL_isKey 58 = .ok (.iconst 5, 1) := by decide +kernel
theorem dL_isKey_59 : decode cL_isKey 59 = .ok (.if_icmp .ne 10, 3) := by decide +kernel
theorem dL_isKey_62 : decode cL_isKey 62 = .ok (.iconst 1, 1) := by decide +kernel
theorem dL_isKey_63 : decode cL_isKey 63 = .ok (.iload 7, 2) := by decide +kernel
theorem dL_isKey_65 : decode cL_isKey 65 = .ok (.ishl, 1) := by decide +kernel
theorem dL_isKey_66 : decode cL_isKey 66 = .ok (.goto 4, 3) := by decide +kernel
theorem dL_isKey_69 : decode cL_isKey 69 = .ok (.iconst 0, 1) := by decide +kernel
theorem dL_isKey_70 : decode cL_isKey 70 = .ok (.ior, 1) := by decide +kernel
theorem dL_isKey_71 : decode cL_isKey 71 = .ok (.istore 6, 2) := by decide +kernel
theorem dL_isKey_73 : decode cL_isKey 73 = .ok (.iinc 7 1, 3) := by decide +kernel
theorem dL_isKey_76 : decode cL_isKey 76 = .ok (.goto (-67), 3) := by decide +kernel
theorem dL_isKey_79 : decode cL_isKey 79 = .ok (.aload_n 0, 1) := by decide +kernel
theorem dL_isKey_80 : decode cL_isKey 80 = .ok (.iload_n 1, 1) := by decide +kernel
theorem dL_isKey_81 : decode cL_isKey 81 = .ok (.iconst 0, 1) := by decide +kernel
theorem dL_isKey_82 : decode cL_isKey 82 = .ok (.invokestatic 117, 3) := by decide +kernel
theorem dL_isKey_85 : decode cL_isKey 85 = .ok (.aload_n 3, 1) := by decide +kernel
theorem dL_isKey_86 : decode cL_isKey 86 = .ok (.bipush 6, 2) := by decide +kernel
theorem dL_isKey_88 : decode cL_isKey 88 = .ok (.iload_n 1, 1) := by decide +kernel
theorem dL_isKey_89 : decode cL_isKey 89 = .ok (.imul, 1) := by decide +kernel
theorem dL_isKey_90 : decode cL_isKey 90 = .ok (.iaload, 1) := by decide +kernel
theorem dL_isKey_91 : decode cL_isKey 91 = .ok (.if_icmp .ne 156, 3) := by decide +kernel
theorem dL_isKey_94 : decode cL_isKey 94 = .ok (.aload_n 0, 1) := by decide +kernel
theorem dL_isKey_95 : decode cL_isKey 95 = .ok (.iload_n 1, 1) := by decide +kernel
theorem dL_isKey_96 : decode cL_isKey 96 = .ok (.iconst 1, 1) := by decide +kernel
theorem dL_isKey_97 : decode cL_isKey 97 = .ok (.invokestatic 117, 3) := by decide +kernel
theorem dL_isKey_100 : decode cL_isKey 100 = .ok (.aload_n 3, 1) := by decide +kernel
theorem dL_isKey_101 : decode cL_isKey 101 = .ok (.bipush 6, 2) := by decide +kernel
theorem dL_isKey_103 : decode cL_isKey 103 = .ok (.iload_n 1, 1) := by decide +kernel
theorem dL_isKey_104 : decode cL_isKey 104 = .ok (.imul, 1) := by decide +kernel
theorem dL_isKey_105 : decode cL_isKey 105 = .ok (.iaload, 1) := by decide +kernel
theorem dL_isKey_106 : decode cL_isKey 106 = .ok (.invokestatic 154, 3) := by decide +kernel
theorem dL_isKey_109 : decode cL_isKey 109 = .ok (.if_icmp .ne 138, 3) := by decide +kernel
theorem dL_isKey_112 : decode cL_isKey 112 = .ok (.aload_n 0, 1) := by decide +kernel
theorem dL_isKey_113 : decode cL_isKey 113 = .ok (.iload_n 1, 1) := by decide +kernel
theorem dL_isKey_114 : decode cL_isKey 114 = .ok (.iconst 2, 1) := by decide +kernel
theorem dL_isKey_115 : decode cL_isKey 115 = .ok (.invokestatic 117, 3) := by decide +kernel
theorem dL_isKey_118 : decode cL_isKey 118 = .ok (.aload_n 3, 1) := by decide +kernel
theorem dL_isKey_119 : decode cL_isKey 119 = .ok (.bipush 6, 2) := by decide +kernel
theorem dL_isKey_121 : decode cL_isKey 121 = .ok (.iload_n 1, 1) := by decide +kernel
theorem dL_isKey_122 : decode cL_isKey 122 = .ok (.imul, 1) := by decide +kernel
theorem dL_isKey_123 : decode cL_isKey 123 = .ok (.iconst 3, 1) := by decide +kernel
theorem dL_isKey_124 : decode cL_isKey 124 = .ok (.iadd, 1) := by decide +kernel
theorem dL_isKey_125 : decode cL_isKey 125 = .ok (.iaload, 1) := by decide +kernel
theorem dL_isKey_126 : decode cL_isKey 126 = .ok (.if_icmp .ne 121, 3) := by decide +kernel
theorem dL_isKey_129 : decode cL_isKey 129 = .ok (.aload_n 0, 1) := by decide +kernel
theorem dL_isKey_130 : decode cL_isKey 130 = .ok (.iload_n 1, 1) := by decide +kernel
theorem dL_isKey_131 : decode cL_isKey 131 = .ok (.iconst 3, 1) := by decide +kernel
theorem dL_isKey_132 : decode cL_isKey 132 = .ok (.invokestatic 117, 3) := by decide +kernel
theorem dL_isKey_135 : decode cL_isKey 135 = .ok (.aload_n 3, 1) := by decide +kernel
theorem dL_isKey_136 : decode cL_isKey 136 = .ok (.bipush 6, 2) := by decide +kernel
theorem dL_isKey_138 : decode cL_isKey 138 = .ok (.iload_n 1, 1) := by decide +kernel
theorem dL_isKey_139 : decode cL_isKey 139 = .ok (.imul, 1) := by decide +kernel
theorem dL_isKey_140 : decode cL_isKey 140 = .ok (.iconst 4, 1) := by decide +kernel
theorem dL_isKey_141 : decode cL_isKey 141 = .ok (.iadd, 1) := by decide +kernel
theorem dL_isKey_142 : decode cL_isKey 142 = .ok (.iaload, 1) := by decide +kernel
theorem dL_isKey_143 : decode cL_isKey 143 = .ok (.if_icmp .ne 104, 3) := by decide +kernel
theorem dL_isKey_146 : decode cL_isKey 146 = .ok (.aload_n 0, 1) := by decide +kernel
theorem dL_isKey_147 : decode cL_isKey 147 = .ok (.iload_n 1, 1) := by decide +kernel
theorem dL_isKey_148 : decode cL_isKey 148 = .ok (.iconst 4, 1) := by decide +kernel
theorem dL_isKey_149 : decode cL_isKey 149 = .ok (.invokestatic 117, 3) := by decide +kernel
theorem dL_isKey_152 : decode cL_isKey 152 = .ok (.aload_n 3, 1) := by decide +kernel
theorem dL_isKey_153 : decode cL_isKey 153 = .ok (.bipush 6, 2) := by decide +kernel
theorem dL_isKey_155 : decode cL_isKey 155 = .ok (.iload_n 1, 1) := by decide +kernel
theorem dL_isKey_156 : decode cL_isKey 156 = .ok (.imul, 1) := by decide +kernel
theorem dL_isKey_157 : decode cL_isKey 157 = .ok (.iconst 1, 1) := by decide +kernel
theorem dL_isKey_158 : decode cL_isKey 158 = .ok (.iadd, 1) := by decide +kernel
theorem dL_isKey_159 : decode cL_isKey 159 = .ok (.iaload, 1) := by decide +kernel
theorem dL_isKey_160 : decode cL_isKey 160 = .ok (.if_icmp .ne 87, 3) := by decide +kernel
theorem dL_isKey_163 : decode cL_isKey 163 = .ok (.aload_n 0, 1) := by decide +kernel
theorem dL_isKey_164 : decode cL_isKey 164 = .ok (.iload_n 1, 1) := by decide +kernel
theorem dL_isKey_165 : decode cL_isKey 165 = .ok (.iconst 5, 1) := by decide +kernel
theorem dL_isKey_166 : decode cL_isKey 166 = .ok (.invokestatic 117, 3) := by decide +kernel
theorem dL_isKey_169 : decode cL_isKey 169 = .ok (.aload_n 3, 1) := by decide +kernel
theorem dL_isKey_170 : decode cL_isKey 170 = .ok (.bipush 6, 2) := by decide +kernel
theorem dL_isKey_172 : decode cL_isKey 172 = .ok (.iload_n 1, 1) := by decide +kernel
theorem dL_isKey_173 : decode cL_isKey 173 = .ok (.imul, 1) := by decide +kernel
theorem dL_isKey_174 : decode cL_isKey 174 = .ok (.iconst 2, 1) := by decide +kernel
theorem dL_isKey_175 : decode cL_isKey 175 = .ok (.iadd, 1) := by decide +kernel
theorem dL_isKey_176 : decode cL_isKey 176 = .ok (.iaload, 1) := by decide +kernel
theorem dL_isKey_177 : decode cL_isKey 177 = .ok (.if_icmp .ne 70, 3) := by decide +kernel
theorem dL_isKey_180 : decode cL_isKey 180 = .ok (.aload_n 0, 1) := by decide +kernel
theorem dL_isKey_181 : decode cL_isKey 181 = .ok (.iload_n 1, 1) := by decide +kernel
theorem dL_isKey_182 : decode cL_isKey 182 = .ok (.bipush 6, 2) := by decide +kernel
theorem dL_isKey_184 : decode cL_isKey 184 = .ok (.invokestatic 117, 3) := by decide +kernel
theorem dL_isKey_187 : decode cL_isKey 187 = .ok (.aload_n 3, 1) := by decide +kernel
theorem dL_isKey_188 : decode cL_isKey 188 = .ok (.bipush 6, 2) := by decide +kernel
theorem dL_isKey_190 : decode cL_isKey 190 = .ok (.iload_n 1, 1) := by decide +kernel
theorem dL_isKey_191 : decode cL_isKey 191 = .ok (.imul, 1) := by decide +kernel
theorem dL_isKey_192 : decode cL_isKey 192 = .ok (.iaload, 1) := by decide +kernel
theorem dL_isKey_193 : decode cL_isKey 193 = .ok (.aload 4, 2) := by decide +kernel
theorem dL_isKey_195 : decode cL_isKey 195 = .ok (.invokestatic 164, 3) := by decide +kernel
theorem dL_isKey_198 : decode cL_isKey 198 = .ok (.if_icmp .ne 49, 3) := by decide +kernel
theorem dL_isKey_201 : decode cL_isKey 201 = .ok (.aload_n 0, 1) := by decide +kernel
theorem dL_isKey_202 : decode cL_isKey 202 = .ok (.iload_n 1, 1) := by decide +kernel
theorem dL_isKey_203 : decode cL_isKey 203 = .ok (.bipush 7, 2) := by decide +kernel
theorem dL_isKey_205 : decode cL_isKey 205 = .ok (.invokestatic 117, 3) := by decide +kernel
theorem dL_isKey_208 : decode cL_isKey 208 = .ok (.iload 5, 2) := by decide +kernel
theorem dL_isKey_210 : decode cL_isKey 210 = .ok (.if_icmp .ne 37, 3) := by decide +kernel
theorem dL_isKey_213 : decode cL_isKey 213 = .ok (.aload_n 0, 1) := by decide +kernel
theorem dL_isKey_214 : decode cL_isKey 214 = .ok (.iload_n 1, 1) := by decide +kernel
theorem dL_isKey_215 : decode cL_isKey 215 = .ok (.bipush 8, 2) := by decide +kernel
theorem dL_isKey_217 : decode cL_isKey 217 = .ok (.invokestatic 117, 3) := by decide +kernel
theorem dL_isKey_220 : decode cL_isKey 220 = .ok (.iload 6, 2) := by decide +kernel
theorem dL_isKey_222 : decode cL_isKey 222 = .ok (.if_icmp .ne 25, 3) := by decide +kernel
theorem dL_isKey_225 : decode cL_isKey 225 = .ok (.aload_n 0, 1) := by decide +kernel
theorem dL_isKey_226 : decode cL_isKey 226 = .ok (.iload_n 1, 1) := by decide +kernel
theorem dL_isKey_227 : decode cL_isKey 227 = .ok (.bipush 9, 2) := by decide +kernel
theorem dL_isKey_229 : decode cL_isKey 229 = .ok (.invokestatic 117, 3) := by decide +kernel
theorem dL_isKey_232 : decode cL_isKey 232 = .ok (.aload_n 3, 1) := by decide +kernel
theorem dL_isKey_233 : decode cL_isKey 233 = .ok (.bipush 6, 2) := by decide +kernel
theorem dL_isKey_235 : decode cL_isKey 235 = .ok (.iload_n 1, 1) := by decide +kernel
theorem dL_isKey_236 : decode cL_isKey 236 = .ok (.imul, 1) := by decide +kernel
theorem dL_isKey_237 : decode cL_isKey 237 = .ok (.iconst 5, 1) := by decide +kernel
theorem dL_isKey_238 : decode cL_isKey 238 = .ok (.iadd, 1) := by decide +kernel
theorem dL_isKey_239 : decode cL_isKey 239 = .ok (.iaload, 1) := by decide +kernel
theorem dL_isKey_240 : decode cL_isKey 240 = .ok (.if_icmp .ne 7, 3) := by decide +kernel
theorem dL_isKey_243 : decode cL_isKey 243 = .ok (.iconst 1, 1) := by decide +kernel
theorem dL_isKey_244 : decode cL_isKey 244 = .ok (.goto 4, 3) := by decide +kernel
theorem dL_isKey_247 : decode cL_isKey 247 = .ok (.iconst 0, 1) := by decide +kernel
theorem dL_isKey_248 : decode cL_isKey 248 = .ok (.istore 7, 2) := by decide +kernel
theorem dL_isKey_250 : decode cL_isKey 250 = .ok (.iconst 0, 1) := by decide +kernel
theorem dL_isKey_251 : decode cL_isKey 251 = .ok (.istore 8, 2) := by decide +kernel
theorem dL_isKey_253 : decode cL_isKey 253 = .ok (.iload 8, 2) := by decide +kernel
theorem dL_isKey_255 : decode cL_isKey 255 = .ok (.iconst 4, 1) := by decide +kernel
theorem dL_isKey_256 : decode cL_isKey 256 = .ok (.if_icmp .ge 39, 3) := by decide +kernel
theorem dL_isKey_259 : decode cL_isKey 259 = .ok (.iload 7, 2) := by decide +kernel
theorem dL_isKey_261 : decode cL_isKey 261 = .ok (.ifCond .eq 25, 3) := by decide +kernel
theorem dL_isKey_264 : decode cL_isKey 264 = .ok (.aload_n 0, 1) := by decide +kernel
theorem dL_isKey_265 : decode cL_isKey 265 = .ok (.iload_n 1, 1) := by decide +kernel
theorem dL_isKey_266 : decode cL_isKey 266 = .ok (.iload 8, 2) := by decide +kernel
theorem dL_isKey_268 : decode cL_isKey 268 = .ok (.invokestatic 171, 3) := by decide +kernel
theorem dL_isKey_271 : decode cL_isKey 271 = .ok (.iload_n 1, 1) := by decide +kernel
theorem dL_isKey_272 : decode cL_isKey 272 = .ok (.iload 8, 2) := by decide +kernel
theorem dL_isKey_274 : decode cL_isKey 274 = .ok (.aload_n 2, 1) := by decide +kernel
theorem dL_isKey_275 : decode cL_isKey 275 = .ok (.aload_n 3, 1) := by decide +kernel
theorem dL_isKey_276 : decode cL_isKey 276 = .ok (.invokestatic 157, 3) := by decide +kernel
theorem dL_isKey_279 : decode cL_isKey 279 = .ok (.if_icmp .ne 7, 3) := by decide +kernel
theorem dL_isKey_282 : decode cL_isKey 282 = .ok (.iconst 1, 1) := by decide +kernel
theorem dL_isKey_283 : decode cL_isKey 283 = .ok (.goto 4, 3) := by decide +kernel
theorem dL_isKey_286 : decode cL_isKey 286 = .ok (.iconst 0, 1) := by decide +kernel
theorem dL_isKey_287 : decode cL_isKey 287 = .ok (.istore 7, 2) := by decide +kernel
theorem dL_isKey_289 : decode cL_isKey 289 = .ok (.iinc 8 1, 3) := by decide +kernel
theorem dL_isKey_292 : decode cL_isKey 292 = .ok (.goto (-39), 3) := by decide +kernel
theorem dL_isKey_295 : decode cL_isKey 295 = .ok (.iload 7, 2) := by decide +kernel
theorem dL_isKey_297 : decode cL_isKey 297 = .ok (.ireturn, 1) := by decide +kernel
theorem dL_isLock_0 : decode cL_isLock 0 = .ok (.aload 4, 2) := by decide +kernel
theorem dL_isLock_2 : decode cL_isLock 2 = .ok (.iconst 4, 1) := by decide +kernel
theorem dL_isLock_3 : decode cL_isLock 3 = .ok (.iload_n 1, 1) := by decide +kernel
theorem dL_isLock_4 : decode cL_isLock 4 = .ok (.imul, 1) := by decide +kernel
theorem dL_isLock_5 : decode cL_isLock 5 = .ok (.iaload, 1) := by decide +kernel
theorem dL_isLock_6 : decode cL_isLock 6 = .ok (.ifCond .ge 39, 3) := by decide +kernel
theorem dL_isLock_9 : decode cL_isLock 9 = .ok (.aload_n 0, 1) := by decide +kernel
theorem dL_isLock_10 : decode cL_isLock 10 = .ok (.iload_n 1, 1) := by decide +kernel
theorem dL_isLock_11 : decode cL_isLock 11 = .ok (.iconst 0, 1) := by decide +kernel
theorem dL_isLock_12 : decode cL_isLock 12 = .ok (.invokestatic 124, 3) := by decide +kernel
theorem dL_isLock_15 : decode cL_isLock 15 = .ok (.iconst (-1), 1) := by decide +kernel
theorem dL_isLock_16 : decode cL_isLock 16 = .ok (.if_icmp .ne 27, 3) := by decide +kernel
theorem dL_isLock_19 : decode cL_isLock 19 = .ok (.aload_n 0, 1) := by decide +kernel
theorem dL_isLock_20 : decode cL_isLock 20 = .ok (.iload_n 1, 1) := by decide +kernel
theorem dL_isLock_21 : decode cL_isLock 21 = .ok (.iconst 2, 1) := by decide +kernel
theorem dL_isLock_22 : decode cL_isLock 22 = .ok (.invokestatic 124, 3) := by decide +kernel
theorem dL_isLock_25 : decode cL_isLock 25 = .ok (.iconst (-1), 1) := by decide +kernel
theorem dL_isLock_26 : decode cL_isLock 26 = .ok (.if_icmp .ne 17, 3) := by decide +kernel
theorem dL_isLock_29 : decode cL_isLock 29 = .ok (.aload_n 0, 1) := by decide +kernel
theorem dL_isLock_30 : decode cL_isLock 30 = .ok (.iload_n 1, 1) := by decide +kernel
theorem dL_isLock_31 : decode cL_isLock 31 = .ok (.iconst 5, 1) := by decide +kernel
theorem dL_isLock_32 : decode cL_isLock 32 = .ok (.invokestatic 124, 3) := by decide +kernel
theorem dL_isLock_35 : decode cL_isLock 35 = .ok (.iconst (-1), 1) := by decide +kernel
theorem dL_isLock_36 : decode cL_isLock 36 = .ok (.if_icmp .ne 7, 3) := by decide +kernel
theorem dL_isLock_39 : decode cL_isLock 39 = .ok (.iconst 1, 1) := by decide +kernel
theorem dL_isLock_40 : decode cL_isLock 40 = .ok (.goto 4, 3) := by decide +kernel
theorem dL_isLock_43 : decode cL_isLock 43 = .ok (.iconst 0, 1) := by decide +kernel
theorem dL_isLock_44 : decode cL_isLock 44 = .ok (.ireturn, 1) := by decide +kernel
theorem dL_isLock_45 : decode cL_isLock 45 = .ok (.iconst 0, 1) := by decide +kernel
theorem dL_isLock_46 : decode cL_isLock 46 = .ok (.istore 5, 2) := by decide +kernel
theorem dL_isLock_48 : decode cL_isLock 48 = .ok (.iconst 0, 1) := by decide +kernel
theorem dL_isLock_49 : decode cL_isLock 49 = .ok (.istore 6, 2) := by decide +kernel
theorem dL_isLock_51 : decode cL_isLock 51 = .ok (.iconst 0, 1) := by decide +kernel
theorem dL_isLock_52 : decode cL_isLock 52 = .ok (.istore 7, 2) := by decide +kernel
theorem dL_isLock_54 : decode cL_isLock 54 = .ok (.iload 7, 2) := by decide +kernel
theorem dL_isLock_56 : decode cL_isLock 56 = .ok (.aload_n 2, 1) := by decide +kernel
theorem dL_isLock_57 : decode cL_isLock 57 = .ok (.iconst 0, 1) := by decide +kernel
theorem dL_isLock_58 : decode cL_isLock 58 = .ok (.iaload, 1) := by decide +kernel
theorem dL_isLock_59 : decode cL_isLock 59 = .ok (.if_icmp .ge 85, 3) := by decide +kernel
theorem dL_isLock_62 : decode cL_isLock 62 = .ok (.aload_n 3, 1) := by decide +kernel
theorem dL_isLock_63 : decode cL_isLock 63 = .ok (.bipush 6, 2) := by decide +kernel
theorem dL_isLock_65 : decode cL_isLock 65 = .ok (.iload 7, 2) := by decide +kernel
theorem dL_isLock_67 : decode cL_isLock 67 = .ok (.imul, 1) := by decide +kernel
theorem dL_isLock_68 : decode cL_isLock 68 = .ok (.iaload, 1) := by decide +kernel
theorem dL_isLock_69 : decode cL_isLock 69 = .ok (.iload_n 1, 1) := by decide +kernel
theorem dL_isLock_70 : decode cL_isLock 70 = .ok (.aload 4, 2) := by decide +kernel
theorem dL_isLock_72 : decode cL_isLock 72 = .ok (.invokestatic 106, 3) := by decide +kernel
theorem dL_isLock_75 : decode cL_isLock 75 = .ok (.istore 8, 2) := by decide +kernel
theorem dL_isLock_77 : decode cL_isLock 77 = .ok (.iload 5, 2) := by decide +kernel
theorem dL_isLock_79 : decode cL_isLock 79 = .ok (.iload 8, 2) := by decide +kernel
theorem dL_isLock_81 : decode cL_isLock 81 = .ok (.ifCond .eq 10, 3) := by decide +kernel
theorem dL_isLock_84 : decode cL_isLock 84 = .ok (.iconst 1, 1) := by decide +kernel
theorem dL_isLock_85 : decode cL_isLock 85 = .ok (.iload 7, 2) := by decide +kernel
theorem dL_isLock_87 : decode cL_isLock 87 = .ok (.ishl, 1) := by decide +kernel
theorem dL_isLock_88 : decode cL_isLock 88 = .ok (.goto 4, 3) := by decide +kernel
theorem dL_isLock_91 : decode cL_isLock 91 = .ok (.iconst 0, 1) := by decide +kernel
theorem dL_isLock_92 : decode cL_isLock 92 = .ok (.ior, 1) := by decide +kernel
theorem dL_isLock_93 : decode cL_isLock 93 = .ok (.istore 5, 2) := by decide +kernel
theorem dL_isLock_95 : decode cL_isLock 95 = .ok (.iload 6, 2) := by decide +kernel
theorem dL_isLock_97 : decode cL_isLock 97 = .ok (.iload 8, 2) := by decide +kernel
theorem dL_isLock_99 : decode cL_isLock 99 = .ok (.ifCond .ne 7, 3) := by decide +kernel
theorem dL_isLock_102 : decode cL_isLock 102 = .ok (.iconst 0, 1) := by decide +kernel
theorem dL_isLock_103 : decode cL_isLock 103 = .ok (.goto 32, 3) := by decide +kernel
theorem dL_isLock_106 : decode cL_isLock 106 = .ok (.aload_n 3, 1) := by decide +kernel
theorem dL_isLock_107 : decode cL_isLock 107 = .ok (.bipush 6, 2) := by decide +kernel
theorem dL_isLock_109 : decode cL_isLock 109 = .ok (.iload 7, 2) := by decide +kernel
theorem dL_isLock_111 : decode cL_isLock 111 = .ok (.imul, 1) := by decide +kernel
theorem dL_isLock_112 : decode cL_isLock 112 = .ok (.iconst 2, 1) := by decide +kernel
theorem dL_isLock_113 : decode cL_isLock 113 = .ok (.iadd, 1) := by decide +kernel
theorem dL_isLock_114 : decode cL_isLock 114 = .ok (.iaload, 1) := by decide +kernel
theorem dL_isLock_115 : decode cL_isLock 115 = .ok (.iconst 1, 1) := by decide +kernel
theorem dL_isLock_116 : decode cL_isLock 116 = .ok (.if_icmp .ne 8, 3) := by decide +kernel
theorem dL_isLock_119 : decode cL_isLock 119 = .ok (.bipush 16, 2) := by decide +kernel
theorem dL_isLock_121 : decode cL_isLock 121 = .ok (.goto 14, 3) := by decide +kernel
theorem dL_isLock_124 : decode cL_isLock 124 = .ok (.iconst 1, 1) := by decide +kernel
theorem dL_isLock_125 : decode cL_isLock 125 = .ok (.aload_n 3, 1) := by decide +kernel
theorem dL_isLock_126 : decode cL_isLock 126 = .ok (.bipush 6, 2) := by decide +kernel
theorem dL_isLock_128 : decode cL_isLock 128 = .ok (.iload 7, 2) := by decide +kernel
theorem dL_isLock_130 : decode cL_isLock 130 = .ok (.imul, 1) := by decide +kernel
theorem dL_isLock_131 : decode cL_isLock 131 = .ok (.iconst 1, 1) := by decide +kernel
theorem dL_isLock_132 : decode cL_isLock 132 = .ok (.iadd, 1) := by decide +kernel
theorem dL_isLock_133 : decode cL_isLock 133 = .ok (.iaload, 1) := by decide +kernel
theorem dL_isLock_134 : decode cL_isLock 134 = .ok (.ishl, 1) := by decide +kernel
theorem dL_isLock_135 : decode cL_isLock 135 = .ok (.ior, 1) := by decide +kernel
theorem dL_isLock_136 : decode cL_isLock 136 = .ok (.istore 6, 2) := by decide +kernel
theorem dL_isLock_138 : decode cL_isLock 138 = .ok (.iinc 7 1, 3) := by decide +kernel
theorem dL_isLock_141 : decode cL_isLock 141 = .ok (.goto (-87), 3) := by decide +kernel
theorem dL_isLock_144 : decode cL_isLock 144 = .ok (.aload_n 0, 1) := by decide +kernel
theorem dL_isLock_145 : decode cL_isLock 145 = .ok (.iload_n 1, 1) := by decide +kernel
theorem dL_isLock_146 : decode cL_isLock 146 = .ok (.iconst 0, 1) := by decide +kernel
theorem dL_isLock_147 : decode cL_isLock 147 = .ok (.invokestatic 124, 3) := by decide +kernel
theorem dL_isLock_150 : decode cL_isLock 150 = .ok (.aload 4, 2) := by decide +kernel
theorem dL_isLock_152 : decode cL_isLock 152 = .ok (.iconst 4, 1) := by decide +kernel
theorem dL_isLock_153 : decode cL_isLock 153 = .ok (.iload_n 1, 1) := by decide +kernel
theorem dL_isLock_154 : decode cL_isLock 154 = .ok (.imul, 1) := by decide +kernel
theorem dL_isLock_155 : decode cL_isLock 155 = .ok (.iaload, 1) := by decide +kernel
theorem dL_isLock_156 : decode cL_isLock 156 = .ok (.if_icmp .ne 80, 3) := by decide +kernel
theorem dL_isLock_159 : decode cL_isLock 159 = .ok (.aload_n 0, 1) := by decide +kernel
theorem dL_isLock_160 : decode cL_isLock 160 = .ok (.iload_n 1, 1) := by decide +kernel
theorem dL_isLock_161 : decode cL_isLock 161 = .ok (.iconst 1, 1) := by decide +kernel
theorem dL_isLock_162 : decode cL_isLock 162 = .ok (.invokestatic 124, 3) := by decide +kernel
theorem dL_isLock_165 : decode cL_isLock 165 = .ok (.aload 4, 2) := by decide +kernel
theorem dL_isLock_167 : decode cL_isLock 167 = .ok (.iconst 4, 1) := by decide +kernel
theorem dL_isLock_168 : decode cL_isLock 168 = .ok (.iload_n 1, 1) := by decide +kernel
theorem dL_isLock_169 : decode cL_isLock 169 = .ok (.imul, 1) := by decide +kernel
theorem dL_isLock_170 : decode cL_isLock 170 = .ok (.iconst 1, 1) := by decide +kernel
theorem dL_isLock_171 : decode cL_isLock 171 = .ok (.iadd, 1) := by decide +kernel
theorem dL_isLock_172 : decode cL_isLock 172 = .ok (.iaload, 1) := by decide +kernel
theorem dL_isLock_173 : decode cL_isLock 173 = .ok (.if_icmp .ne 63, 3) := by decide +kernel
theorem dL_isLock_176 : decode cL_isLock 176 = .ok (.aload_n 0, 1) := by decide +kernel
theorem dL_isLock_177 : decode cL_isLock 177 = .ok (.iload_n 1, 1) := by decide +kernel
theorem dL_isLock_178 : decode cL_isLock 178 = .ok (.iconst 2, 1) := by decide +kernel
theorem dL_isLock_179 : decode cL_isLock 179 = .ok (.invokestatic 124, 3) := by decide +kernel
theorem dL_isLock_182 : decode cL_isLock 182 = .ok (.iload 5, 2) := by decide +kernel
theorem dL_isLock_184 : decode cL_isLock 184 = .ok (.if_icmp .ne 52, 3) := by decide +kernel
theorem dL_isLock_187 : decode cL_isLock 187 = .ok (.aload_n 0, 1) := by decide +kernel
theorem dL_isLock_188 : decode cL_isLock 188 = .ok (.iload_n 1, 1) := by decide +kernel
theorem dL_isLock_189 : decode cL_isLock 189 = .ok (.iconst 3, 1) := by decide +kernel
theorem dL_isLock_190 : decode cL_isLock 190 = .ok (.invokestatic 124, 3) := by decide +kernel
theorem dL_isLock_193 : decode cL_isLock 193 = .ok (.aload 4, 2) := by decide +kernel
theorem dL_isLock_195 : decode cL_isLock 195 = .ok (.iconst 4, 1) := by decide +kernel
theorem dL_isLock_196 : decode cL_isLock 196 = .ok (.iload_n 1, 1) := by decide +kernel
theorem dL_isLock_197 : decode cL_isLock 197 = .ok (.imul, 1) := by decide +kernel
theorem dL_isLock_198 : decode cL_isLock 198 = .ok (.iconst 2, 1) := by decide +kernel
theorem dL_isLock_199 : decode cL_isLock 199 = .ok (.iadd, 1) := by decide +kernel
theorem dL_isLock_200 : decode cL_isLock 200 = .ok (.iaload, 1) := by decide +kernel
theorem dL_isLock_201 : decode cL_isLock 201 = .ok (.if_icmp .ne 35, 3) := by decide +kernel
theorem dL_isLock_204 : decode cL_isLock 204 = .ok (.aload_n 0, 1) := by decide +kernel
theorem dL_isLock_205 : decode cL_isLock 205 = .ok (.iload_n 1, 1) := by decide +kernel
theorem dL_isLock_206 : decode cL_isLock 206 = .ok (.iconst 4, 1) := by decide +kernel
theorem dL_isLock_207 : decode cL_isLock 207 = .ok (.invokestatic 124, 3) := by decide +kernel
theorem dL_isLock_210 : decode cL_isLock 210 = .ok (.aload 4, 2) := by decide +kernel
theorem dL_isLock_212 : decode cL_isLock 212 = .ok (.iconst 4, 1) := by decide +kernel
theorem dL_isLock_213 : decode cL_isLock 213 = .ok (.iload_n 1, 1) := by decide +kernel
theorem dL_isLock_214 : decode cL_isLock 214 = .ok (.imul, 1) := by decide +kernel
theorem dL_isLock_215 : decode cL_isLock 215 = .ok (.iconst 3, 1) := by decide +kernel
theorem dL_isLock_216 : decode cL_isLock 216 = .ok (.iadd, 1) := by decide +kernel
theorem dL_isLock_217 : decode cL_isLock 217 = .ok (.iaload, 1) := by decide +kernel
theorem dL_isLock_218 : decode cL_isLock 218 = .ok (.if_icmp .ne 18, 3) := by decide +kernel
theorem dL_isLock_221 : decode cL_isLock 221 = .ok (.aload_n 0, 1) := by decide +kernel
theorem dL_isLock_222 : decode cL_isLock 222 = .ok (.iload_n 1, 1) := by decide +kernel
theorem dL_isLock_223 : decode cL_isLock 223 = .ok (.iconst 5, 1) := by decide +kernel
theorem dL_isLock_224 : decode cL_isLock 224 = .ok (.invokestatic 124, 3) := by decide +kernel
theorem dL_isLock_227 : decode cL_isLock 227 = .ok (.iload 6, 2) := by decide +kernel
theorem dL_isLock_229 : decode cL_isLock 229 = .ok (.if_icmp .ne 7, 3) := by decide +kernel
theorem dL_isLock_232 : decode cL_isLock 232 = .ok (.iconst 1, 1) := by decide +kernel
theorem dL_isLock_233 : decode cL_isLock 233 = .ok (.goto 4, 3) := by decide +kernel
theorem dL_isLock_236 : decode cL_isLock 236 = .ok (.iconst 0, 1) := by decide +kernel
theorem dL_isLock_237 : decode cL_isLock 237 = .ok (.ireturn, 1) := by decide +kernel
theorem dL_isPerson_0 : decode cL_isPerson 0 = .ok (.iconst 0, 1) := by decide +kernel
theorem dL_isPerson_1 : decode cL_isPerson 1 = .ok (.istore 5, 2) := by decide +kernel
theorem dL_isPerson_3 : decode cL_isPerson 3 = .ok (.iconst 0, 1) := by decide +kernel
theorem dL_isPerson_4 : decode cL_isPerson 4 = .ok (.istore 6, 2) := by decide +kernel
theorem dL_isPerson_6 : decode cL_isPerson 6 = .ok (.iconst 0, 1) := by decide +kernel
theorem dL_isPerson_7 : decode cL_isPerson 7 = .ok (.istore 7, 2) := by decide +kernel
theorem dL_isPerson_9 : decode cL_isPerson 9 = .ok (.iload 7, 2) := by decide +kernel
theorem dL_isPerson_11 : decode cL_isPerson 11 = .ok (.aload_n 2, 1) := by decide +kernel
theorem dL_isPerson_12 : decode cL_isPerson 12 = .ok (.iconst 0, 1) := by decide +kernel
theorem dL_isPerson_13 : decode cL_isPerson 13 = .ok (.iaload, 1) := by decide +kernel
theorem dL_isPerson_14 : decode cL_isPerson 14 = .ok (.if_icmp .ge 81, 3) := by decide +kernel
theorem dL_isPerson_17 : decode cL_isPerson 17 = .ok (.iload 5, 2) := by decide +kernel
theorem dL_isPerson_19 : decode cL_isPerson 19 = .ok (.aload_n 3, 1) := by decide +kernel
theorem dL_isPerson_20 : decode cL_isPerson 20 = .ok (.bipush 6, 2) := by decide +kernel
theorem dL_isPerson_22 : decode cL_isPerson 22 = .ok (.iload 7, 2) := by decide +kernel
theorem dL_isPerson_24 : decode cL_isPerson 24 = .ok (.imul, 1) := by decide +kernel
theorem dL_isPerson_25 : decode cL_isPerson 25 = .ok (.iconst 1, 1) := by decide +kernel
theorem dL_isPerson_26 : decode cL_isPerson 26 = .ok (.iadd, 1) := by decide +kernel
theorem dL_isPerson_27 : decode cL_isPerson 27 = .ok (.iaload, 1) := by decide +kernel
theorem dL_isPerson_28 : decode cL_isPerson 28 = .ok (.iload_n 1, 1) := by decide +kernel
theorem dL_isPerson_29 : decode cL_isPerson 29 = .ok (.if_icmp .ne 10, 3) := by decide +kernel
theorem dL_isPerson_32 : decode cL_isPerson 32 = .ok (.iconst 1, 1) := by decide +kernel
theorem dL_isPerson_33 : decode cL_isPerson 33 = .ok (.iload 7, 2) := by decide +kernel
theorem dL_isPerson_35 : decode cL_isPerson 35 = .ok (.ishl, 1) := by decide +kernel
theorem dL_isPerson_36 : decode cL_isPerson 36 = .ok (.goto 4, 3) := by decide +kernel
theorem dL_isPerson_39 : decode cL_isPerson 39 = .ok (.iconst 0, 1) := by decide +kernel
theorem dL_isPerson_40 : decode cL_isPerson 40 = .ok (.ior, 1) := by decide +kernel
theorem dL_isPerson_41 : decode cL_isPerson 41 = .ok (.istore 5, 2) := by decide +kernel
theorem dL_isPerson_43 : decode cL_isPerson 43 = .ok (.iload 6, 2) := by decide +kernel
theorem dL_isPerson_45 : decode cL_isPerson 45 = .ok (.aload_n 3, 1) := by decide +kernel
theorem dL_isPerson_46 : decode cL_isPerson 46 = .ok (.bipush 6, 2) := by decide +kernel
theorem dL_isPerson_48 : decode cL_isPerson 48 = .ok (.iload 7, 2) := by decide +kernel
theorem dL_isPerson_50 : decode cL_isPerson 50 = .ok (.imul, 1) := by decide +kernel
theorem dL_isPerson_51 : decode cL_isPerson 51 = .ok (.iconst 1, 1) := by decide +kernel
theorem dL_isPerson_52 : decode cL_isPerson 52 = .ok (.iadd, 1) := by decide +kernel
theorem dL_isPerson_53 : decode cL_isPerson 53 = .ok (.iaload, 1) := by decide +kernel
theorem dL_isPerson_54 : decode cL_isPerson 54 = .ok (.iload_n 1, 1) := by decide +kernel
theorem dL_isPerson_55 : decode cL_isPerson 55 = .ok (.if_icmp .ne 30, 3) := by decide +kernel
theorem dL_isPerson_58 : decode cL_isPerson 58 = .ok (.aload_n 3, 1) := by decide +kernel
theorem dL_isPerson_59 : decode cL_isPerson 59 = .ok (.bipush 6, 2) := by decide +kernel
theorem dL_isPerson_61 : decode cL_isPerson 61 = .ok (.iload 7, 2) := by decide +kernel
theorem dL_isPerson_63 : decode cL_isPerson 63 = .ok (.imul, 1) := by decide +kernel
theorem dL_isPerson_64 : decode cL_isPerson 64 = .ok (.iconst 2, 1) := by decide +kernel
theorem dL_isPerson_65 : decode cL_isPerson 65 = .ok (.iadd, 1) := by decide +kernel
theorem dL_isPerson_66 : decode cL_isPerson 66 = .ok (.iaload, 1) := by decide +kernel
theorem dL_isPerson_67 : decode cL_isPerson 67 = .ok (.ifCond .ne 18, 3) := by decide +kernel
theorem dL_isPerson_70 : decode cL_isPerson 70 = .ok (.aload_n 3, 1) := by decide +kernel
theorem dL_isPerson_71 : decode cL_isPerson 71 = .ok (.bipush 6, 2) := by decide +kernel
theorem dL_isPerson_73 : decode cL_isPerson 73 = .ok (.iload 7, 2) := by decide +kernel
theorem dL_isPerson_75 : decode cL_isPerson 75 = .ok (.imul, 1) := by decide +kernel
theorem dL_isPerson_76 : decode cL_isPerson 76 = .ok (.iaload, 1) := by decide +kernel
theorem dL_isPerson_77 : decode cL_isPerson 77 = .ok (.aload 4, 2) := by decide +kernel
theorem dL_isPerson_79 : decode cL_isPerson 79 = .ok (.invokestatic 164, 3) := by decide +kernel
theorem dL_isPerson_82 : decode cL_isPerson 82 = .ok (.goto 4, 3) := by decide +kernel
theorem dL_isPerson_85 : decode cL_isPerson 85 = .ok (.iconst 0, 1) := by decide +kernel
theorem dL_isPerson_86 : decode cL_isPerson 86 = .ok (.ior, 1) := by decide +kernel
theorem dL_isPerson_87 : decode cL_isPerson 87 = .ok (.istore 6, 2) := by decide +kernel
theorem dL_isPerson_89 : decode cL_isPerson 89 = .ok (.iinc 7 1, 3) := by decide +kernel
theorem dL_isPerson_92 : decode cL_isPerson 92 = .ok (.goto (-83), 3) := by decide +kernel
theorem dL_isPerson_95 : decode cL_isPerson 95 = .ok (.aload_n 0, 1) := by decide +kernel
theorem dL_isPerson_96 : decode cL_isPerson 96 = .ok (.iload_n 1, 1) := by decide +kernel
theorem dL_isPerson_97 : decode cL_isPerson 97 = .ok (.iconst 0, 1) := by decide +kernel
theorem dL_isPerson_98 : decode cL_isPerson 98 = .ok (.invokestatic 126, 3) := by decide +kernel
theorem dL_isPerson_101 : decode cL_isPerson 101 = .ok (.iload 5, 2) := by decide +kernel
theorem dL_isPerson_103 : decode cL_isPerson 103 = .ok (.if_icmp .ne 33, 3) := by decide +kernel
theorem dL_isPerson_106 : decode cL_isPerson 106 = .ok (.aload_n 0, 1) := by decide +kernel
theorem dL_isPerson_107 : decode cL_isPerson 107 = .ok (.iload_n 1, 1) := by decide +kernel
theorem dL_isPerson_108 : decode cL_isPerson 108 = .ok (.iconst 1, 1) := by decide +kernel
theorem dL_isPerson_109 : decode cL_isPerson 109 = .ok (.invokestatic 126, 3) := by decide +kernel
theorem dL_isPerson_112 : decode cL_isPerson 112 = .ok (.iload 6, 2) := by decide +kernel
theorem dL_isPerson_114 : decode cL_isPerson 114 = .ok (.if_icmp .ne 22, 3) := by decide +kernel
theorem dL_isPerson_117 : decode cL_isPerson 117 = .ok (.aload_n 0, 1) := by decide +kernel
theorem dL_isPerson_118 : decode cL_isPerson 118 = .ok (.iload_n 1, 1) := by decide +kernel
theorem dL_isPerson_119 : decode cL_isPerson 119 = .ok (.iconst 2, 1) := by decide +kernel
theorem dL_isPerson_120 : decode cL_isPerson 120 = .ok (.invokestatic 126, 3) := by decide +kernel
theorem dL_isPerson_123 : decode cL_isPerson 123 = .ok (.aload_n 2, 1) := by decide +kernel
theorem dL_isPerson_124 : decode cL_isPerson 124 = .ok (.bipush 10, 2) := by decide +kernel
theorem dL_isPerson_126 : decode cL_isPerson 126 = .ok (.iload_n 1, 1) := by decide +kernel
theorem dL_isPerson_127 : decode cL_isPerson 127 = .ok (.iadd, 1) := by decide +kernel
theorem dL_isPerson_128 : decode cL_isPerson 128 = .ok (.iaload, 1) := by decide +kernel
theorem dL_isPerson_129 : decode cL_isPerson 129 = .ok (.if_icmp .ne 7, 3) := by decide +kernel
theorem dL_isPerson_132 : decode cL_isPerson 132 = .ok (.iconst 1, 1) := by decide +kernel
theorem dL_isPerson_133 : decode cL_isPerson 133 = .ok (.goto 4, 3) := by decide +kernel
theorem dL_isPerson_136 : decode cL_isPerson 136 = .ok (.iconst 0, 1) := by decide +kernel
theorem dL_isPerson_137 : decode cL_isPerson 137 = .ok (.ireturn, 1) := by decide +kernel
theorem dL_areCounts_0 : decode cL_areCounts 0 = .ok (.iconst 0, 1) := by decide +kernel
theorem dL_areCounts_1 : decode cL_areCounts 1 = .ok (.istore 4, 2) := by decide +kernel
theorem dL_areCounts_3 : decode cL_areCounts 3 = .ok (.iconst 0, 1) := by decide +kernel
theorem dL_areCounts_4 : decode cL_areCounts 4 = .ok (.istore 5, 2) := by decide +kernel
theorem dL_areCounts_6 : decode cL_areCounts 6 = .ok (.iconst 0, 1) := by decide +kernel
theorem dL_areCounts_7 : decode cL_areCounts 7 = .ok (.istore 6, 2) := by decide +kernel
theorem dL_areCounts_9 : decode cL_areCounts 9 = .ok (.iconst 0, 1) := by decide +kernel
theorem dL_areCounts_10 : decode cL_areCounts 10 = .ok (.istore 7, 2) := by decide +kernel
theorem dL_areCounts_12 : decode cL_areCounts 12 = .ok (.iconst 0, 1) := by decide +kernel
theorem dL_areCounts_13 : decode cL_areCounts 13 = .ok (.istore 8, 2) := by decide +kernel
theorem dL_areCounts_15 : decode cL_areCounts 15 = .ok (.iconst 0, 1) := by decide +kernel
theorem dL_areCounts_16 : decode cL_areCounts 16 = .ok (.istore 9, 2) := by decide +kernel
theorem dL_areCounts_18 : decode cL_areCounts 18 = .ok (.iload 9, 2) := by decide +kernel
theorem dL_areCounts_20 : decode cL_areCounts 20 = .ok (.aload_n 1, 1) := by decide +kernel
theorem dL_areCounts_21 : decode cL_areCounts 21 = .ok (.iconst 0, 1) := by decide +kernel
theorem dL_areCounts_22 : decode cL_areCounts 22 = .ok (.iaload, 1) := by decide +kernel
theorem dL_areCounts_23 : decode cL_areCounts 23 = .ok (.if_icmp .ge 69, 3) := by decide +kernel
theorem dL_areCounts_26 : decode cL_areCounts 26 = .ok (.iload 4, 2) := by decide +kernel
theorem dL_areCounts_28 : decode cL_areCounts 28 = .ok (.aload_n 2, 1) := by decide +kernel
theorem dL_areCounts_29 : decode cL_areCounts 29 = .ok (.bipush 6, 2) := by decide +kernel
theorem dL_areCounts_31 : decode cL_areCounts 31 = .ok (.iload 9, 2) := by decide +kernel
theorem dL_areCounts_33 : decode cL_areCounts 33 = .ok (.imul, 1) := by decide +kernel
theorem dL_areCounts_34 : decode cL_areCounts 34 = .ok (.iconst 2, 1) := by decide +kernel
theorem dL_areCounts_35 : decode cL_areCounts 35 = .ok (.iadd, 1) := by decide +kernel
theorem dL_areCounts_36 : decode cL_areCounts 36 = .ok (.iaload, 1) := by decide +kernel
theorem dL_areCounts_37 : decode cL_areCounts 37 = .ok (.iadd, 1) := by decide +kernel
theorem dL_areCounts_38 : decode cL_areCounts 38 = .ok (.istore 4, 2) := by decide +kernel
theorem dL_areCounts_40 : decode cL_areCounts 40 = .ok (.iconst 0, 1) := by decide +kernel
theorem dL_areCounts_41 : decode cL_areCounts 41 = .ok (.istore 10, 2) := by decide +kernel
theorem dL_areCounts_43 : decode cL_areCounts 43 = .ok (.iload 10, 2) := by decide +kernel
theorem dL_areCounts_45 : decode cL_areCounts 45 = .ok (.iload 9, 2) := by decide +kernel
theorem dL_areCounts_47 : decode cL_areCounts 47 = .ok (.if_icmp .ge 39, 3) := by decide +kernel
theorem dL_areCounts_50 : decode cL_areCounts 50 = .ok (.iload 6, 2) := by decide +kernel
theorem dL_areCounts_52 : decode cL_areCounts 52 = .ok (.aload_n 2, 1) := by decide +kernel
theorem dL_areCounts_53 : decode cL_areCounts 53 = .ok (.bipush 6, 2) := by decide +kernel
theorem dL_areCounts_55 : decode cL_areCounts 55 = .ok (.iload 9, 2) := by decide +kernel
theorem dL_areCounts_57 : decode cL_areCounts 57 = .ok (.imul, 1) := by decide +kernel
theorem dL_areCounts_58 : decode cL_areCounts 58 = .ok (.iaload, 1) := by decide +kernel
theorem dL_areCounts_59 : decode cL_areCounts 59 = .ok (.aload_n 2, 1) := by decide +kernel
theorem dL_areCounts_60 : decode cL_areCounts 60 = .ok (.bipush 6, 2) := by decide +kernel
theorem dL_areCounts_62 : decode cL_areCounts 62 = .ok (.iload 10, 2) := by decide +kernel
theorem dL_areCounts_64 : decode cL_areCounts 64 = .ok (.imul, 1) := by decide +kernel
theorem dL_areCounts_65 : decode cL_areCounts 65 = .ok (.iaload, 1) := by decide +kernel
theorem dL_areCounts_66 : decode cL_areCounts 66 = .ok (.invokestatic 92, 3) := by decide +kernel
theorem dL_areCounts_69 : decode cL_areCounts 69 = .ok (.ifCond .le 7, 3) := by decide +kernel
theorem dL_areCounts_72 : decode cL_areCounts 72 = .ok (.iconst 1, 1) := by decide +kernel
theorem dL_areCounts_73 : decode cL_areCounts 73 = .ok (.goto 4, 3) := by decide +kernel
theorem dL_areCounts_76 : decode cL_areCounts 76 = .ok (.iconst 0, 1) := by decide +kernel
theorem dL_areCounts_77 : decode cL_areCounts 77 = .ok (.iadd, 1) := by decide +kernel
theorem dL_areCounts_78 : decode cL_areCounts 78 = .ok (.istore 6, 2) := by decide +kernel
theorem dL_areCounts_80 : decode cL_areCounts 80 = .ok (.iinc 10 1, 3) := by decide +kernel
theorem dL_areCounts_83 : decode cL_areCounts 83 = .ok (.goto (-40), 3) := by decide +kernel
theorem dL_areCounts_86 : decode cL_areCounts 86 = .ok (.iinc 9 1, 3) := by decide +kernel
theorem dL_areCounts_89 : decode cL_areCounts 89 = .ok (.goto (-71), 3) := by decide +kernel
theorem dL_areCounts_92 : decode cL_areCounts 92 = .ok (.iconst 0, 1) := by decide +kernel
theorem dL_areCounts_93 : decode cL_areCounts 93 = .ok (.istore 9, 2) := by decide +kernel
theorem dL_areCounts_95 : decode cL_areCounts 95 = .ok (.iload 9, 2) := by decide +kernel
theorem dL_areCounts_97 : decode cL_areCounts 97 = .ok (.bipush 6, 2) := by decide +kernel
theorem dL_areCounts_99 : decode cL_areCounts 99 = .ok (.if_icmp .ge 28, 3) := by decide +kernel
theorem dL_areCounts_102 : decode cL_areCounts 102 = .ok (.iload 5, 2) := by decide +kernel
theorem dL_areCounts_104 : decode cL_areCounts 104 = .ok (.aload_n 3, 1) := by decide +kernel
theorem dL_areCounts_105 : decode cL_areCounts 105 = .ok (.iconst 4, 1) := by decide +kernel
theorem dL_areCounts_106 : decode cL_areCounts 106 = .ok (.iload 9, 2) := by decide +kernel
theorem dL_areCounts_108 : decode cL_areCounts 108 = .ok (.imul, 1) := by decide +kernel
theorem dL_areCounts_109 : decode cL_areCounts 109 = .ok (.iaload, 1) := by decide +kernel
theorem dL_areCounts_110 : decode cL_areCounts 110 = .ok (.ifCond .ge 7, 3) := by decide +kernel
theorem dL_areCounts_113 : decode cL_areCounts 113 = .ok (.iconst 0, 1) := by decide +kernel
theorem dL_areCounts_114 : decode cL_areCounts 114 = .ok (.goto 4, 3) := by decide +kernel
theorem dL_areCounts_117 : decode cL_areCounts 117 = .ok (.iconst 1, 1) := by decide +kernel
theorem dL_areCounts_118 : decode cL_areCounts 118 = .ok (.iadd, 1) := by decide +kernel
theorem dL_areCounts_119 : decode cL_areCounts 119 = .ok (.istore 5, 2) := by decide +kernel
theorem dL_areCounts_121 : decode cL_areCounts 121 = .ok (.iinc 9 1, 3) := by decide +kernel
theorem dL_areCounts_124 : decode cL_areCounts 124 = .ok (.goto (-29), 3) := by decide +kernel
theorem dL_areCounts_127 : decode cL_areCounts 127 = .ok (.iconst 0, 1) := by decide +kernel
theorem dL_areCounts_128 : decode cL_areCounts 128 = .ok (.istore 9, 2) := by decide +kernel
theorem dL_areCounts_130 : decode cL_areCounts 130 = .ok (.iload 9, 2) := by decide +kernel
theorem dL_areCounts_132 : decode cL_areCounts 132 = .ok (.bipush 81, 2) := by decide +kernel
theorem dL_areCounts_134 : decode cL_areCounts 134 = .ok (.if_icmp .ge 58, 3) := by decide +kernel
theorem dL_areCounts_137 : decode cL_areCounts 137 = .ok (.iload 7, 2) := by decide +kernel
theorem dL_areCounts_139 : decode cL_areCounts 139 = .ok (.iload 9, 2) := by decide +kernel
theorem dL_areCounts_141 : decode cL_areCounts 141 = .ok (.aload_n 1, 1) := by decide +kernel
theorem dL_areCounts_142 : decode cL_areCounts 142 = .ok (.invokestatic 95, 3) := by decide +kernel
theorem dL_areCounts_145 : decode cL_areCounts 145 = .ok (.ifCond .eq 7, 3) := by decide +kernel
theorem dL_areCounts_148 : decode cL_areCounts 148 = .ok (.iconst 1, 1) := by decide +kernel
theorem dL_areCounts_149 : decode cL_areCounts 149 = .ok (.goto 4, 3) := by decide +kernel
theorem dL_areCounts_152 : decode cL_areCounts 152 = .ok (.iconst 0, 1) := by decide +kernel
theorem dL_areCounts_153 : decode cL_areCounts 153 = .ok (.iadd, 1) := by decide +kernel
theorem dL_areCounts_154 : decode cL_areCounts 154 = .ok (.istore 7, 2) := by decide +kernel
theorem dL_areCounts_156 : decode cL_areCounts 156 = .ok (.iload 8, 2) := by decide +kernel
theorem dL_areCounts_158 : decode cL_areCounts 158 = .ok (.iload 9, 2) := by decide +kernel
theorem dL_areCounts_160 : decode cL_areCounts 160 = .ok (.aload_n 1, 1) := by decide +kernel
theorem dL_areCounts_161 : decode cL_areCounts 161 = .ok (.invokestatic 95, 3) := by decide +kernel
theorem dL_areCounts_164 : decode cL_areCounts 164 = .ok (.ifCond .eq 18, 3) := by decide +kernel
theorem dL_areCounts_167 : decode cL_areCounts 167 = .ok (.iload 9, 2) := by decide +kernel
theorem dL_areCounts_169 : decode cL_areCounts 169 = .ok (.iconst (-1), 1) := by decide +kernel
theorem dL_areCounts_170 : decode cL_areCounts 170 = .ok (.aload_n 1, 1) := by decide +kernel
theorem dL_areCounts_171 : decode cL_areCounts 171 = .ok (.aload_n 2, 1) := by decide +kernel
theorem dL_areCounts_172 : decode cL_areCounts 172 = .ok (.invokestatic 99, 3) := by decide +kernel
theorem dL_areCounts_175 : decode cL_areCounts 175 = .ok (.ifCond .ne 7, 3) := by decide +kernel
theorem dL_areCounts_178 : decode cL_areCounts 178 = .ok (.iconst 1, 1) := by decide +kernel
theorem dL_areCounts_179 : decode cL_areCounts 179 = .ok (.goto 4, 3) := by decide +kernel
theorem dL_areCounts_182 : decode cL_areCounts 182 = .ok (.iconst 0, 1) := by decide +kernel
theorem dL_areCounts_183 : decode cL_areCounts 183 = .ok (.iadd, 1) := by decide +kernel
theorem dL_areCounts_184 : decode cL_areCounts 184 = .ok (.istore 8, 2) := by decide +kernel
theorem dL_areCounts_186 : decode cL_areCounts 186 = .ok (.iinc 9 1, 3) := by decide +kernel
theorem dL_areCounts_189 : decode cL_areCounts 189 = .ok (.goto (-59), 3) := by decide +kernel
theorem dL_areCounts_192 : decode cL_areCounts 192 = .ok (.aload_n 0, 1) := by decide +kernel
theorem dL_areCounts_193 : decode cL_areCounts 193 = .ok (.iconst 0, 1) := by decide +kernel
theorem dL_areCounts_194 : decode cL_areCounts 194 = .ok (.invokestatic 114, 3) := by decide +kernel
theorem dL_areCounts_197 : decode cL_areCounts 197 = .ok (.aload_n 1, 1) := by decide +kernel
theorem dL_areCounts_198 : decode cL_areCounts 198 = .ok (.iconst 0, 1) := by decide +kernel
theorem dL_areCounts_199 : decode cL_areCounts 199 = .ok (.iaload, 1) := by decide +kernel
theorem dL_areCounts_200 : decode cL_areCounts 200 = .ok (.if_icmp .ne 74, 3) := by decide +kernel
theorem dL_areCounts_203 : decode cL_areCounts 203 = .ok (.aload_n 0, 1) := by decide +kernel
theorem dL_areCounts_204 : decode cL_areCounts 204 = .ok (.iconst 1, 1) := by decide +kernel
theorem dL_areCounts_205 : decode cL_areCounts 205 = .ok (.invokestatic 114, 3) := by decide +kernel
theorem dL_areCounts_208 : decode cL_areCounts 208 = .ok (.iload 4, 2) := by decide +kernel
theorem dL_areCounts_210 : decode cL_areCounts 210 = .ok (.if_icmp .ne 64, 3) := by decide +kernel
theorem dL_areCounts_213 : decode cL_areCounts 213 = .ok (.aload_n 0, 1) := by decide +kernel
theorem dL_areCounts_214 : decode cL_areCounts 214 = .ok (.iconst 2, 1) := by decide +kernel
theorem dL_areCounts_215 : decode cL_areCounts 215 = .ok (.invokestatic 114, 3) := by decide +kernel
theorem dL_areCounts_218 : decode cL_areCounts 218 = .ok (.iload 5, 2) := by decide +kernel
theorem dL_areCounts_220 : decode cL_areCounts 220 = .ok (.if_icmp .ne 54, 3) := by decide +kernel
theorem dL_areCounts_223 : decode cL_areCounts 223 = .ok (.aload_n 0, 1) := by decide +kernel
theorem dL_areCounts_224 : decode cL_areCounts 224 = .ok (.iconst 3, 1) := by decide +kernel
theorem dL_areCounts_225 : decode cL_areCounts 225 = .ok (.invokestatic 114, 3) := by decide +kernel
theorem dL_areCounts_228 : decode cL_areCounts 228 = .ok (.iload 6, 2) := by decide +kernel
theorem dL_areCounts_230 : decode cL_areCounts 230 = .ok (.if_icmp .ne 44, 3) := by decide +kernel
theorem dL_areCounts_233 : decode cL_areCounts 233 = .ok (.aload_n 0, 1) := by decide +kernel
theorem dL_areCounts_234 : decode cL_areCounts 234 = .ok (.bipush 9, 2) := by decide +kernel
theorem dL_areCounts_236 : decode cL_areCounts 236 = .ok (.invokestatic 114, 3) := by decide +kernel
theorem dL_areCounts_239 : decode cL_areCounts 239 = .ok (.iload 7, 2) := by decide +kernel
theorem dL_areCounts_241 : decode cL_areCounts 241 = .ok (.if_icmp .ne 33, 3) := by decide +kernel
theorem dL_areCounts_244 : decode cL_areCounts 244 = .ok (.aload_n 0, 1) := by decide +kernel
theorem dL_areCounts_245 : decode cL_areCounts 245 = .ok (.bipush 10, 2) := by decide +kernel
theorem dL_areCounts_247 : decode cL_areCounts 247 = .ok (.invokestatic 114, 3) := by decide +kernel
theorem dL_areCounts_250 : decode cL_areCounts 250 = .ok (.iload 8, 2) := by decide +kernel
theorem dL_areCounts_252 : decode cL_areCounts 252 = .ok (.if_icmp .ne 22, 3) := by decide +kernel
theorem dL_areCounts_255 : decode cL_areCounts 255 = .ok (.aload_n 0, 1) := by decide +kernel
theorem dL_areCounts_256 : decode cL_areCounts 256 = .ok (.invokevirtual 173, 3) := by decide +kernel
theorem dL_areCounts_259 : decode cL_areCounts 259 = .ok (.iload 8, 2) := by decide +kernel
theorem dL_areCounts_261 : decode cL_areCounts 261 = .ok (.i2d, 1) := by decide +kernel
theorem dL_areCounts_262 : decode cL_areCounts 262 = .ok (.iload 7, 2) := by decide +kernel
theorem dL_areCounts_264 : decode cL_areCounts 264 = .ok (.i2d, 1) := by decide +kernel
theorem dL_areCounts_265 : decode cL_areCounts 265 = .ok (.ddiv, 1) := by decide +kernel
theorem dL_areCounts_266 : decode cL_areCounts 266 = .ok (.dcmp .l, 1) := by decide +kernel
theorem dL_areCounts_267 : decode cL_areCounts 267 = .ok (.ifCond .ne 7, 3) := by decide +kernel
theorem dL_areCounts_270 : decode cL_areCounts 270 = .ok (.iconst 1, 1) := by decide +kernel
theorem dL_areCounts_271 : decode cL_areCounts 271 = .ok (.goto 4, 3) := by decide +kernel
theorem dL_areCounts_274 : decode cL_areCounts 274 = .ok (.iconst 0, 1) := by decide +kernel
theorem dL_areCounts_275 : decode cL_areCounts 275 = .ok (.istore 9, 2) := by decide +kernel
theorem dL_areCounts_277 : decode cL_areCounts 277 = .ok (.iconst 1, 1) := by decide +kernel
theorem dL_areCounts_278 : decode cL_areCounts 278 = .ok (.istore 10, 2) := by decide +kernel
theorem dL_areCounts_280 : decode cL_areCounts 280 = .ok (.iload 10, 2) := by decide +kernel
theorem dL_areCounts_282 : decode cL_areCounts 282 = .ok (.bipush 6, 2) := by decide +kernel
theorem dL_areCounts_284 : decode cL_areCounts 284 = .ok (.if_icmp .ge 36, 3) := by decide +kernel
theorem dL_areCounts_287 : decode cL_areCounts 287 = .ok (.iload 9, 2) := by decide +kernel
theorem dL_areCounts_289 : decode cL_areCounts 289 = .ok (.ifCond .eq 22, 3) := by decide +kernel
theorem dL_areCounts_292 : decode cL_areCounts 292 = .ok (.aload_n 0, 1) := by decide +kernel
theorem dL_areCounts_293 : decode cL_areCounts 293 = .ok (.iconst 3, 1) := by decide +kernel
theorem dL_areCounts_294 : decode cL_areCounts 294 = .ok (.iload 10, 2) := by decide +kernel
theorem dL_areCounts_296 : decode cL_areCounts 296 = .ok (.iadd, 1) := by decide +kernel
theorem dL_areCounts_297 : decode cL_areCounts 297 = .ok (.invokestatic 114, 3) := by decide +kernel
theorem dL_areCounts_300 : decode cL_areCounts 300 = .ok (.aload_n 1, 1) := by decide +kernel
theorem dL_areCounts_301 : decode cL_areCounts 301 = .ok (.iload 10, 2) := by decide +kernel
theorem dL_areCounts_303 : decode cL_areCounts 303 = .ok (.iaload, 1) := by decide +kernel
theorem dL_areCounts_304 : decode cL_areCounts 304 = .ok (.if_icmp .ne 7, 3) := by decide +kernel
theorem dL_areCounts_307 : decode cL_areCounts 307 = .ok (.iconst 1, 1) := by decide +kernel
theorem dL_areCounts_308 : decode cL_areCounts 308 = .ok (.goto 4, 3) := by decide +kernel
theorem dL_areCounts_311 : decode cL_areCounts 311 = .ok (.iconst 0, 1) := by decide +kernel
theorem dL_areCounts_312 : decode cL_areCounts 312 = .ok (.istore 9, 2) := by decide +kernel
theorem dL_areCounts_314 : decode cL_areCounts 314 = .ok (.iinc 10 1, 3) := by decide +kernel
theorem dL_areCounts_317 : decode cL_areCounts 317 = .ok (.goto (-37), 3) := by decide +kernel
theorem dL_areCounts_320 : decode cL_areCounts 320 = .ok (.iload 9, 2) := by decide +kernel
theorem dL_areCounts_322 : decode cL_areCounts 322 = .ok (.ireturn, 1) := by decide +kernel
theorem dL_isChosen_0 : decode cL_isChosen 0 = .ok (.aload_n 0, 1) := by decide +kernel
theorem dL_isChosen_1 : decode cL_isChosen 1 = .ok (.iconst 1, 1) := by decide +kernel
theorem dL_isChosen_2 : decode cL_isChosen 2 = .ok (.invokestatic 177, 3) := by decide +kernel
theorem dL_isChosen_5 : decode cL_isChosen 5 = .ok (.istore_n 3, 1) := by decide +kernel
theorem dL_isChosen_6 : decode cL_isChosen 6 = .ok (.aload_n 0, 1) := by decide +kernel
theorem dL_isChosen_7 : decode cL_isChosen 7 = .ok (.iconst 0, 1) := by decide +kernel
theorem dL_isChosen_8 : decode cL_isChosen 8 = .ok (.invokestatic 177, 3) := by decide +kernel
theorem dL_isChosen_11 : decode cL_isChosen 11 = .ok (.iload_n 3, 1) := by decide +kernel
theorem dL_isChosen_12 : decode cL_isChosen 12 = .ok (.if_icmp .ne 22, 3) := by decide +kernel
theorem dL_isChosen_15 : decode cL_isChosen 15 = .ok (.aload_n 0, 1) := by decide +kernel
theorem dL_isChosen_16 : decode cL_isChosen 16 = .ok (.iload_n 3, 1) := by decide +kernel
theorem dL_isChosen_17 : decode cL_isChosen 17 = .ok (.invokestatic 179, 3) := by decide +kernel
theorem dL_isChosen_20 : decode cL_isChosen 20 = .ok (.iconst (-1), 1) := by decide +kernel
theorem dL_isChosen_21 : decode cL_isChosen 21 = .ok (.if_icmp .ne 13, 3) := by decide +kernel
theorem dL_isChosen_24 : decode cL_isChosen 24 = .ok (.aload_n 0, 1) := by decide +kernel
theorem dL_isChosen_25 : decode cL_isChosen 25 = .ok (.iconst (-1), 1) := by decide +kernel
theorem dL_isChosen_26 : decode cL_isChosen 26 = .ok (.invokestatic 179, 3) := by decide +kernel
theorem dL_isChosen_29 : decode cL_isChosen 29 = .ok (.bipush (-101), 2) := by decide +kernel
theorem dL_isChosen_31 : decode cL_isChosen 31 = .ok (.if_icmp .eq 5, 3) := by decide +kernel
theorem dL_isChosen_34 : decode cL_isChosen 34 = .ok (.iconst 0, 1) := by decide +kernel
theorem dL_isChosen_35 : decode cL_isChosen 35 = .ok (.ireturn, 1) := by decide +kernel
theorem dL_isChosen_36 : decode cL_isChosen 36 = .ok (.bipush 20, 2) := by decide +kernel
theorem dL_isChosen_38 : decode cL_isChosen 38 = .ok (.newarray .int, 2) := by decide +kernel
theorem dL_isChosen_40 : decode cL_isChosen 40 = .ok (.astore 4, 2) := by decide +kernel
theorem dL_isChosen_42 : decode cL_isChosen 42 = .ok (.iconst 0, 1) := by decide +kernel
theorem dL_isChosen_43 : decode cL_isChosen 43 = .ok (.istore 5, 2) := by decide +kernel
theorem dL_isChosen_45 : decode cL_isChosen 45 = .ok (.iload 5, 2) := by decide +kernel
theorem dL_isChosen_47 : decode cL_isChosen 47 = .ok (.iload_n 3, 1) := by decide +kernel
theorem dL_isChosen_48 : decode cL_isChosen 48 = .ok (.if_icmp .ge 124, 3) := by decide +kernel
theorem dL_isChosen_51 : decode cL_isChosen 51 = .ok (.aload 4, 2) := by decide +kernel
theorem dL_isChosen_53 : decode cL_isChosen 53 = .ok (.iload 5, 2) := by decide +kernel
theorem dL_isChosen_55 : decode cL_isChosen 55 = .ok (.aload_n 0, 1) := by decide +kernel
theorem dL_isChosen_56 : decode cL_isChosen 56 = .ok (.iload 5, 2) := by decide +kernel
theorem dL_isChosen_58 : decode cL_isChosen 58 = .ok (.invokestatic 179, 3) := by decide +kernel
theorem dL_isChosen_61 : decode cL_isChosen 61 = .ok (.iastore, 1) := by decide +kernel
theorem dL_isChosen_62 : decode cL_isChosen 62 = .ok (.aload 4, 2) := by decide +kernel
theorem dL_isChosen_64 : decode cL_isChosen 64 = .ok (.iload 5, 2) := by decide +kernel
theorem dL_isChosen_66 : decode cL_isChosen 66 = .ok (.iaload, 1) := by decide +kernel
theorem dL_isChosen_67 : decode cL_isChosen 67 = .ok (.aload_n 1, 1) := by decide +kernel
theorem dL_isChosen_68 : decode cL_isChosen 68 = .ok (.invokestatic 95, 3) := by decide +kernel
theorem dL_isChosen_71 : decode cL_isChosen 71 = .ok (.ifCond .eq 41, 3) := by decide +kernel
theorem dL_isChosen_74 : decode cL_isChosen 74 = .ok (.aload 4, 2) := by decide +kernel
theorem dL_isChosen_76 : decode cL_isChosen 76 = .ok (.iload 5, 2) := by decide +kernel
theorem dL_isChosen_78 : decode cL_isChosen 78 = .ok (.iaload, 1) := by decide +kernel
theorem dL_isChosen_79 : decode cL_isChosen 79 = .ok (.iconst (-1), 1) := by decide +kernel
theorem dL_isChosen_80 : decode cL_isChosen 80 = .ok (.aload_n 1, 1) := by decide +kernel
theorem dL_isChosen_81 : decode cL_isChosen 81 = .ok (.aload_n 2, 1) := by decide +kernel
theorem dL_isChosen_82 : decode cL_isChosen 82 = .ok (.invokestatic 99, 3) := by decide +kernel
theorem dL_isChosen_85 : decode cL_isChosen 85 = .ok (.ifCond .ne 27, 3) := by decide +kernel
theorem dL_isChosen_88 : decode cL_isChosen 88 = .ok (.iload 5, 2) := by decide +kernel
theorem dL_isChosen_90 : decode cL_isChosen 90 = .ok (.ifCond .eq 18, 3) := by decide +kernel
theorem dL_isChosen_93 : decode cL_isChosen 93 = .ok (.aload 4, 2) := by decide +kernel
theorem dL_isChosen_95 : decode cL_isChosen 95 = .ok (.iload 5, 2) := by decide +kernel
theorem dL_isChosen_97 : decode cL_isChosen 97 = .ok (.iaload, 1) := by decide +kernel
theorem dL_isChosen_98 : decode cL_isChosen 98 = .ok (.aload 4, 2) := by decide +kernel
theorem dL_isChosen_100 : decode cL_isChosen 100 = .ok (.iload 5, 2) := by decide +kernel
theorem dL_isChosen_102 : decode cL_isChosen 102 = .ok (.iconst 1, 1) := by decide +kernel
theorem dL_isChosen_103 : decode cL_isChosen 103 = .ok (.isub, 1) := by decide +kernel
theorem dL_isChosen_104 : decode cL_isChosen 104 = .ok (.iaload, 1) := by decide +kernel
theorem dL_isChosen_105 : decode cL_isChosen 105 = .ok (.if_icmp .le 7, 3) := by decide +kernel
theorem dL_isChosen_108 : decode cL_isChosen 108 = .ok (.iconst 1, 1) := by decide +kernel
theorem dL_isChosen_109 : decode cL_isChosen 109 = .ok (.goto 4, 3) := by decide +kernel
theorem dL_isChosen_112 : decode cL_isChosen 112 = .ok (.iconst 0, 1) := by decide +kernel
theorem dL_isChosen_113 : decode cL_isChosen 113 = .ok (.istore 6, 2) := by decide +kernel
theorem dL_isChosen_115 : decode cL_isChosen 115 = .ok (.iconst 0, 1) := by decide +kernel
theorem dL_isChosen_116 : decode cL_isChosen 116 = .ok (.istore 7, 2) := by decide +kernel
theorem dL_isChosen_118 : decode cL_isChosen 118 = .ok (.iload 7, 2) := by decide +kernel
theorem dL_isChosen_120 : decode cL_isChosen 120 = .ok (.iload 5, 2) := by decide +kernel
theorem dL_isChosen_122 : decode cL_isChosen 122 = .ok (.if_icmp .ge 37, 3) := by decide +kernel
theorem dL_isChosen_125 : decode cL_isChosen 125 = .ok (.iload 6, 2) := by decide +kernel
theorem dL_isChosen_127 : decode cL_isChosen 127 = .ok (.ifCond .eq 23, 3) := by decide +kernel
theorem dL_isChosen_130 : decode cL_isChosen 130 = .ok (.aload 4, 2) := by decide +kernel
theorem dL_isChosen_132 : decode cL_isChosen 132 = .ok (.iload 7, 2) := by decide +kernel
theorem dL_isChosen_134 : decode cL_isChosen 134 = .ok (.iaload, 1) := by decide +kernel
theorem dL_isChosen_135 : decode cL_isChosen 135 = .ok (.aload 4, 2) := by decide +kernel
theorem dL_isChosen_137 : decode cL_isChosen 137 = .ok (.iload 5, 2) := by decide +kernel
theorem dL_isChosen_139 : decode cL_isChosen 139 = .ok (.iaload, 1) := by decide +kernel
theorem dL_isChosen_140 : decode cL_isChosen 140 = .ok (.invokestatic 92, 3) := by decide +kernel
theorem dL_isChosen_143 : decode cL_isChosen 143 = .ok (.ifCond .ne 7, 3) := by decide +kernel
theorem dL_isChosen_146 : decode cL_isChosen 146 = .ok (.iconst 1, 1) := by decide +kernel
theorem dL_isChosen_147 : decode cL_isChosen 147 = .ok (.goto 4, 3) := by decide +kernel
theorem dL_isChosen_150 : decode cL_isChosen 150 = .ok (.iconst 0, 1) := by decide +kernel
theorem dL_isChosen_151 : decode cL_isChosen 151 = .ok (.istore 6, 2) := by decide +kernel
theorem dL_isChosen_153 : decode cL_isChosen 153 = .ok (.iinc 7 1, 3) := by decide +kernel
theorem dL_isChosen_156 : decode cL_isChosen 156 = .ok (.goto (-38), 3) := by decide +kernel
theorem dL_isChosen_159 : decode cL_isChosen 159 = .ok (.iload 6, 2) := by decide +kernel
theorem dL_isChosen_161 : decode cL_isChosen 161 = .ok (.ifCond .ne 5, 3) := by decide +kernel
theorem dL_isChosen_164 : decode cL_isChosen 164 = .ok (.iconst 0, 1) := by decide +kernel
theorem dL_isChosen_165 : decode cL_isChosen 165 = .ok (.ireturn, 1) := by decide +kernel
theorem dL_isChosen_166 : decode cL_isChosen 166 = .ok (.iinc 5 1, 3) := by decide +kernel
theorem dL_isChosen_169 : decode cL_isChosen 169 = .ok (.goto (-124), 3) := by decide +kernel
theorem dL_isChosen_172 : decode cL_isChosen 172 = .ok (.iconst 0, 1) := by decide +kernel
theorem dL_isChosen_173 : decode cL_isChosen 173 = .ok (.istore 5, 2) := by decide +kernel
theorem dL_isChosen_175 : decode cL_isChosen 175 = .ok (.iload 5, 2) := by decide +kernel
theorem dL_isChosen_177 : decode cL_isChosen 177 = .ok (.bipush 81, 2) := by decide +kernel
theorem dL_isChosen_179 : decode cL_isChosen 179 = .ok (.if_icmp .ge 83, 3) := by decide +kernel
theorem dL_isChosen_182 : decode cL_isChosen 182 = .ok (.iload 5, 2) := by decide +kernel
theorem dL_isChosen_184 : decode cL_isChosen 184 = .ok (.aload_n 1, 1) := by decide +kernel
theorem dL_isChosen_185 : decode cL_isChosen 185 = .ok (.invokestatic 95, 3) := by decide +kernel
theorem dL_isChosen_188 : decode cL_isChosen 188 = .ok (.ifCond .eq 18, 3) := by decide +kernel
theorem dL_isChosen_191 : decode cL_isChosen 191 = .ok (.iload 5, 2) := by decide +kernel
theorem dL_isChosen_193 : decode cL_isChosen 193 = .ok (.iconst (-1), 1) := by decide +kernel
theorem dL_isChosen_194 : decode cL_isChosen 194 = .ok (.aload_n 1, 1) := by decide +kernel
theorem dL_isChosen_195 : decode cL_isChosen 195 = .ok (.aload_n 2, 1) := by decide +kernel
theorem dL_isChosen_196 : decode cL_isChosen 196 = .ok (.invokestatic 99, 3) := by decide +kernel
theorem dL_isChosen_199 : decode cL_isChosen 199 = .ok (.ifCond .ne 7, 3) := by decide +kernel
theorem dL_isChosen_202 : decode cL_isChosen 202 = .ok (.iconst 1, 1) := by decide +kernel
theorem dL_isChosen_203 : decode cL_isChosen 203 = .ok (.goto 4, 3) := by decide +kernel
theorem dL_isChosen_206 : decode cL_isChosen 206 = .ok (.iconst 0, 1) := by decide +kernel
theorem dL_isChosen_207 : decode cL_isChosen 207 = .ok (.istore 6, 2) := by decide +kernel
theorem dL_isChosen_209 : decode cL_isChosen 209 = .ok (.iconst 0, 1) := by decide +kernel
theorem dL_isChosen_210 : decode cL_isChosen 210 = .ok (.istore 7, 2) := by decide +kernel
theorem dL_isChosen_212 : decode cL_isChosen 212 = .ok (.iload 7, 2) := by decide +kernel
theorem dL_isChosen_214 : decode cL_isChosen 214 = .ok (.iload_n 3, 1) := by decide +kernel
theorem dL_isChosen_215 : decode cL_isChosen 215 = .ok (.if_icmp .ge 34, 3) := by decide +kernel
theorem dL_isChosen_218 : decode cL_isChosen 218 = .ok (.iload 6, 2) := by decide +kernel
theorem dL_isChosen_220 : decode cL_isChosen 220 = .ok (.ifCond .eq 20, 3) := by decide +kernel
theorem dL_isChosen_223 : decode cL_isChosen 223 = .ok (.aload 4, 2) := by decide +kernel
theorem dL_isChosen_225 : decode cL_isChosen 225 = .ok (.iload 7, 2) := by decide +kernel
theorem dL_isChosen_227 : decode cL_isChosen 227 = .ok (.iaload, 1) := by decide +kernel
theorem dL_isChosen_228 : decode cL_isChosen 228 = .ok (.iload 5, 2) := by decide +kernel
theorem dL_isChosen_230 : decode cL_isChosen 230 = .ok (.invokestatic 92, 3) := by decide +kernel
theorem dL_isChosen_233 : decode cL_isChosen 233 = .ok (.ifCond .ne 7, 3) := by decide +kernel
theorem dL_isChosen_236 : decode cL_isChosen 236 = .ok (.iconst 1, 1) := by decide +kernel
theorem dL_isChosen_237 : decode cL_isChosen 237 = .ok (.goto 4, 3) := by decide +kernel
theorem dL_isChosen_240 : decode cL_isChosen 240 = .ok (.iconst 0, 1) := by decide +kernel
theorem dL_isChosen_241 : decode cL_isChosen 241 = .ok (.istore 6, 2) := by decide +kernel
theorem dL_isChosen_243 : decode cL_isChosen 243 = .ok (.iinc 7 1, 3) := by decide +kernel
theorem dL_isChosen_246 : decode cL_isChosen 246 = .ok (.goto (-34), 3) := by decide +kernel
theorem dL_isChosen_249 : decode cL_isChosen 249 = .ok (.iload 6, 2) := by decide +kernel
theorem dL_isChosen_251 : decode cL_isChosen 251 = .ok (.ifCond .eq 5, 3) := by decide +kernel
theorem dL_isChosen_254 : decode cL_isChosen 254 = .ok (.iconst 0, 1) := by decide +kernel
theorem dL_isChosen_255 : decode cL_isChosen 255 = .ok (.ireturn, 1) := by decide +kernel
theorem dL_isChosen_256 : decode cL_isChosen 256 = .ok (.iinc 5 1, 3) := by decide +kernel
theorem dL_isChosen_259 : decode cL_isChosen 259 = .ok (.goto (-84), 3) := by decide +kernel
theorem dL_isChosen_262 : decode cL_isChosen 262 = .ok (.iconst 1, 1) := by decide +kernel
theorem dL_isChosen_263 : decode cL_isChosen 263 = .ok (.ireturn, 1) := by decide +kernel
theorem dL_isSo_0 : decode cL_isSo 0 = .ok (.aload_n 0, 1) := by decide +kernel
theorem dL_isSo_1 : decode cL_isSo 1 = .ok (.aload_n 3, 1) := by decide +kernel
theorem dL_isSo_2 : decode cL_isSo 2 = .ok (.aload 4, 2) := by decide +kernel
theorem dL_isSo_4 : decode cL_isSo 4 = .ok (.aload 5, 2) := by decide +kernel
theorem dL_isSo_6 : decode cL_isSo 6 = .ok (.invokestatic 181, 3) := by decide +kernel
theorem dL_isSo_9 : decode cL_isSo 9 = .ok (.ifCond .eq 57, 3) := by decide +kernel
theorem dL_isSo_12 : decode cL_isSo 12 = .ok (.aload_n 0, 1) := by decide +kernel
theorem dL_isSo_13 : decode cL_isSo 13 = .ok (.aload_n 3, 1) := by decide +kernel
theorem dL_isSo_14 : decode cL_isSo 14 = .ok (.iconst 0, 1) := by decide +kernel
theorem dL_isSo_15 : decode cL_isSo 15 = .ok (.iaload, 1) := by decide +kernel
theorem dL_isSo_16 : decode cL_isSo 16 = .ok (.iconst 0, 1) := by decide +kernel
theorem dL_isSo_17 : decode cL_isSo 17 = .ok (.invokestatic 117, 3) := by decide +kernel
theorem dL_isSo_20 : decode cL_isSo 20 = .ok (.bipush (-101), 2) := by decide +kernel
theorem dL_isSo_22 : decode cL_isSo 22 = .ok (.if_icmp .ne 44, 3) := by decide +kernel
theorem dL_isSo_25 : decode cL_isSo 25 = .ok (.aload_n 0, 1) := by decide +kernel
theorem dL_isSo_26 : decode cL_isSo 26 = .ok (.iload_n 1, 1) := by decide +kernel
theorem dL_isSo_27 : decode cL_isSo 27 = .ok (.iconst 4, 1) := by decide +kernel
theorem dL_isSo_28 : decode cL_isSo 28 = .ok (.invokestatic 185, 3) := by decide +kernel
theorem dL_isSo_31 : decode cL_isSo 31 = .ok (.aload_n 3, 1) := by decide +kernel
theorem dL_isSo_32 : decode cL_isSo 32 = .ok (.aload 4, 2) := by decide +kernel
theorem dL_isSo_34 : decode cL_isSo 34 = .ok (.aload 5, 2) := by decide +kernel
theorem dL_isSo_36 : decode cL_isSo 36 = .ok (.invokestatic 188, 3) := by decide +kernel
theorem dL_isSo_39 : decode cL_isSo 39 = .ok (.ifCond .eq 27, 3) := by decide +kernel
theorem dL_isSo_42 : decode cL_isSo 42 = .ok (.aload_n 0, 1) := by decide +kernel
theorem dL_isSo_43 : decode cL_isSo 43 = .ok (.iload_n 1, 1) := by decide +kernel
theorem dL_isSo_44 : decode cL_isSo 44 = .ok (.iconst 2, 1) := by decide +kernel
theorem dL_isSo_45 : decode cL_isSo 45 = .ok (.ishr, 1) := by decide +kernel
theorem dL_isSo_46 : decode cL_isSo 46 = .ok (.bipush 6, 2) := by decide +kernel
theorem dL_isSo_48 : decode cL_isSo 48 = .ok (.invokestatic 185, 3) := by decide +kernel
theorem dL_isSo_51 : decode cL_isSo 51 = .ok (.aload_n 3, 1) := by decide +kernel
theorem dL_isSo_52 : decode cL_isSo 52 = .ok (.aload 4, 2) := by decide +kernel
theorem dL_isSo_54 : decode cL_isSo 54 = .ok (.aload 5, 2) := by decide +kernel
theorem dL_isSo_56 : decode cL_isSo 56 = .ok (.invokestatic 192, 3) := by decide +kernel
theorem dL_isSo_59 : decode cL_isSo 59 = .ok (.ifCond .eq 7, 3) := by decide +kernel
theorem dL_isSo_62 : decode cL_isSo 62 = .ok (.iconst 1, 1) := by decide +kernel
theorem dL_isSo_63 : decode cL_isSo 63 = .ok (.goto 4, 3) := by decide +kernel
theorem dL_isSo_66 : decode cL_isSo 66 = .ok (.iconst 0, 1) := by decide +kernel
theorem dL_isSo_67 : decode cL_isSo 67 = .ok (.istore 6, 2) := by decide +kernel
theorem dL_isSo_69 : decode cL_isSo 69 = .ok (.iload_n 1, 1) := by decide +kernel
theorem dL_isSo_70 : decode cL_isSo 70 = .ok (.iconst 5, 1) := by decide +kernel
theorem dL_isSo_71 : decode cL_isSo 71 = .ok (.ishr, 1) := by decide +kernel
theorem dL_isSo_72 : decode cL_isSo 72 = .ok (.bipush 81, 2) := by decide +kernel
theorem dL_isSo_74 : decode cL_isSo 74 = .ok (.invokestatic 185, 3) := by decide +kernel
theorem dL_isSo_77 : decode cL_isSo 77 = .ok (.istore 7, 2) := by decide +kernel
theorem dL_isSo_79 : decode cL_isSo 79 = .ok (.iconst 0, 1) := by decide +kernel
theorem dL_isSo_80 : decode cL_isSo 80 = .ok (.istore 8, 2) := by decide +kernel
theorem dL_isSo_82 : decode cL_isSo 82 = .ok (.iconst (-1), 1) := by decide +kernel
theorem dL_isSo_83 : decode cL_isSo 83 = .ok (.istore 9, 2) := by decide +kernel
theorem dL_isSo_85 : decode cL_isSo 85 = .ok (.bipush 80, 2) := by decide +kernel
theorem dL_isSo_87 : decode cL_isSo 87 = .ok (.aload 5, 2) := by decide +kernel
theorem dL_isSo_89 : decode cL_isSo 89 = .ok (.invokestatic 164, 3) := by decide +kernel
theorem dL_isSo_92 : decode cL_isSo 92 = .ok (.iload_n 1, 1) := by decide +kernel
theorem dL_isSo_93 : decode cL_isSo 93 = .ok (.bipush 8, 2) := by decide +kernel
theorem dL_isSo_95 : decode cL_isSo 95 = .ok (.ishr, 1) := by decide +kernel
theorem dL_isSo_96 : decode cL_isSo 96 = .ok (.bipush 64, 2) := by decide +kernel
theorem dL_isSo_98 : decode cL_isSo 98 = .ok (.invokestatic 185, 3) := by decide +kernel
theorem dL_isSo_101 : decode cL_isSo 101 = .ok (.iand, 1) := by decide +kernel
theorem dL_isSo_102 : decode cL_isSo 102 = .ok (.istore 10, 2) := by decide +kernel
theorem dL_isSo_104 : decode cL_isSo 104 = .ok (.iconst 0, 1) := by decide +kernel
theorem dL_isSo_105 : decode cL_isSo 105 = .ok (.istore 11, 2) := by decide +kernel
theorem dL_isSo_107 : decode cL_isSo 107 = .ok (.iload 11, 2) := by decide +kernel
theorem dL_isSo_109 : decode cL_isSo 109 = .ok (.bipush 81, 2) := by decide +kernel
theorem dL_isSo_111 : decode cL_isSo 111 = .ok (.if_icmp .ge 102, 3) := by decide +kernel
theorem dL_isSo_114 : decode cL_isSo 114 = .ok (.iload 8, 2) := by decide +kernel
theorem dL_isSo_116 : decode cL_isSo 116 = .ok (.iload 7, 2) := by decide +kernel
theorem dL_isSo_118 : decode cL_isSo 118 = .ok (.iload 11, 2) := by decide +kernel
theorem dL_isSo_120 : decode cL_isSo 120 = .ok (.invokestatic 92, 3) := by decide +kernel
theorem dL_isSo_123 : decode cL_isSo 123 = .ok (.iconst 4, 1) := by decide +kernel
theorem dL_isSo_124 : decode cL_isSo 124 = .ok (.if_icmp .ne 16, 3) := by decide +kernel
theorem dL_isSo_127 : decode cL_isSo 127 = .ok (.iload 11, 2) := by decide +kernel
theorem dL_isSo_129 : decode cL_isSo 129 = .ok (.aload_n 3, 1) := by decide +kernel
theorem dL_isSo_130 : decode cL_isSo 130 = .ok (.invokestatic 95, 3) := by decide +kernel
theorem dL_isSo_133 : decode cL_isSo 133 = .ok (.ifCond .eq 7, 3) := by decide +kernel
theorem dL_isSo_136 : decode cL_isSo 136 = .ok (.iconst 1, 1) := by decide +kernel
theorem dL_isSo_137 : decode cL_isSo 137 = .ok (.goto 4, 3) := by decide +kernel
theorem dL_isSo_140 : decode cL_isSo 140 = .ok (.iconst 0, 1) := by decide +kernel
theorem dL_isSo_141 : decode cL_isSo 141 = .ok (.iadd, 1) := by decide +kernel
theorem dL_isSo_142 : decode cL_isSo 142 = .ok (.istore 8, 2) := by decide +kernel
theorem dL_isSo_144 : decode cL_isSo 144 = .ok (.iload 11, 2) := by decide +kernel
theorem dL_isSo_146 : decode cL_isSo 146 = .ok (.aload_n 3, 1) := by decide +kernel
theorem dL_isSo_147 : decode cL_isSo 147 = .ok (.invokestatic 95, 3) := by decide +kernel
theorem dL_isSo_150 : decode cL_isSo 150 = .ok (.ifCond .eq 22, 3) := by decide +kernel
theorem dL_isSo_153 : decode cL_isSo 153 = .ok (.iload 11, 2) := by decide +kernel
theorem dL_isSo_155 : decode cL_isSo 155 = .ok (.aload 5, 2) := by decide +kernel
theorem dL_isSo_157 : decode cL_isSo 157 = .ok (.invokestatic 164, 3) := by decide +kernel
theorem dL_isSo_160 : decode cL_isSo 160 = .ok (.iload 10, 2) := by decide +kernel
theorem dL_isSo_162 : decode cL_isSo 162 = .ok (.iand, 1) := by decide +kernel
theorem dL_isSo_163 : decode cL_isSo 163 = .ok (.iload 10, 2) := by decide +kernel
theorem dL_isSo_165 : decode cL_isSo 165 = .ok (.if_icmp .ne 7, 3) := by decide +kernel
theorem dL_isSo_168 : decode cL_isSo 168 = .ok (.iconst 1, 1) := by decide +kernel
theorem dL_isSo_169 : decode cL_isSo 169 = .ok (.goto 4, 3) := by decide +kernel
theorem dL_isSo_172 : decode cL_isSo 172 = .ok (.iconst 0, 1) := by decide +kernel
theorem dL_isSo_173 : decode cL_isSo 173 = .ok (.istore 12, 2) := by decide +kernel
theorem dL_isSo_175 : decode cL_isSo 175 = .ok (.iload 12, 2) := by decide +kernel
theorem dL_isSo_177 : decode cL_isSo 177 = .ok (.ifCond .eq 26, 3) := by decide +kernel
theorem dL_isSo_180 : decode cL_isSo 180 = .ok (.iload 9, 2) := by decide +kernel
theorem dL_isSo_182 : decode cL_isSo 182 = .ok (.ifCond .lt 16, 3) := by decide +kernel
theorem dL_isSo_185 : decode cL_isSo 185 = .ok (.iload 11, 2) := by decide +kernel
theorem dL_isSo_187 : decode cL_isSo 187 = .ok (.invokestatic 154, 3) := by decide +kernel
theorem dL_isSo_190 : decode cL_isSo 190 = .ok (.iload 9, 2) := by decide +kernel
theorem dL_isSo_192 : decode cL_isSo 192 = .ok (.invokestatic 154, 3) := by decide +kernel
theorem dL_isSo_195 : decode cL_isSo 195 = .ok (.if_icmp .ge 8, 3) := by decide +kernel
theorem dL_isSo_198 : decode cL_isSo 198 = .ok (.iload 11, 2) := by decide +kernel
theorem dL_isSo_200 : decode cL_isSo 200 = .ok (.goto 5, 3) := by decide +kernel
theorem dL_isSo_203 : decode cL_isSo 203 = .ok (.iload 9, 2) := by decide +kernel
theorem dL_isSo_205 : decode cL_isSo 205 = .ok (.istore 9, 2) := by decide +kernel
theorem dL_isSo_207 : decode cL_isSo 207 = .ok (.iinc 11 1, 3) := by decide +kernel
theorem dL_isSo_210 : decode cL_isSo 210 = .ok (.goto (-103), 3) := by decide +kernel
theorem dL_isSo_213 : decode cL_isSo 213 = .ok (.iload 7, 2) := by decide +kernel
theorem dL_isSo_215 : decode cL_isSo 215 = .ok (.aload_n 3, 1) := by decide +kernel
theorem dL_isSo_216 : decode cL_isSo 216 = .ok (.aload 4, 2) := by decide +kernel
theorem dL_isSo_218 : decode cL_isSo 218 = .ok (.invokestatic 150, 3) := by decide +kernel
theorem dL_isSo_221 : decode cL_isSo 221 = .ok (.istore 11, 2) := by decide +kernel
theorem dL_isSo_223 : decode cL_isSo 223 = .ok (.iload 6, 2) := by decide +kernel
theorem dL_isSo_225 : decode cL_isSo 225 = .ok (.ifCond .eq 106, 3) := by decide +kernel
theorem dL_isSo_228 : decode cL_isSo 228 = .ok (.aload_n 0, 1) := by decide +kernel
theorem dL_isSo_229 : decode cL_isSo 229 = .ok (.iload 7, 2) := by decide +kernel
theorem dL_isSo_231 : decode cL_isSo 231 = .ok (.iconst 0, 1) := by decide +kernel
theorem dL_isSo_232 : decode cL_isSo 232 = .ok (.invokestatic 195, 3) := by decide +kernel
theorem dL_isSo_235 : decode cL_isSo 235 = .ok (.iload 7, 2) := by decide +kernel
theorem dL_isSo_237 : decode cL_isSo 237 = .ok (.invokestatic 154, 3) := by decide +kernel
theorem dL_isSo_240 : decode cL_isSo 240 = .ok (.if_icmp .ne 91, 3) := by decide +kernel
theorem dL_isSo_243 : decode cL_isSo 243 = .ok (.aload_n 0, 1) := by decide +kernel
theorem dL_isSo_244 : decode cL_isSo 244 = .ok (.iload 7, 2) := by decide +kernel
theorem dL_isSo_246 : decode cL_isSo 246 = .ok (.iconst 1, 1) := by decide +kernel
theorem dL_isSo_247 : decode cL_isSo 247 = .ok (.invokestatic 195, 3) := by decide +kernel
theorem dL_isSo_250 : decode cL_isSo 250 = .ok (.iload 7, 2) := by decide +kernel
theorem dL_isSo_252 : decode cL_isSo 252 = .ok (.aload_n 3, 1) := by decide +kernel
theorem dL_isSo_253 : decode cL_isSo 253 = .ok (.invokestatic 95, 3) := by decide +kernel
theorem dL_isSo_256 : decode cL_isSo 256 = .ok (.ifCond .eq 7, 3) := by decide +kernel
theorem dL_isSo_259 : decode cL_isSo 259 = .ok (.iconst 1, 1) := by decide +kernel
theorem dL_isSo_260 : decode cL_isSo 260 = .ok (.goto 4, 3) := by decide +kernel
theorem dL_isSo_263 : decode cL_isSo 263 = .ok (.iconst 0, 1) := by decide +kernel
theorem dL_isSo_264 : decode cL_isSo 264 = .ok (.if_icmp .ne 67, 3) := by decide +kernel
theorem dL_isSo_267 : decode cL_isSo 267 = .ok (.aload_n 0, 1) := by decide +kernel
theorem dL_isSo_268 : decode cL_isSo 268 = .ok (.iload 7, 2) := by decide +kernel
theorem dL_isSo_270 : decode cL_isSo 270 = .ok (.iconst 2, 1) := by decide +kernel
theorem dL_isSo_271 : decode cL_isSo 271 = .ok (.invokestatic 195, 3) := by decide +kernel
theorem dL_isSo_274 : decode cL_isSo 274 = .ok (.iload 11, 2) := by decide +kernel
theorem dL_isSo_276 : decode cL_isSo 276 = .ok (.if_icmp .ne 55, 3) := by decide +kernel
theorem dL_isSo_279 : decode cL_isSo 279 = .ok (.aload_n 0, 1) := by decide +kernel
theorem dL_isSo_280 : decode cL_isSo 280 = .ok (.iload 7, 2) := by decide +kernel
theorem dL_isSo_282 : decode cL_isSo 282 = .ok (.iconst 3, 1) := by decide +kernel
theorem dL_isSo_283 : decode cL_isSo 283 = .ok (.invokestatic 195, 3) := by decide +kernel
theorem dL_isSo_286 : decode cL_isSo 286 = .ok (.iload 8, 2) := by decide +kernel
theorem dL_isSo_288 : decode cL_isSo 288 = .ok (.if_icmp .ne 43, 3) := by decide +kernel
theorem dL_isSo_291 : decode cL_isSo 291 = .ok (.aload_n 0, 1) := by decide +kernel
theorem dL_isSo_292 : decode cL_isSo 292 = .ok (.iload 7, 2) := by decide +kernel
theorem dL_isSo_294 : decode cL_isSo 294 = .ok (.iconst 5, 1) := by decide +kernel
theorem dL_isSo_295 : decode cL_isSo 295 = .ok (.invokestatic 195, 3) := by decide +kernel
theorem dL_isSo_298 : decode cL_isSo 298 = .ok (.iload 7, 2) := by decide +kernel
theorem dL_isSo_300 : decode cL_isSo 300 = .ok (.aload_n 3, 1) := by decide +kernel
theorem dL_isSo_301 : decode cL_isSo 301 = .ok (.invokestatic 95, 3) := by decide +kernel
theorem dL_isSo_304 : decode cL_isSo 304 = .ok (.ifCond .eq 19, 3) := by decide +kernel
theorem dL_isSo_307 : decode cL_isSo 307 = .ok (.iload 7, 2) := by decide +kernel
theorem dL_isSo_309 : decode cL_isSo 309 = .ok (.iconst (-1), 1) := by decide +kernel
theorem dL_isSo_310 : decode cL_isSo 310 = .ok (.aload_n 3, 1) := by decide +kernel
theorem dL_isSo_311 : decode cL_isSo 311 = .ok (.aload 4, 2) := by decide +kernel
theorem dL_isSo_313 : decode cL_isSo 313 = .ok (.invokestatic 99, 3) := by decide +kernel
theorem dL_isSo_316 : decode cL_isSo 316 = .ok (.ifCond .ne 7, 3) := by decide +kernel
theorem dL_isSo_319 : decode cL_isSo 319 = .ok (.iconst 1, 1) := by decide +kernel
theorem dL_isSo_320 : decode cL_isSo 320 = .ok (.goto 4, 3) := by decide +kernel
theorem dL_isSo_323 : decode cL_isSo 323 = .ok (.iconst 0, 1) := by decide +kernel
theorem dL_isSo_324 : decode cL_isSo 324 = .ok (.if_icmp .ne 7, 3) := by decide +kernel
theorem dL_isSo_327 : decode cL_isSo 327 = .ok (.iconst 1, 1) := by decide +kernel
theorem dL_isSo_328 : decode cL_isSo 328 = .ok (.goto 4, 3) := by decide +kernel
theorem dL_isSo_331 : decode cL_isSo 331 = .ok (.iconst 0, 1) := by decide +kernel
theorem dL_isSo_332 : decode cL_isSo 332 = .ok (.istore 6, 2) := by decide +kernel
theorem dL_isSo_334 : decode cL_isSo 334 = .ok (.iload 6, 2) := by decide +kernel
theorem dL_isSo_336 : decode cL_isSo 336 = .ok (.ifCond .eq 28, 3) := by decide +kernel
theorem dL_isSo_339 : decode cL_isSo 339 = .ok (.aload_n 0, 1) := by decide +kernel
theorem dL_isSo_340 : decode cL_isSo 340 = .ok (.iload 10, 2) := by decide +kernel
theorem dL_isSo_342 : decode cL_isSo 342 = .ok (.invokestatic 197, 3) := by decide +kernel
theorem dL_isSo_345 : decode cL_isSo 345 = .ok (.iload 10, 2) := by decide +kernel
theorem dL_isSo_347 : decode cL_isSo 347 = .ok (.ifCond .ne 8, 3) := by decide +kernel
theorem dL_isSo_350 : decode cL_isSo 350 = .ok (.bipush (-102), 2) := by decide +kernel
theorem dL_isSo_352 : decode cL_isSo 352 = .ok (.goto 5, 3) := by decide +kernel
theorem dL_isSo_355 : decode cL_isSo 355 = .ok (.iload 9, 2) := by decide +kernel
theorem dL_isSo_357 : decode cL_isSo 357 = .ok (.if_icmp .ne 7, 3) := by decide +kernel
theorem dL_isSo_360 : decode cL_isSo 360 = .ok (.iconst 1, 1) := by decide +kernel
theorem dL_isSo_361 : decode cL_isSo 361 = .ok (.goto 4, 3) := by decide +kernel
theorem dL_isSo_364 : decode cL_isSo 364 = .ok (.iconst 0, 1) := by decide +kernel
theorem dL_isSo_365 : decode cL_isSo 365 = .ok (.istore 6, 2) := by decide +kernel
theorem dL_isSo_367 : decode cL_isSo 367 = .ok (.iload 6, 2) := by decide +kernel
theorem dL_isSo_369 : decode cL_isSo 369 = .ok (.ifCond .eq 49, 3) := by decide +kernel
theorem dL_isSo_372 : decode cL_isSo 372 = .ok (.aload_n 3, 1) := by decide +kernel
theorem dL_isSo_373 : decode cL_isSo 373 = .ok (.iconst 0, 1) := by decide +kernel
theorem dL_isSo_374 : decode cL_isSo 374 = .ok (.iaload, 1) := by decide +kernel
theorem dL_isSo_375 : decode cL_isSo 375 = .ok (.ifCond .eq 25, 3) := by decide +kernel
theorem dL_isSo_378 : decode cL_isSo 378 = .ok (.aload_n 0, 1) := by decide +kernel
theorem dL_isSo_379 : decode cL_isSo 379 = .ok (.iload_n 1, 1) := by decide +kernel
theorem dL_isSo_380 : decode cL_isSo 380 = .ok (.bipush 12, 2) := by decide +kernel
theorem dL_isSo_382 : decode cL_isSo 382 = .ok (.ishr, 1) := by decide +kernel
theorem dL_isSo_383 : decode cL_isSo 383 = .ok (.aload_n 3, 1) := by decide +kernel
theorem dL_isSo_384 : decode cL_isSo 384 = .ok (.iconst 0, 1) := by decide +kernel
theorem dL_isSo_385 : decode cL_isSo 385 = .ok (.iaload, 1) := by decide +kernel
theorem dL_isSo_386 : decode cL_isSo 386 = .ok (.invokestatic 185, 3) := by decide +kernel
theorem dL_isSo_389 : decode cL_isSo 389 = .ok (.aload_n 3, 1) := by decide +kernel
theorem dL_isSo_390 : decode cL_isSo 390 = .ok (.aload 4, 2) := by decide +kernel
theorem dL_isSo_392 : decode cL_isSo 392 = .ok (.aload 5, 2) := by decide +kernel
theorem dL_isSo_394 : decode cL_isSo 394 = .ok (.invokestatic 199, 3) := by decide +kernel
theorem dL_isSo_397 : decode cL_isSo 397 = .ok (.ifCond .eq 21, 3) := by decide +kernel
theorem dL_isSo_400 : decode cL_isSo 400 = .ok (.iload_n 2, 1) := by decide +kernel
theorem dL_isSo_401 : decode cL_isSo 401 = .ok (.ifCond .eq 13, 3) := by decide +kernel
theorem dL_isSo_404 : decode cL_isSo 404 = .ok (.aload_n 0, 1) := by decide +kernel
theorem dL_isSo_405 : decode cL_isSo 405 = .ok (.aload_n 3, 1) := by decide +kernel
theorem dL_isSo_406 : decode cL_isSo 406 = .ok (.aload 4, 2) := by decide +kernel
theorem dL_isSo_408 : decode cL_isSo 408 = .ok (.invokestatic 202, 3) := by decide +kernel
theorem dL_isSo_411 : decode cL_isSo 411 = .ok (.ifCond .eq 7, 3) := by decide +kernel
theorem dL_isSo_414 : decode cL_isSo 414 = .ok (.iconst 1, 1) := by decide +kernel
theorem dL_isSo_415 : decode cL_isSo 415 = .ok (.goto 4, 3) := by decide +kernel
theorem dL_isSo_418 : decode cL_isSo 418 = .ok (.iconst 0, 1) := by decide +kernel
theorem dL_isSo_419 : decode cL_isSo 419 = .ok (.ireturn, 1) := by decide +kernel
