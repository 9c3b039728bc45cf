theorem d_L_cell_0 : decode b_L_cell 0 = .ok (.iload_n 1, 1) := by decide +kernel
theorem d_L_cell_1 : decode b_L_cell 1 = .ok (.aload_n 0, 1) := by decide +kernel
theorem d_L_cell_2 : decode b_L_cell 2 = .ok (.arraylength, 1) := by decide +kernel
theorem d_L_cell_3 : decode b_L_cell 3 = .ok (.if_icmp .ge 9, 3) := by decide +kernel
theorem d_L_cell_6 : decode b_L_cell 6 = .ok (.aload_n 0, 1) := by decide +kernel
theorem d_L_cell_7 : decode b_L_cell 7 = .ok (.iload_n 1, 1) := by decide +kernel
theorem d_L_cell_8 : decode b_L_cell 8 = .ok (.iaload, 1) := by decide +kernel
theorem d_L_cell_9 : decode b_L_cell 9 = .ok (.goto 4, 3) := by decide +kernel
theorem d_L_cell_12 : decode b_L_cell 12 = .ok (.iconst 0, 1) := by decide +kernel
theorem d_L_cell_13 : decode b_L_cell 13 = .ok (.ireturn, 1) := by decide +kernel
theorem d_L_join_0 : decode b_L_join 0 = .ok (.aload_n 3, 1) := by decide +kernel
theorem d_L_join_1 : decode b_L_join 1 = .ok (.iconst 0, 1) := by decide +kernel
theorem d_L_join_2 : decode b_L_join 2 = .ok (.aload_n 0, 1) := by decide +kernel
theorem d_L_join_3 : decode b_L_join 3 = .ok (.iload_n 1, 1) := by decide +kernel
theorem d_L_join_4 : decode b_L_join 4 = .ok (.iload_n 2, 1) := by decide +kernel
theorem d_L_join_5 : decode b_L_join 5 = .ok (.invokevirtual 7, 3) := by decide +kernel
theorem d_L_join_8 : decode b_L_join 8 = .ok (.i2l, 1) := by decide +kernel
theorem d_L_join_9 : decode b_L_join 9 = .ok (.lastore, 1) := by decide +kernel
theorem d_L_join_10 : decode b_L_join 10 = .ok (.goto 7, 3) := by decide +kernel
theorem d_L_join_13 : decode b_L_join 13 = .ok (.astore 4, 2) := by decide +kernel
theorem d_L_join_15 : decode b_L_join 15 = .ok (.iconst 1, 1) := by decide +kernel
theorem d_L_join_16 : decode b_L_join 16 = .ok (.ireturn, 1) := by decide +kernel
theorem d_L_join_17 : decode b_L_join 17 = .ok (.iconst 0, 1) := by decide +kernel
theorem d_L_join_18 : decode b_L_join 18 = .ok (.ireturn, 1) := by decide +kernel
theorem d_L_leave_0 : decode b_L_leave 0 = .ok (.aload_n 3, 1) := by decide +kernel
theorem d_L_leave_1 : decode b_L_leave 1 = .ok (.iconst 0, 1) := by decide +kernel
theorem d_L_leave_2 : decode b_L_leave 2 = .ok (.aload_n 0, 1) := by decide +kernel
theorem d_L_leave_3 : decode b_L_leave 3 = .ok (.iload_n 1, 1) := by decide +kernel
theorem d_L_leave_4 : decode b_L_leave 4 = .ok (.iload_n 2, 1) := by decide +kernel
theorem d_L_leave_5 : decode b_L_leave 5 = .ok (.invokevirtual 15, 3) := by decide +kernel
theorem d_L_leave_8 : decode b_L_leave 8 = .ok (.i2l, 1) := by decide +kernel
theorem d_L_leave_9 : decode b_L_leave 9 = .ok (.lastore, 1) := by decide +kernel
theorem d_L_leave_10 : decode b_L_leave 10 = .ok (.goto 7, 3) := by decide +kernel
theorem d_L_leave_13 : decode b_L_leave 13 = .ok (.astore 4, 2) := by decide +kernel
theorem d_L_leave_15 : decode b_L_leave 15 = .ok (.iconst 1, 1) := by decide +kernel
theorem d_L_leave_16 : decode b_L_leave 16 = .ok (.ireturn, 1) := by decide +kernel
theorem d_L_leave_17 : decode b_L_leave 17 = .ok (.iconst 0, 1) := by decide +kernel
theorem d_L_leave_18 : decode b_L_leave 18 = .ok (.ireturn, 1) := by decide +kernel
theorem d_L_beat_0 : decode b_L_beat 0 = .ok (.aload 4, 2) := by decide +kernel
theorem d_L_beat_2 : decode b_L_beat 2 = .ok (.iconst 0, 1) := by decide +kernel
theorem d_L_beat_3 : decode b_L_beat 3 = .ok (.aload_n 0, 1) := by decide +kernel
theorem d_L_beat_4 : decode b_L_beat 4 = .ok (.iload_n 1, 1) := by decide +kernel
theorem d_L_beat_5 : decode b_L_beat 5 = .ok (.iload_n 2, 1) := by decide +kernel
theorem d_L_beat_6 : decode b_L_beat 6 = .ok (.iload_n 3, 1) := by decide +kernel
theorem d_L_beat_7 : decode b_L_beat 7 = .ok (.invokevirtual 18, 3) := by decide +kernel
theorem d_L_beat_10 : decode b_L_beat 10 = .ok (.i2l, 1) := by decide +kernel
theorem d_L_beat_11 : decode b_L_beat 11 = .ok (.lastore, 1) := by decide +kernel
theorem d_L_beat_12 : decode b_L_beat 12 = .ok (.goto 7, 3) := by decide +kernel
theorem d_L_beat_15 : decode b_L_beat 15 = .ok (.astore 5, 2) := by decide +kernel
theorem d_L_beat_17 : decode b_L_beat 17 = .ok (.iconst 1, 1) := by decide +kernel
theorem d_L_beat_18 : decode b_L_beat 18 = .ok (.ireturn, 1) := by decide +kernel
theorem d_L_beat_19 : decode b_L_beat 19 = .ok (.iconst 0, 1) := by decide +kernel
theorem d_L_beat_20 : decode b_L_beat 20 = .ok (.ireturn, 1) := by decide +kernel
theorem d_L_commit_0 : decode b_L_commit 0 = .ok (.aload 7, 2) := by decide +kernel
theorem d_L_commit_2 : decode b_L_commit 2 = .ok (.iconst 0, 1) := by decide +kernel
theorem d_L_commit_3 : decode b_L_commit 3 = .ok (.aload_n 0, 1) := by decide +kernel
theorem d_L_commit_4 : decode b_L_commit 4 = .ok (.iload_n 1, 1) := by decide +kernel
theorem d_L_commit_5 : decode b_L_commit 5 = .ok (.iload_n 2, 1) := by decide +kernel
theorem d_L_commit_6 : decode b_L_commit 6 = .ok (.iload_n 3, 1) := by decide +kernel
theorem d_L_commit_7 : decode b_L_commit 7 = .ok (.iload 4, 2) := by decide +kernel
theorem d_L_commit_9 : decode b_L_commit 9 = .ok (.lload 5, 2) := by decide +kernel
theorem d_L_commit_11 : decode b_L_commit 11 = .ok (.invokevirtual 22, 3) := by decide +kernel
theorem d_L_commit_14 : decode b_L_commit 14 = .ok (.i2l, 1) := by decide +kernel
theorem d_L_commit_15 : decode b_L_commit 15 = .ok (.lastore, 1) := by decide +kernel
theorem d_L_commit_16 : decode b_L_commit 16 = .ok (.goto 7, 3) := by decide +kernel
theorem d_L_commit_19 : decode b_L_commit 19 = .ok (.astore 8, 2) := by decide +kernel
theorem d_L_commit_21 : decode b_L_commit 21 = .ok (.iconst 1, 1) := by decide +kernel
theorem d_L_commit_22 : decode b_L_commit 22 = .ok (.ireturn, 1) := by decide +kernel
theorem d_L_commit_23 : decode b_L_commit 23 = .ok (.iconst 0, 1) := by decide +kernel
theorem d_L_commit_24 : decode b_L_commit 24 = .ok (.ireturn, 1) := by decide +kernel
theorem d_L_committed_0 : decode b_L_committed 0 = .ok (.aload_n 3, 1) := by decide +kernel
theorem d_L_committed_1 : decode b_L_committed 1 = .ok (.iconst 0, 1) := by decide +kernel
theorem d_L_committed_2 : decode b_L_committed 2 = .ok (.aload_n 0, 1) := by decide +kernel
theorem d_L_committed_3 : decode b_L_committed 3 = .ok (.iload_n 1, 1) := by decide +kernel
theorem d_L_committed_4 : decode b_L_committed 4 = .ok (.iload_n 2, 1) := by decide +kernel
theorem d_L_committed_5 : decode b_L_committed 5 = .ok (.invokevirtual 26, 3) := by decide +kernel
theorem d_L_committed_8 : decode b_L_committed 8 = .ok (.lastore, 1) := by decide +kernel
theorem d_L_committed_9 : decode b_L_committed 9 = .ok (.goto 7, 3) := by decide +kernel
theorem d_L_committed_12 : decode b_L_committed 12 = .ok (.astore 4, 2) := by decide +kernel
theorem d_L_committed_14 : decode b_L_committed 14 = .ok (.iconst 1, 1) := by decide +kernel
theorem d_L_committed_15 : decode b_L_committed 15 = .ok (.ireturn, 1) := by decide +kernel
theorem d_L_committed_16 : decode b_L_committed 16 = .ok (.iconst 0, 1) := by decide +kernel
theorem d_L_committed_17 : decode b_L_committed 17 = .ok (.ireturn, 1) := by decide +kernel
theorem d_L_group_0 : decode b_L_group 0 = .ok (.aload_n 3, 1) := by decide +kernel
theorem d_L_group_1 : decode b_L_group 1 = .ok (.iconst 0, 1) := by decide +kernel
theorem d_L_group_2 : decode b_L_group 2 = .ok (.aload_n 0, 1) := by decide +kernel
theorem d_L_group_3 : decode b_L_group 3 = .ok (.iload_n 1, 1) := by decide +kernel
theorem d_L_group_4 : decode b_L_group 4 = .ok (.iload_n 2, 1) := by decide +kernel
theorem d_L_group_5 : decode b_L_group 5 = .ok (.invokevirtual 30, 3) := by decide +kernel
theorem d_L_group_8 : decode b_L_group 8 = .ok (.i2l, 1) := by decide +kernel
theorem d_L_group_9 : decode b_L_group 9 = .ok (.lastore, 1) := by decide +kernel
theorem d_L_group_10 : decode b_L_group 10 = .ok (.goto 7, 3) := by decide +kernel
theorem d_L_group_13 : decode b_L_group 13 = .ok (.astore 4, 2) := by decide +kernel
theorem d_L_group_15 : decode b_L_group 15 = .ok (.iconst 1, 1) := by decide +kernel
theorem d_L_group_16 : decode b_L_group 16 = .ok (.ireturn, 1) := by decide +kernel
theorem d_L_group_17 : decode b_L_group 17 = .ok (.iconst 0, 1) := by decide +kernel
theorem d_L_group_18 : decode b_L_group 18 = .ok (.ireturn, 1) := by decide +kernel
theorem d_L_share_0 : decode b_L_share 0 = .ok (.aload_n 3, 1) := by decide +kernel
theorem d_L_share_1 : decode b_L_share 1 = .ok (.iconst 0, 1) := by decide +kernel
theorem d_L_share_2 : decode b_L_share 2 = .ok (.aload_n 0, 1) := by decide +kernel
theorem d_L_share_3 : decode b_L_share 3 = .ok (.iload_n 1, 1) := by decide +kernel
theorem d_L_share_4 : decode b_L_share 4 = .ok (.iload_n 2, 1) := by decide +kernel
theorem d_L_share_5 : decode b_L_share 5 = .ok (.invokevirtual 33, 3) := by decide +kernel
theorem d_L_share_8 : decode b_L_share 8 = .ok (.i2l, 1) := by decide +kernel
theorem d_L_share_9 : decode b_L_share 9 = .ok (.lastore, 1) := by decide +kernel
theorem d_L_share_10 : decode b_L_share 10 = .ok (.goto 7, 3) := by decide +kernel
theorem d_L_share_13 : decode b_L_share 13 = .ok (.astore 4, 2) := by decide +kernel
theorem d_L_share_15 : decode b_L_share 15 = .ok (.iconst 1, 1) := by decide +kernel
theorem d_L_share_16 : decode b_L_share 16 = .ok (.ireturn, 1) := by decide +kernel
theorem d_L_share_17 : decode b_L_share 17 = .ok (.iconst 0, 1) := by decide +kernel
theorem d_L_share_18 : decode b_L_share 18 = .ok (.ireturn, 1) := by decide +kernel
theorem d_L_room_0 : decode b_L_room 0 = .ok (.aload_n 2, 1) := by decide +kernel
theorem d_L_room_1 : decode b_L_room 1 = .ok (.iconst 0, 1) := by decide +kernel
theorem d_L_room_2 : decode b_L_room 2 = .ok (.aload_n 0, 1) := by decide +kernel
theorem d_L_room_3 : decode b_L_room 3 = .ok (.iload_n 1, 1) := by decide +kernel
theorem d_L_room_4 : decode b_L_room 4 = .ok (.invokevirtual 36, 3) := by decide +kernel
theorem d_L_room_7 : decode b_L_room 7 = .ok (.i2l, 1) := by decide +kernel
theorem d_L_room_8 : decode b_L_room 8 = .ok (.lastore, 1) := by decide +kernel
theorem d_L_room_9 : decode b_L_room 9 = .ok (.goto 6, 3) := by decide +kernel
theorem d_L_room_12 : decode b_L_room 12 = .ok (.astore_n 3, 1) := by decide +kernel
theorem d_L_room_13 : decode b_L_room 13 = .ok (.iconst 1, 1) := by decide +kernel
theorem d_L_room_14 : decode b_L_room 14 = .ok (.ireturn, 1) := by decide +kernel
theorem d_L_room_15 : decode b_L_room 15 = .ok (.iconst 0, 1) := by decide +kernel
theorem d_L_room_16 : decode b_L_room 16 = .ok (.ireturn, 1) := by decide +kernel
theorem d_L_ticks_0 : decode b_L_ticks 0 = .ok (.aload_n 2, 1) := by decide +kernel
theorem d_L_ticks_1 : decode b_L_ticks 1 = .ok (.iconst 0, 1) := by decide +kernel
theorem d_L_ticks_2 : decode b_L_ticks 2 = .ok (.aload_n 0, 1) := by decide +kernel
theorem d_L_ticks_3 : decode b_L_ticks 3 = .ok (.iload_n 1, 1) := by decide +kernel
theorem d_L_ticks_4 : decode b_L_ticks 4 = .ok (.invokevirtual 40, 3) := by decide +kernel
theorem d_L_ticks_7 : decode b_L_ticks 7 = .ok (.i2l, 1) := by decide +kernel
theorem d_L_ticks_8 : decode b_L_ticks 8 = .ok (.lastore, 1) := by decide +kernel
theorem d_L_ticks_9 : decode b_L_ticks 9 = .ok (.goto 6, 3) := by decide +kernel
theorem d_L_ticks_12 : decode b_L_ticks 12 = .ok (.astore_n 3, 1) := by decide +kernel
theorem d_L_ticks_13 : decode b_L_ticks 13 = .ok (.iconst 1, 1) := by decide +kernel
theorem d_L_ticks_14 : decode b_L_ticks 14 = .ok (.ireturn, 1) := by decide +kernel
theorem d_L_ticks_15 : decode b_L_ticks 15 = .ok (.iconst 0, 1) := by decide +kernel
theorem d_L_ticks_16 : decode b_L_ticks 16 = .ok (.ireturn, 1) := by decide +kernel
