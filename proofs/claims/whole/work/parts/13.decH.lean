theorem dL_reset_0 : decode cL_reset 0 = .ok (.aload_n 2, 1) := by decide +kernel
theorem dL_reset_1 : decode cL_reset 1 = .ok (.iconst 0, 1) := by decide +kernel
theorem dL_reset_2 : decode cL_reset 2 = .ok (.aload_n 0, 1) := by decide +kernel
theorem dL_reset_3 : decode cL_reset 3 = .ok (.iload_n 1, 1) := by decide +kernel
theorem dL_reset_4 : decode cL_reset 4 = .ok (.invokevirtual 7, 3) := by decide +kernel
theorem dL_reset_7 : decode cL_reset 7 = .ok (.i2l, 1) := by decide +kernel
theorem dL_reset_8 : decode cL_reset 8 = .ok (.lastore, 1) := by decide +kernel
theorem dL_reset_9 : decode cL_reset 9 = .ok (.goto 6, 3) := by decide +kernel
theorem dL_reset_12 : decode cL_reset 12 = .ok (.astore_n 3, 1) := by decide +kernel
theorem dL_reset_13 : decode cL_reset 13 = .ok (.iconst 1, 1) := by decide +kernel
theorem dL_reset_14 : decode cL_reset 14 = .ok (.ireturn, 1) := by decide +kernel
theorem dL_reset_15 : decode cL_reset 15 = .ok (.iconst 0, 1) := by decide +kernel
theorem dL_reset_16 : decode cL_reset 16 = .ok (.ireturn, 1) := by decide +kernel
theorem dL_append_0 : decode cL_append 0 = .ok (.aload_n 2, 1) := by decide +kernel
theorem dL_append_1 : decode cL_append 1 = .ok (.iconst 0, 1) := by decide +kernel
theorem dL_append_2 : decode cL_append 2 = .ok (.aload_n 0, 1) := by decide +kernel
theorem dL_append_3 : decode cL_append 3 = .ok (.iload_n 1, 1) := by decide +kernel
theorem dL_append_4 : decode cL_append 4 = .ok (.invokevirtual 15, 3) := by decide +kernel
theorem dL_append_7 : decode cL_append 7 = .ok (.i2l, 1) := by decide +kernel
theorem dL_append_8 : decode cL_append 8 = .ok (.lastore, 1) := by decide +kernel
theorem dL_append_9 : decode cL_append 9 = .ok (.goto 9, 3) := by decide +kernel
theorem dL_append_12 : decode cL_append 12 = .ok (.astore_n 3, 1) := by decide +kernel
theorem dL_append_13 : decode cL_append 13 = .ok (.iconst 1, 1) := by decide +kernel
theorem dL_append_14 : decode cL_append 14 = .ok (.ireturn, 1) := by decide +kernel
theorem dL_append_15 : decode cL_append 15 = .ok (.astore_n 3, 1) := by decide +kernel
theorem dL_append_16 : decode cL_append 16 = .ok (.iconst 2, 1) := by decide +kernel
theorem dL_append_17 : decode cL_append 17 = .ok (.ireturn, 1) := by decide +kernel
theorem dL_append_18 : decode cL_append 18 = .ok (.iconst 0, 1) := by decide +kernel
theorem dL_append_19 : decode cL_append 19 = .ok (.ireturn, 1) := by decide +kernel
theorem dL_define_0 : decode cL_define 0 = .ok (.aload_n 1, 1) := by decide +kernel
theorem dL_define_1 : decode cL_define 1 = .ok (.iconst 0, 1) := by decide +kernel
theorem dL_define_2 : decode cL_define 2 = .ok (.aload_n 0, 1) := by decide +kernel
theorem dL_define_3 : decode cL_define 3 = .ok (.invokevirtual 21, 3) := by decide +kernel
theorem dL_define_6 : decode cL_define 6 = .ok (.i2l, 1) := by decide +kernel
theorem dL_define_7 : decode cL_define 7 = .ok (.lastore, 1) := by decide +kernel
theorem dL_define_8 : decode cL_define 8 = .ok (.goto 6, 3) := by decide +kernel
theorem dL_define_11 : decode cL_define 11 = .ok (.astore_n 2, 1) := by decide +kernel
theorem dL_define_12 : decode cL_define 12 = .ok (.iconst 1, 1) := by decide +kernel
theorem dL_define_13 : decode cL_define 13 = .ok (.ireturn, 1) := by decide +kernel
theorem dL_define_14 : decode cL_define 14 = .ok (.iconst 0, 1) := by decide +kernel
theorem dL_define_15 : decode cL_define 15 = .ok (.ireturn, 1) := by decide +kernel
theorem dL_errorPosition_0 : decode cL_errorPosition 0 = .ok (.aload_n 1, 1) := by decide +kernel
theorem dL_errorPosition_1 : decode cL_errorPosition 1 = .ok (.iconst 0, 1) := by decide +kernel
theorem dL_errorPosition_2 : decode cL_errorPosition 2 = .ok (.aload_n 0, 1) := by decide +kernel
theorem dL_errorPosition_3 : decode cL_errorPosition 3 = .ok (.invokevirtual 25, 3) := by decide +kernel
theorem dL_errorPosition_6 : decode cL_errorPosition 6 = .ok (.i2l, 1) := by decide +kernel
theorem dL_errorPosition_7 : decode cL_errorPosition 7 = .ok (.lastore, 1) := by decide +kernel
theorem dL_errorPosition_8 : decode cL_errorPosition 8 = .ok (.goto 6, 3) := by decide +kernel
theorem dL_errorPosition_11 : decode cL_errorPosition 11 = .ok (.astore_n 2, 1) := by decide +kernel
theorem dL_errorPosition_12 : decode cL_errorPosition 12 = .ok (.iconst 1, 1) := by decide +kernel
theorem dL_errorPosition_13 : decode cL_errorPosition 13 = .ok (.ireturn, 1) := by decide +kernel
theorem dL_errorPosition_14 : decode cL_errorPosition 14 = .ok (.iconst 0, 1) := by decide +kernel
theorem dL_errorPosition_15 : decode cL_errorPosition 15 = .ok (.ireturn, 1) := by decide +kernel
theorem dL_removeAction_0 : decode cL_removeAction 0 = .ok (.aload_n 3, 1) := by decide +kernel
theorem dL_removeAction_1 : decode cL_removeAction 1 = .ok (.iconst 0, 1) := by decide +kernel
theorem dL_removeAction_2 : decode cL_removeAction 2 = .ok (.aload_n 0, 1) := by decide +kernel
theorem dL_removeAction_3 : decode cL_removeAction 3 = .ok (.iload_n 1, 1) := by decide +kernel
theorem dL_removeAction_4 : decode cL_removeAction 4 = .ok (.iload_n 2, 1) := by decide +kernel
theorem dL_removeAction_5 : decode cL_removeAction 5 = .ok (.invokevirtual 30, 3) := by decide +kernel
theorem dL_removeAction_8 : decode cL_removeAction 8 = .ok (.i2l, 1) := by decide +kernel
theorem dL_removeAction_9 : decode cL_removeAction 9 = .ok (.lastore, 1) := by decide +kernel
theorem dL_removeAction_10 : decode cL_removeAction 10 = .ok (.goto 7, 3) := by decide +kernel
theorem dL_removeAction_13 : decode cL_removeAction 13 = .ok (.astore 4, 2) := by decide +kernel
theorem dL_removeAction_15 : decode cL_removeAction 15 = .ok (.iconst 1, 1) := by decide +kernel
theorem dL_removeAction_16 : decode cL_removeAction 16 = .ok (.ireturn, 1) := by decide +kernel
theorem dL_removeAction_17 : decode cL_removeAction 17 = .ok (.iconst 0, 1) := by decide +kernel
theorem dL_removeAction_18 : decode cL_removeAction 18 = .ok (.ireturn, 1) := by decide +kernel
theorem dL_addEdge_0 : decode cL_addEdge 0 = .ok (.aload_n 3, 1) := by decide +kernel
theorem dL_addEdge_1 : decode cL_addEdge 1 = .ok (.iconst 0, 1) := by decide +kernel
theorem dL_addEdge_2 : decode cL_addEdge 2 = .ok (.aload_n 0, 1) := by decide +kernel
theorem dL_addEdge_3 : decode cL_addEdge 3 = .ok (.iload_n 1, 1) := by decide +kernel
theorem dL_addEdge_4 : decode cL_addEdge 4 = .ok (.iload_n 2, 1) := by decide +kernel
theorem dL_addEdge_5 : decode cL_addEdge 5 = .ok (.invokevirtual 36, 3) := by decide +kernel
theorem dL_addEdge_8 : decode cL_addEdge 8 = .ok (.i2l, 1) := by decide +kernel
theorem dL_addEdge_9 : decode cL_addEdge 9 = .ok (.lastore, 1) := by decide +kernel
theorem dL_addEdge_10 : decode cL_addEdge 10 = .ok (.goto 15, 3) := by decide +kernel
theorem dL_addEdge_13 : decode cL_addEdge 13 = .ok (.astore 4, 2) := by decide +kernel
theorem dL_addEdge_15 : decode cL_addEdge 15 = .ok (.iconst 1, 1) := by decide +kernel
theorem dL_addEdge_16 : decode cL_addEdge 16 = .ok (.ireturn, 1) := by decide +kernel
theorem dL_addEdge_17 : decode cL_addEdge 17 = .ok (.astore 4, 2) := by decide +kernel
theorem dL_addEdge_19 : decode cL_addEdge 19 = .ok (.iconst 2, 1) := by decide +kernel
theorem dL_addEdge_20 : decode cL_addEdge 20 = .ok (.ireturn, 1) := by decide +kernel
theorem dL_addEdge_21 : decode cL_addEdge 21 = .ok (.astore 4, 2) := by decide +kernel
theorem dL_addEdge_23 : decode cL_addEdge 23 = .ok (.iconst 3, 1) := by decide +kernel
theorem dL_addEdge_24 : decode cL_addEdge 24 = .ok (.ireturn, 1) := by decide +kernel
theorem dL_addEdge_25 : decode cL_addEdge 25 = .ok (.iconst 0, 1) := by decide +kernel
theorem dL_addEdge_26 : decode cL_addEdge 26 = .ok (.ireturn, 1) := by decide +kernel
theorem dL_removeEdge_0 : decode cL_removeEdge 0 = .ok (.aload_n 3, 1) := by decide +kernel
theorem dL_removeEdge_1 : decode cL_removeEdge 1 = .ok (.iconst 0, 1) := by decide +kernel
theorem dL_removeEdge_2 : decode cL_removeEdge 2 = .ok (.aload_n 0, 1) := by decide +kernel
theorem dL_removeEdge_3 : decode cL_removeEdge 3 = .ok (.iload_n 1, 1) := by decide +kernel
theorem dL_removeEdge_4 : decode cL_removeEdge 4 = .ok (.iload_n 2, 1) := by decide +kernel
theorem dL_removeEdge_5 : decode cL_removeEdge 5 = .ok (.invokevirtual 39, 3) := by decide +kernel
theorem dL_removeEdge_8 : decode cL_removeEdge 8 = .ok (.i2l, 1) := by decide +kernel
theorem dL_removeEdge_9 : decode cL_removeEdge 9 = .ok (.lastore, 1) := by decide +kernel
theorem dL_removeEdge_10 : decode cL_removeEdge 10 = .ok (.goto 11, 3) := by decide +kernel
theorem dL_removeEdge_13 : decode cL_removeEdge 13 = .ok (.astore 4, 2) := by decide +kernel
theorem dL_removeEdge_15 : decode cL_removeEdge 15 = .ok (.iconst 1, 1) := by decide +kernel
theorem dL_removeEdge_16 : decode cL_removeEdge 16 = .ok (.ireturn, 1) := by decide +kernel
theorem dL_removeEdge_17 : decode cL_removeEdge 17 = .ok (.astore 4, 2) := by decide +kernel
theorem dL_removeEdge_19 : decode cL_removeEdge 19 = .ok (.iconst 2, 1) := by decide +kernel
theorem dL_removeEdge_20 : decode cL_removeEdge 20 = .ok (.ireturn, 1) := by decide +kernel
theorem dL_removeEdge_21 : decode cL_removeEdge 21 = .ok (.iconst 0, 1) := by decide +kernel
theorem dL_removeEdge_22 : decode cL_removeEdge 22 = .ok (.ireturn, 1) := by decide +kernel
theorem dL_thread_0 : decode cL_thread 0 = .ok (.aload 4, 2) := by decide +kernel
theorem dL_thread_2 : decode cL_thread 2 = .ok (.iconst 0, 1) := by decide +kernel
theorem dL_thread_3 : decode cL_thread 3 = .ok (.aload_n 0, 1) := by decide +kernel
theorem dL_thread_4 : decode cL_thread 4 = .ok (.iload_n 1, 1) := by decide +kernel
theorem dL_thread_5 : decode cL_thread 5 = .ok (.iload_n 2, 1) := by decide +kernel
theorem dL_thread_6 : decode cL_thread 6 = .ok (.iload_n 3, 1) := by decide +kernel
theorem dL_thread_7 : decode cL_thread 7 = .ok (.invokevirtual 42, 3) := by decide +kernel
theorem dL_thread_10 : decode cL_thread 10 = .ok (.i2l, 1) := by decide +kernel
theorem dL_thread_11 : decode cL_thread 11 = .ok (.lastore, 1) := by decide +kernel
theorem dL_thread_12 : decode cL_thread 12 = .ok (.goto 15, 3) := by decide +kernel
theorem dL_thread_15 : decode cL_thread 15 = .ok (.astore 5, 2) := by decide +kernel
theorem dL_thread_17 : decode cL_thread 17 = .ok (.iconst 1, 1) := by decide +kernel
theorem dL_thread_18 : decode cL_thread 18 = .ok (.ireturn, 1) := by decide +kernel
theorem dL_thread_19 : decode cL_thread 19 = .ok (.astore 5, 2) := by decide +kernel
theorem dL_thread_21 : decode cL_thread 21 = .ok (.iconst 2, 1) := by decide +kernel
theorem dL_thread_22 : decode cL_thread 22 = .ok (.ireturn, 1) := by decide +kernel
theorem dL_thread_23 : decode cL_thread 23 = .ok (.astore 5, 2) := by decide +kernel
theorem dL_thread_25 : decode cL_thread 25 = .ok (.iconst 3, 1) := by decide +kernel
theorem dL_thread_26 : decode cL_thread 26 = .ok (.ireturn, 1) := by decide +kernel
theorem dL_thread_27 : decode cL_thread 27 = .ok (.iconst 0, 1) := by decide +kernel
theorem dL_thread_28 : decode cL_thread 28 = .ok (.ireturn, 1) := by decide +kernel
theorem dL_actionCount_0 : decode cL_actionCount 0 = .ok (.aload_n 2, 1) := by decide +kernel
theorem dL_actionCount_1 : decode cL_actionCount 1 = .ok (.iconst 0, 1) := by decide +kernel
theorem dL_actionCount_2 : decode cL_actionCount 2 = .ok (.aload_n 0, 1) := by decide +kernel
theorem dL_actionCount_3 : decode cL_actionCount 3 = .ok (.iload_n 1, 1) := by decide +kernel
theorem dL_actionCount_4 : decode cL_actionCount 4 = .ok (.invokevirtual 46, 3) := by decide +kernel
theorem dL_actionCount_7 : decode cL_actionCount 7 = .ok (.i2l, 1) := by decide +kernel
theorem dL_actionCount_8 : decode cL_actionCount 8 = .ok (.lastore, 1) := by decide +kernel
theorem dL_actionCount_9 : decode cL_actionCount 9 = .ok (.goto 6, 3) := by decide +kernel
theorem dL_actionCount_12 : decode cL_actionCount 12 = .ok (.astore_n 3, 1) := by decide +kernel
theorem dL_actionCount_13 : decode cL_actionCount 13 = .ok (.iconst 1, 1) := by decide +kernel
theorem dL_actionCount_14 : decode cL_actionCount 14 = .ok (.ireturn, 1) := by decide +kernel
theorem dL_actionCount_15 : decode cL_actionCount 15 = .ok (.iconst 0, 1) := by decide +kernel
theorem dL_actionCount_16 : decode cL_actionCount 16 = .ok (.ireturn, 1) := by decide +kernel
theorem dL_action_0 : decode cL_action 0 = .ok (.aload_n 3, 1) := by decide +kernel
theorem dL_action_1 : decode cL_action 1 = .ok (.iconst 0, 1) := by decide +kernel
theorem dL_action_2 : decode cL_action 2 = .ok (.aload_n 0, 1) := by decide +kernel
theorem dL_action_3 : decode cL_action 3 = .ok (.iload_n 1, 1) := by decide +kernel
theorem dL_action_4 : decode cL_action 4 = .ok (.iload_n 2, 1) := by decide +kernel
theorem dL_action_5 : decode cL_action 5 = .ok (.invokevirtual 49, 3) := by decide +kernel
theorem dL_action_8 : decode cL_action 8 = .ok (.i2l, 1) := by decide +kernel
theorem dL_action_9 : decode cL_action 9 = .ok (.lastore, 1) := by decide +kernel
theorem dL_action_10 : decode cL_action 10 = .ok (.goto 7, 3) := by decide +kernel
theorem dL_action_13 : decode cL_action 13 = .ok (.astore 4, 2) := by decide +kernel
theorem dL_action_15 : decode cL_action 15 = .ok (.iconst 1, 1) := by decide +kernel
theorem dL_action_16 : decode cL_action 16 = .ok (.ireturn, 1) := by decide +kernel
theorem dL_action_17 : decode cL_action 17 = .ok (.iconst 0, 1) := by decide +kernel
theorem dL_action_18 : decode cL_action 18 = .ok (.ireturn, 1) := by decide +kernel
theorem dL_edgeCount_0 : decode cL_edgeCount 0 = .ok (.aload_n 2, 1) := by decide +kernel
theorem dL_edgeCount_1 : decode cL_edgeCount 1 = .ok (.iconst 0, 1) := by decide +kernel
theorem dL_edgeCount_2 : decode cL_edgeCount 2 = .ok (.aload_n 0, 1) := by decide +kernel
theorem dL_edgeCount_3 : decode cL_edgeCount 3 = .ok (.iload_n 1, 1) := by decide +kernel
theorem dL_edgeCount_4 : decode cL_edgeCount 4 = .ok (.invokevirtual 52, 3) := by decide +kernel
theorem dL_edgeCount_7 : decode cL_edgeCount 7 = .ok (.i2l, 1) := by decide +kernel
theorem dL_edgeCount_8 : decode cL_edgeCount 8 = .ok (.lastore, 1) := by decide +kernel
theorem dL_edgeCount_9 : decode cL_edgeCount 9 = .ok (.goto 6, 3) := by decide +kernel
theorem dL_edgeCount_12 : decode cL_edgeCount 12 = .ok (.astore_n 3, 1) := by decide +kernel
theorem dL_edgeCount_13 : decode cL_edgeCount 13 = .ok (.iconst 1, 1) := by decide +kernel
theorem dL_edgeCount_14 : decode cL_edgeCount 14 = .ok (.ireturn, 1) := by decide +kernel
theorem dL_edgeCount_15 : decode cL_edgeCount 15 = .ok (.iconst 0, 1) := by decide +kernel
theorem dL_edgeCount_16 : decode cL_edgeCount 16 = .ok (.ireturn, 1) := by decide +kernel
theorem dL_target_0 : decode cL_target 0 = .ok (.aload_n 3, 1) := by decide +kernel
theorem dL_target_1 : decode cL_target 1 = .ok (.iconst 0, 1) := by decide +kernel
theorem dL_target_2 : decode cL_target 2 = .ok (.aload_n 0, 1) := by decide +kernel
theorem dL_target_3 : decode cL_target 3 = .ok (.iload_n 1, 1) := by decide +kernel
theorem dL_target_4 : decode cL_target 4 = .ok (.iload_n 2, 1) := by decide +kernel
theorem dL_target_5 : decode cL_target 5 = .ok (.invokevirtual 55, 3) := by decide +kernel
theorem dL_target_8 : decode cL_target 8 = .ok (.i2l, 1) := by decide +kernel
theorem dL_target_9 : decode cL_target 9 = .ok (.lastore, 1) := by decide +kernel
theorem dL_target_10 : decode cL_target 10 = .ok (.goto 7, 3) := by decide +kernel
theorem dL_target_13 : decode cL_target 13 = .ok (.astore 4, 2) := by decide +kernel
theorem dL_target_15 : decode cL_target 15 = .ok (.iconst 1, 1) := by decide +kernel
theorem dL_target_16 : decode cL_target 16 = .ok (.ireturn, 1) := by decide +kernel
theorem dL_target_17 : decode cL_target 17 = .ok (.iconst 0, 1) := by decide +kernel
theorem dL_target_18 : decode cL_target 18 = .ok (.ireturn, 1) := by decide +kernel
theorem dL_isReachable_0 : decode cL_isReachable 0 = .ok (.aload_n 2, 1) := by decide +kernel
theorem dL_isReachable_1 : decode cL_isReachable 1 = .ok (.iconst 0, 1) := by decide +kernel
theorem dL_isReachable_2 : decode cL_isReachable 2 = .ok (.aload_n 0, 1) := by decide +kernel
theorem dL_isReachable_3 : decode cL_isReachable 3 = .ok (.iload_n 1, 1) := by decide +kernel
theorem dL_isReachable_4 : decode cL_isReachable 4 = .ok (.invokevirtual 58, 3) := by decide +kernel
theorem dL_isReachable_7 : decode cL_isReachable 7 = .ok (.ifCond .eq 7, 3) := by decide +kernel
theorem dL_isReachable_10 : decode cL_isReachable 10 = .ok (.lconst 1, 1) := by decide +kernel
theorem dL_isReachable_11 : decode cL_isReachable 11 = .ok (.goto 4, 3) := by decide +kernel
theorem dL_isReachable_14 : decode cL_isReachable 14 = .ok (.lconst 0, 1) := by decide +kernel
theorem dL_isReachable_15 : decode cL_isReachable 15 = .ok (.lastore, 1) := by decide +kernel
theorem dL_isReachable_16 : decode cL_isReachable 16 = .ok (.goto 6, 3) := by decide +kernel
theorem dL_isReachable_19 : decode cL_isReachable 19 = .ok (.astore_n 3, 1) := by decide +kernel
theorem dL_isReachable_20 : decode cL_isReachable 20 = .ok (.iconst 1, 1) := by decide +kernel
theorem dL_isReachable_21 : decode cL_isReachable 21 = .ok (.ireturn, 1) := by decide +kernel
theorem dL_isReachable_22 : decode cL_isReachable 22 = .ok (.iconst 0, 1) := by decide +kernel
theorem dL_isReachable_23 : decode cL_isReachable 23 = .ok (.ireturn, 1) := by decide +kernel
theorem dL_predecessors_0 : decode cL_predecessors 0 = .ok (.aload_n 2, 1) := by decide +kernel
theorem dL_predecessors_1 : decode cL_predecessors 1 = .ok (.iconst 0, 1) := by decide +kernel
theorem dL_predecessors_2 : decode cL_predecessors 2 = .ok (.aload_n 0, 1) := by decide +kernel
theorem dL_predecessors_3 : decode cL_predecessors 3 = .ok (.iload_n 1, 1) := by decide +kernel
theorem dL_predecessors_4 : decode cL_predecessors 4 = .ok (.invokevirtual 62, 3) := by decide +kernel
theorem dL_predecessors_7 : decode cL_predecessors 7 = .ok (.i2l, 1) := by decide +kernel
theorem dL_predecessors_8 : decode cL_predecessors 8 = .ok (.lastore, 1) := by decide +kernel
theorem dL_predecessors_9 : decode cL_predecessors 9 = .ok (.goto 9, 3) := by decide +kernel
theorem dL_predecessors_12 : decode cL_predecessors 12 = .ok (.astore_n 3, 1) := by decide +kernel
theorem dL_predecessors_13 : decode cL_predecessors 13 = .ok (.iconst 1, 1) := by decide +kernel
theorem dL_predecessors_14 : decode cL_predecessors 14 = .ok (.ireturn, 1) := by decide +kernel
theorem dL_predecessors_15 : decode cL_predecessors 15 = .ok (.astore_n 3, 1) := by decide +kernel
theorem dL_predecessors_16 : decode cL_predecessors 16 = .ok (.iconst 2, 1) := by decide +kernel
theorem dL_predecessors_17 : decode cL_predecessors 17 = .ok (.ireturn, 1) := by decide +kernel
theorem dL_predecessors_18 : decode cL_predecessors 18 = .ok (.iconst 0, 1) := by decide +kernel
theorem dL_predecessors_19 : decode cL_predecessors 19 = .ok (.ireturn, 1) := by decide +kernel
theorem dL_dominates_0 : decode cL_dominates 0 = .ok (.aload_n 3, 1) := by decide +kernel
theorem dL_dominates_1 : decode cL_dominates 1 = .ok (.iconst 0, 1) := by decide +kernel
theorem dL_dominates_2 : decode cL_dominates 2 = .ok (.aload_n 0, 1) := by decide +kernel
theorem dL_dominates_3 : decode cL_dominates 3 = .ok (.iload_n 1, 1) := by decide +kernel
theorem dL_dominates_4 : decode cL_dominates 4 = .ok (.iload_n 2, 1) := by decide +kernel
theorem dL_dominates_5 : decode cL_dominates 5 = .ok (.invokevirtual 65, 3) := by decide +kernel
theorem dL_dominates_8 : decode cL_dominates 8 = .ok (.ifCond .eq 7, 3) := by decide +kernel
theorem dL_dominates_11 : decode cL_dominates 11 = .ok (.lconst 1, 1) := by decide +kernel
theorem dL_dominates_12 : decode cL_dominates 12 = .ok (.goto 4, 3) := by decide +kernel
theorem dL_dominates_15 : decode cL_dominates 15 = .ok (.lconst 0, 1) := by decide +kernel
theorem dL_dominates_16 : decode cL_dominates 16 = .ok (.lastore, 1) := by decide +kernel
theorem dL_dominates_17 : decode cL_dominates 17 = .ok (.goto 11, 3) := by decide +kernel
theorem dL_dominates_20 : decode cL_dominates 20 = .ok (.astore 4, 2) := by decide +kernel
theorem dL_dominates_22 : decode cL_dominates 22 = .ok (.iconst 1, 1) := by decide +kernel
theorem dL_dominates_23 : decode cL_dominates 23 = .ok (.ireturn, 1) := by decide +kernel
theorem dL_dominates_24 : decode cL_dominates 24 = .ok (.astore 4, 2) := by decide +kernel
theorem dL_dominates_26 : decode cL_dominates 26 = .ok (.iconst 2, 1) := by decide +kernel
theorem dL_dominates_27 : decode cL_dominates 27 = .ok (.ireturn, 1) := by decide +kernel
theorem dL_dominates_28 : decode cL_dominates 28 = .ok (.iconst 0, 1) := by decide +kernel
theorem dL_dominates_29 : decode cL_dominates 29 = .ok (.ireturn, 1) := by decide +kernel
theorem dL_parent_0 : decode cL_parent 0 = .ok (.aload_n 2, 1) := by decide +kernel
theorem dL_parent_1 : decode cL_parent 1 = .ok (.iconst 0, 1) := by decide +kernel
theorem dL_parent_2 : decode cL_parent 2 = .ok (.aload_n 0, 1) := by decide +kernel
theorem dL_parent_3 : decode cL_parent 3 = .ok (.iload_n 1, 1) := by decide +kernel
theorem dL_parent_4 : decode cL_parent 4 = .ok (.invokevirtual 69, 3) := by decide +kernel
theorem dL_parent_7 : decode cL_parent 7 = .ok (.i2l, 1) := by decide +kernel
theorem dL_parent_8 : decode cL_parent 8 = .ok (.lastore, 1) := by decide +kernel
theorem dL_parent_9 : decode cL_parent 9 = .ok (.goto 12, 3) := by decide +kernel
theorem dL_parent_12 : decode cL_parent 12 = .ok (.astore_n 3, 1) := by decide +kernel
theorem dL_parent_13 : decode cL_parent 13 = .ok (.iconst 1, 1) := by decide +kernel
theorem dL_parent_14 : decode cL_parent 14 = .ok (.ireturn, 1) := by decide +kernel
theorem dL_parent_15 : decode cL_parent 15 = .ok (.astore_n 3, 1) := by decide +kernel
theorem dL_parent_16 : decode cL_parent 16 = .ok (.iconst 2, 1) := by decide +kernel
theorem dL_parent_17 : decode cL_parent 17 = .ok (.ireturn, 1) := by decide +kernel
theorem dL_parent_18 : decode cL_parent 18 = .ok (.astore_n 3, 1) := by decide +kernel
theorem dL_parent_19 : decode cL_parent 19 = .ok (.iconst 3, 1) := by decide +kernel
theorem dL_parent_20 : decode cL_parent 20 = .ok (.ireturn, 1) := by decide +kernel
theorem dL_parent_21 : decode cL_parent 21 = .ok (.iconst 0, 1) := by decide +kernel
theorem dL_parent_22 : decode cL_parent 22 = .ok (.ireturn, 1) := by decide +kernel
theorem dL_frontier_0 : decode cL_frontier 0 = .ok (.aload_n 2, 1) := by decide +kernel
theorem dL_frontier_1 : decode cL_frontier 1 = .ok (.iconst 0, 1) := by decide +kernel
theorem dL_frontier_2 : decode cL_frontier 2 = .ok (.aload_n 0, 1) := by decide +kernel
theorem dL_frontier_3 : decode cL_frontier 3 = .ok (.iload_n 1, 1) := by decide +kernel
theorem dL_frontier_4 : decode cL_frontier 4 = .ok (.invokevirtual 72, 3) := by decide +kernel
theorem dL_frontier_7 : decode cL_frontier 7 = .ok (.i2l, 1) := by decide +kernel
theorem dL_frontier_8 : decode cL_frontier 8 = .ok (.lastore, 1) := by decide +kernel
theorem dL_frontier_9 : decode cL_frontier 9 = .ok (.goto 9, 3) := by decide +kernel
theorem dL_frontier_12 : decode cL_frontier 12 = .ok (.astore_n 3, 1) := by decide +kernel
theorem dL_frontier_13 : decode cL_frontier 13 = .ok (.iconst 1, 1) := by decide +kernel
theorem dL_frontier_14 : decode cL_frontier 14 = .ok (.ireturn, 1) := by decide +kernel
theorem dL_frontier_15 : decode cL_frontier 15 = .ok (.astore_n 3, 1) := by decide +kernel
theorem dL_frontier_16 : decode cL_frontier 16 = .ok (.iconst 2, 1) := by decide +kernel
theorem dL_frontier_17 : decode cL_frontier 17 = .ok (.ireturn, 1) := by decide +kernel
theorem dL_frontier_18 : decode cL_frontier 18 = .ok (.iconst 0, 1) := by decide +kernel
theorem dL_frontier_19 : decode cL_frontier 19 = .ok (.ireturn, 1) := by decide +kernel
theorem dL_isLive_0 : decode cL_isLive 0 = .ok (.aload_n 3, 1) := by decide +kernel
theorem dL_isLive_1 : decode cL_isLive 1 = .ok (.iconst 0, 1) := by decide +kernel
theorem dL_isLive_2 : decode cL_isLive 2 = .ok (.aload_n 0, 1) := by decide +kernel
theorem dL_isLive_3 : decode cL_isLive 3 = .ok (.iload_n 1, 1) := by decide +kernel
theorem dL_isLive_4 : decode cL_isLive 4 = .ok (.iload_n 2, 1) := by decide +kernel
theorem dL_isLive_5 : decode cL_isLive 5 = .ok (.invokevirtual 75, 3) := by decide +kernel
theorem dL_isLive_8 : decode cL_isLive 8 = .ok (.ifCond .eq 7, 3) := by decide +kernel
theorem dL_isLive_11 : decode cL_isLive 11 = .ok (.lconst 1, 1) := by decide +kernel
theorem dL_isLive_12 : decode cL_isLive 12 = .ok (.goto 4, 3) := by decide +kernel
theorem dL_isLive_15 : decode cL_isLive 15 = .ok (.lconst 0, 1) := by decide +kernel
theorem dL_isLive_16 : decode cL_isLive 16 = .ok (.lastore, 1) := by decide +kernel
theorem dL_isLive_17 : decode cL_isLive 17 = .ok (.goto 11, 3) := by decide +kernel
theorem dL_isLive_20 : decode cL_isLive 20 = .ok (.astore 4, 2) := by decide +kernel
theorem dL_isLive_22 : decode cL_isLive 22 = .ok (.iconst 1, 1) := by decide +kernel
theorem dL_isLive_23 : decode cL_isLive 23 = .ok (.ireturn, 1) := by decide +kernel
theorem dL_isLive_24 : decode cL_isLive 24 = .ok (.astore 4, 2) := by decide +kernel
theorem dL_isLive_26 : decode cL_isLive 26 = .ok (.iconst 2, 1) := by decide +kernel
theorem dL_isLive_27 : decode cL_isLive 27 = .ok (.ireturn, 1) := by decide +kernel
theorem dL_isLive_28 : decode cL_isLive 28 = .ok (.iconst 0, 1) := by decide +kernel
theorem dL_isLive_29 : decode cL_isLive 29 = .ok (.ireturn, 1) := by decide +kernel
theorem dL_minimalMerges_0 : decode cL_minimalMerges 0 = .ok (.aload_n 2, 1) := by decide +kernel
theorem dL_minimalMerges_1 : decode cL_minimalMerges 1 = .ok (.iconst 0, 1) := by decide +kernel
theorem dL_minimalMerges_2 : decode cL_minimalMerges 2 = .ok (.aload_n 0, 1) := by decide +kernel
theorem dL_minimalMerges_3 : decode cL_minimalMerges 3 = .ok (.iload_n 1, 1) := by decide +kernel
theorem dL_minimalMerges_4 : decode cL_minimalMerges 4 = .ok (.invokevirtual 78, 3) := by decide +kernel
theorem dL_minimalMerges_7 : decode cL_minimalMerges 7 = .ok (.i2l, 1) := by decide +kernel
theorem dL_minimalMerges_8 : decode cL_minimalMerges 8 = .ok (.lastore, 1) := by decide +kernel
theorem dL_minimalMerges_9 : decode cL_minimalMerges 9 = .ok (.goto 6, 3) := by decide +kernel
theorem dL_minimalMerges_12 : decode cL_minimalMerges 12 = .ok (.astore_n 3, 1) := by decide +kernel
theorem dL_minimalMerges_13 : decode cL_minimalMerges 13 = .ok (.iconst 1, 1) := by decide +kernel
theorem dL_minimalMerges_14 : decode cL_minimalMerges 14 = .ok (.ireturn, 1) := by decide +kernel
theorem dL_minimalMerges_15 : decode cL_minimalMerges 15 = .ok (.iconst 0, 1) := by decide +kernel
theorem dL_minimalMerges_16 : decode cL_minimalMerges 16 = .ok (.ireturn, 1) := by decide +kernel
theorem dL_merges_0 : decode cL_merges 0 = .ok (.aload_n 2, 1) := by decide +kernel
theorem dL_merges_1 : decode cL_merges 1 = .ok (.iconst 0, 1) := by decide +kernel
theorem dL_merges_2 : decode cL_merges 2 = .ok (.aload_n 0, 1) := by decide +kernel
theorem dL_merges_3 : decode cL_merges 3 = .ok (.iload_n 1, 1) := by decide +kernel
theorem dL_merges_4 : decode cL_merges 4 = .ok (.invokevirtual 81, 3) := by decide +kernel
theorem dL_merges_7 : decode cL_merges 7 = .ok (.i2l, 1) := by decide +kernel
theorem dL_merges_8 : decode cL_merges 8 = .ok (.lastore, 1) := by decide +kernel
theorem dL_merges_9 : decode cL_merges 9 = .ok (.goto 6, 3) := by decide +kernel
theorem dL_merges_12 : decode cL_merges 12 = .ok (.astore_n 3, 1) := by decide +kernel
theorem dL_merges_13 : decode cL_merges 13 = .ok (.iconst 1, 1) := by decide +kernel
theorem dL_merges_14 : decode cL_merges 14 = .ok (.ireturn, 1) := by decide +kernel
theorem dL_merges_15 : decode cL_merges 15 = .ok (.iconst 0, 1) := by decide +kernel
theorem dL_merges_16 : decode cL_merges 16 = .ok (.ireturn, 1) := by decide +kernel
theorem dL_source_0 : decode cL_source 0 = .ok (.aload 4, 2) := by decide +kernel
theorem dL_source_2 : decode cL_source 2 = .ok (.iconst 0, 1) := by decide +kernel
theorem dL_source_3 : decode cL_source 3 = .ok (.aload_n 0, 1) := by decide +kernel
theorem dL_source_4 : decode cL_source 4 = .ok (.iload_n 1, 1) := by decide +kernel
theorem dL_source_5 : decode cL_source 5 = .ok (.iload_n 2, 1) := by decide +kernel
theorem dL_source_6 : decode cL_source 6 = .ok (.iload_n 3, 1) := by decide +kernel
theorem dL_source_7 : decode cL_source 7 = .ok (.invokevirtual 84, 3) := by decide +kernel
theorem dL_source_10 : decode cL_source 10 = .ok (.i2l, 1) := by decide +kernel
theorem dL_source_11 : decode cL_source 11 = .ok (.lastore, 1) := by decide +kernel
theorem dL_source_12 : decode cL_source 12 = .ok (.goto 11, 3) := by decide +kernel
theorem dL_source_15 : decode cL_source 15 = .ok (.astore 5, 2) := by decide +kernel
theorem dL_source_17 : decode cL_source 17 = .ok (.iconst 1, 1) := by decide +kernel
theorem dL_source_18 : decode cL_source 18 = .ok (.ireturn, 1) := by decide +kernel
theorem dL_source_19 : decode cL_source 19 = .ok (.astore 5, 2) := by decide +kernel
theorem dL_source_21 : decode cL_source 21 = .ok (.iconst 2, 1) := by decide +kernel
theorem dL_source_22 : decode cL_source 22 = .ok (.ireturn, 1) := by decide +kernel
theorem dL_source_23 : decode cL_source 23 = .ok (.iconst 0, 1) := by decide +kernel
theorem dL_source_24 : decode cL_source 24 = .ok (.ireturn, 1) := by decide +kernel
theorem dL_sourceOfUse_0 : decode cL_sourceOfUse 0 = .ok (.aload_n 3, 1) := by decide +kernel
theorem dL_sourceOfUse_1 : decode cL_sourceOfUse 1 = .ok (.iconst 0, 1) := by decide +kernel
theorem dL_sourceOfUse_2 : decode cL_sourceOfUse 2 = .ok (.aload_n 0, 1) := by decide +kernel
theorem dL_sourceOfUse_3 : decode cL_sourceOfUse 3 = .ok (.iload_n 1, 1) := by decide +kernel
theorem dL_sourceOfUse_4 : decode cL_sourceOfUse 4 = .ok (.iload_n 2, 1) := by decide +kernel
theorem dL_sourceOfUse_5 : decode cL_sourceOfUse 5 = .ok (.invokevirtual 88, 3) := by decide +kernel
theorem dL_sourceOfUse_8 : decode cL_sourceOfUse 8 = .ok (.i2l, 1) := by decide +kernel
theorem dL_sourceOfUse_9 : decode cL_sourceOfUse 9 = .ok (.lastore, 1) := by decide +kernel
theorem dL_sourceOfUse_10 : decode cL_sourceOfUse 10 = .ok (.goto 15, 3) := by decide +kernel
theorem dL_sourceOfUse_13 : decode cL_sourceOfUse 13 = .ok (.astore 4, 2) := by decide +kernel
theorem dL_sourceOfUse_15 : decode cL_sourceOfUse 15 = .ok (.iconst 1, 1) := by decide +kernel
theorem dL_sourceOfUse_16 : decode cL_sourceOfUse 16 = .ok (.ireturn, 1) := by decide +kernel
theorem dL_sourceOfUse_17 : decode cL_sourceOfUse 17 = .ok (.astore 4, 2) := by decide +kernel
theorem dL_sourceOfUse_19 : decode cL_sourceOfUse 19 = .ok (.iconst 2, 1) := by decide +kernel
theorem dL_sourceOfUse_20 : decode cL_sourceOfUse 20 = .ok (.ireturn, 1) := by decide +kernel
theorem dL_sourceOfUse_21 : decode cL_sourceOfUse 21 = .ok (.astore 4, 2) := by decide +kernel
theorem dL_sourceOfUse_23 : decode cL_sourceOfUse 23 = .ok (.iconst 3, 1) := by decide +kernel
theorem dL_sourceOfUse_24 : decode cL_sourceOfUse 24 = .ok (.ireturn, 1) := by decide +kernel
theorem dL_sourceOfUse_25 : decode cL_sourceOfUse 25 = .ok (.iconst 0, 1) := by decide +kernel
theorem dL_sourceOfUse_26 : decode cL_sourceOfUse 26 = .ok (.ireturn, 1) := by decide +kernel
theorem dL_operand_0 : decode cL_operand 0 = .ok (.aload 4, 2) := by decide +kernel
theorem dL_operand_2 : decode cL_operand 2 = .ok (.iconst 0, 1) := by decide +kernel
theorem dL_operand_3 : decode cL_operand 3 = .ok (.aload_n 0, 1) := by decide +kernel
theorem dL_operand_4 : decode cL_operand 4 = .ok (.iload_n 1, 1) := by decide +kernel
theorem dL_operand_5 : decode cL_operand 5 = .ok (.iload_n 2, 1) := by decide +kernel
theorem dL_operand_6 : decode cL_operand 6 = .ok (.iload_n 3, 1) := by decide +kernel
theorem dL_operand_7 : decode cL_operand 7 = .ok (.invokevirtual 91, 3) := by decide +kernel
theorem dL_operand_10 : decode cL_operand 10 = .ok (.i2l, 1) := by decide +kernel
theorem dL_operand_11 : decode cL_operand 11 = .ok (.lastore, 1) := by decide +kernel
theorem dL_operand_12 : decode cL_operand 12 = .ok (.goto 15, 3) := by decide +kernel
theorem dL_operand_15 : decode cL_operand 15 = .ok (.astore 5, 2) := by decide +kernel
theorem dL_operand_17 : decode cL_operand 17 = .ok (.iconst 1, 1) := by decide +kernel
theorem dL_operand_18 : decode cL_operand 18 = .ok (.ireturn, 1) := by decide +kernel
theorem dL_operand_19 : decode cL_operand 19 = .ok (.astore 5, 2) := by decide +kernel
theorem dL_operand_21 : decode cL_operand 21 = .ok (.iconst 2, 1) := by decide +kernel
theorem dL_operand_22 : decode cL_operand 22 = .ok (.ireturn, 1) := by decide +kernel
theorem dL_operand_23 : decode cL_operand 23 = .ok (.astore 5, 2) := by decide +kernel
theorem dL_operand_25 : decode cL_operand 25 = .ok (.iconst 3, 1) := by decide +kernel
theorem dL_operand_26 : decode cL_operand 26 = .ok (.ireturn, 1) := by decide +kernel
theorem dL_operand_27 : decode cL_operand 27 = .ok (.iconst 0, 1) := by decide +kernel
theorem dL_operand_28 : decode cL_operand 28 = .ok (.ireturn, 1) := by decide +kernel
theorem dL_differentOperands_0 : decode cL_differentOperands 0 = .ok (.aload_n 3, 1) := by decide +kernel
theorem dL_differentOperands_1 : decode cL_differentOperands 1 = .ok (.iconst 0, 1) := by decide +kernel
theorem dL_differentOperands_2 : decode cL_differentOperands 2 = .ok (.aload_n 0, 1) := by decide +kernel
theorem dL_differentOperands_3 : decode cL_differentOperands 3 = .ok (.iload_n 1, 1) := by decide +kernel
theorem dL_differentOperands_4 : decode cL_differentOperands 4 = .ok (.iload_n 2, 1) := by decide +kernel
theorem dL_differentOperands_5 : decode cL_differentOperands 5 = .ok (.invokevirtual 94, 3) := by decide +kernel
theorem dL_differentOperands_8 : decode cL_differentOperands 8 = .ok (.i2l, 1) := by decide +kernel
theorem dL_differentOperands_9 : decode cL_differentOperands 9 = .ok (.lastore, 1) := by decide +kernel
theorem dL_differentOperands_10 : decode cL_differentOperands 10 = .ok (.goto 15, 3) := by decide +kernel
theorem dL_differentOperands_13 : decode cL_differentOperands 13 = .ok (.astore 4, 2) := by decide +kernel
theorem dL_differentOperands_15 : decode cL_differentOperands 15 = .ok (.iconst 1, 1) := by decide +kernel
theorem dL_differentOperands_16 : decode cL_differentOperands 16 = .ok (.ireturn, 1) := by decide +kernel
theorem dL_differentOperands_17 : decode cL_differentOperands 17 = .ok (.astore 4, 2) := by decide +kernel
theorem dL_differentOperands_19 : decode cL_differentOperands 19 = .ok (.iconst 2, 1) := by decide +kernel
theorem dL_differentOperands_20 : decode cL_differentOperands 20 = .ok (.ireturn, 1) := by decide +kernel
theorem dL_differentOperands_21 : decode cL_differentOperands 21 = .ok (.astore 4, 2) := by decide +kernel
theorem dL_differentOperands_23 : decode cL_differentOperands 23 = .ok (.iconst 3, 1) := by decide +kernel
theorem dL_differentOperands_24 : decode cL_differentOperands 24 = .ok (.ireturn, 1) := by decide +kernel
theorem dL_differentOperands_25 : decode cL_differentOperands 25 = .ok (.iconst 0, 1) := by decide +kernel
theorem dL_differentOperands_26 : decode cL_differentOperands 26 = .ok (.ireturn, 1) := by decide +kernel
theorem dL_usesOf_0 : decode cL_usesOf 0 = .ok (.aload_n 3, 1) := by decide +kernel
theorem dL_usesOf_1 : decode cL_usesOf 1 = .ok (.iconst 0, 1) := by decide +kernel
theorem dL_usesOf_2 : decode cL_usesOf 2 = .ok (.aload_n 0, 1) := by decide +kernel
theorem dL_usesOf_3 : decode cL_usesOf 3 = .ok (.iload_n 1, 1) := by decide +kernel
theorem dL_usesOf_4 : decode cL_usesOf 4 = .ok (.iload_n 2, 1) := by decide +kernel
theorem dL_usesOf_5 : decode cL_usesOf 5 = .ok (.invokevirtual 97, 3) := by decide +kernel
theorem dL_usesOf_8 : decode cL_usesOf 8 = .ok (.i2l, 1) := by decide +kernel
theorem dL_usesOf_9 : decode cL_usesOf 9 = .ok (.lastore, 1) := by decide +kernel
theorem dL_usesOf_10 : decode cL_usesOf 10 = .ok (.goto 7, 3) := by decide +kernel
theorem dL_usesOf_13 : decode cL_usesOf 13 = .ok (.astore 4, 2) := by decide +kernel
theorem dL_usesOf_15 : decode cL_usesOf 15 = .ok (.iconst 1, 1) := by decide +kernel
theorem dL_usesOf_16 : decode cL_usesOf 16 = .ok (.ireturn, 1) := by decide +kernel
theorem dL_usesOf_17 : decode cL_usesOf 17 = .ok (.iconst 0, 1) := by decide +kernel
theorem dL_usesOf_18 : decode cL_usesOf 18 = .ok (.ireturn, 1) := by decide +kernel
theorem dL_reachingCount_0 : decode cL_reachingCount 0 = .ok (.aload_n 3, 1) := by decide +kernel
theorem dL_reachingCount_1 : decode cL_reachingCount 1 = .ok (.iconst 0, 1) := by decide +kernel
theorem dL_reachingCount_2 : decode cL_reachingCount 2 = .ok (.aload_n 0, 1) := by decide +kernel
theorem dL_reachingCount_3 : decode cL_reachingCount 3 = .ok (.iload_n 1, 1) := by decide +kernel
theorem dL_reachingCount_4 : decode cL_reachingCount 4 = .ok (.iload_n 2, 1) := by decide +kernel
theorem dL_reachingCount_5 : decode cL_reachingCount 5 = .ok (.invokevirtual 100, 3) := by decide +kernel
theorem dL_reachingCount_8 : decode cL_reachingCount 8 = .ok (.i2l, 1) := by decide +kernel
theorem dL_reachingCount_9 : decode cL_reachingCount 9 = .ok (.lastore, 1) := by decide +kernel
theorem dL_reachingCount_10 : decode cL_reachingCount 10 = .ok (.goto 11, 3) := by decide +kernel
theorem dL_reachingCount_13 : decode cL_reachingCount 13 = .ok (.astore 4, 2) := by decide +kernel
theorem dL_reachingCount_15 : decode cL_reachingCount 15 = .ok (.iconst 1, 1) := by decide +kernel
theorem dL_reachingCount_16 : decode cL_reachingCount 16 = .ok (.ireturn, 1) := by decide +kernel
theorem dL_reachingCount_17 : decode cL_reachingCount 17 = .ok (.astore 4, 2) := by decide +kernel
theorem dL_reachingCount_19 : decode cL_reachingCount 19 = .ok (.iconst 2, 1) := by decide +kernel
theorem dL_reachingCount_20 : decode cL_reachingCount 20 = .ok (.ireturn, 1) := by decide +kernel
theorem dL_reachingCount_21 : decode cL_reachingCount 21 = .ok (.iconst 0, 1) := by decide +kernel
theorem dL_reachingCount_22 : decode cL_reachingCount 22 = .ok (.ireturn, 1) := by decide +kernel
theorem dL_reaching_0 : decode cL_reaching 0 = .ok (.aload 4, 2) := by decide +kernel
theorem dL_reaching_2 : decode cL_reaching 2 = .ok (.iconst 0, 1) := by decide +kernel
theorem dL_reaching_3 : decode cL_reaching 3 = .ok (.aload_n 0, 1) := by decide +kernel
theorem dL_reaching_4 : decode cL_reaching 4 = .ok (.iload_n 1, 1) := by decide +kernel
theorem dL_reaching_5 : decode cL_reaching 5 = .ok (.iload_n 2, 1) := by decide +kernel
theorem dL_reaching_6 : decode cL_reaching 6 = .ok (.iload_n 3, 1) := by decide +kernel
theorem dL_reaching_7 : decode cL_reaching 7 = .ok (.invokevirtual 103, 3) := by decide +kernel
theorem dL_reaching_10 : decode cL_reaching 10 = .ok (.i2l, 1) := by decide +kernel
theorem dL_reaching_11 : decode cL_reaching 11 = .ok (.lastore, 1) := by decide +kernel
theorem dL_reaching_12 : decode cL_reaching 12 = .ok (.goto 15, 3) := by decide +kernel
theorem dL_reaching_15 : decode cL_reaching 15 = .ok (.astore 5, 2) := by decide +kernel
theorem dL_reaching_17 : decode cL_reaching 17 = .ok (.iconst 1, 1) := by decide +kernel
theorem dL_reaching_18 : decode cL_reaching 18 = .ok (.ireturn, 1) := by decide +kernel
theorem dL_reaching_19 : decode cL_reaching 19 = .ok (.astore 5, 2) := by decide +kernel
theorem dL_reaching_21 : decode cL_reaching 21 = .ok (.iconst 2, 1) := by decide +kernel
theorem dL_reaching_22 : decode cL_reaching 22 = .ok (.ireturn, 1) := by decide +kernel
theorem dL_reaching_23 : decode cL_reaching 23 = .ok (.astore 5, 2) := by decide +kernel
theorem dL_reaching_25 : decode cL_reaching 25 = .ok (.iconst 3, 1) := by decide +kernel
theorem dL_reaching_26 : decode cL_reaching 26 = .ok (.ireturn, 1) := by decide +kernel
theorem dL_reaching_27 : decode cL_reaching 27 = .ok (.iconst 0, 1) := by decide +kernel
theorem dL_reaching_28 : decode cL_reaching 28 = .ok (.ireturn, 1) := by decide +kernel
theorem dL_isInitialReaching_0 : decode cL_isInitialReaching 0 = .ok (.aload_n 3, 1) := by decide +kernel
theorem dL_isInitialReaching_1 : decode cL_isInitialReaching 1 = .ok (.iconst 0, 1) := by decide +kernel
theorem dL_isInitialReaching_2 : decode cL_isInitialReaching 2 = .ok (.aload_n 0, 1) := by decide +kernel
theorem dL_isInitialReaching_3 : decode cL_isInitialReaching 3 = .ok (.iload_n 1, 1) := by decide +kernel
theorem dL_isInitialReaching_4 : decode cL_isInitialReaching 4 = .ok (.iload_n 2, 1) := by decide +kernel
theorem dL_isInitialReaching_5 : decode cL_isInitialReaching 5 = .ok (.invokevirtual 106, 3) := by decide +kernel
theorem dL_isInitialReaching_8 : decode cL_isInitialReaching 8 = .ok (.ifCond .eq 7, 3) := by decide +kernel
theorem dL_isInitialReaching_11 : decode cL_isInitialReaching 11 = .ok (.lconst 1, 1) := by decide +kernel
theorem dL_isInitialReaching_12 : decode cL_isInitialReaching 12 = .ok (.goto 4, 3) := by decide +kernel
theorem dL_isInitialReaching_15 : decode cL_isInitialReaching 15 = .ok (.lconst 0, 1) := by decide +kernel
theorem dL_isInitialReaching_16 : decode cL_isInitialReaching 16 = .ok (.lastore, 1) := by decide +kernel
theorem dL_isInitialReaching_17 : decode cL_isInitialReaching 17 = .ok (.goto 11, 3) := by decide +kernel
theorem dL_isInitialReaching_20 : decode cL_isInitialReaching 20 = .ok (.astore 4, 2) := by decide +kernel
theorem dL_isInitialReaching_22 : decode cL_isInitialReaching 22 = .ok (.iconst 1, 1) := by decide +kernel
theorem dL_isInitialReaching_23 : decode cL_isInitialReaching 23 = .ok (.ireturn, 1) := by decide +kernel
theorem dL_isInitialReaching_24 : decode cL_isInitialReaching 24 = .ok (.astore 4, 2) := by decide +kernel
theorem dL_isInitialReaching_26 : decode cL_isInitialReaching 26 = .ok (.iconst 2, 1) := by decide +kernel
theorem dL_isInitialReaching_27 : decode cL_isInitialReaching 27 = .ok (.ireturn, 1) := by decide +kernel
theorem dL_isInitialReaching_28 : decode cL_isInitialReaching 28 = .ok (.iconst 0, 1) := by decide +kernel
theorem dL_isInitialReaching_29 : decode cL_isInitialReaching 29 = .ok (.ireturn, 1) := by decide +kernel
theorem dL_undo_0 : decode cL_undo 0 = .ok (.aload_n 1, 1) := by decide +kernel
theorem dL_undo_1 : decode cL_undo 1 = .ok (.iconst 0, 1) := by decide +kernel
theorem dL_undo_2 : decode cL_undo 2 = .ok (.aload_n 0, 1) := by decide +kernel
theorem dL_undo_3 : decode cL_undo 3 = .ok (.invokevirtual 109, 3) := by decide +kernel
theorem dL_undo_6 : decode cL_undo 6 = .ok (.i2l, 1) := by decide +kernel
theorem dL_undo_7 : decode cL_undo 7 = .ok (.lastore, 1) := by decide +kernel
theorem dL_undo_8 : decode cL_undo 8 = .ok (.goto 6, 3) := by decide +kernel
theorem dL_undo_11 : decode cL_undo 11 = .ok (.astore_n 2, 1) := by decide +kernel
theorem dL_undo_12 : decode cL_undo 12 = .ok (.iconst 1, 1) := by decide +kernel
theorem dL_undo_13 : decode cL_undo 13 = .ok (.ireturn, 1) := by decide +kernel
theorem dL_undo_14 : decode cL_undo 14 = .ok (.iconst 0, 1) := by decide +kernel
theorem dL_undo_15 : decode cL_undo 15 = .ok (.ireturn, 1) := by decide +kernel
theorem dL_walk_0 : decode cL_walk 0 = .ok (.aload_n 2, 1) := by decide +kernel
theorem dL_walk_1 : decode cL_walk 1 = .ok (.iconst 0, 1) := by decide +kernel
theorem dL_walk_2 : decode cL_walk 2 = .ok (.aload_n 0, 1) := by decide +kernel
theorem dL_walk_3 : decode cL_walk 3 = .ok (.iload_n 1, 1) := by decide +kernel
theorem dL_walk_4 : decode cL_walk 4 = .ok (.invokevirtual 112, 3) := by decide +kernel
theorem dL_walk_7 : decode cL_walk 7 = .ok (.i2l, 1) := by decide +kernel
theorem dL_walk_8 : decode cL_walk 8 = .ok (.lastore, 1) := by decide +kernel
theorem dL_walk_9 : decode cL_walk 9 = .ok (.goto 9, 3) := by decide +kernel
theorem dL_walk_12 : decode cL_walk 12 = .ok (.astore_n 3, 1) := by decide +kernel
theorem dL_walk_13 : decode cL_walk 13 = .ok (.iconst 1, 1) := by decide +kernel
theorem dL_walk_14 : decode cL_walk 14 = .ok (.ireturn, 1) := by decide +kernel
theorem dL_walk_15 : decode cL_walk 15 = .ok (.astore_n 3, 1) := by decide +kernel
theorem dL_walk_16 : decode cL_walk 16 = .ok (.iconst 2, 1) := by decide +kernel
theorem dL_walk_17 : decode cL_walk 17 = .ok (.ireturn, 1) := by decide +kernel
theorem dL_walk_18 : decode cL_walk 18 = .ok (.iconst 0, 1) := by decide +kernel
theorem dL_walk_19 : decode cL_walk 19 = .ok (.ireturn, 1) := by decide +kernel
theorem dL_lastOnWalk_0 : decode cL_lastOnWalk 0 = .ok (.aload_n 2, 1) := by decide +kernel
theorem dL_lastOnWalk_1 : decode cL_lastOnWalk 1 = .ok (.iconst 0, 1) := by decide +kernel
theorem dL_lastOnWalk_2 : decode cL_lastOnWalk 2 = .ok (.aload_n 0, 1) := by decide +kernel
theorem dL_lastOnWalk_3 : decode cL_lastOnWalk 3 = .ok (.iload_n 1, 1) := by decide +kernel
theorem dL_lastOnWalk_4 : decode cL_lastOnWalk 4 = .ok (.invokevirtual 115, 3) := by decide +kernel
theorem dL_lastOnWalk_7 : decode cL_lastOnWalk 7 = .ok (.i2l, 1) := by decide +kernel
theorem dL_lastOnWalk_8 : decode cL_lastOnWalk 8 = .ok (.lastore, 1) := by decide +kernel
theorem dL_lastOnWalk_9 : decode cL_lastOnWalk 9 = .ok (.goto 6, 3) := by decide +kernel
theorem dL_lastOnWalk_12 : decode cL_lastOnWalk 12 = .ok (.astore_n 3, 1) := by decide +kernel
theorem dL_lastOnWalk_13 : decode cL_lastOnWalk 13 = .ok (.iconst 1, 1) := by decide +kernel
theorem dL_lastOnWalk_14 : decode cL_lastOnWalk 14 = .ok (.ireturn, 1) := by decide +kernel
theorem dL_lastOnWalk_15 : decode cL_lastOnWalk 15 = .ok (.iconst 0, 1) := by decide +kernel
theorem dL_lastOnWalk_16 : decode cL_lastOnWalk 16 = .ok (.ireturn, 1) := by decide +kernel
theorem dL_mergesOnWalk_0 : decode cL_mergesOnWalk 0 = .ok (.aload_n 2, 1) := by decide +kernel
theorem dL_mergesOnWalk_1 : decode cL_mergesOnWalk 1 = .ok (.iconst 0, 1) := by decide +kernel
theorem dL_mergesOnWalk_2 : decode cL_mergesOnWalk 2 = .ok (.aload_n 0, 1) := by decide +kernel
theorem dL_mergesOnWalk_3 : decode cL_mergesOnWalk 3 = .ok (.iload_n 1, 1) := by decide +kernel
theorem dL_mergesOnWalk_4 : decode cL_mergesOnWalk 4 = .ok (.invokevirtual 118, 3) := by decide +kernel
theorem dL_mergesOnWalk_7 : decode cL_mergesOnWalk 7 = .ok (.i2l, 1) := by decide +kernel
theorem dL_mergesOnWalk_8 : decode cL_mergesOnWalk 8 = .ok (.lastore, 1) := by decide +kernel
theorem dL_mergesOnWalk_9 : decode cL_mergesOnWalk 9 = .ok (.goto 6, 3) := by decide +kernel
theorem dL_mergesOnWalk_12 : decode cL_mergesOnWalk 12 = .ok (.astore_n 3, 1) := by decide +kernel
theorem dL_mergesOnWalk_13 : decode cL_mergesOnWalk 13 = .ok (.iconst 1, 1) := by decide +kernel
theorem dL_mergesOnWalk_14 : decode cL_mergesOnWalk 14 = .ok (.ireturn, 1) := by decide +kernel
theorem dL_mergesOnWalk_15 : decode cL_mergesOnWalk 15 = .ok (.iconst 0, 1) := by decide +kernel
theorem dL_mergesOnWalk_16 : decode cL_mergesOnWalk 16 = .ok (.ireturn, 1) := by decide +kernel
theorem dL_walks_0 : decode cL_walks 0 = .ok (.aload_n 3, 1) := by decide +kernel
theorem dL_walks_1 : decode cL_walks 1 = .ok (.iconst 0, 1) := by decide +kernel
theorem dL_walks_2 : decode cL_walks 2 = .ok (.aload_n 0, 1) := by decide +kernel
theorem dL_walks_3 : decode cL_walks 3 = .ok (.iload_n 1, 1) := by decide +kernel
theorem dL_walks_4 : decode cL_walks 4 = .ok (.iload_n 2, 1) := by decide +kernel
theorem dL_walks_5 : decode cL_walks 5 = .ok (.invokevirtual 121, 3) := by decide +kernel
theorem dL_walks_8 : decode cL_walks 8 = .ok (.lastore, 1) := by decide +kernel
theorem dL_walks_9 : decode cL_walks 9 = .ok (.goto 11, 3) := by decide +kernel
theorem dL_walks_12 : decode cL_walks 12 = .ok (.astore 4, 2) := by decide +kernel
theorem dL_walks_14 : decode cL_walks 14 = .ok (.iconst 1, 1) := by decide +kernel
theorem dL_walks_15 : decode cL_walks 15 = .ok (.ireturn, 1) := by decide +kernel
theorem dL_walks_16 : decode cL_walks 16 = .ok (.astore 4, 2) := by decide +kernel
theorem dL_walks_18 : decode cL_walks 18 = .ok (.iconst 2, 1) := by decide +kernel
theorem dL_walks_19 : decode cL_walks 19 = .ok (.ireturn, 1) := by decide +kernel
theorem dL_walks_20 : decode cL_walks 20 = .ok (.iconst 0, 1) := by decide +kernel
theorem dL_walks_21 : decode cL_walks 21 = .ok (.ireturn, 1) := by decide +kernel
theorem dL_restore_0 : decode cL_restore 0 = .ok (.aload_n 1, 1) := by decide +kernel
theorem dL_restore_1 : decode cL_restore 1 = .ok (.iconst 0, 1) := by decide +kernel
theorem dL_restore_2 : decode cL_restore 2 = .ok (.aload_n 0, 1) := by decide +kernel
theorem dL_restore_3 : decode cL_restore 3 = .ok (.invokevirtual 125, 3) := by decide +kernel
theorem dL_restore_6 : decode cL_restore 6 = .ok (.i2l, 1) := by decide +kernel
theorem dL_restore_7 : decode cL_restore 7 = .ok (.lastore, 1) := by decide +kernel
theorem dL_restore_8 : decode cL_restore 8 = .ok (.goto 6, 3) := by decide +kernel
theorem dL_restore_11 : decode cL_restore 11 = .ok (.astore_n 2, 1) := by decide +kernel
theorem dL_restore_12 : decode cL_restore 12 = .ok (.iconst 1, 1) := by decide +kernel
theorem dL_restore_13 : decode cL_restore 13 = .ok (.ireturn, 1) := by decide +kernel
theorem dL_restore_14 : decode cL_restore 14 = .ok (.iconst 0, 1) := by decide +kernel
theorem dL_restore_15 : decode cL_restore 15 = .ok (.ireturn, 1) := by decide +kernel
