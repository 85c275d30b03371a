/-! Walked by wip/walk.py. -/
theorem d148_0 : decode (tb_me 148).1.2.1 0 = .ok (.lload_n 0, 1) := by decide +kernel
theorem d148_1 : decode (tb_me 148).1.2.1 1 = .ok (.lload_n 2, 1) := by decide +kernel
theorem d148_2 : decode (tb_me 148).1.2.1 2 = .ok (.lcmp, 1) := by decide +kernel
theorem d148_3 : decode (tb_me 148).1.2.1 3 = .ok (.ifCond .lt 14, 3) := by decide +kernel
theorem d148_17 : decode (tb_me 148).1.2.1 17 = .ok (.iconst 0, 1) := by decide +kernel
theorem d148_18 : decode (tb_me 148).1.2.1 18 = .ok (.ireturn, 1) := by decide +kernel
theorem t148 : (tb_me 148).1.2.2.2 = some .boolean := by decide +kernel
theorem d148_6 : decode (tb_me 148).1.2.1 6 = .ok (.lload_n 0, 1) := by decide +kernel
theorem d148_7 : decode (tb_me 148).1.2.1 7 = .ok (.lload 4, 2) := by decide +kernel
theorem d148_9 : decode (tb_me 148).1.2.1 9 = .ok (.lcmp, 1) := by decide +kernel
theorem d148_10 : decode (tb_me 148).1.2.1 10 = .ok (.ifCond .gt 7, 3) := by decide +kernel
theorem d148_13 : decode (tb_me 148).1.2.1 13 = .ok (.iconst 1, 1) := by decide +kernel
theorem d148_14 : decode (tb_me 148).1.2.1 14 = .ok (.goto 4, 3) := by decide +kernel
theorem e148 : (tb_me 148).2.1 = (0, 0) ∧ (tb_me 148).1.2.2.1 = 6 := by decide +kernel
theorem d149_0 : decode (tb_me 149).1.2.1 0 = .ok (.iload_n 0, 1) := by decide +kernel
theorem d149_1 : decode (tb_me 149).1.2.1 1 = .ok (.iload_n 1, 1) := by decide +kernel
theorem d149_2 : decode (tb_me 149).1.2.1 2 = .ok (.ishr, 1) := by decide +kernel
theorem d149_3 : decode (tb_me 149).1.2.1 3 = .ok (.iconst 1, 1) := by decide +kernel
theorem d149_4 : decode (tb_me 149).1.2.1 4 = .ok (.iand, 1) := by decide +kernel
theorem d149_5 : decode (tb_me 149).1.2.1 5 = .ok (.iconst 1, 1) := by decide +kernel
theorem d149_6 : decode (tb_me 149).1.2.1 6 = .ok (.if_icmp .ne 7, 3) := by decide +kernel
theorem d149_13 : decode (tb_me 149).1.2.1 13 = .ok (.iconst 0, 1) := by decide +kernel
theorem d149_14 : decode (tb_me 149).1.2.1 14 = .ok (.ireturn, 1) := by decide +kernel
theorem t149 : (tb_me 149).1.2.2.2 = some .boolean := by decide +kernel
theorem d149_9 : decode (tb_me 149).1.2.1 9 = .ok (.iconst 1, 1) := by decide +kernel
theorem d149_10 : decode (tb_me 149).1.2.1 10 = .ok (.goto 4, 3) := by decide +kernel
theorem e149 : (tb_me 149).2.1 = (0, 0) ∧ (tb_me 149).1.2.2.1 = 2 := by decide +kernel
theorem d154_0 : decode (tb_me 154).1.2.1 0 = .ok (.aload_n 0, 1) := by decide +kernel
theorem d154_1 : decode (tb_me 154).1.2.1 1 = .ok (.getfield 81, 3) := by decide +kernel
theorem k154_81 (b : Bool) : tb_lk b 154 81 = (1, 10, 9, 0, 0) := by cases b <;> decide +kernel
theorem f10_9 : (9 < pm_nf tb_cl 10) ∧ tb_ft 10 9 ≠ .long ∧ pm_isR (tb_ft 10 9) = false := by decide +kernel
theorem d154_4 : decode (tb_me 154).1.2.1 4 = .ok (.ifCond .ne 15, 3) := by decide +kernel
theorem d154_19 : decode (tb_me 154).1.2.1 19 = .ok (.iconst 0, 1) := by decide +kernel
theorem d154_20 : decode (tb_me 154).1.2.1 20 = .ok (.ireturn, 1) := by decide +kernel
theorem t154 : (tb_me 154).1.2.2.2 = some .boolean := by decide +kernel
theorem d154_7 : decode (tb_me 154).1.2.1 7 = .ok (.aload_n 0, 1) := by decide +kernel
theorem d154_8 : decode (tb_me 154).1.2.1 8 = .ok (.iconst 1, 1) := by decide +kernel
theorem d154_9 : decode (tb_me 154).1.2.1 9 = .ok (.bipush 8, 2) := by decide +kernel
theorem d154_11 : decode (tb_me 154).1.2.1 11 = .ok (.iload_n 2, 1) := by decide +kernel
theorem d154_12 : decode (tb_me 154).1.2.1 12 = .ok (.imul, 1) := by decide +kernel
theorem d154_13 : decode (tb_me 154).1.2.1 13 = .ok (.iadd, 1) := by decide +kernel
theorem d154_14 : decode (tb_me 154).1.2.1 14 = .ok (.iload_n 1, 1) := by decide +kernel
theorem d154_15 : decode (tb_me 154).1.2.1 15 = .ok (.iadd, 1) := by decide +kernel
theorem d154_16 : decode (tb_me 154).1.2.1 16 = .ok (.putfield 81, 3) := by decide +kernel
theorem p154_10_9 : (9 < pm_nf tb_cl 10) ∧ tb_ft 10 9 = .int ∧ pm_fin tb_cl (tb_me 154).1.1 10 9 = true := by decide +kernel
theorem e154 : (tb_me 154).2.1 = (0, 0) ∧ (tb_me 154).1.2.2.1 = 3 := by decide +kernel
theorem d166_0 : decode (tb_me 166).1.2.1 0 = .ok (.iload_n 0, 1) := by decide +kernel
theorem d166_1 : decode (tb_me 166).1.2.1 1 = .ok (.bipush 13, 2) := by decide +kernel
theorem d166_3 : decode (tb_me 166).1.2.1 3 = .ok (.if_icmp .ne 7, 3) := by decide +kernel
theorem d166_10 : decode (tb_me 166).1.2.1 10 = .ok (.iload_n 0, 1) := by decide +kernel
theorem d166_11 : decode (tb_me 166).1.2.1 11 = .ok (.bipush 12, 2) := by decide +kernel
theorem d166_13 : decode (tb_me 166).1.2.1 13 = .ok (.if_icmp .ne 7, 3) := by decide +kernel
theorem d166_20 : decode (tb_me 166).1.2.1 20 = .ok (.iload_n 0, 1) := by decide +kernel
theorem d166_21 : decode (tb_me 166).1.2.1 21 = .ok (.bipush 11, 2) := by decide +kernel
theorem d166_23 : decode (tb_me 166).1.2.1 23 = .ok (.if_icmp .ne 7, 3) := by decide +kernel
theorem d166_30 : decode (tb_me 166).1.2.1 30 = .ok (.iconst 0, 1) := by decide +kernel
theorem d166_31 : decode (tb_me 166).1.2.1 31 = .ok (.ireturn, 1) := by decide +kernel
theorem t166 : (tb_me 166).1.2.2.2 = some .int := by decide +kernel
theorem d166_26 : decode (tb_me 166).1.2.1 26 = .ok (.iconst 3, 1) := by decide +kernel
theorem d166_27 : decode (tb_me 166).1.2.1 27 = .ok (.goto 4, 3) := by decide +kernel
theorem d166_16 : decode (tb_me 166).1.2.1 16 = .ok (.iconst 2, 1) := by decide +kernel
theorem d166_17 : decode (tb_me 166).1.2.1 17 = .ok (.goto 14, 3) := by decide +kernel
theorem d166_6 : decode (tb_me 166).1.2.1 6 = .ok (.iconst 1, 1) := by decide +kernel
theorem d166_7 : decode (tb_me 166).1.2.1 7 = .ok (.goto 24, 3) := by decide +kernel
theorem e166 : (tb_me 166).2.1 = (0, 0) ∧ (tb_me 166).1.2.2.1 = 1 := by decide +kernel
theorem d246_0 : decode (tb_me 246).1.2.1 0 = .ok (.iload_n 0, 1) := by decide +kernel
theorem d246_1 : decode (tb_me 246).1.2.1 1 = .ok (.iload_n 1, 1) := by decide +kernel
theorem d246_2 : decode (tb_me 246).1.2.1 2 = .ok (.if_icmp .ge 7, 3) := by decide +kernel
theorem d246_9 : decode (tb_me 246).1.2.1 9 = .ok (.iload_n 1, 1) := by decide +kernel
theorem d246_10 : decode (tb_me 246).1.2.1 10 = .ok (.ireturn, 1) := by decide +kernel
theorem t246 : (tb_me 246).1.2.2.2 = some .int := by decide +kernel
theorem d246_5 : decode (tb_me 246).1.2.1 5 = .ok (.iload_n 0, 1) := by decide +kernel
theorem d246_6 : decode (tb_me 246).1.2.1 6 = .ok (.goto 4, 3) := by decide +kernel
theorem e246 : (tb_me 246).2.1 = (0, 0) ∧ (tb_me 246).1.2.2.1 = 2 := by decide +kernel
theorem d192_0 : decode (tb_me 192).1.2.1 0 = .ok (.aload_n 0, 1) := by decide +kernel
theorem d192_1 : decode (tb_me 192).1.2.1 1 = .ok (.getfield 39, 3) := by decide +kernel
theorem k192_39 (b : Bool) : tb_lk b 192 39 = (1, 10, 20, 0, 0) := by cases b <;> decide +kernel
theorem f10_20 : (20 < pm_nf tb_cl 10) ∧ tb_ft 10 20 ≠ .long ∧ pm_isR (tb_ft 10 20) = true := by decide +kernel
theorem d192_4 : decode (tb_me 192).1.2.1 4 = .ok (.iconst 0, 1) := by decide +kernel
theorem d192_5 : decode (tb_me 192).1.2.1 5 = .ok (.iaload, 1) := by decide +kernel
theorem d192_6 : decode (tb_me 192).1.2.1 6 = .ok (.ifCond .le 7, 3) := by decide +kernel
theorem d192_13 : decode (tb_me 192).1.2.1 13 = .ok (.iconst 0, 1) := by decide +kernel
theorem d192_14 : decode (tb_me 192).1.2.1 14 = .ok (.ireturn, 1) := by decide +kernel
theorem t192 : (tb_me 192).1.2.2.2 = some .boolean := by decide +kernel
theorem d192_9 : decode (tb_me 192).1.2.1 9 = .ok (.iconst 1, 1) := by decide +kernel
theorem d192_10 : decode (tb_me 192).1.2.1 10 = .ok (.goto 4, 3) := by decide +kernel
theorem e192 : (tb_me 192).2.1 = (0, 0) ∧ (tb_me 192).1.2.2.1 = 1 := by decide +kernel
theorem d193_0 : decode (tb_me 193).1.2.1 0 = .ok (.iload_n 1, 1) := by decide +kernel
theorem d193_1 : decode (tb_me 193).1.2.1 1 = .ok (.ifCond .lt 17, 3) := by decide +kernel
theorem d193_18 : decode (tb_me 193).1.2.1 18 = .ok (.iconst 0, 1) := by decide +kernel
theorem d193_19 : decode (tb_me 193).1.2.1 19 = .ok (.ireturn, 1) := by decide +kernel
theorem t193 : (tb_me 193).1.2.2.2 = some .boolean := by decide +kernel
theorem d193_4 : decode (tb_me 193).1.2.1 4 = .ok (.iload_n 1, 1) := by decide +kernel
theorem d193_5 : decode (tb_me 193).1.2.1 5 = .ok (.aload_n 0, 1) := by decide +kernel
theorem d193_6 : decode (tb_me 193).1.2.1 6 = .ok (.getfield 39, 3) := by decide +kernel
theorem k193_39 (b : Bool) : tb_lk b 193 39 = (1, 10, 20, 0, 0) := by cases b <;> decide +kernel
theorem d193_9 : decode (tb_me 193).1.2.1 9 = .ok (.iconst 1, 1) := by decide +kernel
theorem d193_10 : decode (tb_me 193).1.2.1 10 = .ok (.iaload, 1) := by decide +kernel
theorem d193_11 : decode (tb_me 193).1.2.1 11 = .ok (.if_icmp .ge 7, 3) := by decide +kernel
theorem d193_14 : decode (tb_me 193).1.2.1 14 = .ok (.iconst 1, 1) := by decide +kernel
theorem d193_15 : decode (tb_me 193).1.2.1 15 = .ok (.goto 4, 3) := by decide +kernel
theorem e193 : (tb_me 193).2.1 = (0, 0) ∧ (tb_me 193).1.2.2.1 = 2 := by decide +kernel
theorem d194_0 : decode (tb_me 194).1.2.1 0 = .ok (.iload_n 1, 1) := by decide +kernel
theorem d194_1 : decode (tb_me 194).1.2.1 1 = .ok (.ifCond .lt 17, 3) := by decide +kernel
theorem d194_18 : decode (tb_me 194).1.2.1 18 = .ok (.iconst 0, 1) := by decide +kernel
theorem d194_19 : decode (tb_me 194).1.2.1 19 = .ok (.ireturn, 1) := by decide +kernel
theorem t194 : (tb_me 194).1.2.2.2 = some .boolean := by decide +kernel
theorem d194_4 : decode (tb_me 194).1.2.1 4 = .ok (.iload_n 1, 1) := by decide +kernel
theorem d194_5 : decode (tb_me 194).1.2.1 5 = .ok (.aload_n 0, 1) := by decide +kernel
theorem d194_6 : decode (tb_me 194).1.2.1 6 = .ok (.getfield 39, 3) := by decide +kernel
theorem k194_39 (b : Bool) : tb_lk b 194 39 = (1, 10, 20, 0, 0) := by cases b <;> decide +kernel
theorem d194_9 : decode (tb_me 194).1.2.1 9 = .ok (.iconst 2, 1) := by decide +kernel
theorem d194_10 : decode (tb_me 194).1.2.1 10 = .ok (.iaload, 1) := by decide +kernel
theorem d194_11 : decode (tb_me 194).1.2.1 11 = .ok (.if_icmp .ge 7, 3) := by decide +kernel
theorem d194_14 : decode (tb_me 194).1.2.1 14 = .ok (.iconst 1, 1) := by decide +kernel
theorem d194_15 : decode (tb_me 194).1.2.1 15 = .ok (.goto 4, 3) := by decide +kernel
theorem e194 : (tb_me 194).2.1 = (0, 0) ∧ (tb_me 194).1.2.2.1 = 2 := by decide +kernel
theorem d195_0 : decode (tb_me 195).1.2.1 0 = .ok (.iload_n 1, 1) := by decide +kernel
theorem d195_1 : decode (tb_me 195).1.2.1 1 = .ok (.ifCond .lt 17, 3) := by decide +kernel
theorem d195_18 : decode (tb_me 195).1.2.1 18 = .ok (.iconst 0, 1) := by decide +kernel
theorem d195_19 : decode (tb_me 195).1.2.1 19 = .ok (.ireturn, 1) := by decide +kernel
theorem t195 : (tb_me 195).1.2.2.2 = some .boolean := by decide +kernel
theorem d195_4 : decode (tb_me 195).1.2.1 4 = .ok (.iload_n 1, 1) := by decide +kernel
theorem d195_5 : decode (tb_me 195).1.2.1 5 = .ok (.aload_n 0, 1) := by decide +kernel
theorem d195_6 : decode (tb_me 195).1.2.1 6 = .ok (.getfield 39, 3) := by decide +kernel
theorem k195_39 (b : Bool) : tb_lk b 195 39 = (1, 10, 20, 0, 0) := by cases b <;> decide +kernel
theorem d195_9 : decode (tb_me 195).1.2.1 9 = .ok (.iconst 0, 1) := by decide +kernel
theorem d195_10 : decode (tb_me 195).1.2.1 10 = .ok (.iaload, 1) := by decide +kernel
theorem d195_11 : decode (tb_me 195).1.2.1 11 = .ok (.if_icmp .ge 7, 3) := by decide +kernel
theorem d195_14 : decode (tb_me 195).1.2.1 14 = .ok (.iconst 1, 1) := by decide +kernel
theorem d195_15 : decode (tb_me 195).1.2.1 15 = .ok (.goto 4, 3) := by decide +kernel
theorem e195 : (tb_me 195).2.1 = (0, 0) ∧ (tb_me 195).1.2.2.1 = 2 := by decide +kernel
theorem d196_0 : decode (tb_me 196).1.2.1 0 = .ok (.aload_n 0, 1) := by decide +kernel
theorem d196_1 : decode (tb_me 196).1.2.1 1 = .ok (.getfield 39, 3) := by decide +kernel
theorem k196_39 (b : Bool) : tb_lk b 196 39 = (1, 10, 20, 0, 0) := by cases b <;> decide +kernel
theorem d196_4 : decode (tb_me 196).1.2.1 4 = .ok (.bipush 10, 2) := by decide +kernel
theorem d196_6 : decode (tb_me 196).1.2.1 6 = .ok (.bipush 6, 2) := by decide +kernel
theorem d196_8 : decode (tb_me 196).1.2.1 8 = .ok (.iload_n 1, 1) := by decide +kernel
theorem d196_9 : decode (tb_me 196).1.2.1 9 = .ok (.imul, 1) := by decide +kernel
theorem d196_10 : decode (tb_me 196).1.2.1 10 = .ok (.iadd, 1) := by decide +kernel
theorem d196_11 : decode (tb_me 196).1.2.1 11 = .ok (.iload_n 2, 1) := by decide +kernel
theorem d196_12 : decode (tb_me 196).1.2.1 12 = .ok (.iadd, 1) := by decide +kernel
theorem d196_13 : decode (tb_me 196).1.2.1 13 = .ok (.iaload, 1) := by decide +kernel
theorem d196_14 : decode (tb_me 196).1.2.1 14 = .ok (.ireturn, 1) := by decide +kernel
theorem t196 : (tb_me 196).1.2.2.2 = some .int := by decide +kernel
theorem e196 : (tb_me 196).2.1 = (0, 0) ∧ (tb_me 196).1.2.2.1 = 3 := by decide +kernel
theorem d203_0 : decode (tb_me 203).1.2.1 0 = .ok (.aload_n 0, 1) := by decide +kernel
theorem d203_1 : decode (tb_me 203).1.2.1 1 = .ok (.getfield 39, 3) := by decide +kernel
theorem k203_39 (b : Bool) : tb_lk b 203 39 = (1, 10, 20, 0, 0) := by cases b <;> decide +kernel
theorem d203_4 : decode (tb_me 203).1.2.1 4 = .ok (.bipush 58, 2) := by decide +kernel
theorem d203_6 : decode (tb_me 203).1.2.1 6 = .ok (.bipush 6, 2) := by decide +kernel
theorem d203_8 : decode (tb_me 203).1.2.1 8 = .ok (.iload_n 1, 1) := by decide +kernel
theorem d203_9 : decode (tb_me 203).1.2.1 9 = .ok (.imul, 1) := by decide +kernel
theorem d203_10 : decode (tb_me 203).1.2.1 10 = .ok (.iadd, 1) := by decide +kernel
theorem d203_11 : decode (tb_me 203).1.2.1 11 = .ok (.iload_n 2, 1) := by decide +kernel
theorem d203_12 : decode (tb_me 203).1.2.1 12 = .ok (.iadd, 1) := by decide +kernel
theorem d203_13 : decode (tb_me 203).1.2.1 13 = .ok (.iaload, 1) := by decide +kernel
theorem d203_14 : decode (tb_me 203).1.2.1 14 = .ok (.ireturn, 1) := by decide +kernel
theorem t203 : (tb_me 203).1.2.2.2 = some .int := by decide +kernel
theorem e203 : (tb_me 203).2.1 = (0, 0) ∧ (tb_me 203).1.2.2.1 = 3 := by decide +kernel
theorem d197_0 : decode (tb_me 197).1.2.1 0 = .ok (.aload_n 0, 1) := by decide +kernel
theorem d197_1 : decode (tb_me 197).1.2.1 1 = .ok (.iload_n 1, 1) := by decide +kernel
theorem d197_2 : decode (tb_me 197).1.2.1 2 = .ok (.invokevirtual 270, 3) := by decide +kernel
theorem k197_270 (b : Bool) : tb_lk b 197 270 = (2, 193, 0, 0, 0) := by cases b <;> decide +kernel
theorem m193 : (tb_me 193).2 = ((0, 0), (1, 10)) ∧ (tb_me 193).1.2.2.1 = 2 := by decide +kernel
theorem d197_5 : decode (tb_me 197).1.2.1 5 = .ok (.ifCond .eq 16, 3) := by decide +kernel
theorem d197_21 : decode (tb_me 197).1.2.1 21 = .ok (.iconst 0, 1) := by decide +kernel
theorem d197_22 : decode (tb_me 197).1.2.1 22 = .ok (.ireturn, 1) := by decide +kernel
theorem t197 : (tb_me 197).1.2.2.2 = some .boolean := by decide +kernel
theorem d197_8 : decode (tb_me 197).1.2.1 8 = .ok (.aload_n 0, 1) := by decide +kernel
theorem d197_9 : decode (tb_me 197).1.2.1 9 = .ok (.iload_n 1, 1) := by decide +kernel
theorem d197_10 : decode (tb_me 197).1.2.1 10 = .ok (.iconst 4, 1) := by decide +kernel
theorem d197_11 : decode (tb_me 197).1.2.1 11 = .ok (.invokevirtual 273, 3) := by decide +kernel
theorem k197_273 (b : Bool) : tb_lk b 197 273 = (2, 196, 0, 0, 0) := by cases b <;> decide +kernel
theorem m196 : (tb_me 196).2 = ((0, 0), (2, 10)) ∧ (tb_me 196).1.2.2.1 = 3 := by decide +kernel
theorem d197_14 : decode (tb_me 197).1.2.1 14 = .ok (.ifCond .ne 7, 3) := by decide +kernel
theorem d197_17 : decode (tb_me 197).1.2.1 17 = .ok (.iconst 1, 1) := by decide +kernel
theorem d197_18 : decode (tb_me 197).1.2.1 18 = .ok (.goto 4, 3) := by decide +kernel
theorem e197 : (tb_me 197).2.1 = (0, 0) ∧ (tb_me 197).1.2.2.1 = 2 := by decide +kernel
theorem d198_0 : decode (tb_me 198).1.2.1 0 = .ok (.aload_n 0, 1) := by decide +kernel
theorem d198_1 : decode (tb_me 198).1.2.1 1 = .ok (.getfield 39, 3) := by decide +kernel
theorem k198_39 (b : Bool) : tb_lk b 198 39 = (1, 10, 20, 0, 0) := by cases b <;> decide +kernel
theorem d198_4 : decode (tb_me 198).1.2.1 4 = .ok (.iconst 5, 1) := by decide +kernel
theorem d198_5 : decode (tb_me 198).1.2.1 5 = .ok (.iaload, 1) := by decide +kernel
theorem d198_6 : decode (tb_me 198).1.2.1 6 = .ok (.ifCond .le 22, 3) := by decide +kernel
theorem d198_28 : decode (tb_me 198).1.2.1 28 = .ok (.iconst 0, 1) := by decide +kernel
theorem d198_29 : decode (tb_me 198).1.2.1 29 = .ok (.ireturn, 1) := by decide +kernel
theorem t198 : (tb_me 198).1.2.2.2 = some .boolean := by decide +kernel
theorem d198_9 : decode (tb_me 198).1.2.1 9 = .ok (.aload_n 0, 1) := by decide +kernel
theorem d198_10 : decode (tb_me 198).1.2.1 10 = .ok (.iload_n 1, 1) := by decide +kernel
theorem d198_11 : decode (tb_me 198).1.2.1 11 = .ok (.iconst 1, 1) := by decide +kernel
theorem d198_12 : decode (tb_me 198).1.2.1 12 = .ok (.invokevirtual 273, 3) := by decide +kernel
theorem k198_273 (b : Bool) : tb_lk b 198 273 = (2, 196, 0, 0, 0) := by cases b <;> decide +kernel
theorem d198_15 : decode (tb_me 198).1.2.1 15 = .ok (.aload_n 0, 1) := by decide +kernel
theorem d198_16 : decode (tb_me 198).1.2.1 16 = .ok (.getfield 39, 3) := by decide +kernel
theorem d198_19 : decode (tb_me 198).1.2.1 19 = .ok (.iconst 5, 1) := by decide +kernel
theorem d198_20 : decode (tb_me 198).1.2.1 20 = .ok (.iaload, 1) := by decide +kernel
theorem d198_21 : decode (tb_me 198).1.2.1 21 = .ok (.if_icmp .ne 7, 3) := by decide +kernel
theorem d198_24 : decode (tb_me 198).1.2.1 24 = .ok (.iconst 1, 1) := by decide +kernel
theorem d198_25 : decode (tb_me 198).1.2.1 25 = .ok (.goto 4, 3) := by decide +kernel
theorem e198 : (tb_me 198).2.1 = (0, 0) ∧ (tb_me 198).1.2.2.1 = 2 := by decide +kernel
theorem d187_0 : decode (tb_me 187).1.2.1 0 = .ok (.iload_n 1, 1) := by decide +kernel
theorem d187_1 : decode (tb_me 187).1.2.1 1 = .ok (.ifCond .lt 15, 3) := by decide +kernel
theorem d187_16 : decode (tb_me 187).1.2.1 16 = .ok (.iconst 0, 1) := by decide +kernel
theorem d187_17 : decode (tb_me 187).1.2.1 17 = .ok (.ireturn, 1) := by decide +kernel
theorem t187 : (tb_me 187).1.2.2.2 = some .boolean := by decide +kernel
theorem d187_4 : decode (tb_me 187).1.2.1 4 = .ok (.iload_n 1, 1) := by decide +kernel
theorem d187_5 : decode (tb_me 187).1.2.1 5 = .ok (.aload_n 0, 1) := by decide +kernel
theorem d187_6 : decode (tb_me 187).1.2.1 6 = .ok (.getfield 246, 3) := by decide +kernel
theorem k187_246 (b : Bool) : tb_lk b 187 246 = (1, 10, 2, 0, 0) := by cases b <;> decide +kernel
theorem f10_2 : (2 < pm_nf tb_cl 10) ∧ tb_ft 10 2 ≠ .long ∧ pm_isR (tb_ft 10 2) = false := by decide +kernel
theorem d187_9 : decode (tb_me 187).1.2.1 9 = .ok (.if_icmp .ge 7, 3) := by decide +kernel
theorem d187_12 : decode (tb_me 187).1.2.1 12 = .ok (.iconst 1, 1) := by decide +kernel
theorem d187_13 : decode (tb_me 187).1.2.1 13 = .ok (.goto 4, 3) := by decide +kernel
theorem e187 : (tb_me 187).2.1 = (0, 0) ∧ (tb_me 187).1.2.2.1 = 2 := by decide +kernel
theorem d223_0 : decode (tb_me 223).1.2.1 0 = .ok (.iconst 1, 1) := by decide +kernel
theorem d223_1 : decode (tb_me 223).1.2.1 1 = .ok (.aload_n 0, 1) := by decide +kernel
theorem d223_2 : decode (tb_me 223).1.2.1 2 = .ok (.getfield 39, 3) := by decide +kernel
theorem k223_39 (b : Bool) : tb_lk b 223 39 = (1, 10, 20, 0, 0) := by cases b <;> decide +kernel
theorem d223_5 : decode (tb_me 223).1.2.1 5 = .ok (.iconst 2, 1) := by decide +kernel
theorem d223_6 : decode (tb_me 223).1.2.1 6 = .ok (.iaload, 1) := by decide +kernel
theorem d223_7 : decode (tb_me 223).1.2.1 7 = .ok (.ishl, 1) := by decide +kernel
theorem d223_8 : decode (tb_me 223).1.2.1 8 = .ok (.iconst 1, 1) := by decide +kernel
theorem d223_9 : decode (tb_me 223).1.2.1 9 = .ok (.isub, 1) := by decide +kernel
theorem d223_10 : decode (tb_me 223).1.2.1 10 = .ok (.ireturn, 1) := by decide +kernel
theorem t223 : (tb_me 223).1.2.2.2 = some .int := by decide +kernel
theorem e223 : (tb_me 223).2.1 = (0, 0) ∧ (tb_me 223).1.2.2.1 = 1 := by decide +kernel
theorem d253_0 : decode (tb_me 253).1.2.1 0 = .ok (.iload_n 1, 1) := by decide +kernel
theorem d253_1 : decode (tb_me 253).1.2.1 1 = .ok (.ifCond .ge 5, 3) := by decide +kernel
theorem d253_6 : decode (tb_me 253).1.2.1 6 = .ok (.aload_n 0, 1) := by decide +kernel
theorem d253_7 : decode (tb_me 253).1.2.1 7 = .ok (.getfield 416, 3) := by decide +kernel
theorem k253_416 (b : Bool) : tb_lk b 253 416 = (1, 10, 21, 0, 0) := by cases b <;> decide +kernel
theorem f10_21 : (21 < pm_nf tb_cl 10) ∧ tb_ft 10 21 ≠ .long ∧ pm_isR (tb_ft 10 21) = false := by decide +kernel
theorem d253_10 : decode (tb_me 253).1.2.1 10 = .ok (.istore_n 2, 1) := by decide +kernel
theorem d253_11 : decode (tb_me 253).1.2.1 11 = .ok (.aload_n 0, 1) := by decide +kernel
theorem d253_12 : decode (tb_me 253).1.2.1 12 = .ok (.iload_n 1, 1) := by decide +kernel
theorem d253_13 : decode (tb_me 253).1.2.1 13 = .ok (.putfield 416, 3) := by decide +kernel
theorem p253_10_21 : (21 < pm_nf tb_cl 10) ∧ tb_ft 10 21 = .int ∧ pm_fin tb_cl (tb_me 253).1.1 10 21 = true := by decide +kernel
theorem d253_16 : decode (tb_me 253).1.2.1 16 = .ok (.iload_n 2, 1) := by decide +kernel
theorem d253_17 : decode (tb_me 253).1.2.1 17 = .ok (.ireturn, 1) := by decide +kernel
theorem t253 : (tb_me 253).1.2.2.2 = some .int := by decide +kernel
theorem d253_4 : decode (tb_me 253).1.2.1 4 = .ok (.iconst (-1), 1) := by decide +kernel
theorem d253_5 : decode (tb_me 253).1.2.1 5 = .ok (.ireturn, 1) := by decide +kernel
theorem e253 : (tb_me 253).2.1 = (0, 0) ∧ (tb_me 253).1.2.2.1 = 3 := by decide +kernel
theorem d153_0 : decode (tb_me 153).1.2.1 0 = .ok (.iload_n 1, 1) := by decide +kernel
theorem d153_1 : decode (tb_me 153).1.2.1 1 = .ok (.ifCond .lt 11, 3) := by decide +kernel
theorem d153_12 : decode (tb_me 153).1.2.1 12 = .ok (.iconst (-1), 1) := by decide +kernel
theorem d153_13 : decode (tb_me 153).1.2.1 13 = .ok (.ireturn, 1) := by decide +kernel
theorem t153 : (tb_me 153).1.2.2.2 = some .int := by decide +kernel
theorem d153_4 : decode (tb_me 153).1.2.1 4 = .ok (.iload_n 1, 1) := by decide +kernel
theorem d153_5 : decode (tb_me 153).1.2.1 5 = .ok (.aload_n 0, 1) := by decide +kernel
theorem d153_6 : decode (tb_me 153).1.2.1 6 = .ok (.getfield 73, 3) := by decide +kernel
theorem k153_73 (b : Bool) : tb_lk b 153 73 = (1, 10, 1, 0, 0) := by cases b <;> decide +kernel
theorem f10_1 : (1 < pm_nf tb_cl 10) ∧ tb_ft 10 1 ≠ .long ∧ pm_isR (tb_ft 10 1) = false := by decide +kernel
theorem d153_9 : decode (tb_me 153).1.2.1 9 = .ok (.if_icmp .le 5, 3) := by decide +kernel
theorem d153_14 : decode (tb_me 153).1.2.1 14 = .ok (.aload_n 0, 1) := by decide +kernel
theorem d153_15 : decode (tb_me 153).1.2.1 15 = .ok (.iload_n 1, 1) := by decide +kernel
theorem d153_16 : decode (tb_me 153).1.2.1 16 = .ok (.putfield 73, 3) := by decide +kernel
theorem p153_10_1 : (1 < pm_nf tb_cl 10) ∧ tb_ft 10 1 = .int ∧ pm_fin tb_cl (tb_me 153).1.1 10 1 = true := by decide +kernel
theorem d153_19 : decode (tb_me 153).1.2.1 19 = .ok (.iload_n 1, 1) := by decide +kernel
theorem d153_20 : decode (tb_me 153).1.2.1 20 = .ok (.ireturn, 1) := by decide +kernel
theorem e153 : (tb_me 153).2.1 = (0, 0) ∧ (tb_me 153).1.2.2.1 = 2 := by decide +kernel
theorem d164_0 : decode (tb_me 164).1.2.1 0 = .ok (.aload_n 0, 1) := by decide +kernel
theorem d164_1 : decode (tb_me 164).1.2.1 1 = .ok (.getfield 141, 3) := by decide +kernel
theorem k164_141 (b : Bool) : tb_lk b 164 141 = (1, 10, 12, 0, 0) := by cases b <;> decide +kernel
theorem f10_12 : (12 < pm_nf tb_cl 10) ∧ tb_ft 10 12 ≠ .long ∧ pm_isR (tb_ft 10 12) = false := by decide +kernel
theorem d164_4 : decode (tb_me 164).1.2.1 4 = .ok (.bipush 60, 2) := by decide +kernel
theorem d164_6 : decode (tb_me 164).1.2.1 6 = .ok (.if_icmp .ne 10, 3) := by decide +kernel
theorem d164_16 : decode (tb_me 164).1.2.1 16 = .ok (.aload_n 0, 1) := by decide +kernel
theorem d164_17 : decode (tb_me 164).1.2.1 17 = .ok (.dup, 1) := by decide +kernel
theorem d164_18 : decode (tb_me 164).1.2.1 18 = .ok (.getfield 141, 3) := by decide +kernel
theorem d164_21 : decode (tb_me 164).1.2.1 21 = .ok (.iconst 1, 1) := by decide +kernel
theorem d164_22 : decode (tb_me 164).1.2.1 22 = .ok (.iadd, 1) := by decide +kernel
theorem d164_23 : decode (tb_me 164).1.2.1 23 = .ok (.putfield 141, 3) := by decide +kernel
theorem p164_10_12 : (12 < pm_nf tb_cl 10) ∧ tb_ft 10 12 = .int ∧ pm_fin tb_cl (tb_me 164).1.1 10 12 = true := by decide +kernel
theorem d164_26 : decode (tb_me 164).1.2.1 26 = .ok (.iconst 1, 1) := by decide +kernel
theorem d164_27 : decode (tb_me 164).1.2.1 27 = .ok (.ireturn, 1) := by decide +kernel
theorem t164 : (tb_me 164).1.2.2.2 = some .boolean := by decide +kernel
theorem d164_9 : decode (tb_me 164).1.2.1 9 = .ok (.aload_n 0, 1) := by decide +kernel
theorem d164_10 : decode (tb_me 164).1.2.1 10 = .ok (.iconst 3, 1) := by decide +kernel
theorem d164_11 : decode (tb_me 164).1.2.1 11 = .ok (.iload_n 1, 1) := by decide +kernel
theorem d164_12 : decode (tb_me 164).1.2.1 12 = .ok (.invokevirtual 105, 3) := by decide +kernel
theorem k164_105 (b : Bool) : tb_lk b 164 105 = (2, 154, 0, 0, 0) := by cases b <;> decide +kernel
theorem m154 : (tb_me 154).2 = ((0, 0), (2, 10)) ∧ (tb_me 154).1.2.2.1 = 3 := by decide +kernel
theorem d164_15 : decode (tb_me 164).1.2.1 15 = .ok (.ireturn, 1) := by decide +kernel
theorem e164 : (tb_me 164).2.1 = (0, 0) ∧ (tb_me 164).1.2.2.1 = 2 := by decide +kernel
theorem d156_0 : decode (tb_me 156).1.2.1 0 = .ok (.iload_n 1, 1) := by decide +kernel
theorem d156_1 : decode (tb_me 156).1.2.1 1 = .ok (.aload_n 0, 1) := by decide +kernel
theorem d156_2 : decode (tb_me 156).1.2.1 2 = .ok (.getfield 73, 3) := by decide +kernel
theorem k156_73 (b : Bool) : tb_lk b 156 73 = (1, 10, 1, 0, 0) := by cases b <;> decide +kernel
theorem d156_5 : decode (tb_me 156).1.2.1 5 = .ok (.if_icmp .ge 29, 3) := by decide +kernel
theorem d156_34 : decode (tb_me 156).1.2.1 34 = .ok (.iconst 0, 1) := by decide +kernel
theorem d156_35 : decode (tb_me 156).1.2.1 35 = .ok (.ireturn, 1) := by decide +kernel
theorem t156 : (tb_me 156).1.2.2.2 = some .boolean := by decide +kernel
theorem d156_8 : decode (tb_me 156).1.2.1 8 = .ok (.aload_n 0, 1) := by decide +kernel
theorem d156_9 : decode (tb_me 156).1.2.1 9 = .ok (.getfield 7, 3) := by decide +kernel
theorem k156_7 (b : Bool) : tb_lk b 156 7 = (1, 10, 0, 0, 0) := by cases b <;> decide +kernel
theorem f10_0 : (0 < pm_nf tb_cl 10) ∧ tb_ft 10 0 ≠ .long ∧ pm_isR (tb_ft 10 0) = true := by decide +kernel
theorem d156_12 : decode (tb_me 156).1.2.1 12 = .ok (.iload_n 1, 1) := by decide +kernel
theorem d156_13 : decode (tb_me 156).1.2.1 13 = .ok (.baload, 1) := by decide +kernel
theorem d156_14 : decode (tb_me 156).1.2.1 14 = .ok (.bipush 48, 2) := by decide +kernel
theorem d156_16 : decode (tb_me 156).1.2.1 16 = .ok (.if_icmp .lt 18, 3) := by decide +kernel
theorem d156_19 : decode (tb_me 156).1.2.1 19 = .ok (.aload_n 0, 1) := by decide +kernel
theorem d156_20 : decode (tb_me 156).1.2.1 20 = .ok (.getfield 7, 3) := by decide +kernel
theorem d156_23 : decode (tb_me 156).1.2.1 23 = .ok (.iload_n 1, 1) := by decide +kernel
theorem d156_24 : decode (tb_me 156).1.2.1 24 = .ok (.baload, 1) := by decide +kernel
theorem d156_25 : decode (tb_me 156).1.2.1 25 = .ok (.bipush 57, 2) := by decide +kernel
theorem d156_27 : decode (tb_me 156).1.2.1 27 = .ok (.if_icmp .gt 7, 3) := by decide +kernel
theorem d156_30 : decode (tb_me 156).1.2.1 30 = .ok (.iconst 1, 1) := by decide +kernel
theorem d156_31 : decode (tb_me 156).1.2.1 31 = .ok (.goto 4, 3) := by decide +kernel
theorem e156 : (tb_me 156).2.1 = (0, 0) ∧ (tb_me 156).1.2.2.1 = 2 := by decide +kernel
theorem d157_0 : decode (tb_me 157).1.2.1 0 = .ok (.iload_n 1, 1) := by decide +kernel
theorem d157_1 : decode (tb_me 157).1.2.1 1 = .ok (.aload_n 0, 1) := by decide +kernel
theorem d157_2 : decode (tb_me 157).1.2.1 2 = .ok (.getfield 73, 3) := by decide +kernel
theorem k157_73 (b : Bool) : tb_lk b 157 73 = (1, 10, 1, 0, 0) := by cases b <;> decide +kernel
theorem d157_5 : decode (tb_me 157).1.2.1 5 = .ok (.if_icmp .ge 29, 3) := by decide +kernel
theorem d157_34 : decode (tb_me 157).1.2.1 34 = .ok (.iconst 0, 1) := by decide +kernel
theorem d157_35 : decode (tb_me 157).1.2.1 35 = .ok (.ireturn, 1) := by decide +kernel
theorem t157 : (tb_me 157).1.2.2.2 = some .boolean := by decide +kernel
theorem d157_8 : decode (tb_me 157).1.2.1 8 = .ok (.aload_n 0, 1) := by decide +kernel
theorem d157_9 : decode (tb_me 157).1.2.1 9 = .ok (.getfield 7, 3) := by decide +kernel
theorem k157_7 (b : Bool) : tb_lk b 157 7 = (1, 10, 0, 0, 0) := by cases b <;> decide +kernel
theorem d157_12 : decode (tb_me 157).1.2.1 12 = .ok (.iload_n 1, 1) := by decide +kernel
theorem d157_13 : decode (tb_me 157).1.2.1 13 = .ok (.baload, 1) := by decide +kernel
theorem d157_14 : decode (tb_me 157).1.2.1 14 = .ok (.bipush 97, 2) := by decide +kernel
theorem d157_16 : decode (tb_me 157).1.2.1 16 = .ok (.if_icmp .lt 18, 3) := by decide +kernel
theorem d157_19 : decode (tb_me 157).1.2.1 19 = .ok (.aload_n 0, 1) := by decide +kernel
theorem d157_20 : decode (tb_me 157).1.2.1 20 = .ok (.getfield 7, 3) := by decide +kernel
theorem d157_23 : decode (tb_me 157).1.2.1 23 = .ok (.iload_n 1, 1) := by decide +kernel
theorem d157_24 : decode (tb_me 157).1.2.1 24 = .ok (.baload, 1) := by decide +kernel
theorem d157_25 : decode (tb_me 157).1.2.1 25 = .ok (.bipush 122, 2) := by decide +kernel
theorem d157_27 : decode (tb_me 157).1.2.1 27 = .ok (.if_icmp .gt 7, 3) := by decide +kernel
theorem d157_30 : decode (tb_me 157).1.2.1 30 = .ok (.iconst 1, 1) := by decide +kernel
theorem d157_31 : decode (tb_me 157).1.2.1 31 = .ok (.goto 4, 3) := by decide +kernel
theorem e157 : (tb_me 157).2.1 = (0, 0) ∧ (tb_me 157).1.2.2.1 = 2 := by decide +kernel
theorem d188_0 : decode (tb_me 188).1.2.1 0 = .ok (.aload_n 0, 1) := by decide +kernel
theorem d188_1 : decode (tb_me 188).1.2.1 1 = .ok (.getfield 32, 3) := by decide +kernel
theorem k188_32 (b : Bool) : tb_lk b 188 32 = (1, 10, 17, 0, 0) := by cases b <;> decide +kernel
theorem f10_17 : (17 < pm_nf tb_cl 10) ∧ tb_ft 10 17 ≠ .long ∧ pm_isR (tb_ft 10 17) = true := by decide +kernel
theorem d188_4 : decode (tb_me 188).1.2.1 4 = .ok (.aload_n 0, 1) := by decide +kernel
theorem d188_5 : decode (tb_me 188).1.2.1 5 = .ok (.getfield 255, 3) := by decide +kernel
theorem k188_255 (b : Bool) : tb_lk b 188 255 = (1, 10, 18, 0, 0) := by cases b <;> decide +kernel
theorem f10_18 : (18 < pm_nf tb_cl 10) ∧ tb_ft 10 18 ≠ .long ∧ pm_isR (tb_ft 10 18) = false := by decide +kernel
theorem d188_8 : decode (tb_me 188).1.2.1 8 = .ok (.lload_n 1, 1) := by decide +kernel
theorem d188_9 : decode (tb_me 188).1.2.1 9 = .ok (.lastore, 1) := by decide +kernel
theorem d188_10 : decode (tb_me 188).1.2.1 10 = .ok (.aload_n 0, 1) := by decide +kernel
theorem d188_11 : decode (tb_me 188).1.2.1 11 = .ok (.dup, 1) := by decide +kernel
theorem d188_12 : decode (tb_me 188).1.2.1 12 = .ok (.getfield 255, 3) := by decide +kernel
theorem d188_15 : decode (tb_me 188).1.2.1 15 = .ok (.iconst 1, 1) := by decide +kernel
theorem d188_16 : decode (tb_me 188).1.2.1 16 = .ok (.iadd, 1) := by decide +kernel
theorem d188_17 : decode (tb_me 188).1.2.1 17 = .ok (.putfield 255, 3) := by decide +kernel
theorem p188_10_18 : (18 < pm_nf tb_cl 10) ∧ tb_ft 10 18 = .int ∧ pm_fin tb_cl (tb_me 188).1.1 10 18 = true := by decide +kernel
theorem d188_20 : decode (tb_me 188).1.2.1 20 = .ok (.return_, 1) := by decide +kernel
theorem t188 : (tb_me 188).1.2.2.2 = none := by decide +kernel
theorem e188 : (tb_me 188).2.1 = (0, 0) ∧ (tb_me 188).1.2.2.1 = 3 := by decide +kernel
theorem d189_0 : decode (tb_me 189).1.2.1 0 = .ok (.aload_n 0, 1) := by decide +kernel
theorem d189_1 : decode (tb_me 189).1.2.1 1 = .ok (.dup, 1) := by decide +kernel
theorem d189_2 : decode (tb_me 189).1.2.1 2 = .ok (.getfield 255, 3) := by decide +kernel
theorem k189_255 (b : Bool) : tb_lk b 189 255 = (1, 10, 18, 0, 0) := by cases b <;> decide +kernel
theorem d189_5 : decode (tb_me 189).1.2.1 5 = .ok (.iconst 1, 1) := by decide +kernel
theorem d189_6 : decode (tb_me 189).1.2.1 6 = .ok (.isub, 1) := by decide +kernel
theorem d189_7 : decode (tb_me 189).1.2.1 7 = .ok (.putfield 255, 3) := by decide +kernel
theorem p189_10_18 : (18 < pm_nf tb_cl 10) ∧ tb_ft 10 18 = .int ∧ pm_fin tb_cl (tb_me 189).1.1 10 18 = true := by decide +kernel
theorem d189_10 : decode (tb_me 189).1.2.1 10 = .ok (.aload_n 0, 1) := by decide +kernel
theorem d189_11 : decode (tb_me 189).1.2.1 11 = .ok (.getfield 32, 3) := by decide +kernel
theorem k189_32 (b : Bool) : tb_lk b 189 32 = (1, 10, 17, 0, 0) := by cases b <;> decide +kernel
theorem d189_14 : decode (tb_me 189).1.2.1 14 = .ok (.aload_n 0, 1) := by decide +kernel
theorem d189_15 : decode (tb_me 189).1.2.1 15 = .ok (.getfield 255, 3) := by decide +kernel
theorem d189_18 : decode (tb_me 189).1.2.1 18 = .ok (.laload, 1) := by decide +kernel
theorem d189_19 : decode (tb_me 189).1.2.1 19 = .ok (.lreturn, 1) := by decide +kernel
theorem t189 : (tb_me 189).1.2.2.2 = some .long := by decide +kernel
theorem e189 : (tb_me 189).2.1 = (0, 0) ∧ (tb_me 189).1.2.2.1 = 1 := by decide +kernel
def v_in (v : Int64) (lo : Int64) (hi : Int64) (h : pm_H) : Int32 := (if (lg_cmp v lo) < 0 then (Int32.ofInt 0) else (if 0 < (lg_cmp v hi) then (Int32.ofInt 0) else (Int32.ofInt 1)))
theorem v_in_b {v : Int64} {lo : Int64} {hi : Int64} {h : pm_H} : v_in v lo hi h = 0 ∨ v_in v lo hi h = 1 := by
  unfold v_in
  repeat' split
  all_goals first | exact Or.inl rfl | exact Or.inr rfl
theorem c_in (b : Bool) (L : Nat) (xs : Nat → Int32) (d : Nat) (hd : 0 ≤ d) (h : pm_H) (hI : IM h) (v : Int64) (lo : Int64) (hi : Int64) : PC b L xs d 148 [.long v, .long lo, .long hi] h (fun r0 h2 => r0 = some (.int (v_in v lo hi h)) ∧ h2 = h) := by
  refine pc_in e148 (ls0 := [.long v, .retAddr 0, .long lo, .retAddr 0, .long hi, .retAddr 0]) rfl ?_
  refine pw_l (pc := 0) d148_0 rfl rfl rfl ?_
  refine pw_l (pc := 1) d148_1 rfl rfl rfl ?_
  refine pw_s (pc := 2) d148_2 rfl rfl ?_
  refine pw_zlt (pc := 3) (t := 17) d148_3 (by decide) (fun c1 => ?_) (fun c1 => ?_)
  · refine pw_s (pc := 17) d148_17 rfl rfl ?_
    refine pw_ri (pc := 18) d148_18 t148 rfl ?_
    exact ⟨(by rw [v_in, if_pos c1]), rfl⟩
  · refine pw_l (pc := 6) d148_6 rfl rfl rfl ?_
    refine pw_l (pc := 7) d148_7 rfl rfl rfl ?_
    refine pw_s (pc := 9) d148_9 rfl rfl ?_
    refine pw_zgt (pc := 10) (t := 17) d148_10 (by decide) (fun c2 => ?_) (fun c2 => ?_)
    · refine pw_s (pc := 17) d148_17 rfl rfl ?_
      refine pw_ri (pc := 18) d148_18 t148 rfl ?_
      exact ⟨(by rw [v_in, if_neg c1, if_pos c2]), rfl⟩
    · refine pw_s (pc := 13) d148_13 rfl rfl ?_
      refine pw_go (pc := 14) (t := 18) d148_14 (by decide) ?_
      refine pw_ri (pc := 18) d148_18 t148 rfl ?_
      exact ⟨(by rw [v_in, if_neg c1, if_neg c2]), rfl⟩
def v_isOf (st : Int32) (k : Int32) (h : pm_H) : Int32 := (if ¬ ((st >>> (k &&& 31)) &&& (Int32.ofInt 1)) = (Int32.ofInt 1) then (Int32.ofInt 0) else (Int32.ofInt 1))
theorem v_isOf_b {st : Int32} {k : Int32} {h : pm_H} : v_isOf st k h = 0 ∨ v_isOf st k h = 1 := by
  unfold v_isOf
  repeat' split
  all_goals first | exact Or.inl rfl | exact Or.inr rfl | exact v_in_b
theorem c_isOf (b : Bool) (L : Nat) (xs : Nat → Int32) (d : Nat) (hd : 0 ≤ d) (h : pm_H) (hI : IM h) (st : Int32) (k : Int32) : PC b L xs d 149 [.int st, .int k] h (fun r0 h2 => r0 = some (.int (v_isOf st k h)) ∧ h2 = h) := by
  refine pc_in e149 (ls0 := [.int st, .int k]) rfl ?_
  refine pw_l (pc := 0) d149_0 rfl rfl rfl ?_
  refine pw_l (pc := 1) d149_1 rfl rfl rfl ?_
  refine pw_s (pc := 2) d149_2 rfl rfl ?_
  refine pw_s (pc := 3) d149_3 rfl rfl ?_
  refine pw_s (pc := 4) d149_4 rfl rfl ?_
  refine pw_s (pc := 5) d149_5 rfl rfl ?_
  refine pw_ine (pc := 6) (t := 13) d149_6 (by decide) (fun c1 => ?_) (fun c1 => ?_)
  · refine pw_s (pc := 13) d149_13 rfl rfl ?_
    refine pw_ri (pc := 14) d149_14 t149 rfl ?_
    exact ⟨(by rw [v_isOf, if_pos c1]), rfl⟩
  · refine pw_s (pc := 9) d149_9 rfl rfl ?_
    refine pw_go (pc := 10) (t := 14) d149_10 (by decide) ?_
    refine pw_ri (pc := 14) d149_14 t149 rfl ?_
    exact ⟨(by rw [v_isOf, if_neg c1]), rfl⟩
def v_fails (kd : Int32) (at0 : Int32) (h : pm_H) : Int32 := (if ¬ (h.2.1 193 9) = 0 then (Int32.ofInt 0) else (Int32.ofInt 0))
def e_fails (kd : Int32) (at0 : Int32) (h : pm_H) : pm_H := (if ¬ (h.2.1 193 9) = 0 then h else (pm_setI h 193 9 (((Int32.ofInt 1) + ((Int8.ofInt 8).toInt32 * at0)) + kd)))
theorem e_fails_I {kd : Int32} {at0 : Int32} {h : pm_H} (hI : IM h) : IM (e_fails kd at0 h) := by
  unfold e_fails
  repeat' split
  all_goals first | exact hI
theorem v_fails_b {kd : Int32} {at0 : Int32} {h : pm_H} : v_fails kd at0 h = 0 ∨ v_fails kd at0 h = 1 := by
  unfold v_fails
  repeat' split
  all_goals first | exact Or.inl rfl | exact Or.inr rfl | exact v_in_b | exact v_isOf_b
theorem c_fails (b : Bool) (L : Nat) (xs : Nat → Int32) (d : Nat) (hd : 0 ≤ d) (h : pm_H) (hI : IM h) (kd : Int32) (at0 : Int32) : PC b L xs d 154 [.ref 193, .int kd, .int at0] h (fun r0 h2 => r0 = some (.int (v_fails kd at0 h)) ∧ h2 = e_fails kd at0 h) := by
  refine pc_in e154 (ls0 := [.ref 193, .int kd, .int at0]) rfl ?_
  refine pw_l (pc := 0) d154_0 rfl rfl rfl ?_
  refine pw_gi (pc := 1) d154_1 (k154_81 b) (sh_at hI.1 s193) f10_9 ?_
  refine pw_zne (pc := 4) (t := 19) d154_4 (by decide) (fun c1 => ?_) (fun c1 => ?_)
  · refine pw_s (pc := 19) d154_19 rfl rfl ?_
    refine pw_ri (pc := 20) d154_20 t154 rfl ?_
    exact ⟨(by rw [v_fails, if_pos c1]), (by rw [e_fails, if_pos c1])⟩
  · refine pw_l (pc := 7) d154_7 rfl rfl rfl ?_
    refine pw_s (pc := 8) d154_8 rfl rfl ?_
    refine pw_s (pc := 9) d154_9 rfl rfl ?_
    refine pw_l (pc := 11) d154_11 rfl rfl rfl ?_
    refine pw_s (pc := 12) d154_12 rfl rfl ?_
    refine pw_s (pc := 13) d154_13 rfl rfl ?_
    refine pw_l (pc := 14) d154_14 rfl rfl rfl ?_
    refine pw_s (pc := 15) d154_15 rfl rfl ?_
    refine pw_pi (pc := 16) d154_16 (k154_81 b) (sh_at hI.1 s193) p154_10_9 ?_
    refine pw_s (pc := 19) d154_19 rfl rfl ?_
    refine pw_ri (pc := 20) d154_20 t154 rfl ?_
    exact ⟨(by rw [v_fails, if_neg c1]), (by rw [e_fails, if_neg c1])⟩
def v_strength (sg : Int32) (h : pm_H) : Int32 := (if ¬ sg = (Int8.ofInt 13).toInt32 then (if ¬ sg = (Int8.ofInt 12).toInt32 then (if ¬ sg = (Int8.ofInt 11).toInt32 then (Int32.ofInt 0) else (Int32.ofInt 3)) else (Int32.ofInt 2)) else (Int32.ofInt 1))
theorem c_strength (b : Bool) (L : Nat) (xs : Nat → Int32) (d : Nat) (hd : 0 ≤ d) (h : pm_H) (hI : IM h) (sg : Int32) : PC b L xs d 166 [.int sg] h (fun r0 h2 => r0 = some (.int (v_strength sg h)) ∧ h2 = h) := by
  refine pc_in e166 (ls0 := [.int sg]) rfl ?_
  refine pw_l (pc := 0) d166_0 rfl rfl rfl ?_
  refine pw_s (pc := 1) d166_1 rfl rfl ?_
  refine pw_ine (pc := 3) (t := 10) d166_3 (by decide) (fun c1 => ?_) (fun c1 => ?_)
  · refine pw_l (pc := 10) d166_10 rfl rfl rfl ?_
    refine pw_s (pc := 11) d166_11 rfl rfl ?_
    refine pw_ine (pc := 13) (t := 20) d166_13 (by decide) (fun c2 => ?_) (fun c2 => ?_)
    · refine pw_l (pc := 20) d166_20 rfl rfl rfl ?_
      refine pw_s (pc := 21) d166_21 rfl rfl ?_
      refine pw_ine (pc := 23) (t := 30) d166_23 (by decide) (fun c3 => ?_) (fun c3 => ?_)
      · refine pw_s (pc := 30) d166_30 rfl rfl ?_
        refine pw_ri (pc := 31) d166_31 t166 rfl ?_
        exact ⟨(by rw [v_strength, if_pos c1, if_pos c2, if_pos c3]), rfl⟩
      · refine pw_s (pc := 26) d166_26 rfl rfl ?_
        refine pw_go (pc := 27) (t := 31) d166_27 (by decide) ?_
        refine pw_ri (pc := 31) d166_31 t166 rfl ?_
        exact ⟨(by rw [v_strength, if_pos c1, if_pos c2, if_neg c3]), rfl⟩
    · refine pw_s (pc := 16) d166_16 rfl rfl ?_
      refine pw_go (pc := 17) (t := 31) d166_17 (by decide) ?_
      refine pw_ri (pc := 31) d166_31 t166 rfl ?_
      exact ⟨(by rw [v_strength, if_pos c1, if_neg c2]), rfl⟩
  · refine pw_s (pc := 6) d166_6 rfl rfl ?_
    refine pw_go (pc := 7) (t := 31) d166_7 (by decide) ?_
    refine pw_ri (pc := 31) d166_31 t166 rfl ?_
    exact ⟨(by rw [v_strength, if_neg c1]), rfl⟩
def v_lesser (a : Int32) (c : Int32) (h : pm_H) : Int32 := (if c ≤ a then c else a)
theorem c_lesser (b : Bool) (L : Nat) (xs : Nat → Int32) (d : Nat) (hd : 0 ≤ d) (h : pm_H) (hI : IM h) (a : Int32) (c : Int32) : PC b L xs d 246 [.int a, .int c] h (fun r0 h2 => r0 = some (.int (v_lesser a c h)) ∧ h2 = h) := by
  refine pc_in e246 (ls0 := [.int a, .int c]) rfl ?_
  refine pw_l (pc := 0) d246_0 rfl rfl rfl ?_
  refine pw_l (pc := 1) d246_1 rfl rfl rfl ?_
  refine pw_ige (pc := 2) (t := 9) d246_2 (by decide) (fun c1 => ?_) (fun c1 => ?_)
  · refine pw_l (pc := 9) d246_9 rfl rfl rfl ?_
    refine pw_ri (pc := 10) d246_10 t246 rfl ?_
    exact ⟨(by rw [v_lesser, if_pos c1]), rfl⟩
  · refine pw_l (pc := 5) d246_5 rfl rfl rfl ?_
    refine pw_go (pc := 6) (t := 10) d246_6 (by decide) ?_
    refine pw_ri (pc := 10) d246_10 t246 rfl ?_
    exact ⟨(by rw [v_lesser, if_neg c1]), rfl⟩
def v_isShip (h : pm_H) : Int32 := (if (h.2.1 203 (Int32.ofInt 0).toNatClampNeg) ≤ 0 then (Int32.ofInt 0) else (Int32.ofInt 1))
theorem v_isShip_b {h : pm_H} : v_isShip  h = 0 ∨ v_isShip  h = 1 := by
  unfold v_isShip
  repeat' split
  all_goals first | exact Or.inl rfl | exact Or.inr rfl | exact v_fails_b | exact v_in_b | exact v_isOf_b
theorem c_isShip (b : Bool) (L : Nat) (xs : Nat → Int32) (d : Nat) (hd : 0 ≤ d) (h : pm_H) (hI : IM h) : PC b L xs d 192 [.ref 193] h (fun r0 h2 => r0 = some (.int (v_isShip h)) ∧ h2 = h) := by
  refine pc_in e192 (ls0 := [.ref 193]) rfl ?_
  refine pw_l (pc := 0) d192_0 rfl rfl rfl ?_
  refine pw_gr (pc := 1) d192_1 (k192_39 b) (sh_at hI.1 s193) f10_20 hI.r20 ?_
  refine pw_s (pc := 4) d192_4 rfl rfl ?_
  refine pw_ai (pc := 5) d192_5 (sh_at hI.1 s203) (by unfold vp_in; decide) ?_
  refine pw_zle (pc := 6) (t := 13) d192_6 (by decide) (fun c1 => ?_) (fun c1 => ?_)
  · refine pw_s (pc := 13) d192_13 rfl rfl ?_
    refine pw_ri (pc := 14) d192_14 t192 rfl ?_
    exact ⟨(by rw [v_isShip, if_pos c1]), rfl⟩
  · refine pw_s (pc := 9) d192_9 rfl rfl ?_
    refine pw_go (pc := 10) (t := 14) d192_10 (by decide) ?_
    refine pw_ri (pc := 14) d192_14 t192 rfl ?_
    exact ⟨(by rw [v_isShip, if_neg c1]), rfl⟩
def v_isMan (m : Int32) (h : pm_H) : Int32 := (if m < 0 then (Int32.ofInt 0) else (if (h.2.1 203 (Int32.ofInt 1).toNatClampNeg) ≤ m then (Int32.ofInt 0) else (Int32.ofInt 1)))
theorem v_isMan_b {m : Int32} {h : pm_H} : v_isMan m h = 0 ∨ v_isMan m h = 1 := by
  unfold v_isMan
  repeat' split
  all_goals first | exact Or.inl rfl | exact Or.inr rfl | exact v_fails_b | exact v_in_b | exact v_isOf_b | exact v_isShip_b
theorem c_isMan (b : Bool) (L : Nat) (xs : Nat → Int32) (d : Nat) (hd : 0 ≤ d) (h : pm_H) (hI : IM h) (m : Int32) : PC b L xs d 193 [.ref 193, .int m] h (fun r0 h2 => r0 = some (.int (v_isMan m h)) ∧ h2 = h) := by
  refine pc_in e193 (ls0 := [.ref 193, .int m]) rfl ?_
  refine pw_l (pc := 0) d193_0 rfl rfl rfl ?_
  refine pw_zlt (pc := 1) (t := 18) d193_1 (by decide) (fun c1 => ?_) (fun c1 => ?_)
  · refine pw_s (pc := 18) d193_18 rfl rfl ?_
    refine pw_ri (pc := 19) d193_19 t193 rfl ?_
    exact ⟨(by rw [v_isMan, if_pos c1]), rfl⟩
  · refine pw_l (pc := 4) d193_4 rfl rfl rfl ?_
    refine pw_l (pc := 5) d193_5 rfl rfl rfl ?_
    refine pw_gr (pc := 6) d193_6 (k193_39 b) (sh_at hI.1 s193) f10_20 hI.r20 ?_
    refine pw_s (pc := 9) d193_9 rfl rfl ?_
    refine pw_ai (pc := 10) d193_10 (sh_at hI.1 s203) (by unfold vp_in; decide) ?_
    refine pw_ige (pc := 11) (t := 18) d193_11 (by decide) (fun c2 => ?_) (fun c2 => ?_)
    · refine pw_s (pc := 18) d193_18 rfl rfl ?_
      refine pw_ri (pc := 19) d193_19 t193 rfl ?_
      exact ⟨(by rw [v_isMan, if_neg c1, if_pos c2]), rfl⟩
    · refine pw_s (pc := 14) d193_14 rfl rfl ?_
      refine pw_go (pc := 15) (t := 19) d193_15 (by decide) ?_
      refine pw_ri (pc := 19) d193_19 t193 rfl ?_
      exact ⟨(by rw [v_isMan, if_neg c1, if_neg c2]), rfl⟩
def v_isOrder (o : Int32) (h : pm_H) : Int32 := (if o < 0 then (Int32.ofInt 0) else (if (h.2.1 203 (Int32.ofInt 2).toNatClampNeg) ≤ o then (Int32.ofInt 0) else (Int32.ofInt 1)))
theorem v_isOrder_b {o : Int32} {h : pm_H} : v_isOrder o h = 0 ∨ v_isOrder o h = 1 := by
  unfold v_isOrder
  repeat' split
  all_goals first | exact Or.inl rfl | exact Or.inr rfl | exact v_fails_b | exact v_in_b | exact v_isMan_b | exact v_isOf_b | exact v_isShip_b
theorem c_isOrder (b : Bool) (L : Nat) (xs : Nat → Int32) (d : Nat) (hd : 0 ≤ d) (h : pm_H) (hI : IM h) (o : Int32) : PC b L xs d 194 [.ref 193, .int o] h (fun r0 h2 => r0 = some (.int (v_isOrder o h)) ∧ h2 = h) := by
  refine pc_in e194 (ls0 := [.ref 193, .int o]) rfl ?_
  refine pw_l (pc := 0) d194_0 rfl rfl rfl ?_
  refine pw_zlt (pc := 1) (t := 18) d194_1 (by decide) (fun c1 => ?_) (fun c1 => ?_)
  · refine pw_s (pc := 18) d194_18 rfl rfl ?_
    refine pw_ri (pc := 19) d194_19 t194 rfl ?_
    exact ⟨(by rw [v_isOrder, if_pos c1]), rfl⟩
  · refine pw_l (pc := 4) d194_4 rfl rfl rfl ?_
    refine pw_l (pc := 5) d194_5 rfl rfl rfl ?_
    refine pw_gr (pc := 6) d194_6 (k194_39 b) (sh_at hI.1 s193) f10_20 hI.r20 ?_
    refine pw_s (pc := 9) d194_9 rfl rfl ?_
    refine pw_ai (pc := 10) d194_10 (sh_at hI.1 s203) (by unfold vp_in; decide) ?_
    refine pw_ige (pc := 11) (t := 18) d194_11 (by decide) (fun c2 => ?_) (fun c2 => ?_)
    · refine pw_s (pc := 18) d194_18 rfl rfl ?_
      refine pw_ri (pc := 19) d194_19 t194 rfl ?_
      exact ⟨(by rw [v_isOrder, if_neg c1, if_pos c2]), rfl⟩
    · refine pw_s (pc := 14) d194_14 rfl rfl ?_
      refine pw_go (pc := 15) (t := 19) d194_15 (by decide) ?_
      refine pw_ri (pc := 19) d194_19 t194 rfl ?_
      exact ⟨(by rw [v_isOrder, if_neg c1, if_neg c2]), rfl⟩
def v_isWordOf (w : Int32) (h : pm_H) : Int32 := (if w < 0 then (Int32.ofInt 0) else (if (h.2.1 203 (Int32.ofInt 0).toNatClampNeg) ≤ w then (Int32.ofInt 0) else (Int32.ofInt 1)))
theorem v_isWordOf_b {w : Int32} {h : pm_H} : v_isWordOf w h = 0 ∨ v_isWordOf w h = 1 := by
  unfold v_isWordOf
  repeat' split
  all_goals first | exact Or.inl rfl | exact Or.inr rfl | exact v_fails_b | exact v_in_b | exact v_isMan_b | exact v_isOf_b | exact v_isOrder_b | exact v_isShip_b
theorem c_isWordOf (b : Bool) (L : Nat) (xs : Nat → Int32) (d : Nat) (hd : 0 ≤ d) (h : pm_H) (hI : IM h) (w : Int32) : PC b L xs d 195 [.ref 193, .int w] h (fun r0 h2 => r0 = some (.int (v_isWordOf w h)) ∧ h2 = h) := by
  refine pc_in e195 (ls0 := [.ref 193, .int w]) rfl ?_
  refine pw_l (pc := 0) d195_0 rfl rfl rfl ?_
  refine pw_zlt (pc := 1) (t := 18) d195_1 (by decide) (fun c1 => ?_) (fun c1 => ?_)
  · refine pw_s (pc := 18) d195_18 rfl rfl ?_
    refine pw_ri (pc := 19) d195_19 t195 rfl ?_
    exact ⟨(by rw [v_isWordOf, if_pos c1]), rfl⟩
  · refine pw_l (pc := 4) d195_4 rfl rfl rfl ?_
    refine pw_l (pc := 5) d195_5 rfl rfl rfl ?_
    refine pw_gr (pc := 6) d195_6 (k195_39 b) (sh_at hI.1 s193) f10_20 hI.r20 ?_
    refine pw_s (pc := 9) d195_9 rfl rfl ?_
    refine pw_ai (pc := 10) d195_10 (sh_at hI.1 s203) (by unfold vp_in; decide) ?_
    refine pw_ige (pc := 11) (t := 18) d195_11 (by decide) (fun c2 => ?_) (fun c2 => ?_)
    · refine pw_s (pc := 18) d195_18 rfl rfl ?_
      refine pw_ri (pc := 19) d195_19 t195 rfl ?_
      exact ⟨(by rw [v_isWordOf, if_neg c1, if_pos c2]), rfl⟩
    · refine pw_s (pc := 14) d195_14 rfl rfl ?_
      refine pw_go (pc := 15) (t := 19) d195_15 (by decide) ?_
      refine pw_ri (pc := 19) d195_19 t195 rfl ?_
      exact ⟨(by rw [v_isWordOf, if_neg c1, if_neg c2]), rfl⟩
def v_manOf (m : Int32) (k : Int32) (h : pm_H) : Int32 := (h.2.1 203 (((Int8.ofInt 10).toInt32 + ((Int8.ofInt 6).toInt32 * m)) + k).toNatClampNeg)
theorem c_manOf (b : Bool) (L : Nat) (xs : Nat → Int32) (d : Nat) (hd : 0 ≤ d) (h : pm_H) (hI : IM h) (m : Int32) (k : Int32) (b0 : vp_in (((Int8.ofInt 10).toInt32 + ((Int8.ofInt 6).toInt32 * m)) + k) 227) : PC b L xs d 196 [.ref 193, .int m, .int k] h (fun r0 h2 => r0 = some (.int (v_manOf m k h)) ∧ h2 = h) := by
  refine pc_in e196 (ls0 := [.ref 193, .int m, .int k]) rfl ?_
  refine pw_l (pc := 0) d196_0 rfl rfl rfl ?_
  refine pw_gr (pc := 1) d196_1 (k196_39 b) (sh_at hI.1 s193) f10_20 hI.r20 ?_
  refine pw_s (pc := 4) d196_4 rfl rfl ?_
  refine pw_s (pc := 6) d196_6 rfl rfl ?_
  refine pw_l (pc := 8) d196_8 rfl rfl rfl ?_
  refine pw_s (pc := 9) d196_9 rfl rfl ?_
  refine pw_s (pc := 10) d196_10 rfl rfl ?_
  refine pw_l (pc := 11) d196_11 rfl rfl rfl ?_
  refine pw_s (pc := 12) d196_12 rfl rfl ?_
  refine pw_ai (pc := 13) d196_13 (sh_at hI.1 s203) (b0 ) ?_
  refine pw_ri (pc := 14) d196_14 t196 rfl ?_
  exact ⟨(by rw [v_manOf]), rfl⟩
def v_orderOf (o : Int32) (k : Int32) (h : pm_H) : Int32 := (h.2.1 203 (((Int8.ofInt 58).toInt32 + ((Int8.ofInt 6).toInt32 * o)) + k).toNatClampNeg)
theorem c_orderOf (b : Bool) (L : Nat) (xs : Nat → Int32) (d : Nat) (hd : 0 ≤ d) (h : pm_H) (hI : IM h) (o : Int32) (k : Int32) (b0 : vp_in (((Int8.ofInt 58).toInt32 + ((Int8.ofInt 6).toInt32 * o)) + k) 227) : PC b L xs d 203 [.ref 193, .int o, .int k] h (fun r0 h2 => r0 = some (.int (v_orderOf o k h)) ∧ h2 = h) := by
  refine pc_in e203 (ls0 := [.ref 193, .int o, .int k]) rfl ?_
  refine pw_l (pc := 0) d203_0 rfl rfl rfl ?_
  refine pw_gr (pc := 1) d203_1 (k203_39 b) (sh_at hI.1 s193) f10_20 hI.r20 ?_
  refine pw_s (pc := 4) d203_4 rfl rfl ?_
  refine pw_s (pc := 6) d203_6 rfl rfl ?_
  refine pw_l (pc := 8) d203_8 rfl rfl rfl ?_
  refine pw_s (pc := 9) d203_9 rfl rfl ?_
  refine pw_s (pc := 10) d203_10 rfl rfl ?_
  refine pw_l (pc := 11) d203_11 rfl rfl rfl ?_
  refine pw_s (pc := 12) d203_12 rfl rfl ?_
  refine pw_ai (pc := 13) d203_13 (sh_at hI.1 s203) (b0 ) ?_
  refine pw_ri (pc := 14) d203_14 t203 rfl ?_
  exact ⟨(by rw [v_orderOf]), rfl⟩
def v_isAlive (m : Int32) (h : pm_H) : Int32 := (if (v_isMan m h) = 0 then (Int32.ofInt 0) else (if ¬ (v_manOf m (Int32.ofInt 4) h) = 0 then (Int32.ofInt 0) else (Int32.ofInt 1)))
theorem v_isAlive_b {m : Int32} {h : pm_H} : v_isAlive m h = 0 ∨ v_isAlive m h = 1 := by
  unfold v_isAlive
  repeat' split
  all_goals first | exact Or.inl rfl | exact Or.inr rfl | exact v_fails_b | exact v_in_b | exact v_isMan_b | exact v_isOf_b | exact v_isOrder_b | exact v_isShip_b | exact v_isWordOf_b
theorem c_isAlive (b : Bool) (L : Nat) (xs : Nat → Int32) (d : Nat) (hd : 1 ≤ d) (h : pm_H) (hI : IM h) (m : Int32) (b0 : (¬ ((v_isMan m h) = 0)) → (vp_in (((Int8.ofInt 10).toInt32 + ((Int8.ofInt 6).toInt32 * m)) + ((Int32.ofInt 4))) 227)) : PC b L xs d 197 [.ref 193, .int m] h (fun r0 h2 => r0 = some (.int (v_isAlive m h)) ∧ h2 = h) := by
  refine pc_in e197 (ls0 := [.ref 193, .int m]) rfl ?_
  refine pw_l (pc := 0) d197_0 rfl rfl rfl ?_
  refine pw_l (pc := 1) d197_1 rfl rfl rfl ?_
  refine pw_v (pc := 2) (k := 193) (by omega) d197_2 (k197_270 b) (by decide) m193 (by decide) rfl (sh_at hI.1 s193) (Nat.le_of_ble_eq_true rfl) (Nat.le_of_ble_eq_true rfl) rfl rfl (c_isMan b L xs (d - 1) (by omega) h hI m ) (fun v h2 hq => ?_)
  obtain ⟨rfl, hq2⟩ := hq
  rw [hq2]
  simp only [Option.toList_some, List.cons_append, List.nil_append]
  refine pw_zeq (pc := 5) (t := 21) d197_5 (by decide) (fun c1 => ?_) (fun c1 => ?_)
  · refine pw_s (pc := 21) d197_21 rfl rfl ?_
    refine pw_ri (pc := 22) d197_22 t197 rfl ?_
    exact ⟨(by rw [v_isAlive, if_pos c1]), rfl⟩
  · refine pw_l (pc := 8) d197_8 rfl rfl rfl ?_
    refine pw_l (pc := 9) d197_9 rfl rfl rfl ?_
    refine pw_s (pc := 10) d197_10 rfl rfl ?_
    refine pw_v (pc := 11) (k := 193) (by omega) d197_11 (k197_273 b) (by decide) m196 (by decide) rfl (sh_at hI.1 s193) (Nat.le_of_ble_eq_true rfl) (Nat.le_of_ble_eq_true rfl) rfl rfl (c_manOf b L xs (d - 1) (by omega) h hI m (Int32.ofInt 4) (b0 c1)) (fun v h2 hq => ?_)
    obtain ⟨rfl, hq2⟩ := hq
    rw [hq2]
    simp only [Option.toList_some, List.cons_append, List.nil_append]
    refine pw_zne (pc := 14) (t := 21) d197_14 (by decide) (fun c2 => ?_) (fun c2 => ?_)
    · refine pw_s (pc := 21) d197_21 rfl rfl ?_
      refine pw_ri (pc := 22) d197_22 t197 rfl ?_
      exact ⟨(by rw [v_isAlive, if_neg c1, if_pos c2]), rfl⟩
    · refine pw_s (pc := 17) d197_17 rfl rfl ?_
      refine pw_go (pc := 18) (t := 22) d197_18 (by decide) ?_
      refine pw_ri (pc := 22) d197_22 t197 rfl ?_
      exact ⟨(by rw [v_isAlive, if_neg c1, if_neg c2]), rfl⟩
def v_isLee (m : Int32) (h : pm_H) : Int32 := (if (h.2.1 203 (Int32.ofInt 5).toNatClampNeg) ≤ 0 then (Int32.ofInt 0) else (if ¬ (v_manOf m (Int32.ofInt 1) h) = (h.2.1 203 (Int32.ofInt 5).toNatClampNeg) then (Int32.ofInt 0) else (Int32.ofInt 1)))
theorem v_isLee_b {m : Int32} {h : pm_H} : v_isLee m h = 0 ∨ v_isLee m h = 1 := by
  unfold v_isLee
  repeat' split
  all_goals first | exact Or.inl rfl | exact Or.inr rfl | exact v_fails_b | exact v_in_b | exact v_isAlive_b | exact v_isMan_b | exact v_isOf_b | exact v_isOrder_b | exact v_isShip_b | exact v_isWordOf_b
theorem c_isLee (b : Bool) (L : Nat) (xs : Nat → Int32) (d : Nat) (hd : 1 ≤ d) (h : pm_H) (hI : IM h) (m : Int32) (b0 : (¬ ((h.2.1 203 (Int32.ofInt 5).toNatClampNeg) ≤ 0)) → (vp_in (((Int8.ofInt 10).toInt32 + ((Int8.ofInt 6).toInt32 * m)) + ((Int32.ofInt 1))) 227)) : PC b L xs d 198 [.ref 193, .int m] h (fun r0 h2 => r0 = some (.int (v_isLee m h)) ∧ h2 = h) := by
  refine pc_in e198 (ls0 := [.ref 193, .int m]) rfl ?_
  refine pw_l (pc := 0) d198_0 rfl rfl rfl ?_
  refine pw_gr (pc := 1) d198_1 (k198_39 b) (sh_at hI.1 s193) f10_20 hI.r20 ?_
  refine pw_s (pc := 4) d198_4 rfl rfl ?_
  refine pw_ai (pc := 5) d198_5 (sh_at hI.1 s203) (by unfold vp_in; decide) ?_
  refine pw_zle (pc := 6) (t := 28) d198_6 (by decide) (fun c1 => ?_) (fun c1 => ?_)
  · refine pw_s (pc := 28) d198_28 rfl rfl ?_
    refine pw_ri (pc := 29) d198_29 t198 rfl ?_
    exact ⟨(by rw [v_isLee, if_pos c1]), rfl⟩
  · refine pw_l (pc := 9) d198_9 rfl rfl rfl ?_
    refine pw_l (pc := 10) d198_10 rfl rfl rfl ?_
    refine pw_s (pc := 11) d198_11 rfl rfl ?_
    refine pw_v (pc := 12) (k := 193) (by omega) d198_12 (k198_273 b) (by decide) m196 (by decide) rfl (sh_at hI.1 s193) (Nat.le_of_ble_eq_true rfl) (Nat.le_of_ble_eq_true rfl) rfl rfl (c_manOf b L xs (d - 1) (by omega) h hI m (Int32.ofInt 1) (b0 c1)) (fun v h2 hq => ?_)
    obtain ⟨rfl, hq2⟩ := hq
    rw [hq2]
    simp only [Option.toList_some, List.cons_append, List.nil_append]
    refine pw_l (pc := 15) d198_15 rfl rfl rfl ?_
    refine pw_gr (pc := 16) d198_16 (k198_39 b) (sh_at hI.1 s193) f10_20 hI.r20 ?_
    refine pw_s (pc := 19) d198_19 rfl rfl ?_
    refine pw_ai (pc := 20) d198_20 (sh_at hI.1 s203) (by unfold vp_in; decide) ?_
    refine pw_ine (pc := 21) (t := 28) d198_21 (by decide) (fun c2 => ?_) (fun c2 => ?_)
    · refine pw_s (pc := 28) d198_28 rfl rfl ?_
      refine pw_ri (pc := 29) d198_29 t198 rfl ?_
      exact ⟨(by rw [v_isLee, if_neg c1, if_pos c2]), rfl⟩
    · refine pw_s (pc := 24) d198_24 rfl rfl ?_
      refine pw_go (pc := 25) (t := 29) d198_25 (by decide) ?_
      refine pw_ri (pc := 29) d198_29 t198 rfl ?_
      exact ⟨(by rw [v_isLee, if_neg c1, if_neg c2]), rfl⟩
def v_isRule (k : Int32) (h : pm_H) : Int32 := (if k < 0 then (Int32.ofInt 0) else (if (h.2.1 193 2) ≤ k then (Int32.ofInt 0) else (Int32.ofInt 1)))
theorem v_isRule_b {k : Int32} {h : pm_H} : v_isRule k h = 0 ∨ v_isRule k h = 1 := by
  unfold v_isRule
  repeat' split
  all_goals first | exact Or.inl rfl | exact Or.inr rfl | exact v_fails_b | exact v_in_b | exact v_isAlive_b | exact v_isLee_b | exact v_isMan_b | exact v_isOf_b | exact v_isOrder_b | exact v_isShip_b | exact v_isWordOf_b
theorem c_isRule (b : Bool) (L : Nat) (xs : Nat → Int32) (d : Nat) (hd : 0 ≤ d) (h : pm_H) (hI : IM h) (k : Int32) : PC b L xs d 187 [.ref 193, .int k] h (fun r0 h2 => r0 = some (.int (v_isRule k h)) ∧ h2 = h) := by
  refine pc_in e187 (ls0 := [.ref 193, .int k]) rfl ?_
  refine pw_l (pc := 0) d187_0 rfl rfl rfl ?_
  refine pw_zlt (pc := 1) (t := 16) d187_1 (by decide) (fun c1 => ?_) (fun c1 => ?_)
  · refine pw_s (pc := 16) d187_16 rfl rfl ?_
    refine pw_ri (pc := 17) d187_17 t187 rfl ?_
    exact ⟨(by rw [v_isRule, if_pos c1]), rfl⟩
  · refine pw_l (pc := 4) d187_4 rfl rfl rfl ?_
    refine pw_l (pc := 5) d187_5 rfl rfl rfl ?_
    refine pw_gi (pc := 6) d187_6 (k187_246 b) (sh_at hI.1 s193) f10_2 ?_
    refine pw_ige (pc := 9) (t := 16) d187_9 (by decide) (fun c2 => ?_) (fun c2 => ?_)
    · refine pw_s (pc := 16) d187_16 rfl rfl ?_
      refine pw_ri (pc := 17) d187_17 t187 rfl ?_
      exact ⟨(by rw [v_isRule, if_neg c1, if_pos c2]), rfl⟩
    · refine pw_s (pc := 12) d187_12 rfl rfl ?_
      refine pw_go (pc := 13) (t := 17) d187_13 (by decide) ?_
      refine pw_ri (pc := 17) d187_17 t187 rfl ?_
      exact ⟨(by rw [v_isRule, if_neg c1, if_neg c2]), rfl⟩
def v_allOrders (h : pm_H) : Int32 := (((Int32.ofInt 1) <<< ((h.2.1 203 (Int32.ofInt 2).toNatClampNeg) &&& 31)) - (Int32.ofInt 1))
theorem c_allOrders (b : Bool) (L : Nat) (xs : Nat → Int32) (d : Nat) (hd : 0 ≤ d) (h : pm_H) (hI : IM h) : PC b L xs d 223 [.ref 193] h (fun r0 h2 => r0 = some (.int (v_allOrders h)) ∧ h2 = h) := by
  refine pc_in e223 (ls0 := [.ref 193]) rfl ?_
  refine pw_s (pc := 0) d223_0 rfl rfl ?_
  refine pw_l (pc := 1) d223_1 rfl rfl rfl ?_
  refine pw_gr (pc := 2) d223_2 (k223_39 b) (sh_at hI.1 s193) f10_20 hI.r20 ?_
  refine pw_s (pc := 5) d223_5 rfl rfl ?_
  refine pw_ai (pc := 6) d223_6 (sh_at hI.1 s203) (by unfold vp_in; decide) ?_
  refine pw_s (pc := 7) d223_7 rfl rfl ?_
  refine pw_s (pc := 8) d223_8 rfl rfl ?_
  refine pw_s (pc := 9) d223_9 rfl rfl ?_
  refine pw_ri (pc := 10) d223_10 t223 rfl ?_
  exact ⟨(by rw [v_allOrders]), rfl⟩
def v_seed (n : Int32) (h : pm_H) : Int32 := (if 0 ≤ n then (h.2.1 193 21) else (Int32.ofInt (-1)))
def e_seed (n : Int32) (h : pm_H) : pm_H := (if 0 ≤ n then (pm_setI h 193 21 n) else h)
theorem e_seed_I {n : Int32} {h : pm_H} (hI : IM h) : IM (e_seed n h) := by
  unfold e_seed
  repeat' split
  all_goals first | exact hI | exact e_fails_I hI
theorem c_seed (b : Bool) (L : Nat) (xs : Nat → Int32) (d : Nat) (hd : 0 ≤ d) (h : pm_H) (hI : IM h) (n : Int32) : PC b L xs d 253 [.ref 193, .int n] h (fun r0 h2 => r0 = some (.int (v_seed n h)) ∧ h2 = e_seed n h) := by
  refine pc_in e253 (ls0 := [.ref 193, .int n, .retAddr 0]) rfl ?_
  refine pw_l (pc := 0) d253_0 rfl rfl rfl ?_
  refine pw_zge (pc := 1) (t := 6) d253_1 (by decide) (fun c1 => ?_) (fun c1 => ?_)
  · refine pw_l (pc := 6) d253_6 rfl rfl rfl ?_
    refine pw_gi (pc := 7) d253_7 (k253_416 b) (sh_at hI.1 s193) f10_21 ?_
    refine pw_t (pc := 10) d253_10 rfl rfl rfl rfl ?_
    refine pw_l (pc := 11) d253_11 rfl rfl rfl ?_
    refine pw_l (pc := 12) d253_12 rfl rfl rfl ?_
    refine pw_pi (pc := 13) d253_13 (k253_416 b) (sh_at hI.1 s193) p253_10_21 ?_
    refine pw_l (pc := 16) d253_16 rfl rfl rfl ?_
    refine pw_ri (pc := 17) d253_17 t253 rfl ?_
    exact ⟨(by rw [v_seed, if_pos c1]), (by rw [e_seed, if_pos c1])⟩
  · refine pw_s (pc := 4) d253_4 rfl rfl ?_
    refine pw_ri (pc := 5) d253_5 t253 rfl ?_
    exact ⟨(by rw [v_seed, if_neg c1]), (by rw [e_seed, if_neg c1])⟩
def v_end (n : Int32) (h : pm_H) : Int32 := (if n < 0 then (Int32.ofInt (-1)) else (if n ≤ (h.2.1 193 1) then n else (Int32.ofInt (-1))))
def e_end (n : Int32) (h : pm_H) : pm_H := (if n < 0 then h else (if n ≤ (h.2.1 193 1) then (pm_setI h 193 1 n) else h))
theorem e_end_I {n : Int32} {h : pm_H} (hI : IM h) : IM (e_end n h) := by
  unfold e_end
  repeat' split
  all_goals first | exact hI | exact e_fails_I hI | exact e_seed_I hI
theorem c_end (b : Bool) (L : Nat) (xs : Nat → Int32) (d : Nat) (hd : 0 ≤ d) (h : pm_H) (hI : IM h) (n : Int32) : PC b L xs d 153 [.ref 193, .int n] h (fun r0 h2 => r0 = some (.int (v_end n h)) ∧ h2 = e_end n h) := by
  refine pc_in e153 (ls0 := [.ref 193, .int n]) rfl ?_
  refine pw_l (pc := 0) d153_0 rfl rfl rfl ?_
  refine pw_zlt (pc := 1) (t := 12) d153_1 (by decide) (fun c1 => ?_) (fun c1 => ?_)
  · refine pw_s (pc := 12) d153_12 rfl rfl ?_
    refine pw_ri (pc := 13) d153_13 t153 rfl ?_
    exact ⟨(by rw [v_end, if_pos c1]), (by rw [e_end, if_pos c1])⟩
  · refine pw_l (pc := 4) d153_4 rfl rfl rfl ?_
    refine pw_l (pc := 5) d153_5 rfl rfl rfl ?_
    refine pw_gi (pc := 6) d153_6 (k153_73 b) (sh_at hI.1 s193) f10_1 ?_
    refine pw_ile (pc := 9) (t := 14) d153_9 (by decide) (fun c2 => ?_) (fun c2 => ?_)
    · refine pw_l (pc := 14) d153_14 rfl rfl rfl ?_
      refine pw_l (pc := 15) d153_15 rfl rfl rfl ?_
      refine pw_pi (pc := 16) d153_16 (k153_73 b) (sh_at hI.1 s193) p153_10_1 ?_
      refine pw_l (pc := 19) d153_19 rfl rfl rfl ?_
      refine pw_ri (pc := 20) d153_20 t153 rfl ?_
      exact ⟨(by rw [v_end, if_neg c1, if_pos c2]), (by rw [e_end, if_neg c1, if_pos c2])⟩
    · refine pw_s (pc := 12) d153_12 rfl rfl ?_
      refine pw_ri (pc := 13) d153_13 t153 rfl ?_
      exact ⟨(by rw [v_end, if_neg c1, if_neg c2]), (by rw [e_end, if_neg c1, if_neg c2])⟩
def v_makes (at0 : Int32) (h : pm_H) : Int32 := (if ¬ (h.2.1 193 12) = (Int8.ofInt 60).toInt32 then (Int32.ofInt 1) else (v_fails (Int32.ofInt 3) at0 h))
def e_makes (at0 : Int32) (h : pm_H) : pm_H := (if ¬ (h.2.1 193 12) = (Int8.ofInt 60).toInt32 then (pm_setI h 193 12 ((h.2.1 193 12) + (Int32.ofInt 1))) else (e_fails (Int32.ofInt 3) at0 h))
theorem e_makes_I {at0 : Int32} {h : pm_H} (hI : IM h) : IM (e_makes at0 h) := by
  unfold e_makes
  repeat' split
  all_goals first | exact hI | exact e_fails_I hI | exact e_seed_I hI | exact e_end_I hI
theorem v_makes_b {at0 : Int32} {h : pm_H} : v_makes at0 h = 0 ∨ v_makes at0 h = 1 := by
  unfold v_makes
  repeat' split
  all_goals first | exact Or.inl rfl | exact Or.inr rfl | exact v_fails_b | exact v_in_b | exact v_isAlive_b | exact v_isLee_b | exact v_isMan_b | exact v_isOf_b | exact v_isOrder_b | exact v_isRule_b | exact v_isShip_b | exact v_isWordOf_b
theorem c_makes (b : Bool) (L : Nat) (xs : Nat → Int32) (d : Nat) (hd : 1 ≤ d) (h : pm_H) (hI : IM h) (at0 : Int32) : PC b L xs d 164 [.ref 193, .int at0] h (fun r0 h2 => r0 = some (.int (v_makes at0 h)) ∧ h2 = e_makes at0 h) := by
  refine pc_in e164 (ls0 := [.ref 193, .int at0]) rfl ?_
  refine pw_l (pc := 0) d164_0 rfl rfl rfl ?_
  refine pw_gi (pc := 1) d164_1 (k164_141 b) (sh_at hI.1 s193) f10_12 ?_
  refine pw_s (pc := 4) d164_4 rfl rfl ?_
  refine pw_ine (pc := 6) (t := 16) d164_6 (by decide) (fun c1 => ?_) (fun c1 => ?_)
  · refine pw_l (pc := 16) d164_16 rfl rfl rfl ?_
    refine pw_s (pc := 17) d164_17 rfl rfl ?_
    refine pw_gi (pc := 18) d164_18 (k164_141 b) (sh_at hI.1 s193) f10_12 ?_
    refine pw_s (pc := 21) d164_21 rfl rfl ?_
    refine pw_s (pc := 22) d164_22 rfl rfl ?_
    refine pw_pi (pc := 23) d164_23 (k164_141 b) (sh_at hI.1 s193) p164_10_12 ?_
    refine pw_s (pc := 26) d164_26 rfl rfl ?_
    refine pw_ri (pc := 27) d164_27 t164 rfl ?_
    exact ⟨(by rw [v_makes, if_pos c1]), (by rw [e_makes, if_pos c1])⟩
  · refine pw_l (pc := 9) d164_9 rfl rfl rfl ?_
    refine pw_s (pc := 10) d164_10 rfl rfl ?_
    refine pw_l (pc := 11) d164_11 rfl rfl rfl ?_
    refine pw_v (pc := 12) (k := 193) (by omega) d164_12 (k164_105 b) (by decide) m154 (by decide) rfl (sh_at hI.1 s193) (Nat.le_of_ble_eq_true rfl) (Nat.le_of_ble_eq_true rfl) rfl rfl (c_fails b L xs (d - 1) (by omega) h hI (Int32.ofInt 3) at0 ) (fun v h2 hq => ?_)
    obtain ⟨rfl, hq2⟩ := hq
    rw [hq2]
    simp only [Option.toList_some, List.cons_append, List.nil_append]
    have hI : IM (e_fails (Int32.ofInt 3) at0 h) := e_fails_I hI
    refine pw_ri (pc := 15) d164_15 t164 (pm_nz v_fails_b) ?_
    exact ⟨(by rw [v_makes, if_neg c1]), (by rw [e_makes, if_neg c1])⟩
def v_isDigit (k : Int32) (h : pm_H) : Int32 := (if (h.2.1 193 1) ≤ k then (Int32.ofInt 0) else (if (h.2.1 194 k.toNatClampNeg) < (Int8.ofInt 48).toInt32 then (Int32.ofInt 0) else (if (Int8.ofInt 57).toInt32 < (h.2.1 194 k.toNatClampNeg) then (Int32.ofInt 0) else (Int32.ofInt 1))))
theorem v_isDigit_b {k : Int32} {h : pm_H} : v_isDigit k h = 0 ∨ v_isDigit k h = 1 := by
  unfold v_isDigit
  repeat' split
  all_goals first | exact Or.inl rfl | exact Or.inr rfl | exact v_fails_b | exact v_in_b | exact v_isAlive_b | exact v_isLee_b | exact v_isMan_b | exact v_isOf_b | exact v_isOrder_b | exact v_isRule_b | exact v_isShip_b | exact v_isWordOf_b | exact v_makes_b
theorem c_isDigit (b : Bool) (L : Nat) (xs : Nat → Int32) (d : Nat) (hd : 0 ≤ d) (h : pm_H) (hI : IM h) (k : Int32) (b0 : (¬ ((h.2.1 193 1) ≤ k)) → vp_in k 400) (b1 : (¬ ((h.2.1 193 1) ≤ k)) → (¬ ((h.2.1 194 k.toNatClampNeg) < (Int8.ofInt 48).toInt32)) → vp_in k 400) : PC b L xs d 156 [.ref 193, .int k] h (fun r0 h2 => r0 = some (.int (v_isDigit k h)) ∧ h2 = h) := by
  refine pc_in e156 (ls0 := [.ref 193, .int k]) rfl ?_
  refine pw_l (pc := 0) d156_0 rfl rfl rfl ?_
  refine pw_l (pc := 1) d156_1 rfl rfl rfl ?_
  refine pw_gi (pc := 2) d156_2 (k156_73 b) (sh_at hI.1 s193) f10_1 ?_
  refine pw_ige (pc := 5) (t := 34) d156_5 (by decide) (fun c1 => ?_) (fun c1 => ?_)
  · refine pw_s (pc := 34) d156_34 rfl rfl ?_
    refine pw_ri (pc := 35) d156_35 t156 rfl ?_
    exact ⟨(by rw [v_isDigit, if_pos c1]), rfl⟩
  · refine pw_l (pc := 8) d156_8 rfl rfl rfl ?_
    refine pw_gr (pc := 9) d156_9 (k156_7 b) (sh_at hI.1 s193) f10_0 hI.r0 ?_
    refine pw_l (pc := 12) d156_12 rfl rfl rfl ?_
    refine pw_ab (pc := 13) d156_13 (sh_at hI.1 s194) (by decide) (b0 c1) ?_
    refine pw_s (pc := 14) d156_14 rfl rfl ?_
    refine pw_ilt (pc := 16) (t := 34) d156_16 (by decide) (fun c2 => ?_) (fun c2 => ?_)
    · refine pw_s (pc := 34) d156_34 rfl rfl ?_
      refine pw_ri (pc := 35) d156_35 t156 rfl ?_
      exact ⟨(by rw [v_isDigit, if_neg c1, if_pos c2]), rfl⟩
    · refine pw_l (pc := 19) d156_19 rfl rfl rfl ?_
      refine pw_gr (pc := 20) d156_20 (k156_7 b) (sh_at hI.1 s193) f10_0 hI.r0 ?_
      refine pw_l (pc := 23) d156_23 rfl rfl rfl ?_
      refine pw_ab (pc := 24) d156_24 (sh_at hI.1 s194) (by decide) (b1 c1 c2) ?_
      refine pw_s (pc := 25) d156_25 rfl rfl ?_
      refine pw_igt (pc := 27) (t := 34) d156_27 (by decide) (fun c3 => ?_) (fun c3 => ?_)
      · refine pw_s (pc := 34) d156_34 rfl rfl ?_
        refine pw_ri (pc := 35) d156_35 t156 rfl ?_
        exact ⟨(by rw [v_isDigit, if_neg c1, if_neg c2, if_pos c3]), rfl⟩
      · refine pw_s (pc := 30) d156_30 rfl rfl ?_
        refine pw_go (pc := 31) (t := 35) d156_31 (by decide) ?_
        refine pw_ri (pc := 35) d156_35 t156 rfl ?_
        exact ⟨(by rw [v_isDigit, if_neg c1, if_neg c2, if_neg c3]), rfl⟩
def v_isLetter (k : Int32) (h : pm_H) : Int32 := (if (h.2.1 193 1) ≤ k then (Int32.ofInt 0) else (if (h.2.1 194 k.toNatClampNeg) < (Int8.ofInt 97).toInt32 then (Int32.ofInt 0) else (if (Int8.ofInt 122).toInt32 < (h.2.1 194 k.toNatClampNeg) then (Int32.ofInt 0) else (Int32.ofInt 1))))
theorem v_isLetter_b {k : Int32} {h : pm_H} : v_isLetter k h = 0 ∨ v_isLetter k h = 1 := by
  unfold v_isLetter
  repeat' split
  all_goals first | exact Or.inl rfl | exact Or.inr rfl | exact v_fails_b | exact v_in_b | exact v_isAlive_b | exact v_isDigit_b | exact v_isLee_b | exact v_isMan_b | exact v_isOf_b | exact v_isOrder_b | exact v_isRule_b | exact v_isShip_b | exact v_isWordOf_b | exact v_makes_b
theorem c_isLetter (b : Bool) (L : Nat) (xs : Nat → Int32) (d : Nat) (hd : 0 ≤ d) (h : pm_H) (hI : IM h) (k : Int32) (b0 : (¬ ((h.2.1 193 1) ≤ k)) → vp_in k 400) (b1 : (¬ ((h.2.1 193 1) ≤ k)) → (¬ ((h.2.1 194 k.toNatClampNeg) < (Int8.ofInt 97).toInt32)) → vp_in k 400) : PC b L xs d 157 [.ref 193, .int k] h (fun r0 h2 => r0 = some (.int (v_isLetter k h)) ∧ h2 = h) := by
  refine pc_in e157 (ls0 := [.ref 193, .int k]) rfl ?_
  refine pw_l (pc := 0) d157_0 rfl rfl rfl ?_
  refine pw_l (pc := 1) d157_1 rfl rfl rfl ?_
  refine pw_gi (pc := 2) d157_2 (k157_73 b) (sh_at hI.1 s193) f10_1 ?_
  refine pw_ige (pc := 5) (t := 34) d157_5 (by decide) (fun c1 => ?_) (fun c1 => ?_)
  · refine pw_s (pc := 34) d157_34 rfl rfl ?_
    refine pw_ri (pc := 35) d157_35 t157 rfl ?_
    exact ⟨(by rw [v_isLetter, if_pos c1]), rfl⟩
  · refine pw_l (pc := 8) d157_8 rfl rfl rfl ?_
    refine pw_gr (pc := 9) d157_9 (k157_7 b) (sh_at hI.1 s193) f10_0 hI.r0 ?_
    refine pw_l (pc := 12) d157_12 rfl rfl rfl ?_
    refine pw_ab (pc := 13) d157_13 (sh_at hI.1 s194) (by decide) (b0 c1) ?_
    refine pw_s (pc := 14) d157_14 rfl rfl ?_
    refine pw_ilt (pc := 16) (t := 34) d157_16 (by decide) (fun c2 => ?_) (fun c2 => ?_)
    · refine pw_s (pc := 34) d157_34 rfl rfl ?_
      refine pw_ri (pc := 35) d157_35 t157 rfl ?_
      exact ⟨(by rw [v_isLetter, if_neg c1, if_pos c2]), rfl⟩
    · refine pw_l (pc := 19) d157_19 rfl rfl rfl ?_
      refine pw_gr (pc := 20) d157_20 (k157_7 b) (sh_at hI.1 s193) f10_0 hI.r0 ?_
      refine pw_l (pc := 23) d157_23 rfl rfl rfl ?_
      refine pw_ab (pc := 24) d157_24 (sh_at hI.1 s194) (by decide) (b1 c1 c2) ?_
      refine pw_s (pc := 25) d157_25 rfl rfl ?_
      refine pw_igt (pc := 27) (t := 34) d157_27 (by decide) (fun c3 => ?_) (fun c3 => ?_)
      · refine pw_s (pc := 34) d157_34 rfl rfl ?_
        refine pw_ri (pc := 35) d157_35 t157 rfl ?_
        exact ⟨(by rw [v_isLetter, if_neg c1, if_neg c2, if_pos c3]), rfl⟩
      · refine pw_s (pc := 30) d157_30 rfl rfl ?_
        refine pw_go (pc := 31) (t := 35) d157_31 (by decide) ?_
        refine pw_ri (pc := 35) d157_35 t157 rfl ?_
        exact ⟨(by rw [v_isLetter, if_neg c1, if_neg c2, if_neg c3]), rfl⟩
def e_push (v : Int64) (h : pm_H) : pm_H := (pm_setI (pm_setL h 201 (h.2.1 193 18).toNatClampNeg v) 193 18 (((pm_setL h 201 (h.2.1 193 18).toNatClampNeg v).2.1 193 18) + (Int32.ofInt 1)))
theorem e_push_I {v : Int64} {h : pm_H} (hI : IM h) : IM (e_push v h) := by
  unfold e_push
  repeat' split
  all_goals first | exact hI | exact e_fails_I hI | exact e_seed_I hI | exact e_end_I hI | exact e_makes_I hI
theorem c_push (b : Bool) (L : Nat) (xs : Nat → Int32) (d : Nat) (hd : 0 ≤ d) (h : pm_H) (hI : IM h) (v : Int64) (b0 : vp_in (h.2.1 193 18) 64) : PC b L xs d 188 [.ref 193, .long v] h (fun r0 h2 => r0 = none ∧ h2 = e_push v h) := by
  refine pc_in e188 (ls0 := [.ref 193, .long v, .retAddr 0]) rfl ?_
  refine pw_l (pc := 0) d188_0 rfl rfl rfl ?_
  refine pw_gr (pc := 1) d188_1 (k188_32 b) (sh_at hI.1 s193) f10_17 hI.r17 ?_
  refine pw_l (pc := 4) d188_4 rfl rfl rfl ?_
  refine pw_gi (pc := 5) d188_5 (k188_255 b) (sh_at hI.1 s193) f10_18 ?_
  refine pw_l (pc := 8) d188_8 rfl rfl rfl ?_
  refine pw_sl (pc := 9) d188_9 (sh_at hI.1 s201) (b0 ) ?_
  refine pw_l (pc := 10) d188_10 rfl rfl rfl ?_
  refine pw_s (pc := 11) d188_11 rfl rfl ?_
  refine pw_gi (pc := 12) d188_12 (k188_255 b) (sh_at hI.1 s193) f10_18 ?_
  refine pw_s (pc := 15) d188_15 rfl rfl ?_
  refine pw_s (pc := 16) d188_16 rfl rfl ?_
  refine pw_pi (pc := 17) d188_17 (k188_255 b) (sh_at hI.1 s193) p188_10_18 ?_
  refine pw_rv (pc := 20) d188_20 t188 ?_
  exact ⟨rfl, (by rw [e_push])⟩
def v_pop (h : pm_H) : Int64 := ((pm_setI h 193 18 ((h.2.1 193 18) - (Int32.ofInt 1))).2.2.1 201 ((pm_setI h 193 18 ((h.2.1 193 18) - (Int32.ofInt 1))).2.1 193 18).toNatClampNeg)
def e_pop (h : pm_H) : pm_H := (pm_setI h 193 18 ((h.2.1 193 18) - (Int32.ofInt 1)))
theorem e_pop_I {h : pm_H} (hI : IM h) : IM (e_pop  h) := by
  unfold e_pop
  repeat' split
  all_goals first | exact hI | exact e_fails_I hI | exact e_seed_I hI | exact e_end_I hI | exact e_makes_I hI | exact e_push_I hI
theorem c_pop (b : Bool) (L : Nat) (xs : Nat → Int32) (d : Nat) (hd : 0 ≤ d) (h : pm_H) (hI : IM h) (b0 : vp_in ((pm_setI h 193 18 ((h.2.1 193 18) - (Int32.ofInt 1))).2.1 193 18) 64) : PC b L xs d 189 [.ref 193] h (fun r0 h2 => r0 = some (.long (v_pop h)) ∧ h2 = e_pop h) := by
  refine pc_in e189 (ls0 := [.ref 193]) rfl ?_
  refine pw_l (pc := 0) d189_0 rfl rfl rfl ?_
  refine pw_s (pc := 1) d189_1 rfl rfl ?_
  refine pw_gi (pc := 2) d189_2 (k189_255 b) (sh_at hI.1 s193) f10_18 ?_
  refine pw_s (pc := 5) d189_5 rfl rfl ?_
  refine pw_s (pc := 6) d189_6 rfl rfl ?_
  refine pw_pi (pc := 7) d189_7 (k189_255 b) (sh_at hI.1 s193) p189_10_18 ?_
  refine pw_l (pc := 10) d189_10 rfl rfl rfl ?_
  refine pw_gr (pc := 11) d189_11 (k189_32 b) (sh_at hI.1 s193) f10_17 hI.r17 ?_
  refine pw_l (pc := 14) d189_14 rfl rfl rfl ?_
  refine pw_gi (pc := 15) d189_15 (k189_255 b) (sh_at hI.1 s193) f10_18 ?_
  refine pw_al (pc := 18) d189_18 (sh_at hI.1 s201) (b0 ) ?_
  refine pw_rl (pc := 19) d189_19 t189 ?_
  exact ⟨(by rw [v_pop]), (by rw [e_pop])⟩
