/-! rules of the small machine at each place of the code, by program: M_weigh, M_sumsUp, M_tellsShare, M_odds, M_shaken, M_before, M_test, M_mayPlay, M_span, M_sign, M_limb, M_image, M_from, M_status, M_counted, M_count, M_sums, M_digest -/
section
variable {sh : zSh} {pp : zPp} {mm : zMm} {Q : zV → zSh → zPp → zMm → Prop}
theorem cAM_weigh : ∀ q ∈ zT237, zCode 237 q.1 = some q.2 := zAll (mid := 237) rfl (by decide +kernel)
theorem cAM_weigh_0 : ∀ q ∈ zT237_0, zCode 237 q.1 = some q.2 := fun q h => cAM_weigh q (List.mem_append_left _ h)
theorem cAM_weigh_1 : ∀ q ∈ zT237_1, zCode 237 q.1 = some q.2 := fun q h => cAM_weigh q (List.mem_append_right _ (List.mem_append_left _ h))
theorem cAM_weigh_2 : ∀ q ∈ zT237_2, zCode 237 q.1 = some q.2 := fun q h => cAM_weigh q (List.mem_append_right _ (List.mem_append_right _ h))
theorem cM_weigh_0 : zCode 237 0 = some (.aload_n 0, 1, 0, 0, 0, 0, 3) := cAM_weigh_0 _ (List.mem_of_getElem? (i := 0) rfl)
theorem cM_weigh_1 : zCode 237 1 = some (.iconst 2, 2, 0, 0, 0, 0, 3) := cAM_weigh_0 _ (List.mem_of_getElem? (i := 1) rfl)
theorem cM_weigh_2 : zCode 237 2 = some (.iload_n 1, 3, 0, 0, 0, 0, 3) := cAM_weigh_0 _ (List.mem_of_getElem? (i := 2) rfl)
theorem cM_weigh_3 : zCode 237 3 = some (.i2l, 4, 0, 0, 0, 0, 1) := cAM_weigh_0 _ (List.mem_of_getElem? (i := 3) rfl)
theorem cM_weigh_4 : zCode 237 4 = some (.invokevirtual 73, 7, 155, 2, 6, 12, 1) := cAM_weigh_0 _ (List.mem_of_getElem? (i := 4) rfl)
theorem cM_weigh_7 : zCode 237 7 = some (.iconst 0, 8, 0, 0, 0, 0, 1) := cAM_weigh_0 _ (List.mem_of_getElem? (i := 5) rfl)
theorem cM_weigh_8 : zCode 237 8 = some (.istore_n 2, 9, 0, 0, 0, 0, 1) := cAM_weigh_0 _ (List.mem_of_getElem? (i := 6) rfl)
theorem cM_weigh_9 : zCode 237 9 = some (.iload_n 2, 10, 0, 0, 0, 0, 5) := cAM_weigh_0 _ (List.mem_of_getElem? (i := 7) rfl)
theorem cM_weigh_10 : zCode 237 10 = some (.sipush 384, 13, 0, 0, 0, 0, 5) := cAM_weigh_0 _ (List.mem_of_getElem? (i := 8) rfl)
theorem cM_weigh_13 : zCode 237 13 = some (.if_icmp .ge 69, 16, 82, 0, 0, 0, 5) := cAM_weigh_0 _ (List.mem_of_getElem? (i := 9) rfl)
theorem cM_weigh_16 : zCode 237 16 = some (.aload_n 0, 17, 0, 0, 0, 0, 5) := cAM_weigh_0 _ (List.mem_of_getElem? (i := 10) rfl)
theorem cM_weigh_17 : zCode 237 17 = some (.getfield 7, 20, 12, 0, 2, 1209, 5) := cAM_weigh_0 _ (List.mem_of_getElem? (i := 11) rfl)
theorem cM_weigh_20 : zCode 237 20 = some (.sipush 573, 23, 0, 0, 0, 0, 5) := cAM_weigh_0 _ (List.mem_of_getElem? (i := 12) rfl)
theorem cM_weigh_23 : zCode 237 23 = some (.iload_n 2, 24, 0, 0, 0, 0, 5) := cAM_weigh_0 _ (List.mem_of_getElem? (i := 13) rfl)
theorem cM_weigh_24 : zCode 237 24 = some (.iadd, 25, 0, 0, 0, 0, 5) := cAM_weigh_0 _ (List.mem_of_getElem? (i := 14) rfl)
theorem cM_weigh_25 : zCode 237 25 = some (.iaload, 26, 0, 0, 0, 0, 5) := cAM_weigh_0 _ (List.mem_of_getElem? (i := 15) rfl)
theorem cM_weigh_26 : zCode 237 26 = some (.istore_n 3, 27, 0, 0, 0, 0, 5) := cAM_weigh_1 _ (List.mem_of_getElem? (i := 0) rfl)
theorem cM_weigh_27 : zCode 237 27 = some (.iload_n 3, 28, 0, 0, 0, 0, 13) := cAM_weigh_1 _ (List.mem_of_getElem? (i := 1) rfl)
theorem cM_weigh_28 : zCode 237 28 = some (.iconst (-1), 29, 0, 0, 0, 0, 13) := cAM_weigh_1 _ (List.mem_of_getElem? (i := 2) rfl)
theorem cM_weigh_29 : zCode 237 29 = some (.if_icmp .eq 47, 32, 76, 0, 0, 0, 13) := cAM_weigh_1 _ (List.mem_of_getElem? (i := 3) rfl)
theorem cM_weigh_32 : zCode 237 32 = some (.aload_n 0, 33, 0, 0, 0, 0, 13) := cAM_weigh_1 _ (List.mem_of_getElem? (i := 4) rfl)
theorem cM_weigh_33 : zCode 237 33 = some (.iconst 2, 34, 0, 0, 0, 0, 13) := cAM_weigh_1 _ (List.mem_of_getElem? (i := 5) rfl)
theorem cM_weigh_34 : zCode 237 34 = some (.iload_n 3, 35, 0, 0, 0, 0, 13) := cAM_weigh_1 _ (List.mem_of_getElem? (i := 6) rfl)
theorem cM_weigh_35 : zCode 237 35 = some (.iconst 1, 36, 0, 0, 0, 0, 5) := cAM_weigh_1 _ (List.mem_of_getElem? (i := 7) rfl)
theorem cM_weigh_36 : zCode 237 36 = some (.if_icmp .ne 7, 39, 43, 0, 0, 0, 5) := cAM_weigh_1 _ (List.mem_of_getElem? (i := 8) rfl)
theorem cM_weigh_39 : zCode 237 39 = some (.iconst 1, 40, 0, 0, 0, 0, 5) := cAM_weigh_1 _ (List.mem_of_getElem? (i := 9) rfl)
theorem cM_weigh_40 : zCode 237 40 = some (.goto 4, 43, 44, 0, 0, 0, 5) := cAM_weigh_1 _ (List.mem_of_getElem? (i := 10) rfl)
theorem cM_weigh_43 : zCode 237 43 = some (.iconst 0, 44, 0, 0, 0, 0, 5) := cAM_weigh_1 _ (List.mem_of_getElem? (i := 11) rfl)
theorem cM_weigh_44 : zCode 237 44 = some (.aload_n 0, 45, 0, 0, 0, 0, 5) := cAM_weigh_1 _ (List.mem_of_getElem? (i := 12) rfl)
theorem cM_weigh_45 : zCode 237 45 = some (.getfield 39, 48, 12, 18, 2, 1227, 5) := cAM_weigh_1 _ (List.mem_of_getElem? (i := 13) rfl)
theorem cM_weigh_48 : zCode 237 48 = some (.iload_n 2, 49, 0, 0, 0, 0, 5) := cAM_weigh_1 _ (List.mem_of_getElem? (i := 14) rfl)
theorem cM_weigh_49 : zCode 237 49 = some (.baload, 50, 0, 0, 0, 0, 5) := cAM_weigh_1 _ (List.mem_of_getElem? (i := 15) rfl)
theorem cM_weigh_50 : zCode 237 50 = some (.if_icmp .ne 13, 53, 63, 0, 0, 0, 5) := cAM_weigh_2 _ (List.mem_of_getElem? (i := 0) rfl)
theorem cM_weigh_53 : zCode 237 53 = some (.aload_n 0, 54, 0, 0, 0, 0, 5) := cAM_weigh_2 _ (List.mem_of_getElem? (i := 1) rfl)
theorem cM_weigh_54 : zCode 237 54 = some (.bipush 8, 56, 0, 0, 0, 0, 5) := cAM_weigh_2 _ (List.mem_of_getElem? (i := 2) rfl)
theorem cM_weigh_56 : zCode 237 56 = some (.invokevirtual 135, 59, 168, 1, 2, 12, 5) := cAM_weigh_2 _ (List.mem_of_getElem? (i := 3) rfl)
theorem cM_weigh_59 : zCode 237 59 = some (.i2l, 60, 0, 0, 0, 0, 5) := cAM_weigh_2 _ (List.mem_of_getElem? (i := 4) rfl)
theorem cM_weigh_60 : zCode 237 60 = some (.goto 13, 63, 73, 0, 0, 0, 5) := cAM_weigh_2 _ (List.mem_of_getElem? (i := 5) rfl)
theorem cM_weigh_63 : zCode 237 63 = some (.bipush 10, 65, 0, 0, 0, 0, 5) := cAM_weigh_2 _ (List.mem_of_getElem? (i := 6) rfl)
theorem cM_weigh_65 : zCode 237 65 = some (.aload_n 0, 66, 0, 0, 0, 0, 5) := cAM_weigh_2 _ (List.mem_of_getElem? (i := 7) rfl)
theorem cM_weigh_66 : zCode 237 66 = some (.bipush 8, 68, 0, 0, 0, 0, 5) := cAM_weigh_2 _ (List.mem_of_getElem? (i := 8) rfl)
theorem cM_weigh_68 : zCode 237 68 = some (.invokevirtual 135, 71, 168, 1, 2, 12, 5) := cAM_weigh_2 _ (List.mem_of_getElem? (i := 9) rfl)
theorem cM_weigh_71 : zCode 237 71 = some (.isub, 72, 0, 0, 0, 0, 5) := cAM_weigh_2 _ (List.mem_of_getElem? (i := 10) rfl)
theorem cM_weigh_72 : zCode 237 72 = some (.i2l, 73, 0, 0, 0, 0, 5) := cAM_weigh_2 _ (List.mem_of_getElem? (i := 11) rfl)
theorem cM_weigh_73 : zCode 237 73 = some (.invokevirtual 103, 76, 158, 2, 9, 12, 5) := cAM_weigh_2 _ (List.mem_of_getElem? (i := 12) rfl)
theorem cM_weigh_76 : zCode 237 76 = some (.iinc 2 1, 79, 0, 0, 0, 0, 5) := cAM_weigh_2 _ (List.mem_of_getElem? (i := 13) rfl)
theorem cM_weigh_79 : zCode 237 79 = some (.goto (-70), 82, 9, 0, 0, 0, 5) := cAM_weigh_2 _ (List.mem_of_getElem? (i := 14) rfl)
theorem cM_weigh_82 : zCode 237 82 = some (.return_, 83, 0, 0, 0, 0, 0) := cAM_weigh_2 _ (List.mem_of_getElem? (i := 15) rfl)
theorem rM_weigh_0 {a0 : Nat} {a1 : Int} {u2 u3 : zV} : zS 237 0 [zR a0, zI a1, u2, u3] [] sh pp mm Q ↔ zS 237 1 [zR a0, zI a1, zU, zU] [zR a0] sh pp mm Q := s_go cM_weigh_0 cM_weigh_1 rfl rfl
theorem rM_weigh_1 {a0 s0 : Nat} {a1 : Int} {u2 u3 : zV} : zS 237 1 [zR a0, zI a1, u2, u3] [zR s0] sh pp mm Q ↔ zS 237 2 [zR a0, zI a1, zU, zU] [zI 2, zR s0] sh pp mm Q := s_go cM_weigh_1 cM_weigh_2 rfl rfl
theorem rM_weigh_2 {a0 s1 : Nat} {a1 s0 : Int} {u2 u3 : zV} : zS 237 2 [zR a0, zI a1, u2, u3] [zI s0, zR s1] sh pp mm Q ↔ zS 237 3 [zR a0, zU, zU, zU] [zI a1, zI s0, zR s1] sh pp mm Q := s_go cM_weigh_2 cM_weigh_3 rfl rfl
theorem rM_weigh_3 {a0 s2 : Nat} {s0 s1 : Int} {u1 u2 u3 : zV} : zS 237 3 [zR a0, u1, u2, u3] [zI s0, zI s1, zR s2] sh pp mm Q ↔ zS 237 4 [zR a0, zU, zU, zU] [zL s0, zI s1, zR s2] sh pp mm Q := s_go cM_weigh_3 cM_weigh_4 rfl rfl
theorem rM_weigh_4 {a0 s2 : Nat} {s0 s1 : Int} {u1 u2 u3 : zV} (hk : zKd sh s2 = 12) : zS 237 4 [zR a0, u1, u2, u3] [zL s0, zI s1, zR s2] sh pp mm Q ↔ zS 155 0 [zR s2, zI s1, zL s0, zU, zU, zU] [] sh pp mm (fun v sh pp mm => zS 237 7 [zR a0, zU, zU, zU] (zPush v []) sh pp mm Q) := s_call cM_weigh_4 cM_weigh_7 ((if_pos hk).trans rfl) rfl
theorem rM_weigh_7 {a0 : Nat} {u1 u2 u3 : zV} : zS 237 7 [zR a0, u1, u2, u3] [] sh pp mm Q ↔ zS 237 8 [zR a0, zU, zU, zU] [zI 0] sh pp mm Q := s_go cM_weigh_7 cM_weigh_8 rfl rfl
theorem rM_weigh_8 {a0 : Nat} {s0 : Int} {u1 u2 u3 : zV} : zS 237 8 [zR a0, u1, u2, u3] [zI s0] sh pp mm Q ↔ zS 237 9 [zR a0, zU, zI s0, zU] [] sh pp mm Q := s_go cM_weigh_8 cM_weigh_9 rfl rfl
theorem rM_weigh_9 {a0 : Nat} {a2 : Int} {u1 u3 : zV} : zS 237 9 [zR a0, u1, zI a2, u3] [] sh pp mm Q ↔ zS 237 10 [zR a0, zU, zI a2, zU] [zI a2] sh pp mm Q := s_go cM_weigh_9 cM_weigh_10 rfl rfl
theorem rM_weigh_10 {a0 : Nat} {a2 s0 : Int} {u1 u3 : zV} : zS 237 10 [zR a0, u1, zI a2, u3] [zI s0] sh pp mm Q ↔ zS 237 13 [zR a0, zU, zI a2, zU] [zI 384, zI s0] sh pp mm Q := s_go cM_weigh_10 cM_weigh_13 rfl rfl
theorem rM_weigh_13 {a0 : Nat} {a2 s0 s1 : Int} {u1 u3 : zV} : zS 237 13 [zR a0, u1, zI a2, u3] [zI s0, zI s1] sh pp mm Q ↔ (s1 < s0 → zS 237 16 [zR a0, zU, zI a2, zU] [] sh pp mm Q) ∧ (¬ s1 < s0 → zS 237 82 [zU, zU, zU, zU] [] sh pp mm Q) := s_ifn cM_weigh_13 cM_weigh_16 cM_weigh_82 rfl rfl rfl
theorem rM_weigh_16 {a0 : Nat} {a2 : Int} {u1 u3 : zV} : zS 237 16 [zR a0, u1, zI a2, u3] [] sh pp mm Q ↔ zS 237 17 [zR a0, zU, zI a2, zU] [zR a0] sh pp mm Q := s_go cM_weigh_16 cM_weigh_17 rfl rfl
theorem rM_weigh_17 {a0 s0 : Nat} {a2 : Int} {u1 u3 : zV} (hk : zKd sh s0 = 12) : zS 237 17 [zR a0, u1, zI a2, u3] [zR s0] sh pp mm Q ↔ zS 237 20 [zR a0, zU, zI a2, zU] [zR (pp s0 0)] sh pp mm Q := s_go cM_weigh_17 cM_weigh_20 (if_pos hk) rfl
theorem rM_weigh_20 {a0 s0 : Nat} {a2 : Int} {u1 u3 : zV} : zS 237 20 [zR a0, u1, zI a2, u3] [zR s0] sh pp mm Q ↔ zS 237 23 [zR a0, zU, zI a2, zU] [zI 573, zR s0] sh pp mm Q := s_go cM_weigh_20 cM_weigh_23 rfl rfl
theorem rM_weigh_23 {a0 s1 : Nat} {a2 s0 : Int} {u1 u3 : zV} : zS 237 23 [zR a0, u1, zI a2, u3] [zI s0, zR s1] sh pp mm Q ↔ zS 237 24 [zR a0, zU, zI a2, zU] [zI a2, zI s0, zR s1] sh pp mm Q := s_go cM_weigh_23 cM_weigh_24 rfl rfl
theorem rM_weigh_24 {a0 s2 : Nat} {a2 s0 s1 : Int} {u1 u3 : zV} : zS 237 24 [zR a0, u1, zI a2, u3] [zI s0, zI s1, zR s2] sh pp mm Q ↔ zS 237 25 [zR a0, zU, zI a2, zU] [zI (zw32 (s1 + s0)), zR s2] sh pp mm Q := s_go cM_weigh_24 cM_weigh_25 rfl rfl
theorem rM_weigh_25 {a0 s1 : Nat} {a2 s0 : Int} {u1 u3 : zV} (hk : zKd sh s1 = 20 ∨ zKd sh s1 = 30) (h0 : 0 ≤ s0) (h1 : s0 < zLn sh s1) : zS 237 25 [zR a0, u1, zI a2, u3] [zI s0, zR s1] sh pp mm Q ↔ zS 237 26 [zR a0, zU, zI a2, zU] [zI (mm s1 s0)] sh pp mm Q := s_go cM_weigh_25 cM_weigh_26 (if_pos ⟨hk, h0, h1⟩) rfl
theorem rM_weigh_26 {a0 : Nat} {a2 s0 : Int} {u1 u3 : zV} : zS 237 26 [zR a0, u1, zI a2, u3] [zI s0] sh pp mm Q ↔ zS 237 27 [zR a0, zU, zI a2, zI s0] [] sh pp mm Q := s_go cM_weigh_26 cM_weigh_27 rfl rfl
theorem rM_weigh_27 {a0 : Nat} {a2 a3 : Int} {u1 : zV} : zS 237 27 [zR a0, u1, zI a2, zI a3] [] sh pp mm Q ↔ zS 237 28 [zR a0, zU, zI a2, zI a3] [zI a3] sh pp mm Q := s_go cM_weigh_27 cM_weigh_28 rfl rfl
theorem rM_weigh_28 {a0 : Nat} {a2 a3 s0 : Int} {u1 : zV} : zS 237 28 [zR a0, u1, zI a2, zI a3] [zI s0] sh pp mm Q ↔ zS 237 29 [zR a0, zU, zI a2, zI a3] [zI (-1), zI s0] sh pp mm Q := s_go cM_weigh_28 cM_weigh_29 rfl rfl
theorem rM_weigh_29 {a0 : Nat} {a2 a3 s0 s1 : Int} {u1 : zV} : zS 237 29 [zR a0, u1, zI a2, zI a3] [zI s0, zI s1] sh pp mm Q ↔ (s1 = s0 → zS 237 76 [zR a0, zU, zI a2, zU] [] sh pp mm Q) ∧ (¬ s1 = s0 → zS 237 32 [zR a0, zU, zI a2, zI a3] [] sh pp mm Q) := s_if cM_weigh_29 cM_weigh_76 cM_weigh_32 rfl rfl rfl
theorem rM_weigh_32 {a0 : Nat} {a2 a3 : Int} {u1 : zV} : zS 237 32 [zR a0, u1, zI a2, zI a3] [] sh pp mm Q ↔ zS 237 33 [zR a0, zU, zI a2, zI a3] [zR a0] sh pp mm Q := s_go cM_weigh_32 cM_weigh_33 rfl rfl
theorem rM_weigh_33 {a0 s0 : Nat} {a2 a3 : Int} {u1 : zV} : zS 237 33 [zR a0, u1, zI a2, zI a3] [zR s0] sh pp mm Q ↔ zS 237 34 [zR a0, zU, zI a2, zI a3] [zI 2, zR s0] sh pp mm Q := s_go cM_weigh_33 cM_weigh_34 rfl rfl
theorem rM_weigh_34 {a0 s1 : Nat} {a2 a3 s0 : Int} {u1 : zV} : zS 237 34 [zR a0, u1, zI a2, zI a3] [zI s0, zR s1] sh pp mm Q ↔ zS 237 35 [zR a0, zU, zI a2, zU] [zI a3, zI s0, zR s1] sh pp mm Q := s_go cM_weigh_34 cM_weigh_35 rfl rfl
theorem rM_weigh_35 {a0 s2 : Nat} {a2 s0 s1 : Int} {u1 u3 : zV} : zS 237 35 [zR a0, u1, zI a2, u3] [zI s0, zI s1, zR s2] sh pp mm Q ↔ zS 237 36 [zR a0, zU, zI a2, zU] [zI 1, zI s0, zI s1, zR s2] sh pp mm Q := s_go cM_weigh_35 cM_weigh_36 rfl rfl
theorem rM_weigh_36 {a0 s3 : Nat} {a2 s0 s1 s2 : Int} {u1 u3 : zV} : zS 237 36 [zR a0, u1, zI a2, u3] [zI s0, zI s1, zI s2, zR s3] sh pp mm Q ↔ (s1 = s0 → zS 237 39 [zR a0, zU, zI a2, zU] [zI s2, zR s3] sh pp mm Q) ∧ (¬ s1 = s0 → zS 237 43 [zR a0, zU, zI a2, zU] [zI s2, zR s3] sh pp mm Q) := s_ifn cM_weigh_36 cM_weigh_39 cM_weigh_43 rfl rfl rfl
theorem rM_weigh_39 {a0 s1 : Nat} {a2 s0 : Int} {u1 u3 : zV} : zS 237 39 [zR a0, u1, zI a2, u3] [zI s0, zR s1] sh pp mm Q ↔ zS 237 40 [zR a0, zU, zI a2, zU] [zI 1, zI s0, zR s1] sh pp mm Q := s_go cM_weigh_39 cM_weigh_40 rfl rfl
theorem rM_weigh_40 {a0 s2 : Nat} {a2 s0 s1 : Int} {u1 u3 : zV} : zS 237 40 [zR a0, u1, zI a2, u3] [zI s0, zI s1, zR s2] sh pp mm Q ↔ zS 237 44 [zR a0, zU, zI a2, zU] [zI s0, zI s1, zR s2] sh pp mm Q := s_go cM_weigh_40 cM_weigh_44 rfl rfl
theorem rM_weigh_43 {a0 s1 : Nat} {a2 s0 : Int} {u1 u3 : zV} : zS 237 43 [zR a0, u1, zI a2, u3] [zI s0, zR s1] sh pp mm Q ↔ zS 237 44 [zR a0, zU, zI a2, zU] [zI 0, zI s0, zR s1] sh pp mm Q := s_go cM_weigh_43 cM_weigh_44 rfl rfl
theorem rM_weigh_44 {a0 s2 : Nat} {a2 s0 s1 : Int} {u1 u3 : zV} : zS 237 44 [zR a0, u1, zI a2, u3] [zI s0, zI s1, zR s2] sh pp mm Q ↔ zS 237 45 [zR a0, zU, zI a2, zU] [zR a0, zI s0, zI s1, zR s2] sh pp mm Q := s_go cM_weigh_44 cM_weigh_45 rfl rfl
theorem rM_weigh_45 {a0 s0 s3 : Nat} {a2 s1 s2 : Int} {u1 u3 : zV} (hk : zKd sh s0 = 12) : zS 237 45 [zR a0, u1, zI a2, u3] [zR s0, zI s1, zI s2, zR s3] sh pp mm Q ↔ zS 237 48 [zR a0, zU, zI a2, zU] [zR (pp s0 18), zI s1, zI s2, zR s3] sh pp mm Q := s_go cM_weigh_45 cM_weigh_48 (if_pos hk) rfl
theorem rM_weigh_48 {a0 s0 s3 : Nat} {a2 s1 s2 : Int} {u1 u3 : zV} : zS 237 48 [zR a0, u1, zI a2, u3] [zR s0, zI s1, zI s2, zR s3] sh pp mm Q ↔ zS 237 49 [zR a0, zU, zI a2, zU] [zI a2, zR s0, zI s1, zI s2, zR s3] sh pp mm Q := s_go cM_weigh_48 cM_weigh_49 rfl rfl
theorem rM_weigh_49 {a0 s1 s4 : Nat} {a2 s0 s2 s3 : Int} {u1 u3 : zV} (hk : zKd sh s1 = 22 ∨ zKd sh s1 = 32) (h0 : 0 ≤ s0) (h1 : s0 < zLn sh s1) : zS 237 49 [zR a0, u1, zI a2, u3] [zI s0, zR s1, zI s2, zI s3, zR s4] sh pp mm Q ↔ zS 237 50 [zR a0, zU, zI a2, zU] [zI (mm s1 s0), zI s2, zI s3, zR s4] sh pp mm Q := s_go cM_weigh_49 cM_weigh_50 (if_pos ⟨hk, h0, h1⟩) rfl
theorem rM_weigh_50 {a0 s3 : Nat} {a2 s0 s1 s2 : Int} {u1 u3 : zV} : zS 237 50 [zR a0, u1, zI a2, u3] [zI s0, zI s1, zI s2, zR s3] sh pp mm Q ↔ (s1 = s0 → zS 237 53 [zR a0, zU, zI a2, zU] [zI s2, zR s3] sh pp mm Q) ∧ (¬ s1 = s0 → zS 237 63 [zR a0, zU, zI a2, zU] [zI s2, zR s3] sh pp mm Q) := s_ifn cM_weigh_50 cM_weigh_53 cM_weigh_63 rfl rfl rfl
theorem rM_weigh_53 {a0 s1 : Nat} {a2 s0 : Int} {u1 u3 : zV} : zS 237 53 [zR a0, u1, zI a2, u3] [zI s0, zR s1] sh pp mm Q ↔ zS 237 54 [zR a0, zU, zI a2, zU] [zR a0, zI s0, zR s1] sh pp mm Q := s_go cM_weigh_53 cM_weigh_54 rfl rfl
theorem rM_weigh_54 {a0 s0 s2 : Nat} {a2 s1 : Int} {u1 u3 : zV} : zS 237 54 [zR a0, u1, zI a2, u3] [zR s0, zI s1, zR s2] sh pp mm Q ↔ zS 237 56 [zR a0, zU, zI a2, zU] [zI 8, zR s0, zI s1, zR s2] sh pp mm Q := s_go cM_weigh_54 cM_weigh_56 rfl rfl
theorem rM_weigh_56 {a0 s1 s3 : Nat} {a2 s0 s2 : Int} {u1 u3 : zV} (hk : zKd sh s1 = 12) : zS 237 56 [zR a0, u1, zI a2, u3] [zI s0, zR s1, zI s2, zR s3] sh pp mm Q ↔ zS 168 0 [zR s1, zI s0] [] sh pp mm (fun v sh pp mm => zS 237 59 [zR a0, zU, zI a2, zU] (zPush v [zI s2, zR s3]) sh pp mm Q) := s_call cM_weigh_56 cM_weigh_59 ((if_pos hk).trans rfl) rfl
theorem rM_weigh_59 {a0 s2 : Nat} {a2 s0 s1 : Int} {u1 u3 : zV} : zS 237 59 [zR a0, u1, zI a2, u3] [zI s0, zI s1, zR s2] sh pp mm Q ↔ zS 237 60 [zR a0, zU, zI a2, zU] [zL s0, zI s1, zR s2] sh pp mm Q := s_go cM_weigh_59 cM_weigh_60 rfl rfl
theorem rM_weigh_60 {a0 s2 : Nat} {a2 s0 s1 : Int} {u1 u3 : zV} : zS 237 60 [zR a0, u1, zI a2, u3] [zL s0, zI s1, zR s2] sh pp mm Q ↔ zS 237 73 [zR a0, zU, zI a2, zU] [zL s0, zI s1, zR s2] sh pp mm Q := s_go cM_weigh_60 cM_weigh_73 rfl rfl
theorem rM_weigh_63 {a0 s1 : Nat} {a2 s0 : Int} {u1 u3 : zV} : zS 237 63 [zR a0, u1, zI a2, u3] [zI s0, zR s1] sh pp mm Q ↔ zS 237 65 [zR a0, zU, zI a2, zU] [zI 10, zI s0, zR s1] sh pp mm Q := s_go cM_weigh_63 cM_weigh_65 rfl rfl
theorem rM_weigh_65 {a0 s2 : Nat} {a2 s0 s1 : Int} {u1 u3 : zV} : zS 237 65 [zR a0, u1, zI a2, u3] [zI s0, zI s1, zR s2] sh pp mm Q ↔ zS 237 66 [zR a0, zU, zI a2, zU] [zR a0, zI s0, zI s1, zR s2] sh pp mm Q := s_go cM_weigh_65 cM_weigh_66 rfl rfl
theorem rM_weigh_66 {a0 s0 s3 : Nat} {a2 s1 s2 : Int} {u1 u3 : zV} : zS 237 66 [zR a0, u1, zI a2, u3] [zR s0, zI s1, zI s2, zR s3] sh pp mm Q ↔ zS 237 68 [zR a0, zU, zI a2, zU] [zI 8, zR s0, zI s1, zI s2, zR s3] sh pp mm Q := s_go cM_weigh_66 cM_weigh_68 rfl rfl
theorem rM_weigh_68 {a0 s1 s4 : Nat} {a2 s0 s2 s3 : Int} {u1 u3 : zV} (hk : zKd sh s1 = 12) : zS 237 68 [zR a0, u1, zI a2, u3] [zI s0, zR s1, zI s2, zI s3, zR s4] sh pp mm Q ↔ zS 168 0 [zR s1, zI s0] [] sh pp mm (fun v sh pp mm => zS 237 71 [zR a0, zU, zI a2, zU] (zPush v [zI s2, zI s3, zR s4]) sh pp mm Q) := s_call cM_weigh_68 cM_weigh_71 ((if_pos hk).trans rfl) rfl
theorem rM_weigh_71 {a0 s3 : Nat} {a2 s0 s1 s2 : Int} {u1 u3 : zV} : zS 237 71 [zR a0, u1, zI a2, u3] [zI s0, zI s1, zI s2, zR s3] sh pp mm Q ↔ zS 237 72 [zR a0, zU, zI a2, zU] [zI (zw32 (s1 - s0)), zI s2, zR s3] sh pp mm Q := s_go cM_weigh_71 cM_weigh_72 rfl rfl
theorem rM_weigh_72 {a0 s2 : Nat} {a2 s0 s1 : Int} {u1 u3 : zV} : zS 237 72 [zR a0, u1, zI a2, u3] [zI s0, zI s1, zR s2] sh pp mm Q ↔ zS 237 73 [zR a0, zU, zI a2, zU] [zL s0, zI s1, zR s2] sh pp mm Q := s_go cM_weigh_72 cM_weigh_73 rfl rfl
theorem rM_weigh_73 {a0 s2 : Nat} {a2 s0 s1 : Int} {u1 u3 : zV} (hk : zKd sh s2 = 12) : zS 237 73 [zR a0, u1, zI a2, u3] [zL s0, zI s1, zR s2] sh pp mm Q ↔ zS 158 0 [zR s2, zI s1, zL s0, zU, zU, zU, zU, zU, zU] [] sh pp mm (fun v sh pp mm => zS 237 76 [zR a0, zU, zI a2, zU] (zPush v []) sh pp mm Q) := s_call cM_weigh_73 cM_weigh_76 ((if_pos hk).trans rfl) rfl
theorem rM_weigh_76 {a0 : Nat} {a2 : Int} {u1 u3 : zV} : zS 237 76 [zR a0, u1, zI a2, u3] [] sh pp mm Q ↔ zS 237 79 [zR a0, zU, zI (zw32 (a2 + 1)), zU] [] sh pp mm Q := s_go cM_weigh_76 cM_weigh_79 rfl rfl
theorem rM_weigh_79 {a0 : Nat} {a2 : Int} {u1 u3 : zV} : zS 237 79 [zR a0, u1, zI a2, u3] [] sh pp mm Q ↔ zS 237 9 [zR a0, zU, zI a2, zU] [] sh pp mm Q := s_go cM_weigh_79 cM_weigh_9 rfl rfl
theorem rM_weigh_82 {u0 u1 u2 u3 : zV} : zS 237 82 [u0, u1, u2, u3] [] sh pp mm Q ↔ Q zU sh pp mm := s_ret cM_weigh_82 rfl
theorem cAM_sumsUp : ∀ q ∈ zT238, zCode 238 q.1 = some q.2 := zAll (mid := 238) rfl (by decide +kernel)
theorem cAM_sumsUp_0 : ∀ q ∈ zT238_0, zCode 238 q.1 = some q.2 := fun q h => cAM_sumsUp q (List.mem_append_left _ h)
theorem cAM_sumsUp_1 : ∀ q ∈ zT238_1, zCode 238 q.1 = some q.2 := fun q h => cAM_sumsUp q (List.mem_append_right _ (List.mem_append_left _ h))
theorem cAM_sumsUp_2 : ∀ q ∈ zT238_2, zCode 238 q.1 = some q.2 := fun q h => cAM_sumsUp q (List.mem_append_right _ (List.mem_append_right _ (List.mem_append_left _ h)))
theorem cAM_sumsUp_3 : ∀ q ∈ zT238_3, zCode 238 q.1 = some q.2 := fun q h => cAM_sumsUp q (List.mem_append_right _ (List.mem_append_right _ (List.mem_append_right _ (List.mem_append_left _ h))))
theorem cAM_sumsUp_4 : ∀ q ∈ zT238_4, zCode 238 q.1 = some q.2 := fun q h => cAM_sumsUp q (List.mem_append_right _ (List.mem_append_right _ (List.mem_append_right _ (List.mem_append_right _ (List.mem_append_left _ h)))))
theorem cAM_sumsUp_5 : ∀ q ∈ zT238_5, zCode 238 q.1 = some q.2 := fun q h => cAM_sumsUp q (List.mem_append_right _ (List.mem_append_right _ (List.mem_append_right _ (List.mem_append_right _ (List.mem_append_right _ (List.mem_append_left _ h))))))
theorem cAM_sumsUp_6 : ∀ q ∈ zT238_6, zCode 238 q.1 = some q.2 := fun q h => cAM_sumsUp q (List.mem_append_right _ (List.mem_append_right _ (List.mem_append_right _ (List.mem_append_right _ (List.mem_append_right _ (List.mem_append_right _ h))))))
theorem cM_sumsUp_0 : zCode 238 0 = some (.aload_n 0, 1, 0, 0, 0, 0, 7) := cAM_sumsUp_0 _ (List.mem_of_getElem? (i := 0) rfl)
theorem cM_sumsUp_1 : zCode 238 1 = some (.iconst 3, 2, 0, 0, 0, 0, 7) := cAM_sumsUp_0 _ (List.mem_of_getElem? (i := 1) rfl)
theorem cM_sumsUp_2 : zCode 238 2 = some (.lconst 0, 3, 0, 0, 0, 0, 7) := cAM_sumsUp_0 _ (List.mem_of_getElem? (i := 2) rfl)
theorem cM_sumsUp_3 : zCode 238 3 = some (.invokevirtual 73, 6, 155, 2, 6, 12, 7) := cAM_sumsUp_0 _ (List.mem_of_getElem? (i := 3) rfl)
theorem cM_sumsUp_6 : zCode 238 6 = some (.aload_n 0, 7, 0, 0, 0, 0, 7) := cAM_sumsUp_0 _ (List.mem_of_getElem? (i := 4) rfl)
theorem cM_sumsUp_7 : zCode 238 7 = some (.iconst 4, 8, 0, 0, 0, 0, 7) := cAM_sumsUp_0 _ (List.mem_of_getElem? (i := 5) rfl)
theorem cM_sumsUp_8 : zCode 238 8 = some (.lconst 0, 9, 0, 0, 0, 0, 7) := cAM_sumsUp_0 _ (List.mem_of_getElem? (i := 6) rfl)
theorem cM_sumsUp_9 : zCode 238 9 = some (.invokevirtual 73, 12, 155, 2, 6, 12, 7) := cAM_sumsUp_0 _ (List.mem_of_getElem? (i := 7) rfl)
theorem cM_sumsUp_12 : zCode 238 12 = some (.iconst 0, 13, 0, 0, 0, 0, 7) := cAM_sumsUp_0 _ (List.mem_of_getElem? (i := 8) rfl)
theorem cM_sumsUp_13 : zCode 238 13 = some (.istore_n 3, 14, 0, 0, 0, 0, 7) := cAM_sumsUp_0 _ (List.mem_of_getElem? (i := 9) rfl)
theorem cM_sumsUp_14 : zCode 238 14 = some (.iconst 0, 15, 0, 0, 0, 0, 15) := cAM_sumsUp_0 _ (List.mem_of_getElem? (i := 10) rfl)
theorem cM_sumsUp_15 : zCode 238 15 = some (.istore 4, 17, 0, 0, 0, 0, 15) := cAM_sumsUp_0 _ (List.mem_of_getElem? (i := 11) rfl)
theorem cM_sumsUp_17 : zCode 238 17 = some (.iload 4, 19, 0, 0, 0, 0, 31) := cAM_sumsUp_0 _ (List.mem_of_getElem? (i := 12) rfl)
theorem cM_sumsUp_19 : zCode 238 19 = some (.iconst 4, 20, 0, 0, 0, 0, 31) := cAM_sumsUp_0 _ (List.mem_of_getElem? (i := 13) rfl)
theorem cM_sumsUp_20 : zCode 238 20 = some (.if_icmp .ge 173, 23, 193, 0, 0, 0, 31) := cAM_sumsUp_0 _ (List.mem_of_getElem? (i := 14) rfl)
theorem cM_sumsUp_23 : zCode 238 23 = some (.aload_n 0, 24, 0, 0, 0, 0, 31) := cAM_sumsUp_0 _ (List.mem_of_getElem? (i := 15) rfl)
theorem cM_sumsUp_24 : zCode 238 24 = some (.iload 4, 26, 0, 0, 0, 0, 31) := cAM_sumsUp_1 _ (List.mem_of_getElem? (i := 0) rfl)
theorem cM_sumsUp_26 : zCode 238 26 = some (.invokevirtual 214, 29, 186, 1, 4, 12, 31) := cAM_sumsUp_1 _ (List.mem_of_getElem? (i := 1) rfl)
theorem cM_sumsUp_29 : zCode 238 29 = some (.ifCond .eq 158, 32, 187, 0, 0, 0, 31) := cAM_sumsUp_1 _ (List.mem_of_getElem? (i := 2) rfl)
theorem cM_sumsUp_32 : zCode 238 32 = some (.aload_n 0, 33, 0, 0, 0, 0, 31) := cAM_sumsUp_1 _ (List.mem_of_getElem? (i := 3) rfl)
theorem cM_sumsUp_33 : zCode 238 33 = some (.iload 4, 35, 0, 0, 0, 0, 31) := cAM_sumsUp_1 _ (List.mem_of_getElem? (i := 4) rfl)
theorem cM_sumsUp_35 : zCode 238 35 = some (.invokevirtual 268, 38, 196, 1, 5, 12, 31) := cAM_sumsUp_1 _ (List.mem_of_getElem? (i := 5) rfl)
theorem cM_sumsUp_38 : zCode 238 38 = some (.iload_n 3, 39, 0, 0, 0, 0, 31) := cAM_sumsUp_1 _ (List.mem_of_getElem? (i := 6) rfl)
theorem cM_sumsUp_39 : zCode 238 39 = some (.ifCond .ne 10, 42, 49, 0, 0, 0, 23) := cAM_sumsUp_1 _ (List.mem_of_getElem? (i := 7) rfl)
theorem cM_sumsUp_42 : zCode 238 42 = some (.aload_n 0, 43, 0, 0, 0, 0, 23) := cAM_sumsUp_1 _ (List.mem_of_getElem? (i := 8) rfl)
theorem cM_sumsUp_43 : zCode 238 43 = some (.getfield 250, 46, 12, 26, 3, 1235, 23) := cAM_sumsUp_1 _ (List.mem_of_getElem? (i := 9) rfl)
theorem cM_sumsUp_46 : zCode 238 46 = some (.ifCond .ne 7, 49, 53, 0, 0, 0, 23) := cAM_sumsUp_1 _ (List.mem_of_getElem? (i := 10) rfl)
theorem cM_sumsUp_49 : zCode 238 49 = some (.iconst 1, 50, 0, 0, 0, 0, 23) := cAM_sumsUp_1 _ (List.mem_of_getElem? (i := 11) rfl)
theorem cM_sumsUp_50 : zCode 238 50 = some (.goto 4, 53, 54, 0, 0, 0, 23) := cAM_sumsUp_1 _ (List.mem_of_getElem? (i := 12) rfl)
theorem cM_sumsUp_53 : zCode 238 53 = some (.iconst 0, 54, 0, 0, 0, 0, 23) := cAM_sumsUp_1 _ (List.mem_of_getElem? (i := 13) rfl)
theorem cM_sumsUp_54 : zCode 238 54 = some (.istore_n 3, 55, 0, 0, 0, 0, 23) := cAM_sumsUp_1 _ (List.mem_of_getElem? (i := 14) rfl)
theorem cM_sumsUp_55 : zCode 238 55 = some (.aload_n 0, 56, 0, 0, 0, 0, 31) := cAM_sumsUp_1 _ (List.mem_of_getElem? (i := 15) rfl)
theorem cM_sumsUp_56 : zCode 238 56 = some (.invokevirtual 277, 59, 201, 0, 2, 12, 31) := cAM_sumsUp_2 _ (List.mem_of_getElem? (i := 0) rfl)
theorem cM_sumsUp_59 : zCode 238 59 = some (.iconst (-1), 60, 0, 0, 0, 0, 31) := cAM_sumsUp_2 _ (List.mem_of_getElem? (i := 1) rfl)
theorem cM_sumsUp_60 : zCode 238 60 = some (.istore 5, 62, 0, 0, 0, 0, 31) := cAM_sumsUp_2 _ (List.mem_of_getElem? (i := 2) rfl)
theorem cM_sumsUp_62 : zCode 238 62 = some (.iload 5, 64, 0, 0, 0, 0, 63) := cAM_sumsUp_2 _ (List.mem_of_getElem? (i := 3) rfl)
theorem cM_sumsUp_64 : zCode 238 64 = some (.iconst 3, 65, 0, 0, 0, 0, 63) := cAM_sumsUp_2 _ (List.mem_of_getElem? (i := 4) rfl)
theorem cM_sumsUp_65 : zCode 238 65 = some (.if_icmp .ge 122, 68, 187, 0, 0, 0, 63) := cAM_sumsUp_2 _ (List.mem_of_getElem? (i := 5) rfl)
theorem cM_sumsUp_68 : zCode 238 68 = some (.aload_n 0, 69, 0, 0, 0, 0, 63) := cAM_sumsUp_2 _ (List.mem_of_getElem? (i := 6) rfl)
theorem cM_sumsUp_69 : zCode 238 69 = some (.getfield 250, 72, 12, 26, 3, 1235, 63) := cAM_sumsUp_2 _ (List.mem_of_getElem? (i := 7) rfl)
theorem cM_sumsUp_72 : zCode 238 72 = some (.ifCond .ne 115, 75, 187, 0, 0, 0, 63) := cAM_sumsUp_2 _ (List.mem_of_getElem? (i := 8) rfl)
theorem cM_sumsUp_75 : zCode 238 75 = some (.iconst 0, 76, 0, 0, 0, 0, 63) := cAM_sumsUp_2 _ (List.mem_of_getElem? (i := 9) rfl)
theorem cM_sumsUp_76 : zCode 238 76 = some (.istore 6, 78, 0, 0, 0, 0, 63) := cAM_sumsUp_2 _ (List.mem_of_getElem? (i := 10) rfl)
theorem cM_sumsUp_78 : zCode 238 78 = some (.iload 6, 80, 0, 0, 0, 0, 127) := cAM_sumsUp_2 _ (List.mem_of_getElem? (i := 11) rfl)
theorem cM_sumsUp_80 : zCode 238 80 = some (.sipush 384, 83, 0, 0, 0, 0, 127) := cAM_sumsUp_2 _ (List.mem_of_getElem? (i := 12) rfl)
theorem cM_sumsUp_83 : zCode 238 83 = some (.if_icmp .ge 23, 86, 106, 0, 0, 0, 127) := cAM_sumsUp_2 _ (List.mem_of_getElem? (i := 13) rfl)
theorem cM_sumsUp_86 : zCode 238 86 = some (.aload_n 0, 87, 0, 0, 0, 0, 127) := cAM_sumsUp_2 _ (List.mem_of_getElem? (i := 14) rfl)
theorem cM_sumsUp_87 : zCode 238 87 = some (.getfield 39, 90, 12, 18, 2, 1227, 127) := cAM_sumsUp_2 _ (List.mem_of_getElem? (i := 15) rfl)
theorem cM_sumsUp_90 : zCode 238 90 = some (.iload 6, 92, 0, 0, 0, 0, 127) := cAM_sumsUp_3 _ (List.mem_of_getElem? (i := 0) rfl)
theorem cM_sumsUp_92 : zCode 238 92 = some (.aload_n 0, 93, 0, 0, 0, 0, 127) := cAM_sumsUp_3 _ (List.mem_of_getElem? (i := 1) rfl)
theorem cM_sumsUp_93 : zCode 238 93 = some (.getfield 51, 96, 12, 29, 2, 1238, 127) := cAM_sumsUp_3 _ (List.mem_of_getElem? (i := 2) rfl)
theorem cM_sumsUp_96 : zCode 238 96 = some (.iload 6, 98, 0, 0, 0, 0, 127) := cAM_sumsUp_3 _ (List.mem_of_getElem? (i := 3) rfl)
theorem cM_sumsUp_98 : zCode 238 98 = some (.baload, 99, 0, 0, 0, 0, 127) := cAM_sumsUp_3 _ (List.mem_of_getElem? (i := 4) rfl)
theorem cM_sumsUp_99 : zCode 238 99 = some (.bastore, 100, 0, 0, 0, 0, 127) := cAM_sumsUp_3 _ (List.mem_of_getElem? (i := 5) rfl)
theorem cM_sumsUp_100 : zCode 238 100 = some (.iinc 6 1, 103, 0, 0, 0, 0, 127) := cAM_sumsUp_3 _ (List.mem_of_getElem? (i := 6) rfl)
theorem cM_sumsUp_103 : zCode 238 103 = some (.goto (-25), 106, 78, 0, 0, 0, 127) := cAM_sumsUp_3 _ (List.mem_of_getElem? (i := 7) rfl)
theorem cM_sumsUp_106 : zCode 238 106 = some (.iload 5, 108, 0, 0, 0, 0, 63) := cAM_sumsUp_3 _ (List.mem_of_getElem? (i := 8) rfl)
theorem cM_sumsUp_108 : zCode 238 108 = some (.iconst (-1), 109, 0, 0, 0, 0, 63) := cAM_sumsUp_3 _ (List.mem_of_getElem? (i := 9) rfl)
theorem cM_sumsUp_109 : zCode 238 109 = some (.if_icmp .eq 9, 112, 118, 0, 0, 0, 63) := cAM_sumsUp_3 _ (List.mem_of_getElem? (i := 10) rfl)
theorem cM_sumsUp_112 : zCode 238 112 = some (.aload_n 0, 113, 0, 0, 0, 0, 63) := cAM_sumsUp_3 _ (List.mem_of_getElem? (i := 11) rfl)
theorem cM_sumsUp_113 : zCode 238 113 = some (.iload 5, 115, 0, 0, 0, 0, 63) := cAM_sumsUp_3 _ (List.mem_of_getElem? (i := 12) rfl)
theorem cM_sumsUp_115 : zCode 238 115 = some (.invokevirtual 260, 118, 194, 1, 5, 12, 63) := cAM_sumsUp_3 _ (List.mem_of_getElem? (i := 13) rfl)
theorem cM_sumsUp_118 : zCode 238 118 = some (.aload_n 0, 119, 0, 0, 0, 0, 63) := cAM_sumsUp_3 _ (List.mem_of_getElem? (i := 14) rfl)
theorem cM_sumsUp_119 : zCode 238 119 = some (.iload 5, 121, 0, 0, 0, 0, 63) := cAM_sumsUp_3 _ (List.mem_of_getElem? (i := 15) rfl)
theorem cM_sumsUp_121 : zCode 238 121 = some (.iconst (-1), 122, 0, 0, 0, 0, 63) := cAM_sumsUp_4 _ (List.mem_of_getElem? (i := 0) rfl)
theorem cM_sumsUp_122 : zCode 238 122 = some (.if_icmp .ne 7, 125, 129, 0, 0, 0, 63) := cAM_sumsUp_4 _ (List.mem_of_getElem? (i := 1) rfl)
theorem cM_sumsUp_125 : zCode 238 125 = some (.iconst 3, 126, 0, 0, 0, 0, 63) := cAM_sumsUp_4 _ (List.mem_of_getElem? (i := 2) rfl)
theorem cM_sumsUp_126 : zCode 238 126 = some (.goto 4, 129, 130, 0, 0, 0, 63) := cAM_sumsUp_4 _ (List.mem_of_getElem? (i := 3) rfl)
theorem cM_sumsUp_129 : zCode 238 129 = some (.iconst 1, 130, 0, 0, 0, 0, 63) := cAM_sumsUp_4 _ (List.mem_of_getElem? (i := 4) rfl)
theorem cM_sumsUp_130 : zCode 238 130 = some (.invokevirtual 355, 133, 237, 1, 4, 12, 63) := cAM_sumsUp_4 _ (List.mem_of_getElem? (i := 5) rfl)
theorem cM_sumsUp_133 : zCode 238 133 = some (.aload_n 0, 134, 0, 0, 0, 0, 63) := cAM_sumsUp_4 _ (List.mem_of_getElem? (i := 6) rfl)
theorem cM_sumsUp_134 : zCode 238 134 = some (.iconst 3, 135, 0, 0, 0, 0, 63) := cAM_sumsUp_4 _ (List.mem_of_getElem? (i := 7) rfl)
theorem cM_sumsUp_135 : zCode 238 135 = some (.iconst 2, 136, 0, 0, 0, 0, 63) := cAM_sumsUp_4 _ (List.mem_of_getElem? (i := 8) rfl)
theorem cM_sumsUp_136 : zCode 238 136 = some (.invokevirtual 358, 139, 160, 2, 9, 12, 63) := cAM_sumsUp_4 _ (List.mem_of_getElem? (i := 9) rfl)
theorem cM_sumsUp_139 : zCode 238 139 = some (.iload_n 1, 140, 0, 0, 0, 0, 63) := cAM_sumsUp_4 _ (List.mem_of_getElem? (i := 10) rfl)
theorem cM_sumsUp_140 : zCode 238 140 = some (.ifCond .ne 12, 143, 152, 0, 0, 0, 63) := cAM_sumsUp_4 _ (List.mem_of_getElem? (i := 11) rfl)
theorem cM_sumsUp_143 : zCode 238 143 = some (.iload 4, 145, 0, 0, 0, 0, 63) := cAM_sumsUp_4 _ (List.mem_of_getElem? (i := 12) rfl)
theorem cM_sumsUp_145 : zCode 238 145 = some (.iload_n 2, 146, 0, 0, 0, 0, 63) := cAM_sumsUp_4 _ (List.mem_of_getElem? (i := 13) rfl)
theorem cM_sumsUp_146 : zCode 238 146 = some (.if_icmp .ne 35, 149, 181, 0, 0, 0, 63) := cAM_sumsUp_4 _ (List.mem_of_getElem? (i := 14) rfl)
theorem cM_sumsUp_149 : zCode 238 149 = some (.goto 26, 152, 175, 0, 0, 0, 63) := cAM_sumsUp_4 _ (List.mem_of_getElem? (i := 15) rfl)
theorem cM_sumsUp_152 : zCode 238 152 = some (.iload_n 1, 153, 0, 0, 0, 0, 63) := cAM_sumsUp_5 _ (List.mem_of_getElem? (i := 0) rfl)
theorem cM_sumsUp_153 : zCode 238 153 = some (.iconst 1, 154, 0, 0, 0, 0, 63) := cAM_sumsUp_5 _ (List.mem_of_getElem? (i := 1) rfl)
theorem cM_sumsUp_154 : zCode 238 154 = some (.if_icmp .ne 12, 157, 166, 0, 0, 0, 63) := cAM_sumsUp_5 _ (List.mem_of_getElem? (i := 2) rfl)
theorem cM_sumsUp_157 : zCode 238 157 = some (.iload 5, 159, 0, 0, 0, 0, 63) := cAM_sumsUp_5 _ (List.mem_of_getElem? (i := 3) rfl)
theorem cM_sumsUp_159 : zCode 238 159 = some (.iconst (-1), 160, 0, 0, 0, 0, 63) := cAM_sumsUp_5 _ (List.mem_of_getElem? (i := 4) rfl)
theorem cM_sumsUp_160 : zCode 238 160 = some (.if_icmp .eq 21, 163, 181, 0, 0, 0, 63) := cAM_sumsUp_5 _ (List.mem_of_getElem? (i := 5) rfl)
theorem cM_sumsUp_163 : zCode 238 163 = some (.goto 12, 166, 175, 0, 0, 0, 63) := cAM_sumsUp_5 _ (List.mem_of_getElem? (i := 6) rfl)
theorem cM_sumsUp_166 : zCode 238 166 = some (.aload_n 0, 167, 0, 0, 0, 0, 63) := cAM_sumsUp_5 _ (List.mem_of_getElem? (i := 7) rfl)
theorem cM_sumsUp_167 : zCode 238 167 = some (.getfield 51, 170, 12, 29, 2, 1238, 63) := cAM_sumsUp_5 _ (List.mem_of_getElem? (i := 8) rfl)
theorem cM_sumsUp_170 : zCode 238 170 = some (.iload_n 2, 171, 0, 0, 0, 0, 63) := cAM_sumsUp_5 _ (List.mem_of_getElem? (i := 9) rfl)
theorem cM_sumsUp_171 : zCode 238 171 = some (.baload, 172, 0, 0, 0, 0, 63) := cAM_sumsUp_5 _ (List.mem_of_getElem? (i := 10) rfl)
theorem cM_sumsUp_172 : zCode 238 172 = some (.ifCond .eq 9, 175, 181, 0, 0, 0, 63) := cAM_sumsUp_5 _ (List.mem_of_getElem? (i := 11) rfl)
theorem cM_sumsUp_175 : zCode 238 175 = some (.aload_n 0, 176, 0, 0, 0, 0, 63) := cAM_sumsUp_5 _ (List.mem_of_getElem? (i := 12) rfl)
theorem cM_sumsUp_176 : zCode 238 176 = some (.iconst 4, 177, 0, 0, 0, 0, 63) := cAM_sumsUp_5 _ (List.mem_of_getElem? (i := 13) rfl)
theorem cM_sumsUp_177 : zCode 238 177 = some (.iconst 2, 178, 0, 0, 0, 0, 63) := cAM_sumsUp_5 _ (List.mem_of_getElem? (i := 14) rfl)
theorem cM_sumsUp_178 : zCode 238 178 = some (.invokevirtual 358, 181, 160, 2, 9, 12, 63) := cAM_sumsUp_5 _ (List.mem_of_getElem? (i := 15) rfl)
theorem cM_sumsUp_181 : zCode 238 181 = some (.iinc 5 1, 184, 0, 0, 0, 0, 63) := cAM_sumsUp_6 _ (List.mem_of_getElem? (i := 0) rfl)
theorem cM_sumsUp_184 : zCode 238 184 = some (.goto (-122), 187, 62, 0, 0, 0, 63) := cAM_sumsUp_6 _ (List.mem_of_getElem? (i := 1) rfl)
theorem cM_sumsUp_187 : zCode 238 187 = some (.iinc 4 1, 190, 0, 0, 0, 0, 31) := cAM_sumsUp_6 _ (List.mem_of_getElem? (i := 2) rfl)
theorem cM_sumsUp_190 : zCode 238 190 = some (.goto (-173), 193, 17, 0, 0, 0, 31) := cAM_sumsUp_6 _ (List.mem_of_getElem? (i := 3) rfl)
theorem cM_sumsUp_193 : zCode 238 193 = some (.iload_n 3, 194, 0, 0, 0, 0, 8) := cAM_sumsUp_6 _ (List.mem_of_getElem? (i := 4) rfl)
theorem cM_sumsUp_194 : zCode 238 194 = some (.ireturn, 195, 0, 3, 0, 0, 0) := cAM_sumsUp_6 _ (List.mem_of_getElem? (i := 5) rfl)
theorem rM_sumsUp_0 {a0 : Nat} {a1 a2 : Int} {u3 u4 u5 u6 : zV} : zS 238 0 [zR a0, zI a1, zI a2, u3, u4, u5, u6] [] sh pp mm Q ↔ zS 238 1 [zR a0, zI a1, zI a2, zU, zU, zU, zU] [zR a0] sh pp mm Q := s_go cM_sumsUp_0 cM_sumsUp_1 rfl rfl
theorem rM_sumsUp_1 {a0 s0 : Nat} {a1 a2 : Int} {u3 u4 u5 u6 : zV} : zS 238 1 [zR a0, zI a1, zI a2, u3, u4, u5, u6] [zR s0] sh pp mm Q ↔ zS 238 2 [zR a0, zI a1, zI a2, zU, zU, zU, zU] [zI 3, zR s0] sh pp mm Q := s_go cM_sumsUp_1 cM_sumsUp_2 rfl rfl
theorem rM_sumsUp_2 {a0 s1 : Nat} {a1 a2 s0 : Int} {u3 u4 u5 u6 : zV} : zS 238 2 [zR a0, zI a1, zI a2, u3, u4, u5, u6] [zI s0, zR s1] sh pp mm Q ↔ zS 238 3 [zR a0, zI a1, zI a2, zU, zU, zU, zU] [zL 0, zI s0, zR s1] sh pp mm Q := s_go cM_sumsUp_2 cM_sumsUp_3 rfl rfl
theorem rM_sumsUp_3 {a0 s2 : Nat} {a1 a2 s0 s1 : Int} {u3 u4 u5 u6 : zV} (hk : zKd sh s2 = 12) : zS 238 3 [zR a0, zI a1, zI a2, u3, u4, u5, u6] [zL s0, zI s1, zR s2] sh pp mm Q ↔ zS 155 0 [zR s2, zI s1, zL s0, zU, zU, zU] [] sh pp mm (fun v sh pp mm => zS 238 6 [zR a0, zI a1, zI a2, zU, zU, zU, zU] (zPush v []) sh pp mm Q) := s_call cM_sumsUp_3 cM_sumsUp_6 ((if_pos hk).trans rfl) rfl
theorem rM_sumsUp_6 {a0 : Nat} {a1 a2 : Int} {u3 u4 u5 u6 : zV} : zS 238 6 [zR a0, zI a1, zI a2, u3, u4, u5, u6] [] sh pp mm Q ↔ zS 238 7 [zR a0, zI a1, zI a2, zU, zU, zU, zU] [zR a0] sh pp mm Q := s_go cM_sumsUp_6 cM_sumsUp_7 rfl rfl
theorem rM_sumsUp_7 {a0 s0 : Nat} {a1 a2 : Int} {u3 u4 u5 u6 : zV} : zS 238 7 [zR a0, zI a1, zI a2, u3, u4, u5, u6] [zR s0] sh pp mm Q ↔ zS 238 8 [zR a0, zI a1, zI a2, zU, zU, zU, zU] [zI 4, zR s0] sh pp mm Q := s_go cM_sumsUp_7 cM_sumsUp_8 rfl rfl
theorem rM_sumsUp_8 {a0 s1 : Nat} {a1 a2 s0 : Int} {u3 u4 u5 u6 : zV} : zS 238 8 [zR a0, zI a1, zI a2, u3, u4, u5, u6] [zI s0, zR s1] sh pp mm Q ↔ zS 238 9 [zR a0, zI a1, zI a2, zU, zU, zU, zU] [zL 0, zI s0, zR s1] sh pp mm Q := s_go cM_sumsUp_8 cM_sumsUp_9 rfl rfl
theorem rM_sumsUp_9 {a0 s2 : Nat} {a1 a2 s0 s1 : Int} {u3 u4 u5 u6 : zV} (hk : zKd sh s2 = 12) : zS 238 9 [zR a0, zI a1, zI a2, u3, u4, u5, u6] [zL s0, zI s1, zR s2] sh pp mm Q ↔ zS 155 0 [zR s2, zI s1, zL s0, zU, zU, zU] [] sh pp mm (fun v sh pp mm => zS 238 12 [zR a0, zI a1, zI a2, zU, zU, zU, zU] (zPush v []) sh pp mm Q) := s_call cM_sumsUp_9 cM_sumsUp_12 ((if_pos hk).trans rfl) rfl
theorem rM_sumsUp_12 {a0 : Nat} {a1 a2 : Int} {u3 u4 u5 u6 : zV} : zS 238 12 [zR a0, zI a1, zI a2, u3, u4, u5, u6] [] sh pp mm Q ↔ zS 238 13 [zR a0, zI a1, zI a2, zU, zU, zU, zU] [zI 0] sh pp mm Q := s_go cM_sumsUp_12 cM_sumsUp_13 rfl rfl
theorem rM_sumsUp_13 {a0 : Nat} {a1 a2 s0 : Int} {u3 u4 u5 u6 : zV} : zS 238 13 [zR a0, zI a1, zI a2, u3, u4, u5, u6] [zI s0] sh pp mm Q ↔ zS 238 14 [zR a0, zI a1, zI a2, zI s0, zU, zU, zU] [] sh pp mm Q := s_go cM_sumsUp_13 cM_sumsUp_14 rfl rfl
theorem rM_sumsUp_14 {a0 : Nat} {a1 a2 a3 : Int} {u4 u5 u6 : zV} : zS 238 14 [zR a0, zI a1, zI a2, zI a3, u4, u5, u6] [] sh pp mm Q ↔ zS 238 15 [zR a0, zI a1, zI a2, zI a3, zU, zU, zU] [zI 0] sh pp mm Q := s_go cM_sumsUp_14 cM_sumsUp_15 rfl rfl
theorem rM_sumsUp_15 {a0 : Nat} {a1 a2 a3 s0 : Int} {u4 u5 u6 : zV} : zS 238 15 [zR a0, zI a1, zI a2, zI a3, u4, u5, u6] [zI s0] sh pp mm Q ↔ zS 238 17 [zR a0, zI a1, zI a2, zI a3, zI s0, zU, zU] [] sh pp mm Q := s_go cM_sumsUp_15 cM_sumsUp_17 rfl rfl
theorem rM_sumsUp_17 {a0 : Nat} {a1 a2 a3 a4 : Int} {u5 u6 : zV} : zS 238 17 [zR a0, zI a1, zI a2, zI a3, zI a4, u5, u6] [] sh pp mm Q ↔ zS 238 19 [zR a0, zI a1, zI a2, zI a3, zI a4, zU, zU] [zI a4] sh pp mm Q := s_go cM_sumsUp_17 cM_sumsUp_19 rfl rfl
theorem rM_sumsUp_19 {a0 : Nat} {a1 a2 a3 a4 s0 : Int} {u5 u6 : zV} : zS 238 19 [zR a0, zI a1, zI a2, zI a3, zI a4, u5, u6] [zI s0] sh pp mm Q ↔ zS 238 20 [zR a0, zI a1, zI a2, zI a3, zI a4, zU, zU] [zI 4, zI s0] sh pp mm Q := s_go cM_sumsUp_19 cM_sumsUp_20 rfl rfl
theorem rM_sumsUp_20 {a0 : Nat} {a1 a2 a3 a4 s0 s1 : Int} {u5 u6 : zV} : zS 238 20 [zR a0, zI a1, zI a2, zI a3, zI a4, u5, u6] [zI s0, zI s1] sh pp mm Q ↔ (s1 < s0 → zS 238 23 [zR a0, zI a1, zI a2, zI a3, zI a4, zU, zU] [] sh pp mm Q) ∧ (¬ s1 < s0 → zS 238 193 [zU, zU, zU, zI a3, zU, zU, zU] [] sh pp mm Q) := s_ifn cM_sumsUp_20 cM_sumsUp_23 cM_sumsUp_193 rfl rfl rfl
theorem rM_sumsUp_23 {a0 : Nat} {a1 a2 a3 a4 : Int} {u5 u6 : zV} : zS 238 23 [zR a0, zI a1, zI a2, zI a3, zI a4, u5, u6] [] sh pp mm Q ↔ zS 238 24 [zR a0, zI a1, zI a2, zI a3, zI a4, zU, zU] [zR a0] sh pp mm Q := s_go cM_sumsUp_23 cM_sumsUp_24 rfl rfl
theorem rM_sumsUp_24 {a0 s0 : Nat} {a1 a2 a3 a4 : Int} {u5 u6 : zV} : zS 238 24 [zR a0, zI a1, zI a2, zI a3, zI a4, u5, u6] [zR s0] sh pp mm Q ↔ zS 238 26 [zR a0, zI a1, zI a2, zI a3, zI a4, zU, zU] [zI a4, zR s0] sh pp mm Q := s_go cM_sumsUp_24 cM_sumsUp_26 rfl rfl
theorem rM_sumsUp_26 {a0 s1 : Nat} {a1 a2 a3 a4 s0 : Int} {u5 u6 : zV} (hk : zKd sh s1 = 12) : zS 238 26 [zR a0, zI a1, zI a2, zI a3, zI a4, u5, u6] [zI s0, zR s1] sh pp mm Q ↔ zS 186 0 [zR s1, zI s0, zU, zU] [] sh pp mm (fun v sh pp mm => zS 238 29 [zR a0, zI a1, zI a2, zI a3, zI a4, zU, zU] (zPush v []) sh pp mm Q) := s_call cM_sumsUp_26 cM_sumsUp_29 ((if_pos hk).trans rfl) rfl
theorem rM_sumsUp_29 {a0 : Nat} {a1 a2 a3 a4 s0 : Int} {u5 u6 : zV} : zS 238 29 [zR a0, zI a1, zI a2, zI a3, zI a4, u5, u6] [zI s0] sh pp mm Q ↔ (s0 = 0 → zS 238 187 [zR a0, zI a1, zI a2, zI a3, zI a4, zU, zU] [] sh pp mm Q) ∧ (¬ s0 = 0 → zS 238 32 [zR a0, zI a1, zI a2, zI a3, zI a4, zU, zU] [] sh pp mm Q) := s_if cM_sumsUp_29 cM_sumsUp_187 cM_sumsUp_32 rfl rfl rfl
theorem rM_sumsUp_32 {a0 : Nat} {a1 a2 a3 a4 : Int} {u5 u6 : zV} : zS 238 32 [zR a0, zI a1, zI a2, zI a3, zI a4, u5, u6] [] sh pp mm Q ↔ zS 238 33 [zR a0, zI a1, zI a2, zI a3, zI a4, zU, zU] [zR a0] sh pp mm Q := s_go cM_sumsUp_32 cM_sumsUp_33 rfl rfl
theorem rM_sumsUp_33 {a0 s0 : Nat} {a1 a2 a3 a4 : Int} {u5 u6 : zV} : zS 238 33 [zR a0, zI a1, zI a2, zI a3, zI a4, u5, u6] [zR s0] sh pp mm Q ↔ zS 238 35 [zR a0, zI a1, zI a2, zI a3, zI a4, zU, zU] [zI a4, zR s0] sh pp mm Q := s_go cM_sumsUp_33 cM_sumsUp_35 rfl rfl
theorem rM_sumsUp_35 {a0 s1 : Nat} {a1 a2 a3 a4 s0 : Int} {u5 u6 : zV} (hk : zKd sh s1 = 12) : zS 238 35 [zR a0, zI a1, zI a2, zI a3, zI a4, u5, u6] [zI s0, zR s1] sh pp mm Q ↔ zS 196 0 [zR s1, zI s0, zU, zU, zU] [] sh pp mm (fun v sh pp mm => zS 238 38 [zR a0, zI a1, zI a2, zI a3, zI a4, zU, zU] (zPush v []) sh pp mm Q) := s_call cM_sumsUp_35 cM_sumsUp_38 ((if_pos hk).trans rfl) rfl
theorem rM_sumsUp_38 {a0 : Nat} {a1 a2 a3 a4 : Int} {u5 u6 : zV} : zS 238 38 [zR a0, zI a1, zI a2, zI a3, zI a4, u5, u6] [] sh pp mm Q ↔ zS 238 39 [zR a0, zI a1, zI a2, zU, zI a4, zU, zU] [zI a3] sh pp mm Q := s_go cM_sumsUp_38 cM_sumsUp_39 rfl rfl
theorem rM_sumsUp_39 {a0 : Nat} {a1 a2 a4 s0 : Int} {u3 u5 u6 : zV} : zS 238 39 [zR a0, zI a1, zI a2, u3, zI a4, u5, u6] [zI s0] sh pp mm Q ↔ (s0 = 0 → zS 238 42 [zR a0, zI a1, zI a2, zU, zI a4, zU, zU] [] sh pp mm Q) ∧ (¬ s0 = 0 → zS 238 49 [zR a0, zI a1, zI a2, zU, zI a4, zU, zU] [] sh pp mm Q) := s_ifn cM_sumsUp_39 cM_sumsUp_42 cM_sumsUp_49 rfl rfl rfl
theorem rM_sumsUp_42 {a0 : Nat} {a1 a2 a4 : Int} {u3 u5 u6 : zV} : zS 238 42 [zR a0, zI a1, zI a2, u3, zI a4, u5, u6] [] sh pp mm Q ↔ zS 238 43 [zR a0, zI a1, zI a2, zU, zI a4, zU, zU] [zR a0] sh pp mm Q := s_go cM_sumsUp_42 cM_sumsUp_43 rfl rfl
theorem rM_sumsUp_43 {a0 s0 : Nat} {a1 a2 a4 : Int} {u3 u5 u6 : zV} (hk : zKd sh s0 = 12) : zS 238 43 [zR a0, zI a1, zI a2, u3, zI a4, u5, u6] [zR s0] sh pp mm Q ↔ zS 238 46 [zR a0, zI a1, zI a2, zU, zI a4, zU, zU] [zI (mm s0 26)] sh pp mm Q := s_go cM_sumsUp_43 cM_sumsUp_46 (if_pos hk) rfl
theorem rM_sumsUp_46 {a0 : Nat} {a1 a2 a4 s0 : Int} {u3 u5 u6 : zV} : zS 238 46 [zR a0, zI a1, zI a2, u3, zI a4, u5, u6] [zI s0] sh pp mm Q ↔ (s0 = 0 → zS 238 49 [zR a0, zI a1, zI a2, zU, zI a4, zU, zU] [] sh pp mm Q) ∧ (¬ s0 = 0 → zS 238 53 [zR a0, zI a1, zI a2, zU, zI a4, zU, zU] [] sh pp mm Q) := s_ifn cM_sumsUp_46 cM_sumsUp_49 cM_sumsUp_53 rfl rfl rfl
theorem rM_sumsUp_49 {a0 : Nat} {a1 a2 a4 : Int} {u3 u5 u6 : zV} : zS 238 49 [zR a0, zI a1, zI a2, u3, zI a4, u5, u6] [] sh pp mm Q ↔ zS 238 50 [zR a0, zI a1, zI a2, zU, zI a4, zU, zU] [zI 1] sh pp mm Q := s_go cM_sumsUp_49 cM_sumsUp_50 rfl rfl
theorem rM_sumsUp_50 {a0 : Nat} {a1 a2 a4 s0 : Int} {u3 u5 u6 : zV} : zS 238 50 [zR a0, zI a1, zI a2, u3, zI a4, u5, u6] [zI s0] sh pp mm Q ↔ zS 238 54 [zR a0, zI a1, zI a2, zU, zI a4, zU, zU] [zI s0] sh pp mm Q := s_go cM_sumsUp_50 cM_sumsUp_54 rfl rfl
theorem rM_sumsUp_53 {a0 : Nat} {a1 a2 a4 : Int} {u3 u5 u6 : zV} : zS 238 53 [zR a0, zI a1, zI a2, u3, zI a4, u5, u6] [] sh pp mm Q ↔ zS 238 54 [zR a0, zI a1, zI a2, zU, zI a4, zU, zU] [zI 0] sh pp mm Q := s_go cM_sumsUp_53 cM_sumsUp_54 rfl rfl
theorem rM_sumsUp_54 {a0 : Nat} {a1 a2 a4 s0 : Int} {u3 u5 u6 : zV} : zS 238 54 [zR a0, zI a1, zI a2, u3, zI a4, u5, u6] [zI s0] sh pp mm Q ↔ zS 238 55 [zR a0, zI a1, zI a2, zI s0, zI a4, zU, zU] [] sh pp mm Q := s_go cM_sumsUp_54 cM_sumsUp_55 rfl rfl
theorem rM_sumsUp_55 {a0 : Nat} {a1 a2 a3 a4 : Int} {u5 u6 : zV} : zS 238 55 [zR a0, zI a1, zI a2, zI a3, zI a4, u5, u6] [] sh pp mm Q ↔ zS 238 56 [zR a0, zI a1, zI a2, zI a3, zI a4, zU, zU] [zR a0] sh pp mm Q := s_go cM_sumsUp_55 cM_sumsUp_56 rfl rfl
theorem rM_sumsUp_56 {a0 s0 : Nat} {a1 a2 a3 a4 : Int} {u5 u6 : zV} (hk : zKd sh s0 = 12) : zS 238 56 [zR a0, zI a1, zI a2, zI a3, zI a4, u5, u6] [zR s0] sh pp mm Q ↔ zS 201 0 [zR s0, zU] [] sh pp mm (fun v sh pp mm => zS 238 59 [zR a0, zI a1, zI a2, zI a3, zI a4, zU, zU] (zPush v []) sh pp mm Q) := s_call cM_sumsUp_56 cM_sumsUp_59 ((if_pos hk).trans rfl) rfl
theorem rM_sumsUp_59 {a0 : Nat} {a1 a2 a3 a4 : Int} {u5 u6 : zV} : zS 238 59 [zR a0, zI a1, zI a2, zI a3, zI a4, u5, u6] [] sh pp mm Q ↔ zS 238 60 [zR a0, zI a1, zI a2, zI a3, zI a4, zU, zU] [zI (-1)] sh pp mm Q := s_go cM_sumsUp_59 cM_sumsUp_60 rfl rfl
theorem rM_sumsUp_60 {a0 : Nat} {a1 a2 a3 a4 s0 : Int} {u5 u6 : zV} : zS 238 60 [zR a0, zI a1, zI a2, zI a3, zI a4, u5, u6] [zI s0] sh pp mm Q ↔ zS 238 62 [zR a0, zI a1, zI a2, zI a3, zI a4, zI s0, zU] [] sh pp mm Q := s_go cM_sumsUp_60 cM_sumsUp_62 rfl rfl
theorem rM_sumsUp_62 {a0 : Nat} {a1 a2 a3 a4 a5 : Int} {u6 : zV} : zS 238 62 [zR a0, zI a1, zI a2, zI a3, zI a4, zI a5, u6] [] sh pp mm Q ↔ zS 238 64 [zR a0, zI a1, zI a2, zI a3, zI a4, zI a5, zU] [zI a5] sh pp mm Q := s_go cM_sumsUp_62 cM_sumsUp_64 rfl rfl
theorem rM_sumsUp_64 {a0 : Nat} {a1 a2 a3 a4 a5 s0 : Int} {u6 : zV} : zS 238 64 [zR a0, zI a1, zI a2, zI a3, zI a4, zI a5, u6] [zI s0] sh pp mm Q ↔ zS 238 65 [zR a0, zI a1, zI a2, zI a3, zI a4, zI a5, zU] [zI 3, zI s0] sh pp mm Q := s_go cM_sumsUp_64 cM_sumsUp_65 rfl rfl
theorem rM_sumsUp_65 {a0 : Nat} {a1 a2 a3 a4 a5 s0 s1 : Int} {u6 : zV} : zS 238 65 [zR a0, zI a1, zI a2, zI a3, zI a4, zI a5, u6] [zI s0, zI s1] sh pp mm Q ↔ (s1 < s0 → zS 238 68 [zR a0, zI a1, zI a2, zI a3, zI a4, zI a5, zU] [] sh pp mm Q) ∧ (¬ s1 < s0 → zS 238 187 [zR a0, zI a1, zI a2, zI a3, zI a4, zU, zU] [] sh pp mm Q) := s_ifn cM_sumsUp_65 cM_sumsUp_68 cM_sumsUp_187 rfl rfl rfl
theorem rM_sumsUp_68 {a0 : Nat} {a1 a2 a3 a4 a5 : Int} {u6 : zV} : zS 238 68 [zR a0, zI a1, zI a2, zI a3, zI a4, zI a5, u6] [] sh pp mm Q ↔ zS 238 69 [zR a0, zI a1, zI a2, zI a3, zI a4, zI a5, zU] [zR a0] sh pp mm Q := s_go cM_sumsUp_68 cM_sumsUp_69 rfl rfl
theorem rM_sumsUp_69 {a0 s0 : Nat} {a1 a2 a3 a4 a5 : Int} {u6 : zV} (hk : zKd sh s0 = 12) : zS 238 69 [zR a0, zI a1, zI a2, zI a3, zI a4, zI a5, u6] [zR s0] sh pp mm Q ↔ zS 238 72 [zR a0, zI a1, zI a2, zI a3, zI a4, zI a5, zU] [zI (mm s0 26)] sh pp mm Q := s_go cM_sumsUp_69 cM_sumsUp_72 (if_pos hk) rfl
theorem rM_sumsUp_72 {a0 : Nat} {a1 a2 a3 a4 a5 s0 : Int} {u6 : zV} : zS 238 72 [zR a0, zI a1, zI a2, zI a3, zI a4, zI a5, u6] [zI s0] sh pp mm Q ↔ (s0 = 0 → zS 238 75 [zR a0, zI a1, zI a2, zI a3, zI a4, zI a5, zU] [] sh pp mm Q) ∧ (¬ s0 = 0 → zS 238 187 [zR a0, zI a1, zI a2, zI a3, zI a4, zU, zU] [] sh pp mm Q) := s_ifn cM_sumsUp_72 cM_sumsUp_75 cM_sumsUp_187 rfl rfl rfl
theorem rM_sumsUp_75 {a0 : Nat} {a1 a2 a3 a4 a5 : Int} {u6 : zV} : zS 238 75 [zR a0, zI a1, zI a2, zI a3, zI a4, zI a5, u6] [] sh pp mm Q ↔ zS 238 76 [zR a0, zI a1, zI a2, zI a3, zI a4, zI a5, zU] [zI 0] sh pp mm Q := s_go cM_sumsUp_75 cM_sumsUp_76 rfl rfl
theorem rM_sumsUp_76 {a0 : Nat} {a1 a2 a3 a4 a5 s0 : Int} {u6 : zV} : zS 238 76 [zR a0, zI a1, zI a2, zI a3, zI a4, zI a5, u6] [zI s0] sh pp mm Q ↔ zS 238 78 [zR a0, zI a1, zI a2, zI a3, zI a4, zI a5, zI s0] [] sh pp mm Q := s_go cM_sumsUp_76 cM_sumsUp_78 rfl rfl
theorem rM_sumsUp_78 {a0 : Nat} {a1 a2 a3 a4 a5 a6 : Int} : zS 238 78 [zR a0, zI a1, zI a2, zI a3, zI a4, zI a5, zI a6] [] sh pp mm Q ↔ zS 238 80 [zR a0, zI a1, zI a2, zI a3, zI a4, zI a5, zI a6] [zI a6] sh pp mm Q := s_go cM_sumsUp_78 cM_sumsUp_80 rfl rfl
theorem rM_sumsUp_80 {a0 : Nat} {a1 a2 a3 a4 a5 a6 s0 : Int} : zS 238 80 [zR a0, zI a1, zI a2, zI a3, zI a4, zI a5, zI a6] [zI s0] sh pp mm Q ↔ zS 238 83 [zR a0, zI a1, zI a2, zI a3, zI a4, zI a5, zI a6] [zI 384, zI s0] sh pp mm Q := s_go cM_sumsUp_80 cM_sumsUp_83 rfl rfl
theorem rM_sumsUp_83 {a0 : Nat} {a1 a2 a3 a4 a5 a6 s0 s1 : Int} : zS 238 83 [zR a0, zI a1, zI a2, zI a3, zI a4, zI a5, zI a6] [zI s0, zI s1] sh pp mm Q ↔ (s1 < s0 → zS 238 86 [zR a0, zI a1, zI a2, zI a3, zI a4, zI a5, zI a6] [] sh pp mm Q) ∧ (¬ s1 < s0 → zS 238 106 [zR a0, zI a1, zI a2, zI a3, zI a4, zI a5, zU] [] sh pp mm Q) := s_ifn cM_sumsUp_83 cM_sumsUp_86 cM_sumsUp_106 rfl rfl rfl
theorem rM_sumsUp_86 {a0 : Nat} {a1 a2 a3 a4 a5 a6 : Int} : zS 238 86 [zR a0, zI a1, zI a2, zI a3, zI a4, zI a5, zI a6] [] sh pp mm Q ↔ zS 238 87 [zR a0, zI a1, zI a2, zI a3, zI a4, zI a5, zI a6] [zR a0] sh pp mm Q := s_go cM_sumsUp_86 cM_sumsUp_87 rfl rfl
theorem rM_sumsUp_87 {a0 s0 : Nat} {a1 a2 a3 a4 a5 a6 : Int} (hk : zKd sh s0 = 12) : zS 238 87 [zR a0, zI a1, zI a2, zI a3, zI a4, zI a5, zI a6] [zR s0] sh pp mm Q ↔ zS 238 90 [zR a0, zI a1, zI a2, zI a3, zI a4, zI a5, zI a6] [zR (pp s0 18)] sh pp mm Q := s_go cM_sumsUp_87 cM_sumsUp_90 (if_pos hk) rfl
theorem rM_sumsUp_90 {a0 s0 : Nat} {a1 a2 a3 a4 a5 a6 : Int} : zS 238 90 [zR a0, zI a1, zI a2, zI a3, zI a4, zI a5, zI a6] [zR s0] sh pp mm Q ↔ zS 238 92 [zR a0, zI a1, zI a2, zI a3, zI a4, zI a5, zI a6] [zI a6, zR s0] sh pp mm Q := s_go cM_sumsUp_90 cM_sumsUp_92 rfl rfl
theorem rM_sumsUp_92 {a0 s1 : Nat} {a1 a2 a3 a4 a5 a6 s0 : Int} : zS 238 92 [zR a0, zI a1, zI a2, zI a3, zI a4, zI a5, zI a6] [zI s0, zR s1] sh pp mm Q ↔ zS 238 93 [zR a0, zI a1, zI a2, zI a3, zI a4, zI a5, zI a6] [zR a0, zI s0, zR s1] sh pp mm Q := s_go cM_sumsUp_92 cM_sumsUp_93 rfl rfl
theorem rM_sumsUp_93 {a0 s0 s2 : Nat} {a1 a2 a3 a4 a5 a6 s1 : Int} (hk : zKd sh s0 = 12) : zS 238 93 [zR a0, zI a1, zI a2, zI a3, zI a4, zI a5, zI a6] [zR s0, zI s1, zR s2] sh pp mm Q ↔ zS 238 96 [zR a0, zI a1, zI a2, zI a3, zI a4, zI a5, zI a6] [zR (pp s0 29), zI s1, zR s2] sh pp mm Q := s_go cM_sumsUp_93 cM_sumsUp_96 (if_pos hk) rfl
theorem rM_sumsUp_96 {a0 s0 s2 : Nat} {a1 a2 a3 a4 a5 a6 s1 : Int} : zS 238 96 [zR a0, zI a1, zI a2, zI a3, zI a4, zI a5, zI a6] [zR s0, zI s1, zR s2] sh pp mm Q ↔ zS 238 98 [zR a0, zI a1, zI a2, zI a3, zI a4, zI a5, zI a6] [zI a6, zR s0, zI s1, zR s2] sh pp mm Q := s_go cM_sumsUp_96 cM_sumsUp_98 rfl rfl
theorem rM_sumsUp_98 {a0 s1 s3 : Nat} {a1 a2 a3 a4 a5 a6 s0 s2 : Int} (hk : zKd sh s1 = 22 ∨ zKd sh s1 = 32) (h0 : 0 ≤ s0) (h1 : s0 < zLn sh s1) : zS 238 98 [zR a0, zI a1, zI a2, zI a3, zI a4, zI a5, zI a6] [zI s0, zR s1, zI s2, zR s3] sh pp mm Q ↔ zS 238 99 [zR a0, zI a1, zI a2, zI a3, zI a4, zI a5, zI a6] [zI (mm s1 s0), zI s2, zR s3] sh pp mm Q := s_go cM_sumsUp_98 cM_sumsUp_99 (if_pos ⟨hk, h0, h1⟩) rfl
theorem rM_sumsUp_99 {a0 s2 : Nat} {a1 a2 a3 a4 a5 a6 s0 s1 : Int} (hk : zKd sh s2 = 22) (h0 : 0 ≤ s1) (h1 : s1 < zLn sh s2) (hb : s0 = 0 ∨ s0 = 1) : zS 238 99 [zR a0, zI a1, zI a2, zI a3, zI a4, zI a5, zI a6] [zI s0, zI s1, zR s2] sh pp mm Q ↔ zS 238 100 [zR a0, zI a1, zI a2, zI a3, zI a4, zI a5, zI a6] [] sh pp (zupd mm s2 s1 s0) Q := s_go cM_sumsUp_99 cM_sumsUp_100 (if_pos ⟨hk, h0, h1, fun _ => hb⟩) rfl
theorem rM_sumsUp_100 {a0 : Nat} {a1 a2 a3 a4 a5 a6 : Int} : zS 238 100 [zR a0, zI a1, zI a2, zI a3, zI a4, zI a5, zI a6] [] sh pp mm Q ↔ zS 238 103 [zR a0, zI a1, zI a2, zI a3, zI a4, zI a5, zI (zw32 (a6 + 1))] [] sh pp mm Q := s_go cM_sumsUp_100 cM_sumsUp_103 rfl rfl
theorem rM_sumsUp_103 {a0 : Nat} {a1 a2 a3 a4 a5 a6 : Int} : zS 238 103 [zR a0, zI a1, zI a2, zI a3, zI a4, zI a5, zI a6] [] sh pp mm Q ↔ zS 238 78 [zR a0, zI a1, zI a2, zI a3, zI a4, zI a5, zI a6] [] sh pp mm Q := s_go cM_sumsUp_103 cM_sumsUp_78 rfl rfl
theorem rM_sumsUp_106 {a0 : Nat} {a1 a2 a3 a4 a5 : Int} {u6 : zV} : zS 238 106 [zR a0, zI a1, zI a2, zI a3, zI a4, zI a5, u6] [] sh pp mm Q ↔ zS 238 108 [zR a0, zI a1, zI a2, zI a3, zI a4, zI a5, zU] [zI a5] sh pp mm Q := s_go cM_sumsUp_106 cM_sumsUp_108 rfl rfl
theorem rM_sumsUp_108 {a0 : Nat} {a1 a2 a3 a4 a5 s0 : Int} {u6 : zV} : zS 238 108 [zR a0, zI a1, zI a2, zI a3, zI a4, zI a5, u6] [zI s0] sh pp mm Q ↔ zS 238 109 [zR a0, zI a1, zI a2, zI a3, zI a4, zI a5, zU] [zI (-1), zI s0] sh pp mm Q := s_go cM_sumsUp_108 cM_sumsUp_109 rfl rfl
theorem rM_sumsUp_109 {a0 : Nat} {a1 a2 a3 a4 a5 s0 s1 : Int} {u6 : zV} : zS 238 109 [zR a0, zI a1, zI a2, zI a3, zI a4, zI a5, u6] [zI s0, zI s1] sh pp mm Q ↔ (s1 = s0 → zS 238 118 [zR a0, zI a1, zI a2, zI a3, zI a4, zI a5, zU] [] sh pp mm Q) ∧ (¬ s1 = s0 → zS 238 112 [zR a0, zI a1, zI a2, zI a3, zI a4, zI a5, zU] [] sh pp mm Q) := s_if cM_sumsUp_109 cM_sumsUp_118 cM_sumsUp_112 rfl rfl rfl
theorem rM_sumsUp_112 {a0 : Nat} {a1 a2 a3 a4 a5 : Int} {u6 : zV} : zS 238 112 [zR a0, zI a1, zI a2, zI a3, zI a4, zI a5, u6] [] sh pp mm Q ↔ zS 238 113 [zR a0, zI a1, zI a2, zI a3, zI a4, zI a5, zU] [zR a0] sh pp mm Q := s_go cM_sumsUp_112 cM_sumsUp_113 rfl rfl
theorem rM_sumsUp_113 {a0 s0 : Nat} {a1 a2 a3 a4 a5 : Int} {u6 : zV} : zS 238 113 [zR a0, zI a1, zI a2, zI a3, zI a4, zI a5, u6] [zR s0] sh pp mm Q ↔ zS 238 115 [zR a0, zI a1, zI a2, zI a3, zI a4, zI a5, zU] [zI a5, zR s0] sh pp mm Q := s_go cM_sumsUp_113 cM_sumsUp_115 rfl rfl
theorem rM_sumsUp_115 {a0 s1 : Nat} {a1 a2 a3 a4 a5 s0 : Int} {u6 : zV} (hk : zKd sh s1 = 12) : zS 238 115 [zR a0, zI a1, zI a2, zI a3, zI a4, zI a5, u6] [zI s0, zR s1] sh pp mm Q ↔ zS 194 0 [zR s1, zI s0, zU, zU, zU] [] sh pp mm (fun v sh pp mm => zS 238 118 [zR a0, zI a1, zI a2, zI a3, zI a4, zI a5, zU] (zPush v []) sh pp mm Q) := s_call cM_sumsUp_115 cM_sumsUp_118 ((if_pos hk).trans rfl) rfl
theorem rM_sumsUp_118 {a0 : Nat} {a1 a2 a3 a4 a5 : Int} {u6 : zV} : zS 238 118 [zR a0, zI a1, zI a2, zI a3, zI a4, zI a5, u6] [] sh pp mm Q ↔ zS 238 119 [zR a0, zI a1, zI a2, zI a3, zI a4, zI a5, zU] [zR a0] sh pp mm Q := s_go cM_sumsUp_118 cM_sumsUp_119 rfl rfl
theorem rM_sumsUp_119 {a0 s0 : Nat} {a1 a2 a3 a4 a5 : Int} {u6 : zV} : zS 238 119 [zR a0, zI a1, zI a2, zI a3, zI a4, zI a5, u6] [zR s0] sh pp mm Q ↔ zS 238 121 [zR a0, zI a1, zI a2, zI a3, zI a4, zI a5, zU] [zI a5, zR s0] sh pp mm Q := s_go cM_sumsUp_119 cM_sumsUp_121 rfl rfl
theorem rM_sumsUp_121 {a0 s1 : Nat} {a1 a2 a3 a4 a5 s0 : Int} {u6 : zV} : zS 238 121 [zR a0, zI a1, zI a2, zI a3, zI a4, zI a5, u6] [zI s0, zR s1] sh pp mm Q ↔ zS 238 122 [zR a0, zI a1, zI a2, zI a3, zI a4, zI a5, zU] [zI (-1), zI s0, zR s1] sh pp mm Q := s_go cM_sumsUp_121 cM_sumsUp_122 rfl rfl
theorem rM_sumsUp_122 {a0 s2 : Nat} {a1 a2 a3 a4 a5 s0 s1 : Int} {u6 : zV} : zS 238 122 [zR a0, zI a1, zI a2, zI a3, zI a4, zI a5, u6] [zI s0, zI s1, zR s2] sh pp mm Q ↔ (s1 = s0 → zS 238 125 [zR a0, zI a1, zI a2, zI a3, zI a4, zI a5, zU] [zR s2] sh pp mm Q) ∧ (¬ s1 = s0 → zS 238 129 [zR a0, zI a1, zI a2, zI a3, zI a4, zI a5, zU] [zR s2] sh pp mm Q) := s_ifn cM_sumsUp_122 cM_sumsUp_125 cM_sumsUp_129 rfl rfl rfl
theorem rM_sumsUp_125 {a0 s0 : Nat} {a1 a2 a3 a4 a5 : Int} {u6 : zV} : zS 238 125 [zR a0, zI a1, zI a2, zI a3, zI a4, zI a5, u6] [zR s0] sh pp mm Q ↔ zS 238 126 [zR a0, zI a1, zI a2, zI a3, zI a4, zI a5, zU] [zI 3, zR s0] sh pp mm Q := s_go cM_sumsUp_125 cM_sumsUp_126 rfl rfl
theorem rM_sumsUp_126 {a0 s1 : Nat} {a1 a2 a3 a4 a5 s0 : Int} {u6 : zV} : zS 238 126 [zR a0, zI a1, zI a2, zI a3, zI a4, zI a5, u6] [zI s0, zR s1] sh pp mm Q ↔ zS 238 130 [zR a0, zI a1, zI a2, zI a3, zI a4, zI a5, zU] [zI s0, zR s1] sh pp mm Q := s_go cM_sumsUp_126 cM_sumsUp_130 rfl rfl
theorem rM_sumsUp_129 {a0 s0 : Nat} {a1 a2 a3 a4 a5 : Int} {u6 : zV} : zS 238 129 [zR a0, zI a1, zI a2, zI a3, zI a4, zI a5, u6] [zR s0] sh pp mm Q ↔ zS 238 130 [zR a0, zI a1, zI a2, zI a3, zI a4, zI a5, zU] [zI 1, zR s0] sh pp mm Q := s_go cM_sumsUp_129 cM_sumsUp_130 rfl rfl
theorem rM_sumsUp_130 {a0 s1 : Nat} {a1 a2 a3 a4 a5 s0 : Int} {u6 : zV} (hk : zKd sh s1 = 12) : zS 238 130 [zR a0, zI a1, zI a2, zI a3, zI a4, zI a5, u6] [zI s0, zR s1] sh pp mm Q ↔ zS 237 0 [zR s1, zI s0, zU, zU] [] sh pp mm (fun v sh pp mm => zS 238 133 [zR a0, zI a1, zI a2, zI a3, zI a4, zI a5, zU] (zPush v []) sh pp mm Q) := s_call cM_sumsUp_130 cM_sumsUp_133 ((if_pos hk).trans rfl) rfl
theorem rM_sumsUp_133 {a0 : Nat} {a1 a2 a3 a4 a5 : Int} {u6 : zV} : zS 238 133 [zR a0, zI a1, zI a2, zI a3, zI a4, zI a5, u6] [] sh pp mm Q ↔ zS 238 134 [zR a0, zI a1, zI a2, zI a3, zI a4, zI a5, zU] [zR a0] sh pp mm Q := s_go cM_sumsUp_133 cM_sumsUp_134 rfl rfl
theorem rM_sumsUp_134 {a0 s0 : Nat} {a1 a2 a3 a4 a5 : Int} {u6 : zV} : zS 238 134 [zR a0, zI a1, zI a2, zI a3, zI a4, zI a5, u6] [zR s0] sh pp mm Q ↔ zS 238 135 [zR a0, zI a1, zI a2, zI a3, zI a4, zI a5, zU] [zI 3, zR s0] sh pp mm Q := s_go cM_sumsUp_134 cM_sumsUp_135 rfl rfl
theorem rM_sumsUp_135 {a0 s1 : Nat} {a1 a2 a3 a4 a5 s0 : Int} {u6 : zV} : zS 238 135 [zR a0, zI a1, zI a2, zI a3, zI a4, zI a5, u6] [zI s0, zR s1] sh pp mm Q ↔ zS 238 136 [zR a0, zI a1, zI a2, zI a3, zI a4, zI a5, zU] [zI 2, zI s0, zR s1] sh pp mm Q := s_go cM_sumsUp_135 cM_sumsUp_136 rfl rfl
theorem rM_sumsUp_136 {a0 s2 : Nat} {a1 a2 a3 a4 a5 s0 s1 : Int} {u6 : zV} (hk : zKd sh s2 = 12) : zS 238 136 [zR a0, zI a1, zI a2, zI a3, zI a4, zI a5, u6] [zI s0, zI s1, zR s2] sh pp mm Q ↔ zS 160 0 [zR s2, zI s1, zI s0, zU, zU, zU, zU, zU, zU] [] sh pp mm (fun v sh pp mm => zS 238 139 [zR a0, zI a1, zI a2, zI a3, zI a4, zI a5, zU] (zPush v []) sh pp mm Q) := s_call cM_sumsUp_136 cM_sumsUp_139 ((if_pos hk).trans rfl) rfl
theorem rM_sumsUp_139 {a0 : Nat} {a1 a2 a3 a4 a5 : Int} {u6 : zV} : zS 238 139 [zR a0, zI a1, zI a2, zI a3, zI a4, zI a5, u6] [] sh pp mm Q ↔ zS 238 140 [zR a0, zI a1, zI a2, zI a3, zI a4, zI a5, zU] [zI a1] sh pp mm Q := s_go cM_sumsUp_139 cM_sumsUp_140 rfl rfl
theorem rM_sumsUp_140 {a0 : Nat} {a1 a2 a3 a4 a5 s0 : Int} {u6 : zV} : zS 238 140 [zR a0, zI a1, zI a2, zI a3, zI a4, zI a5, u6] [zI s0] sh pp mm Q ↔ (s0 = 0 → zS 238 143 [zR a0, zI a1, zI a2, zI a3, zI a4, zI a5, zU] [] sh pp mm Q) ∧ (¬ s0 = 0 → zS 238 152 [zR a0, zI a1, zI a2, zI a3, zI a4, zI a5, zU] [] sh pp mm Q) := s_ifn cM_sumsUp_140 cM_sumsUp_143 cM_sumsUp_152 rfl rfl rfl
theorem rM_sumsUp_143 {a0 : Nat} {a1 a2 a3 a4 a5 : Int} {u6 : zV} : zS 238 143 [zR a0, zI a1, zI a2, zI a3, zI a4, zI a5, u6] [] sh pp mm Q ↔ zS 238 145 [zR a0, zI a1, zI a2, zI a3, zI a4, zI a5, zU] [zI a4] sh pp mm Q := s_go cM_sumsUp_143 cM_sumsUp_145 rfl rfl
theorem rM_sumsUp_145 {a0 : Nat} {a1 a2 a3 a4 a5 s0 : Int} {u6 : zV} : zS 238 145 [zR a0, zI a1, zI a2, zI a3, zI a4, zI a5, u6] [zI s0] sh pp mm Q ↔ zS 238 146 [zR a0, zI a1, zI a2, zI a3, zI a4, zI a5, zU] [zI a2, zI s0] sh pp mm Q := s_go cM_sumsUp_145 cM_sumsUp_146 rfl rfl
theorem rM_sumsUp_146 {a0 : Nat} {a1 a2 a3 a4 a5 s0 s1 : Int} {u6 : zV} : zS 238 146 [zR a0, zI a1, zI a2, zI a3, zI a4, zI a5, u6] [zI s0, zI s1] sh pp mm Q ↔ (s1 = s0 → zS 238 149 [zR a0, zI a1, zI a2, zI a3, zI a4, zI a5, zU] [] sh pp mm Q) ∧ (¬ s1 = s0 → zS 238 181 [zR a0, zI a1, zI a2, zI a3, zI a4, zI a5, zU] [] sh pp mm Q) := s_ifn cM_sumsUp_146 cM_sumsUp_149 cM_sumsUp_181 rfl rfl rfl
theorem rM_sumsUp_149 {a0 : Nat} {a1 a2 a3 a4 a5 : Int} {u6 : zV} : zS 238 149 [zR a0, zI a1, zI a2, zI a3, zI a4, zI a5, u6] [] sh pp mm Q ↔ zS 238 175 [zR a0, zI a1, zI a2, zI a3, zI a4, zI a5, zU] [] sh pp mm Q := s_go cM_sumsUp_149 cM_sumsUp_175 rfl rfl
theorem rM_sumsUp_152 {a0 : Nat} {a1 a2 a3 a4 a5 : Int} {u6 : zV} : zS 238 152 [zR a0, zI a1, zI a2, zI a3, zI a4, zI a5, u6] [] sh pp mm Q ↔ zS 238 153 [zR a0, zI a1, zI a2, zI a3, zI a4, zI a5, zU] [zI a1] sh pp mm Q := s_go cM_sumsUp_152 cM_sumsUp_153 rfl rfl
theorem rM_sumsUp_153 {a0 : Nat} {a1 a2 a3 a4 a5 s0 : Int} {u6 : zV} : zS 238 153 [zR a0, zI a1, zI a2, zI a3, zI a4, zI a5, u6] [zI s0] sh pp mm Q ↔ zS 238 154 [zR a0, zI a1, zI a2, zI a3, zI a4, zI a5, zU] [zI 1, zI s0] sh pp mm Q := s_go cM_sumsUp_153 cM_sumsUp_154 rfl rfl
theorem rM_sumsUp_154 {a0 : Nat} {a1 a2 a3 a4 a5 s0 s1 : Int} {u6 : zV} : zS 238 154 [zR a0, zI a1, zI a2, zI a3, zI a4, zI a5, u6] [zI s0, zI s1] sh pp mm Q ↔ (s1 = s0 → zS 238 157 [zR a0, zI a1, zI a2, zI a3, zI a4, zI a5, zU] [] sh pp mm Q) ∧ (¬ s1 = s0 → zS 238 166 [zR a0, zI a1, zI a2, zI a3, zI a4, zI a5, zU] [] sh pp mm Q) := s_ifn cM_sumsUp_154 cM_sumsUp_157 cM_sumsUp_166 rfl rfl rfl
theorem rM_sumsUp_157 {a0 : Nat} {a1 a2 a3 a4 a5 : Int} {u6 : zV} : zS 238 157 [zR a0, zI a1, zI a2, zI a3, zI a4, zI a5, u6] [] sh pp mm Q ↔ zS 238 159 [zR a0, zI a1, zI a2, zI a3, zI a4, zI a5, zU] [zI a5] sh pp mm Q := s_go cM_sumsUp_157 cM_sumsUp_159 rfl rfl
theorem rM_sumsUp_159 {a0 : Nat} {a1 a2 a3 a4 a5 s0 : Int} {u6 : zV} : zS 238 159 [zR a0, zI a1, zI a2, zI a3, zI a4, zI a5, u6] [zI s0] sh pp mm Q ↔ zS 238 160 [zR a0, zI a1, zI a2, zI a3, zI a4, zI a5, zU] [zI (-1), zI s0] sh pp mm Q := s_go cM_sumsUp_159 cM_sumsUp_160 rfl rfl
theorem rM_sumsUp_160 {a0 : Nat} {a1 a2 a3 a4 a5 s0 s1 : Int} {u6 : zV} : zS 238 160 [zR a0, zI a1, zI a2, zI a3, zI a4, zI a5, u6] [zI s0, zI s1] sh pp mm Q ↔ (s1 = s0 → zS 238 181 [zR a0, zI a1, zI a2, zI a3, zI a4, zI a5, zU] [] sh pp mm Q) ∧ (¬ s1 = s0 → zS 238 163 [zR a0, zI a1, zI a2, zI a3, zI a4, zI a5, zU] [] sh pp mm Q) := s_if cM_sumsUp_160 cM_sumsUp_181 cM_sumsUp_163 rfl rfl rfl
theorem rM_sumsUp_163 {a0 : Nat} {a1 a2 a3 a4 a5 : Int} {u6 : zV} : zS 238 163 [zR a0, zI a1, zI a2, zI a3, zI a4, zI a5, u6] [] sh pp mm Q ↔ zS 238 175 [zR a0, zI a1, zI a2, zI a3, zI a4, zI a5, zU] [] sh pp mm Q := s_go cM_sumsUp_163 cM_sumsUp_175 rfl rfl
theorem rM_sumsUp_166 {a0 : Nat} {a1 a2 a3 a4 a5 : Int} {u6 : zV} : zS 238 166 [zR a0, zI a1, zI a2, zI a3, zI a4, zI a5, u6] [] sh pp mm Q ↔ zS 238 167 [zR a0, zI a1, zI a2, zI a3, zI a4, zI a5, zU] [zR a0] sh pp mm Q := s_go cM_sumsUp_166 cM_sumsUp_167 rfl rfl
theorem rM_sumsUp_167 {a0 s0 : Nat} {a1 a2 a3 a4 a5 : Int} {u6 : zV} (hk : zKd sh s0 = 12) : zS 238 167 [zR a0, zI a1, zI a2, zI a3, zI a4, zI a5, u6] [zR s0] sh pp mm Q ↔ zS 238 170 [zR a0, zI a1, zI a2, zI a3, zI a4, zI a5, zU] [zR (pp s0 29)] sh pp mm Q := s_go cM_sumsUp_167 cM_sumsUp_170 (if_pos hk) rfl
theorem rM_sumsUp_170 {a0 s0 : Nat} {a1 a2 a3 a4 a5 : Int} {u6 : zV} : zS 238 170 [zR a0, zI a1, zI a2, zI a3, zI a4, zI a5, u6] [zR s0] sh pp mm Q ↔ zS 238 171 [zR a0, zI a1, zI a2, zI a3, zI a4, zI a5, zU] [zI a2, zR s0] sh pp mm Q := s_go cM_sumsUp_170 cM_sumsUp_171 rfl rfl
theorem rM_sumsUp_171 {a0 s1 : Nat} {a1 a2 a3 a4 a5 s0 : Int} {u6 : zV} (hk : zKd sh s1 = 22 ∨ zKd sh s1 = 32) (h0 : 0 ≤ s0) (h1 : s0 < zLn sh s1) : zS 238 171 [zR a0, zI a1, zI a2, zI a3, zI a4, zI a5, u6] [zI s0, zR s1] sh pp mm Q ↔ zS 238 172 [zR a0, zI a1, zI a2, zI a3, zI a4, zI a5, zU] [zI (mm s1 s0)] sh pp mm Q := s_go cM_sumsUp_171 cM_sumsUp_172 (if_pos ⟨hk, h0, h1⟩) rfl
theorem rM_sumsUp_172 {a0 : Nat} {a1 a2 a3 a4 a5 s0 : Int} {u6 : zV} : zS 238 172 [zR a0, zI a1, zI a2, zI a3, zI a4, zI a5, u6] [zI s0] sh pp mm Q ↔ (s0 = 0 → zS 238 181 [zR a0, zI a1, zI a2, zI a3, zI a4, zI a5, zU] [] sh pp mm Q) ∧ (¬ s0 = 0 → zS 238 175 [zR a0, zI a1, zI a2, zI a3, zI a4, zI a5, zU] [] sh pp mm Q) := s_if cM_sumsUp_172 cM_sumsUp_181 cM_sumsUp_175 rfl rfl rfl
theorem rM_sumsUp_175 {a0 : Nat} {a1 a2 a3 a4 a5 : Int} {u6 : zV} : zS 238 175 [zR a0, zI a1, zI a2, zI a3, zI a4, zI a5, u6] [] sh pp mm Q ↔ zS 238 176 [zR a0, zI a1, zI a2, zI a3, zI a4, zI a5, zU] [zR a0] sh pp mm Q := s_go cM_sumsUp_175 cM_sumsUp_176 rfl rfl
theorem rM_sumsUp_176 {a0 s0 : Nat} {a1 a2 a3 a4 a5 : Int} {u6 : zV} : zS 238 176 [zR a0, zI a1, zI a2, zI a3, zI a4, zI a5, u6] [zR s0] sh pp mm Q ↔ zS 238 177 [zR a0, zI a1, zI a2, zI a3, zI a4, zI a5, zU] [zI 4, zR s0] sh pp mm Q := s_go cM_sumsUp_176 cM_sumsUp_177 rfl rfl
theorem rM_sumsUp_177 {a0 s1 : Nat} {a1 a2 a3 a4 a5 s0 : Int} {u6 : zV} : zS 238 177 [zR a0, zI a1, zI a2, zI a3, zI a4, zI a5, u6] [zI s0, zR s1] sh pp mm Q ↔ zS 238 178 [zR a0, zI a1, zI a2, zI a3, zI a4, zI a5, zU] [zI 2, zI s0, zR s1] sh pp mm Q := s_go cM_sumsUp_177 cM_sumsUp_178 rfl rfl
theorem rM_sumsUp_178 {a0 s2 : Nat} {a1 a2 a3 a4 a5 s0 s1 : Int} {u6 : zV} (hk : zKd sh s2 = 12) : zS 238 178 [zR a0, zI a1, zI a2, zI a3, zI a4, zI a5, u6] [zI s0, zI s1, zR s2] sh pp mm Q ↔ zS 160 0 [zR s2, zI s1, zI s0, zU, zU, zU, zU, zU, zU] [] sh pp mm (fun v sh pp mm => zS 238 181 [zR a0, zI a1, zI a2, zI a3, zI a4, zI a5, zU] (zPush v []) sh pp mm Q) := s_call cM_sumsUp_178 cM_sumsUp_181 ((if_pos hk).trans rfl) rfl
theorem rM_sumsUp_181 {a0 : Nat} {a1 a2 a3 a4 a5 : Int} {u6 : zV} : zS 238 181 [zR a0, zI a1, zI a2, zI a3, zI a4, zI a5, u6] [] sh pp mm Q ↔ zS 238 184 [zR a0, zI a1, zI a2, zI a3, zI a4, zI (zw32 (a5 + 1)), zU] [] sh pp mm Q := s_go cM_sumsUp_181 cM_sumsUp_184 rfl rfl
theorem rM_sumsUp_184 {a0 : Nat} {a1 a2 a3 a4 a5 : Int} {u6 : zV} : zS 238 184 [zR a0, zI a1, zI a2, zI a3, zI a4, zI a5, u6] [] sh pp mm Q ↔ zS 238 62 [zR a0, zI a1, zI a2, zI a3, zI a4, zI a5, zU] [] sh pp mm Q := s_go cM_sumsUp_184 cM_sumsUp_62 rfl rfl
theorem rM_sumsUp_187 {a0 : Nat} {a1 a2 a3 a4 : Int} {u5 u6 : zV} : zS 238 187 [zR a0, zI a1, zI a2, zI a3, zI a4, u5, u6] [] sh pp mm Q ↔ zS 238 190 [zR a0, zI a1, zI a2, zI a3, zI (zw32 (a4 + 1)), zU, zU] [] sh pp mm Q := s_go cM_sumsUp_187 cM_sumsUp_190 rfl rfl
theorem rM_sumsUp_190 {a0 : Nat} {a1 a2 a3 a4 : Int} {u5 u6 : zV} : zS 238 190 [zR a0, zI a1, zI a2, zI a3, zI a4, u5, u6] [] sh pp mm Q ↔ zS 238 17 [zR a0, zI a1, zI a2, zI a3, zI a4, zU, zU] [] sh pp mm Q := s_go cM_sumsUp_190 cM_sumsUp_17 rfl rfl
theorem rM_sumsUp_193 {a3 : Int} {u0 u1 u2 u4 u5 u6 : zV} : zS 238 193 [u0, u1, u2, zI a3, u4, u5, u6] [] sh pp mm Q ↔ zS 238 194 [zU, zU, zU, zU, zU, zU, zU] [zI a3] sh pp mm Q := s_go cM_sumsUp_193 cM_sumsUp_194 rfl rfl
theorem rM_sumsUp_194 {s0 : Int} {u0 u1 u2 u3 u4 u5 u6 : zV} (hb : s0 = 0 ∨ s0 = 1) : zS 238 194 [u0, u1, u2, u3, u4, u5, u6] [zI s0] sh pp mm Q ↔ Q (zI s0) sh pp mm := s_ret cM_sumsUp_194 (if_pos (decide_eq_true hb))
theorem cAM_tellsShare : ∀ q ∈ zT239, zCode 239 q.1 = some q.2 := zAll (mid := 239) rfl (by decide +kernel)
theorem cAM_tellsShare_0 : ∀ q ∈ zT239_0, zCode 239 q.1 = some q.2 := fun q h => cAM_tellsShare q (h)
theorem cM_tellsShare_0 : zCode 239 0 = some (.aload_n 0, 1, 0, 0, 0, 0, 7) := cAM_tellsShare_0 _ (List.mem_of_getElem? (i := 0) rfl)
theorem cM_tellsShare_1 : zCode 239 1 = some (.iload_n 1, 2, 0, 0, 0, 0, 7) := cAM_tellsShare_0 _ (List.mem_of_getElem? (i := 1) rfl)
theorem cM_tellsShare_2 : zCode 239 2 = some (.iload_n 2, 3, 0, 0, 0, 0, 5) := cAM_tellsShare_0 _ (List.mem_of_getElem? (i := 2) rfl)
theorem cM_tellsShare_3 : zCode 239 3 = some (.invokevirtual 361, 6, 238, 2, 7, 12, 1) := cAM_tellsShare_0 _ (List.mem_of_getElem? (i := 3) rfl)
theorem cM_tellsShare_6 : zCode 239 6 = some (.ifCond .ne 10, 9, 16, 0, 0, 0, 1) := cAM_tellsShare_0 _ (List.mem_of_getElem? (i := 4) rfl)
theorem cM_tellsShare_9 : zCode 239 9 = some (.aload_n 0, 10, 0, 0, 0, 0, 1) := cAM_tellsShare_0 _ (List.mem_of_getElem? (i := 5) rfl)
theorem cM_tellsShare_10 : zCode 239 10 = some (.bipush (-3), 12, 0, 0, 0, 0, 0) := cAM_tellsShare_0 _ (List.mem_of_getElem? (i := 6) rfl)
theorem cM_tellsShare_12 : zCode 239 12 = some (.invokevirtual 265, 15, 153, 1, 2, 12, 0) := cAM_tellsShare_0 _ (List.mem_of_getElem? (i := 7) rfl)
theorem cM_tellsShare_15 : zCode 239 15 = some (.ireturn, 16, 0, 0, 0, 0, 0) := cAM_tellsShare_0 _ (List.mem_of_getElem? (i := 8) rfl)
theorem cM_tellsShare_16 : zCode 239 16 = some (.aload_n 0, 17, 0, 0, 0, 0, 1) := cAM_tellsShare_0 _ (List.mem_of_getElem? (i := 9) rfl)
theorem cM_tellsShare_17 : zCode 239 17 = some (.iconst 4, 18, 0, 0, 0, 0, 0) := cAM_tellsShare_0 _ (List.mem_of_getElem? (i := 10) rfl)
theorem cM_tellsShare_18 : zCode 239 18 = some (.iconst 3, 19, 0, 0, 0, 0, 0) := cAM_tellsShare_0 _ (List.mem_of_getElem? (i := 11) rfl)
theorem cM_tellsShare_19 : zCode 239 19 = some (.iconst 0, 20, 0, 0, 0, 0, 0) := cAM_tellsShare_0 _ (List.mem_of_getElem? (i := 12) rfl)
theorem cM_tellsShare_20 : zCode 239 20 = some (.invokevirtual 364, 23, 167, 3, 4, 12, 0) := cAM_tellsShare_0 _ (List.mem_of_getElem? (i := 13) rfl)
theorem cM_tellsShare_23 : zCode 239 23 = some (.iconst 1, 24, 0, 0, 0, 0, 0) := cAM_tellsShare_0 _ (List.mem_of_getElem? (i := 14) rfl)
theorem cM_tellsShare_24 : zCode 239 24 = some (.ireturn, 25, 0, 0, 0, 0, 0) := cAM_tellsShare_0 _ (List.mem_of_getElem? (i := 15) rfl)
theorem rM_tellsShare_0 {a0 : Nat} {a1 a2 : Int} : zS 239 0 [zR a0, zI a1, zI a2] [] sh pp mm Q ↔ zS 239 1 [zR a0, zI a1, zI a2] [zR a0] sh pp mm Q := s_go cM_tellsShare_0 cM_tellsShare_1 rfl rfl
theorem rM_tellsShare_1 {a0 s0 : Nat} {a1 a2 : Int} : zS 239 1 [zR a0, zI a1, zI a2] [zR s0] sh pp mm Q ↔ zS 239 2 [zR a0, zU, zI a2] [zI a1, zR s0] sh pp mm Q := s_go cM_tellsShare_1 cM_tellsShare_2 rfl rfl
theorem rM_tellsShare_2 {a0 s1 : Nat} {a2 s0 : Int} {u1 : zV} : zS 239 2 [zR a0, u1, zI a2] [zI s0, zR s1] sh pp mm Q ↔ zS 239 3 [zR a0, zU, zU] [zI a2, zI s0, zR s1] sh pp mm Q := s_go cM_tellsShare_2 cM_tellsShare_3 rfl rfl
theorem rM_tellsShare_3 {a0 s2 : Nat} {s0 s1 : Int} {u1 u2 : zV} (hk : zKd sh s2 = 12) : zS 239 3 [zR a0, u1, u2] [zI s0, zI s1, zR s2] sh pp mm Q ↔ zS 238 0 [zR s2, zI s1, zI s0, zU, zU, zU, zU] [] sh pp mm (fun v sh pp mm => zS 239 6 [zR a0, zU, zU] (zPush v []) sh pp mm Q) := s_call cM_tellsShare_3 cM_tellsShare_6 ((if_pos hk).trans rfl) rfl
theorem rM_tellsShare_6 {a0 : Nat} {s0 : Int} {u1 u2 : zV} : zS 239 6 [zR a0, u1, u2] [zI s0] sh pp mm Q ↔ (s0 = 0 → zS 239 9 [zR a0, zU, zU] [] sh pp mm Q) ∧ (¬ s0 = 0 → zS 239 16 [zR a0, zU, zU] [] sh pp mm Q) := s_ifn cM_tellsShare_6 cM_tellsShare_9 cM_tellsShare_16 rfl rfl rfl
theorem rM_tellsShare_9 {a0 : Nat} {u1 u2 : zV} : zS 239 9 [zR a0, u1, u2] [] sh pp mm Q ↔ zS 239 10 [zU, zU, zU] [zR a0] sh pp mm Q := s_go cM_tellsShare_9 cM_tellsShare_10 rfl rfl
theorem rM_tellsShare_10 {s0 : Nat} {u0 u1 u2 : zV} : zS 239 10 [u0, u1, u2] [zR s0] sh pp mm Q ↔ zS 239 12 [zU, zU, zU] [zI (-3), zR s0] sh pp mm Q := s_go cM_tellsShare_10 cM_tellsShare_12 rfl rfl
theorem rM_tellsShare_12 {s1 : Nat} {s0 : Int} {u0 u1 u2 : zV} (hk : zKd sh s1 = 12) : zS 239 12 [u0, u1, u2] [zI s0, zR s1] sh pp mm Q ↔ zS 153 0 [zR s1, zI s0] [] sh pp mm (fun v sh pp mm => zS 239 15 [zU, zU, zU] (zPush v []) sh pp mm Q) := s_call cM_tellsShare_12 cM_tellsShare_15 ((if_pos hk).trans rfl) rfl
theorem rM_tellsShare_15 {s0 : Int} {u0 u1 u2 : zV} : zS 239 15 [u0, u1, u2] [zI s0] sh pp mm Q ↔ Q (zI s0) sh pp mm := s_ret cM_tellsShare_15 rfl
theorem rM_tellsShare_16 {a0 : Nat} {u1 u2 : zV} : zS 239 16 [zR a0, u1, u2] [] sh pp mm Q ↔ zS 239 17 [zU, zU, zU] [zR a0] sh pp mm Q := s_go cM_tellsShare_16 cM_tellsShare_17 rfl rfl
theorem rM_tellsShare_17 {s0 : Nat} {u0 u1 u2 : zV} : zS 239 17 [u0, u1, u2] [zR s0] sh pp mm Q ↔ zS 239 18 [zU, zU, zU] [zI 4, zR s0] sh pp mm Q := s_go cM_tellsShare_17 cM_tellsShare_18 rfl rfl
theorem rM_tellsShare_18 {s1 : Nat} {s0 : Int} {u0 u1 u2 : zV} : zS 239 18 [u0, u1, u2] [zI s0, zR s1] sh pp mm Q ↔ zS 239 19 [zU, zU, zU] [zI 3, zI s0, zR s1] sh pp mm Q := s_go cM_tellsShare_18 cM_tellsShare_19 rfl rfl
theorem rM_tellsShare_19 {s2 : Nat} {s0 s1 : Int} {u0 u1 u2 : zV} : zS 239 19 [u0, u1, u2] [zI s0, zI s1, zR s2] sh pp mm Q ↔ zS 239 20 [zU, zU, zU] [zI 0, zI s0, zI s1, zR s2] sh pp mm Q := s_go cM_tellsShare_19 cM_tellsShare_20 rfl rfl
theorem rM_tellsShare_20 {s3 : Nat} {s0 s1 s2 : Int} {u0 u1 u2 : zV} (hk : zKd sh s3 = 12) : zS 239 20 [u0, u1, u2] [zI s0, zI s1, zI s2, zR s3] sh pp mm Q ↔ zS 167 0 [zR s3, zI s2, zI s1, zI s0] [] sh pp mm (fun v sh pp mm => zS 239 23 [zU, zU, zU] (zPush v []) sh pp mm Q) := s_call cM_tellsShare_20 cM_tellsShare_23 ((if_pos hk).trans rfl) rfl
theorem rM_tellsShare_23 {u0 u1 u2 : zV} : zS 239 23 [u0, u1, u2] [] sh pp mm Q ↔ zS 239 24 [zU, zU, zU] [zI 1] sh pp mm Q := s_go cM_tellsShare_23 cM_tellsShare_24 rfl rfl
theorem rM_tellsShare_24 {s0 : Int} {u0 u1 u2 : zV} : zS 239 24 [u0, u1, u2] [zI s0] sh pp mm Q ↔ Q (zI s0) sh pp mm := s_ret cM_tellsShare_24 rfl
theorem cAM_odds : ∀ q ∈ zT240, zCode 240 q.1 = some q.2 := zAll (mid := 240) rfl (by decide +kernel)
theorem cAM_odds_0 : ∀ q ∈ zT240_0, zCode 240 q.1 = some q.2 := fun q h => cAM_odds q (h)
theorem cM_odds_0 : zCode 240 0 = some (.iload_n 1, 1, 0, 0, 0, 0, 3) := cAM_odds_0 _ (List.mem_of_getElem? (i := 0) rfl)
theorem cM_odds_1 : zCode 240 1 = some (.invokestatic 147, 4, 173, 1, 1, 12, 3) := cAM_odds_0 _ (List.mem_of_getElem? (i := 1) rfl)
theorem cM_odds_4 : zCode 240 4 = some (.ifCond .eq 12, 7, 16, 0, 0, 0, 3) := cAM_odds_0 _ (List.mem_of_getElem? (i := 2) rfl)
theorem cM_odds_7 : zCode 240 7 = some (.aload_n 0, 8, 0, 0, 0, 0, 3) := cAM_odds_0 _ (List.mem_of_getElem? (i := 3) rfl)
theorem cM_odds_8 : zCode 240 8 = some (.iconst 0, 9, 0, 0, 0, 0, 2) := cAM_odds_0 _ (List.mem_of_getElem? (i := 4) rfl)
theorem cM_odds_9 : zCode 240 9 = some (.iload_n 1, 10, 0, 0, 0, 0, 2) := cAM_odds_0 _ (List.mem_of_getElem? (i := 5) rfl)
theorem cM_odds_10 : zCode 240 10 = some (.invokevirtual 368, 13, 239, 2, 3, 12, 0) := cAM_odds_0 _ (List.mem_of_getElem? (i := 6) rfl)
theorem cM_odds_13 : zCode 240 13 = some (.goto 9, 16, 22, 0, 0, 0, 0) := cAM_odds_0 _ (List.mem_of_getElem? (i := 7) rfl)
theorem cM_odds_16 : zCode 240 16 = some (.aload_n 0, 17, 0, 0, 0, 0, 1) := cAM_odds_0 _ (List.mem_of_getElem? (i := 8) rfl)
theorem cM_odds_17 : zCode 240 17 = some (.bipush (-2), 19, 0, 0, 0, 0, 0) := cAM_odds_0 _ (List.mem_of_getElem? (i := 9) rfl)
theorem cM_odds_19 : zCode 240 19 = some (.invokevirtual 132, 22, 152, 1, 2, 12, 0) := cAM_odds_0 _ (List.mem_of_getElem? (i := 10) rfl)
theorem cM_odds_22 : zCode 240 22 = some (.ireturn, 23, 0, 0, 0, 0, 0) := cAM_odds_0 _ (List.mem_of_getElem? (i := 11) rfl)
theorem rM_odds_0 {a0 : Nat} {a1 : Int} : zS 240 0 [zR a0, zI a1] [] sh pp mm Q ↔ zS 240 1 [zR a0, zI a1] [zI a1] sh pp mm Q := s_go cM_odds_0 cM_odds_1 rfl rfl
theorem rM_odds_1 {a0 : Nat} {a1 s0 : Int} : zS 240 1 [zR a0, zI a1] [zI s0] sh pp mm Q ↔ zS 173 0 [zI s0] [] sh pp mm (fun v sh pp mm => zS 240 4 [zR a0, zI a1] (zPush v []) sh pp mm Q) := s_call cM_odds_1 cM_odds_4 rfl rfl
theorem rM_odds_4 {a0 : Nat} {a1 s0 : Int} : zS 240 4 [zR a0, zI a1] [zI s0] sh pp mm Q ↔ (s0 = 0 → zS 240 16 [zR a0, zU] [] sh pp mm Q) ∧ (¬ s0 = 0 → zS 240 7 [zR a0, zI a1] [] sh pp mm Q) := s_if cM_odds_4 cM_odds_16 cM_odds_7 rfl rfl rfl
theorem rM_odds_7 {a0 : Nat} {a1 : Int} : zS 240 7 [zR a0, zI a1] [] sh pp mm Q ↔ zS 240 8 [zU, zI a1] [zR a0] sh pp mm Q := s_go cM_odds_7 cM_odds_8 rfl rfl
theorem rM_odds_8 {s0 : Nat} {a1 : Int} {u0 : zV} : zS 240 8 [u0, zI a1] [zR s0] sh pp mm Q ↔ zS 240 9 [zU, zI a1] [zI 0, zR s0] sh pp mm Q := s_go cM_odds_8 cM_odds_9 rfl rfl
theorem rM_odds_9 {s1 : Nat} {a1 s0 : Int} {u0 : zV} : zS 240 9 [u0, zI a1] [zI s0, zR s1] sh pp mm Q ↔ zS 240 10 [zU, zU] [zI a1, zI s0, zR s1] sh pp mm Q := s_go cM_odds_9 cM_odds_10 rfl rfl
theorem rM_odds_10 {s2 : Nat} {s0 s1 : Int} {u0 u1 : zV} (hk : zKd sh s2 = 12) : zS 240 10 [u0, u1] [zI s0, zI s1, zR s2] sh pp mm Q ↔ zS 239 0 [zR s2, zI s1, zI s0] [] sh pp mm (fun v sh pp mm => zS 240 13 [zU, zU] (zPush v []) sh pp mm Q) := s_call cM_odds_10 cM_odds_13 ((if_pos hk).trans rfl) rfl
theorem rM_odds_13 {s0 : Int} {u0 u1 : zV} : zS 240 13 [u0, u1] [zI s0] sh pp mm Q ↔ zS 240 22 [zU, zU] [zI s0] sh pp mm Q := s_go cM_odds_13 cM_odds_22 rfl rfl
theorem rM_odds_16 {a0 : Nat} {u1 : zV} : zS 240 16 [zR a0, u1] [] sh pp mm Q ↔ zS 240 17 [zU, zU] [zR a0] sh pp mm Q := s_go cM_odds_16 cM_odds_17 rfl rfl
theorem rM_odds_17 {s0 : Nat} {u0 u1 : zV} : zS 240 17 [u0, u1] [zR s0] sh pp mm Q ↔ zS 240 19 [zU, zU] [zI (-2), zR s0] sh pp mm Q := s_go cM_odds_17 cM_odds_19 rfl rfl
theorem rM_odds_19 {s1 : Nat} {s0 : Int} {u0 u1 : zV} (hk : zKd sh s1 = 12) : zS 240 19 [u0, u1] [zI s0, zR s1] sh pp mm Q ↔ zS 152 0 [zR s1, zI s0] [] sh pp mm (fun v sh pp mm => zS 240 22 [zU, zU] (zPush v []) sh pp mm Q) := s_call cM_odds_19 cM_odds_22 ((if_pos hk).trans rfl) rfl
theorem rM_odds_22 {s0 : Int} {u0 u1 : zV} : zS 240 22 [u0, u1] [zI s0] sh pp mm Q ↔ Q (zI s0) sh pp mm := s_ret cM_odds_22 rfl
theorem cAM_shaken : ∀ q ∈ zT241, zCode 241 q.1 = some q.2 := zAll (mid := 241) rfl (by decide +kernel)
theorem cAM_shaken_0 : ∀ q ∈ zT241_0, zCode 241 q.1 = some q.2 := fun q h => cAM_shaken q (h)
theorem cM_shaken_0 : zCode 241 0 = some (.aload_n 0, 1, 0, 0, 0, 0, 1) := cAM_shaken_0 _ (List.mem_of_getElem? (i := 0) rfl)
theorem cM_shaken_1 : zCode 241 1 = some (.iconst 1, 2, 0, 0, 0, 0, 0) := cAM_shaken_0 _ (List.mem_of_getElem? (i := 1) rfl)
theorem cM_shaken_2 : zCode 241 2 = some (.iconst 0, 3, 0, 0, 0, 0, 0) := cAM_shaken_0 _ (List.mem_of_getElem? (i := 2) rfl)
theorem cM_shaken_3 : zCode 241 3 = some (.invokevirtual 368, 6, 239, 2, 3, 12, 0) := cAM_shaken_0 _ (List.mem_of_getElem? (i := 3) rfl)
theorem cM_shaken_6 : zCode 241 6 = some (.ireturn, 7, 0, 0, 0, 0, 0) := cAM_shaken_0 _ (List.mem_of_getElem? (i := 4) rfl)
theorem rM_shaken_0 {a0 : Nat} : zS 241 0 [zR a0] [] sh pp mm Q ↔ zS 241 1 [zU] [zR a0] sh pp mm Q := s_go cM_shaken_0 cM_shaken_1 rfl rfl
theorem rM_shaken_1 {s0 : Nat} {u0 : zV} : zS 241 1 [u0] [zR s0] sh pp mm Q ↔ zS 241 2 [zU] [zI 1, zR s0] sh pp mm Q := s_go cM_shaken_1 cM_shaken_2 rfl rfl
theorem rM_shaken_2 {s1 : Nat} {s0 : Int} {u0 : zV} : zS 241 2 [u0] [zI s0, zR s1] sh pp mm Q ↔ zS 241 3 [zU] [zI 0, zI s0, zR s1] sh pp mm Q := s_go cM_shaken_2 cM_shaken_3 rfl rfl
theorem rM_shaken_3 {s2 : Nat} {s0 s1 : Int} {u0 : zV} (hk : zKd sh s2 = 12) : zS 241 3 [u0] [zI s0, zI s1, zR s2] sh pp mm Q ↔ zS 239 0 [zR s2, zI s1, zI s0] [] sh pp mm (fun v sh pp mm => zS 241 6 [zU] (zPush v []) sh pp mm Q) := s_call cM_shaken_3 cM_shaken_6 ((if_pos hk).trans rfl) rfl
theorem rM_shaken_6 {s0 : Int} {u0 : zV} : zS 241 6 [u0] [zI s0] sh pp mm Q ↔ Q (zI s0) sh pp mm := s_ret cM_shaken_6 rfl
theorem cAM_before : ∀ q ∈ zT242, zCode 242 q.1 = some q.2 := zAll (mid := 242) rfl (by decide +kernel)
theorem cAM_before_0 : ∀ q ∈ zT242_0, zCode 242 q.1 = some q.2 := fun q h => cAM_before q (List.mem_append_left _ h)
theorem cAM_before_1 : ∀ q ∈ zT242_1, zCode 242 q.1 = some q.2 := fun q h => cAM_before q (List.mem_append_right _ h)
theorem cM_before_0 : zCode 242 0 = some (.iload_n 1, 1, 0, 0, 0, 0, 7) := cAM_before_0 _ (List.mem_of_getElem? (i := 0) rfl)
theorem cM_before_1 : zCode 242 1 = some (.iload_n 2, 2, 0, 0, 0, 0, 7) := cAM_before_0 _ (List.mem_of_getElem? (i := 1) rfl)
theorem cM_before_2 : zCode 242 2 = some (.invokestatic 274, 5, 174, 2, 2, 12, 7) := cAM_before_0 _ (List.mem_of_getElem? (i := 2) rfl)
theorem cM_before_5 : zCode 242 5 = some (.ifCond .eq 17, 8, 22, 0, 0, 0, 7) := cAM_before_0 _ (List.mem_of_getElem? (i := 3) rfl)
theorem cM_before_8 : zCode 242 8 = some (.aload_n 0, 9, 0, 0, 0, 0, 7) := cAM_before_0 _ (List.mem_of_getElem? (i := 4) rfl)
theorem cM_before_9 : zCode 242 9 = some (.iconst 2, 10, 0, 0, 0, 0, 6) := cAM_before_0 _ (List.mem_of_getElem? (i := 5) rfl)
theorem cM_before_10 : zCode 242 10 = some (.bipush 24, 12, 0, 0, 0, 0, 6) := cAM_before_0 _ (List.mem_of_getElem? (i := 6) rfl)
theorem cM_before_12 : zCode 242 12 = some (.iload_n 2, 13, 0, 0, 0, 0, 6) := cAM_before_0 _ (List.mem_of_getElem? (i := 7) rfl)
theorem cM_before_13 : zCode 242 13 = some (.imul, 14, 0, 0, 0, 0, 2) := cAM_before_0 _ (List.mem_of_getElem? (i := 8) rfl)
theorem cM_before_14 : zCode 242 14 = some (.iload_n 1, 15, 0, 0, 0, 0, 2) := cAM_before_0 _ (List.mem_of_getElem? (i := 9) rfl)
theorem cM_before_15 : zCode 242 15 = some (.iadd, 16, 0, 0, 0, 0, 0) := cAM_before_0 _ (List.mem_of_getElem? (i := 10) rfl)
theorem cM_before_16 : zCode 242 16 = some (.invokevirtual 368, 19, 239, 2, 3, 12, 0) := cAM_before_0 _ (List.mem_of_getElem? (i := 11) rfl)
theorem cM_before_19 : zCode 242 19 = some (.goto 9, 22, 28, 0, 0, 0, 0) := cAM_before_0 _ (List.mem_of_getElem? (i := 12) rfl)
theorem cM_before_22 : zCode 242 22 = some (.aload_n 0, 23, 0, 0, 0, 0, 1) := cAM_before_0 _ (List.mem_of_getElem? (i := 13) rfl)
theorem cM_before_23 : zCode 242 23 = some (.bipush (-2), 25, 0, 0, 0, 0, 0) := cAM_before_0 _ (List.mem_of_getElem? (i := 14) rfl)
theorem cM_before_25 : zCode 242 25 = some (.invokevirtual 132, 28, 152, 1, 2, 12, 0) := cAM_before_0 _ (List.mem_of_getElem? (i := 15) rfl)
theorem cM_before_28 : zCode 242 28 = some (.ireturn, 29, 0, 0, 0, 0, 0) := cAM_before_1 _ (List.mem_of_getElem? (i := 0) rfl)
theorem rM_before_0 {a0 : Nat} {a1 a2 : Int} : zS 242 0 [zR a0, zI a1, zI a2] [] sh pp mm Q ↔ zS 242 1 [zR a0, zI a1, zI a2] [zI a1] sh pp mm Q := s_go cM_before_0 cM_before_1 rfl rfl
theorem rM_before_1 {a0 : Nat} {a1 a2 s0 : Int} : zS 242 1 [zR a0, zI a1, zI a2] [zI s0] sh pp mm Q ↔ zS 242 2 [zR a0, zI a1, zI a2] [zI a2, zI s0] sh pp mm Q := s_go cM_before_1 cM_before_2 rfl rfl
theorem rM_before_2 {a0 : Nat} {a1 a2 s0 s1 : Int} : zS 242 2 [zR a0, zI a1, zI a2] [zI s0, zI s1] sh pp mm Q ↔ zS 174 0 [zI s1, zI s0] [] sh pp mm (fun v sh pp mm => zS 242 5 [zR a0, zI a1, zI a2] (zPush v []) sh pp mm Q) := s_call cM_before_2 cM_before_5 rfl rfl
theorem rM_before_5 {a0 : Nat} {a1 a2 s0 : Int} : zS 242 5 [zR a0, zI a1, zI a2] [zI s0] sh pp mm Q ↔ (s0 = 0 → zS 242 22 [zR a0, zU, zU] [] sh pp mm Q) ∧ (¬ s0 = 0 → zS 242 8 [zR a0, zI a1, zI a2] [] sh pp mm Q) := s_if cM_before_5 cM_before_22 cM_before_8 rfl rfl rfl
theorem rM_before_8 {a0 : Nat} {a1 a2 : Int} : zS 242 8 [zR a0, zI a1, zI a2] [] sh pp mm Q ↔ zS 242 9 [zU, zI a1, zI a2] [zR a0] sh pp mm Q := s_go cM_before_8 cM_before_9 rfl rfl
theorem rM_before_9 {s0 : Nat} {a1 a2 : Int} {u0 : zV} : zS 242 9 [u0, zI a1, zI a2] [zR s0] sh pp mm Q ↔ zS 242 10 [zU, zI a1, zI a2] [zI 2, zR s0] sh pp mm Q := s_go cM_before_9 cM_before_10 rfl rfl
theorem rM_before_10 {s1 : Nat} {a1 a2 s0 : Int} {u0 : zV} : zS 242 10 [u0, zI a1, zI a2] [zI s0, zR s1] sh pp mm Q ↔ zS 242 12 [zU, zI a1, zI a2] [zI 24, zI s0, zR s1] sh pp mm Q := s_go cM_before_10 cM_before_12 rfl rfl
theorem rM_before_12 {s2 : Nat} {a1 a2 s0 s1 : Int} {u0 : zV} : zS 242 12 [u0, zI a1, zI a2] [zI s0, zI s1, zR s2] sh pp mm Q ↔ zS 242 13 [zU, zI a1, zU] [zI a2, zI s0, zI s1, zR s2] sh pp mm Q := s_go cM_before_12 cM_before_13 rfl rfl
theorem rM_before_13 {s3 : Nat} {a1 s0 s1 s2 : Int} {u0 u2 : zV} : zS 242 13 [u0, zI a1, u2] [zI s0, zI s1, zI s2, zR s3] sh pp mm Q ↔ zS 242 14 [zU, zI a1, zU] [zI (zw32 (s1 * s0)), zI s2, zR s3] sh pp mm Q := s_go cM_before_13 cM_before_14 rfl rfl
theorem rM_before_14 {s2 : Nat} {a1 s0 s1 : Int} {u0 u2 : zV} : zS 242 14 [u0, zI a1, u2] [zI s0, zI s1, zR s2] sh pp mm Q ↔ zS 242 15 [zU, zU, zU] [zI a1, zI s0, zI s1, zR s2] sh pp mm Q := s_go cM_before_14 cM_before_15 rfl rfl
theorem rM_before_15 {s3 : Nat} {s0 s1 s2 : Int} {u0 u1 u2 : zV} : zS 242 15 [u0, u1, u2] [zI s0, zI s1, zI s2, zR s3] sh pp mm Q ↔ zS 242 16 [zU, zU, zU] [zI (zw32 (s1 + s0)), zI s2, zR s3] sh pp mm Q := s_go cM_before_15 cM_before_16 rfl rfl
theorem rM_before_16 {s2 : Nat} {s0 s1 : Int} {u0 u1 u2 : zV} (hk : zKd sh s2 = 12) : zS 242 16 [u0, u1, u2] [zI s0, zI s1, zR s2] sh pp mm Q ↔ zS 239 0 [zR s2, zI s1, zI s0] [] sh pp mm (fun v sh pp mm => zS 242 19 [zU, zU, zU] (zPush v []) sh pp mm Q) := s_call cM_before_16 cM_before_19 ((if_pos hk).trans rfl) rfl
theorem rM_before_19 {s0 : Int} {u0 u1 u2 : zV} : zS 242 19 [u0, u1, u2] [zI s0] sh pp mm Q ↔ zS 242 28 [zU, zU, zU] [zI s0] sh pp mm Q := s_go cM_before_19 cM_before_28 rfl rfl
theorem rM_before_22 {a0 : Nat} {u1 u2 : zV} : zS 242 22 [zR a0, u1, u2] [] sh pp mm Q ↔ zS 242 23 [zU, zU, zU] [zR a0] sh pp mm Q := s_go cM_before_22 cM_before_23 rfl rfl
theorem rM_before_23 {s0 : Nat} {u0 u1 u2 : zV} : zS 242 23 [u0, u1, u2] [zR s0] sh pp mm Q ↔ zS 242 25 [zU, zU, zU] [zI (-2), zR s0] sh pp mm Q := s_go cM_before_23 cM_before_25 rfl rfl
theorem rM_before_25 {s1 : Nat} {s0 : Int} {u0 u1 u2 : zV} (hk : zKd sh s1 = 12) : zS 242 25 [u0, u1, u2] [zI s0, zR s1] sh pp mm Q ↔ zS 152 0 [zR s1, zI s0] [] sh pp mm (fun v sh pp mm => zS 242 28 [zU, zU, zU] (zPush v []) sh pp mm Q) := s_call cM_before_25 cM_before_28 ((if_pos hk).trans rfl) rfl
theorem rM_before_28 {s0 : Int} {u0 u1 u2 : zV} : zS 242 28 [u0, u1, u2] [zI s0] sh pp mm Q ↔ Q (zI s0) sh pp mm := s_ret cM_before_28 rfl
theorem cAM_test : ∀ q ∈ zT243, zCode 243 q.1 = some q.2 := zAll (mid := 243) rfl (by decide +kernel)
theorem cAM_test_0 : ∀ q ∈ zT243_0, zCode 243 q.1 = some q.2 := fun q h => cAM_test q (List.mem_append_left _ h)
theorem cAM_test_1 : ∀ q ∈ zT243_1, zCode 243 q.1 = some q.2 := fun q h => cAM_test q (List.mem_append_right _ (List.mem_append_left _ h))
theorem cAM_test_2 : ∀ q ∈ zT243_2, zCode 243 q.1 = some q.2 := fun q h => cAM_test q (List.mem_append_right _ (List.mem_append_right _ (List.mem_append_left _ h)))
theorem cAM_test_3 : ∀ q ∈ zT243_3, zCode 243 q.1 = some q.2 := fun q h => cAM_test q (List.mem_append_right _ (List.mem_append_right _ (List.mem_append_right _ (List.mem_append_left _ h))))
theorem cAM_test_4 : ∀ q ∈ zT243_4, zCode 243 q.1 = some q.2 := fun q h => cAM_test q (List.mem_append_right _ (List.mem_append_right _ (List.mem_append_right _ (List.mem_append_right _ h))))
theorem cM_test_0 : zCode 243 0 = some (.iload_n 1, 1, 0, 0, 0, 0, 15) := cAM_test_0 _ (List.mem_of_getElem? (i := 0) rfl)
theorem cM_test_1 : zCode 243 1 = some (.i2l, 2, 0, 0, 0, 0, 15) := cAM_test_0 _ (List.mem_of_getElem? (i := 1) rfl)
theorem cM_test_2 : zCode 243 2 = some (.lconst 0, 3, 0, 0, 0, 0, 15) := cAM_test_0 _ (List.mem_of_getElem? (i := 2) rfl)
theorem cM_test_3 : zCode 243 3 = some (.lconst 1, 4, 0, 0, 0, 0, 15) := cAM_test_0 _ (List.mem_of_getElem? (i := 3) rfl)
theorem cM_test_4 : zCode 243 4 = some (.invokestatic 121, 7, 151, 3, 6, 12, 15) := cAM_test_0 _ (List.mem_of_getElem? (i := 4) rfl)
theorem cM_test_7 : zCode 243 7 = some (.ifCond .eq 26, 10, 33, 0, 0, 0, 15) := cAM_test_0 _ (List.mem_of_getElem? (i := 5) rfl)
theorem cM_test_10 : zCode 243 10 = some (.iload_n 2, 11, 0, 0, 0, 0, 15) := cAM_test_0 _ (List.mem_of_getElem? (i := 6) rfl)
theorem cM_test_11 : zCode 243 11 = some (.i2l, 12, 0, 0, 0, 0, 15) := cAM_test_0 _ (List.mem_of_getElem? (i := 7) rfl)
theorem cM_test_12 : zCode 243 12 = some (.lconst 1, 13, 0, 0, 0, 0, 15) := cAM_test_0 _ (List.mem_of_getElem? (i := 8) rfl)
theorem cM_test_13 : zCode 243 13 = some (.ldc2_w 371, 16, 0, 0, 1692, 40, 15) := cAM_test_0 _ (List.mem_of_getElem? (i := 9) rfl)
theorem cM_test_16 : zCode 243 16 = some (.invokestatic 121, 19, 151, 3, 6, 12, 15) := cAM_test_0 _ (List.mem_of_getElem? (i := 10) rfl)
theorem cM_test_19 : zCode 243 19 = some (.ifCond .eq 14, 22, 33, 0, 0, 0, 15) := cAM_test_0 _ (List.mem_of_getElem? (i := 11) rfl)
theorem cM_test_22 : zCode 243 22 = some (.iload_n 3, 23, 0, 0, 0, 0, 15) := cAM_test_0 _ (List.mem_of_getElem? (i := 12) rfl)
theorem cM_test_23 : zCode 243 23 = some (.i2l, 24, 0, 0, 0, 0, 15) := cAM_test_0 _ (List.mem_of_getElem? (i := 13) rfl)
theorem cM_test_24 : zCode 243 24 = some (.lconst 0, 25, 0, 0, 0, 0, 15) := cAM_test_0 _ (List.mem_of_getElem? (i := 14) rfl)
theorem cM_test_25 : zCode 243 25 = some (.iload_n 2, 26, 0, 0, 0, 0, 15) := cAM_test_0 _ (List.mem_of_getElem? (i := 15) rfl)
theorem cM_test_26 : zCode 243 26 = some (.i2l, 27, 0, 0, 0, 0, 15) := cAM_test_1 _ (List.mem_of_getElem? (i := 0) rfl)
theorem cM_test_27 : zCode 243 27 = some (.invokestatic 121, 30, 151, 3, 6, 12, 15) := cAM_test_1 _ (List.mem_of_getElem? (i := 1) rfl)
theorem cM_test_30 : zCode 243 30 = some (.ifCond .ne 10, 33, 40, 0, 0, 0, 15) := cAM_test_1 _ (List.mem_of_getElem? (i := 2) rfl)
theorem cM_test_33 : zCode 243 33 = some (.aload_n 0, 34, 0, 0, 0, 0, 1) := cAM_test_1 _ (List.mem_of_getElem? (i := 3) rfl)
theorem cM_test_34 : zCode 243 34 = some (.bipush (-2), 36, 0, 0, 0, 0, 0) := cAM_test_1 _ (List.mem_of_getElem? (i := 4) rfl)
theorem cM_test_36 : zCode 243 36 = some (.invokevirtual 132, 39, 152, 1, 2, 12, 0) := cAM_test_1 _ (List.mem_of_getElem? (i := 5) rfl)
theorem cM_test_39 : zCode 243 39 = some (.ireturn, 40, 0, 0, 0, 0, 0) := cAM_test_1 _ (List.mem_of_getElem? (i := 6) rfl)
theorem cM_test_40 : zCode 243 40 = some (.aload_n 0, 41, 0, 0, 0, 0, 15) := cAM_test_1 _ (List.mem_of_getElem? (i := 7) rfl)
theorem cM_test_41 : zCode 243 41 = some (.iconst 3, 42, 0, 0, 0, 0, 15) := cAM_test_1 _ (List.mem_of_getElem? (i := 8) rfl)
theorem cM_test_42 : zCode 243 42 = some (.invokevirtual 288, 45, 169, 1, 2, 12, 15) := cAM_test_1 _ (List.mem_of_getElem? (i := 9) rfl)
theorem cM_test_45 : zCode 243 45 = some (.istore 4, 47, 0, 0, 0, 0, 15) := cAM_test_1 _ (List.mem_of_getElem? (i := 10) rfl)
theorem cM_test_47 : zCode 243 47 = some (.iload 4, 49, 0, 0, 0, 0, 31) := cAM_test_1 _ (List.mem_of_getElem? (i := 11) rfl)
theorem cM_test_49 : zCode 243 49 = some (.bipush 8, 51, 0, 0, 0, 0, 31) := cAM_test_1 _ (List.mem_of_getElem? (i := 12) rfl)
theorem cM_test_51 : zCode 243 51 = some (.if_icmp .ne 8, 54, 59, 0, 0, 0, 31) := cAM_test_1 _ (List.mem_of_getElem? (i := 13) rfl)
theorem cM_test_54 : zCode 243 54 = some (.aload_n 0, 55, 0, 0, 0, 0, 1) := cAM_test_1 _ (List.mem_of_getElem? (i := 14) rfl)
theorem cM_test_55 : zCode 243 55 = some (.invokevirtual 154, 58, 154, 0, 1, 12, 0) := cAM_test_1 _ (List.mem_of_getElem? (i := 15) rfl)
theorem cM_test_58 : zCode 243 58 = some (.ireturn, 59, 0, 0, 0, 0, 0) := cAM_test_2 _ (List.mem_of_getElem? (i := 0) rfl)
theorem cM_test_59 : zCode 243 59 = some (.aload_n 0, 60, 0, 0, 0, 0, 31) := cAM_test_2 _ (List.mem_of_getElem? (i := 1) rfl)
theorem cM_test_60 : zCode 243 60 = some (.getfield 7, 63, 12, 0, 2, 1209, 31) := cAM_test_2 _ (List.mem_of_getElem? (i := 2) rfl)
theorem cM_test_63 : zCode 243 63 = some (.sipush 957, 66, 0, 0, 0, 0, 31) := cAM_test_2 _ (List.mem_of_getElem? (i := 3) rfl)
theorem cM_test_66 : zCode 243 66 = some (.iconst 3, 67, 0, 0, 0, 0, 31) := cAM_test_2 _ (List.mem_of_getElem? (i := 4) rfl)
theorem cM_test_67 : zCode 243 67 = some (.iload 4, 69, 0, 0, 0, 0, 31) := cAM_test_2 _ (List.mem_of_getElem? (i := 5) rfl)
theorem cM_test_69 : zCode 243 69 = some (.imul, 70, 0, 0, 0, 0, 31) := cAM_test_2 _ (List.mem_of_getElem? (i := 6) rfl)
theorem cM_test_70 : zCode 243 70 = some (.iadd, 71, 0, 0, 0, 0, 31) := cAM_test_2 _ (List.mem_of_getElem? (i := 7) rfl)
theorem cM_test_71 : zCode 243 71 = some (.iload_n 1, 72, 0, 0, 0, 0, 31) := cAM_test_2 _ (List.mem_of_getElem? (i := 8) rfl)
theorem cM_test_72 : zCode 243 72 = some (.iastore, 73, 0, 0, 0, 0, 29) := cAM_test_2 _ (List.mem_of_getElem? (i := 9) rfl)
theorem cM_test_73 : zCode 243 73 = some (.aload_n 0, 74, 0, 0, 0, 0, 29) := cAM_test_2 _ (List.mem_of_getElem? (i := 10) rfl)
theorem cM_test_74 : zCode 243 74 = some (.getfield 7, 77, 12, 0, 2, 1209, 29) := cAM_test_2 _ (List.mem_of_getElem? (i := 11) rfl)
theorem cM_test_77 : zCode 243 77 = some (.sipush 957, 80, 0, 0, 0, 0, 29) := cAM_test_2 _ (List.mem_of_getElem? (i := 12) rfl)
theorem cM_test_80 : zCode 243 80 = some (.iconst 3, 81, 0, 0, 0, 0, 29) := cAM_test_2 _ (List.mem_of_getElem? (i := 13) rfl)
theorem cM_test_81 : zCode 243 81 = some (.iload 4, 83, 0, 0, 0, 0, 29) := cAM_test_2 _ (List.mem_of_getElem? (i := 14) rfl)
theorem cM_test_83 : zCode 243 83 = some (.imul, 84, 0, 0, 0, 0, 29) := cAM_test_2 _ (List.mem_of_getElem? (i := 15) rfl)
theorem cM_test_84 : zCode 243 84 = some (.iadd, 85, 0, 0, 0, 0, 29) := cAM_test_3 _ (List.mem_of_getElem? (i := 0) rfl)
theorem cM_test_85 : zCode 243 85 = some (.iconst 1, 86, 0, 0, 0, 0, 29) := cAM_test_3 _ (List.mem_of_getElem? (i := 1) rfl)
theorem cM_test_86 : zCode 243 86 = some (.iadd, 87, 0, 0, 0, 0, 29) := cAM_test_3 _ (List.mem_of_getElem? (i := 2) rfl)
theorem cM_test_87 : zCode 243 87 = some (.iload_n 2, 88, 0, 0, 0, 0, 29) := cAM_test_3 _ (List.mem_of_getElem? (i := 3) rfl)
theorem cM_test_88 : zCode 243 88 = some (.iastore, 89, 0, 0, 0, 0, 25) := cAM_test_3 _ (List.mem_of_getElem? (i := 4) rfl)
theorem cM_test_89 : zCode 243 89 = some (.aload_n 0, 90, 0, 0, 0, 0, 25) := cAM_test_3 _ (List.mem_of_getElem? (i := 5) rfl)
theorem cM_test_90 : zCode 243 90 = some (.getfield 7, 93, 12, 0, 2, 1209, 25) := cAM_test_3 _ (List.mem_of_getElem? (i := 6) rfl)
theorem cM_test_93 : zCode 243 93 = some (.sipush 957, 96, 0, 0, 0, 0, 25) := cAM_test_3 _ (List.mem_of_getElem? (i := 7) rfl)
theorem cM_test_96 : zCode 243 96 = some (.iconst 3, 97, 0, 0, 0, 0, 25) := cAM_test_3 _ (List.mem_of_getElem? (i := 8) rfl)
theorem cM_test_97 : zCode 243 97 = some (.iload 4, 99, 0, 0, 0, 0, 25) := cAM_test_3 _ (List.mem_of_getElem? (i := 9) rfl)
theorem cM_test_99 : zCode 243 99 = some (.imul, 100, 0, 0, 0, 0, 25) := cAM_test_3 _ (List.mem_of_getElem? (i := 10) rfl)
theorem cM_test_100 : zCode 243 100 = some (.iadd, 101, 0, 0, 0, 0, 25) := cAM_test_3 _ (List.mem_of_getElem? (i := 11) rfl)
theorem cM_test_101 : zCode 243 101 = some (.iconst 2, 102, 0, 0, 0, 0, 25) := cAM_test_3 _ (List.mem_of_getElem? (i := 12) rfl)
theorem cM_test_102 : zCode 243 102 = some (.iadd, 103, 0, 0, 0, 0, 25) := cAM_test_3 _ (List.mem_of_getElem? (i := 13) rfl)
theorem cM_test_103 : zCode 243 103 = some (.iload_n 3, 104, 0, 0, 0, 0, 25) := cAM_test_3 _ (List.mem_of_getElem? (i := 14) rfl)
theorem cM_test_104 : zCode 243 104 = some (.iastore, 105, 0, 0, 0, 0, 17) := cAM_test_3 _ (List.mem_of_getElem? (i := 15) rfl)
theorem cM_test_105 : zCode 243 105 = some (.aload_n 0, 106, 0, 0, 0, 0, 17) := cAM_test_4 _ (List.mem_of_getElem? (i := 0) rfl)
theorem cM_test_106 : zCode 243 106 = some (.getfield 7, 109, 12, 0, 2, 1209, 16) := cAM_test_4 _ (List.mem_of_getElem? (i := 1) rfl)
theorem cM_test_109 : zCode 243 109 = some (.sipush 984, 112, 0, 0, 0, 0, 16) := cAM_test_4 _ (List.mem_of_getElem? (i := 2) rfl)
theorem cM_test_112 : zCode 243 112 = some (.dup2, 113, 0, 0, 0, 0, 16) := cAM_test_4 _ (List.mem_of_getElem? (i := 3) rfl)
theorem cM_test_113 : zCode 243 113 = some (.iaload, 114, 0, 0, 0, 0, 16) := cAM_test_4 _ (List.mem_of_getElem? (i := 4) rfl)
theorem cM_test_114 : zCode 243 114 = some (.iconst 1, 115, 0, 0, 0, 0, 16) := cAM_test_4 _ (List.mem_of_getElem? (i := 5) rfl)
theorem cM_test_115 : zCode 243 115 = some (.iadd, 116, 0, 0, 0, 0, 16) := cAM_test_4 _ (List.mem_of_getElem? (i := 6) rfl)
theorem cM_test_116 : zCode 243 116 = some (.iastore, 117, 0, 0, 0, 0, 16) := cAM_test_4 _ (List.mem_of_getElem? (i := 7) rfl)
theorem cM_test_117 : zCode 243 117 = some (.iload 4, 119, 0, 0, 0, 0, 16) := cAM_test_4 _ (List.mem_of_getElem? (i := 8) rfl)
theorem cM_test_119 : zCode 243 119 = some (.ireturn, 120, 0, 0, 0, 0, 0) := cAM_test_4 _ (List.mem_of_getElem? (i := 9) rfl)
theorem rM_test_0 {a0 : Nat} {a1 a2 a3 : Int} {u4 : zV} : zS 243 0 [zR a0, zI a1, zI a2, zI a3, u4] [] sh pp mm Q ↔ zS 243 1 [zR a0, zI a1, zI a2, zI a3, zU] [zI a1] sh pp mm Q := s_go cM_test_0 cM_test_1 rfl rfl
theorem rM_test_1 {a0 : Nat} {a1 a2 a3 s0 : Int} {u4 : zV} : zS 243 1 [zR a0, zI a1, zI a2, zI a3, u4] [zI s0] sh pp mm Q ↔ zS 243 2 [zR a0, zI a1, zI a2, zI a3, zU] [zL s0] sh pp mm Q := s_go cM_test_1 cM_test_2 rfl rfl
theorem rM_test_2 {a0 : Nat} {a1 a2 a3 s0 : Int} {u4 : zV} : zS 243 2 [zR a0, zI a1, zI a2, zI a3, u4] [zL s0] sh pp mm Q ↔ zS 243 3 [zR a0, zI a1, zI a2, zI a3, zU] [zL 0, zL s0] sh pp mm Q := s_go cM_test_2 cM_test_3 rfl rfl
theorem rM_test_3 {a0 : Nat} {a1 a2 a3 s0 s1 : Int} {u4 : zV} : zS 243 3 [zR a0, zI a1, zI a2, zI a3, u4] [zL s0, zL s1] sh pp mm Q ↔ zS 243 4 [zR a0, zI a1, zI a2, zI a3, zU] [zL 1, zL s0, zL s1] sh pp mm Q := s_go cM_test_3 cM_test_4 rfl rfl
theorem rM_test_4 {a0 : Nat} {a1 a2 a3 s0 s1 s2 : Int} {u4 : zV} : zS 243 4 [zR a0, zI a1, zI a2, zI a3, u4] [zL s0, zL s1, zL s2] sh pp mm Q ↔ zS 151 0 [zL s2, zU, zL s1, zU, zL s0, zU] [] sh pp mm (fun v sh pp mm => zS 243 7 [zR a0, zI a1, zI a2, zI a3, zU] (zPush v []) sh pp mm Q) := s_call cM_test_4 cM_test_7 rfl rfl
theorem rM_test_7 {a0 : Nat} {a1 a2 a3 s0 : Int} {u4 : zV} : zS 243 7 [zR a0, zI a1, zI a2, zI a3, u4] [zI s0] sh pp mm Q ↔ (s0 = 0 → zS 243 33 [zR a0, zU, zU, zU, zU] [] sh pp mm Q) ∧ (¬ s0 = 0 → zS 243 10 [zR a0, zI a1, zI a2, zI a3, zU] [] sh pp mm Q) := s_if cM_test_7 cM_test_33 cM_test_10 rfl rfl rfl
theorem rM_test_10 {a0 : Nat} {a1 a2 a3 : Int} {u4 : zV} : zS 243 10 [zR a0, zI a1, zI a2, zI a3, u4] [] sh pp mm Q ↔ zS 243 11 [zR a0, zI a1, zI a2, zI a3, zU] [zI a2] sh pp mm Q := s_go cM_test_10 cM_test_11 rfl rfl
theorem rM_test_11 {a0 : Nat} {a1 a2 a3 s0 : Int} {u4 : zV} : zS 243 11 [zR a0, zI a1, zI a2, zI a3, u4] [zI s0] sh pp mm Q ↔ zS 243 12 [zR a0, zI a1, zI a2, zI a3, zU] [zL s0] sh pp mm Q := s_go cM_test_11 cM_test_12 rfl rfl
theorem rM_test_12 {a0 : Nat} {a1 a2 a3 s0 : Int} {u4 : zV} : zS 243 12 [zR a0, zI a1, zI a2, zI a3, u4] [zL s0] sh pp mm Q ↔ zS 243 13 [zR a0, zI a1, zI a2, zI a3, zU] [zL 1, zL s0] sh pp mm Q := s_go cM_test_12 cM_test_13 rfl rfl
theorem rM_test_13 {a0 : Nat} {a1 a2 a3 s0 s1 : Int} {u4 : zV} : zS 243 13 [zR a0, zI a1, zI a2, zI a3, u4] [zL s0, zL s1] sh pp mm Q ↔ zS 243 16 [zR a0, zI a1, zI a2, zI a3, zU] [zL 40, zL s0, zL s1] sh pp mm Q := s_go cM_test_13 cM_test_16 rfl rfl
theorem rM_test_16 {a0 : Nat} {a1 a2 a3 s0 s1 s2 : Int} {u4 : zV} : zS 243 16 [zR a0, zI a1, zI a2, zI a3, u4] [zL s0, zL s1, zL s2] sh pp mm Q ↔ zS 151 0 [zL s2, zU, zL s1, zU, zL s0, zU] [] sh pp mm (fun v sh pp mm => zS 243 19 [zR a0, zI a1, zI a2, zI a3, zU] (zPush v []) sh pp mm Q) := s_call cM_test_16 cM_test_19 rfl rfl
theorem rM_test_19 {a0 : Nat} {a1 a2 a3 s0 : Int} {u4 : zV} : zS 243 19 [zR a0, zI a1, zI a2, zI a3, u4] [zI s0] sh pp mm Q ↔ (s0 = 0 → zS 243 33 [zR a0, zU, zU, zU, zU] [] sh pp mm Q) ∧ (¬ s0 = 0 → zS 243 22 [zR a0, zI a1, zI a2, zI a3, zU] [] sh pp mm Q) := s_if cM_test_19 cM_test_33 cM_test_22 rfl rfl rfl
theorem rM_test_22 {a0 : Nat} {a1 a2 a3 : Int} {u4 : zV} : zS 243 22 [zR a0, zI a1, zI a2, zI a3, u4] [] sh pp mm Q ↔ zS 243 23 [zR a0, zI a1, zI a2, zI a3, zU] [zI a3] sh pp mm Q := s_go cM_test_22 cM_test_23 rfl rfl
theorem rM_test_23 {a0 : Nat} {a1 a2 a3 s0 : Int} {u4 : zV} : zS 243 23 [zR a0, zI a1, zI a2, zI a3, u4] [zI s0] sh pp mm Q ↔ zS 243 24 [zR a0, zI a1, zI a2, zI a3, zU] [zL s0] sh pp mm Q := s_go cM_test_23 cM_test_24 rfl rfl
theorem rM_test_24 {a0 : Nat} {a1 a2 a3 s0 : Int} {u4 : zV} : zS 243 24 [zR a0, zI a1, zI a2, zI a3, u4] [zL s0] sh pp mm Q ↔ zS 243 25 [zR a0, zI a1, zI a2, zI a3, zU] [zL 0, zL s0] sh pp mm Q := s_go cM_test_24 cM_test_25 rfl rfl
theorem rM_test_25 {a0 : Nat} {a1 a2 a3 s0 s1 : Int} {u4 : zV} : zS 243 25 [zR a0, zI a1, zI a2, zI a3, u4] [zL s0, zL s1] sh pp mm Q ↔ zS 243 26 [zR a0, zI a1, zI a2, zI a3, zU] [zI a2, zL s0, zL s1] sh pp mm Q := s_go cM_test_25 cM_test_26 rfl rfl
theorem rM_test_26 {a0 : Nat} {a1 a2 a3 s0 s1 s2 : Int} {u4 : zV} : zS 243 26 [zR a0, zI a1, zI a2, zI a3, u4] [zI s0, zL s1, zL s2] sh pp mm Q ↔ zS 243 27 [zR a0, zI a1, zI a2, zI a3, zU] [zL s0, zL s1, zL s2] sh pp mm Q := s_go cM_test_26 cM_test_27 rfl rfl
theorem rM_test_27 {a0 : Nat} {a1 a2 a3 s0 s1 s2 : Int} {u4 : zV} : zS 243 27 [zR a0, zI a1, zI a2, zI a3, u4] [zL s0, zL s1, zL s2] sh pp mm Q ↔ zS 151 0 [zL s2, zU, zL s1, zU, zL s0, zU] [] sh pp mm (fun v sh pp mm => zS 243 30 [zR a0, zI a1, zI a2, zI a3, zU] (zPush v []) sh pp mm Q) := s_call cM_test_27 cM_test_30 rfl rfl
theorem rM_test_30 {a0 : Nat} {a1 a2 a3 s0 : Int} {u4 : zV} : zS 243 30 [zR a0, zI a1, zI a2, zI a3, u4] [zI s0] sh pp mm Q ↔ (s0 = 0 → zS 243 33 [zR a0, zU, zU, zU, zU] [] sh pp mm Q) ∧ (¬ s0 = 0 → zS 243 40 [zR a0, zI a1, zI a2, zI a3, zU] [] sh pp mm Q) := s_ifn cM_test_30 cM_test_33 cM_test_40 rfl rfl rfl
theorem rM_test_33 {a0 : Nat} {u1 u2 u3 u4 : zV} : zS 243 33 [zR a0, u1, u2, u3, u4] [] sh pp mm Q ↔ zS 243 34 [zU, zU, zU, zU, zU] [zR a0] sh pp mm Q := s_go cM_test_33 cM_test_34 rfl rfl
theorem rM_test_34 {s0 : Nat} {u0 u1 u2 u3 u4 : zV} : zS 243 34 [u0, u1, u2, u3, u4] [zR s0] sh pp mm Q ↔ zS 243 36 [zU, zU, zU, zU, zU] [zI (-2), zR s0] sh pp mm Q := s_go cM_test_34 cM_test_36 rfl rfl
theorem rM_test_36 {s1 : Nat} {s0 : Int} {u0 u1 u2 u3 u4 : zV} (hk : zKd sh s1 = 12) : zS 243 36 [u0, u1, u2, u3, u4] [zI s0, zR s1] sh pp mm Q ↔ zS 152 0 [zR s1, zI s0] [] sh pp mm (fun v sh pp mm => zS 243 39 [zU, zU, zU, zU, zU] (zPush v []) sh pp mm Q) := s_call cM_test_36 cM_test_39 ((if_pos hk).trans rfl) rfl
theorem rM_test_39 {s0 : Int} {u0 u1 u2 u3 u4 : zV} : zS 243 39 [u0, u1, u2, u3, u4] [zI s0] sh pp mm Q ↔ Q (zI s0) sh pp mm := s_ret cM_test_39 rfl
theorem rM_test_40 {a0 : Nat} {a1 a2 a3 : Int} {u4 : zV} : zS 243 40 [zR a0, zI a1, zI a2, zI a3, u4] [] sh pp mm Q ↔ zS 243 41 [zR a0, zI a1, zI a2, zI a3, zU] [zR a0] sh pp mm Q := s_go cM_test_40 cM_test_41 rfl rfl
theorem rM_test_41 {a0 s0 : Nat} {a1 a2 a3 : Int} {u4 : zV} : zS 243 41 [zR a0, zI a1, zI a2, zI a3, u4] [zR s0] sh pp mm Q ↔ zS 243 42 [zR a0, zI a1, zI a2, zI a3, zU] [zI 3, zR s0] sh pp mm Q := s_go cM_test_41 cM_test_42 rfl rfl
theorem rM_test_42 {a0 s1 : Nat} {a1 a2 a3 s0 : Int} {u4 : zV} (hk : zKd sh s1 = 12) : zS 243 42 [zR a0, zI a1, zI a2, zI a3, u4] [zI s0, zR s1] sh pp mm Q ↔ zS 169 0 [zR s1, zI s0] [] sh pp mm (fun v sh pp mm => zS 243 45 [zR a0, zI a1, zI a2, zI a3, zU] (zPush v []) sh pp mm Q) := s_call cM_test_42 cM_test_45 ((if_pos hk).trans rfl) rfl
theorem rM_test_45 {a0 : Nat} {a1 a2 a3 s0 : Int} {u4 : zV} : zS 243 45 [zR a0, zI a1, zI a2, zI a3, u4] [zI s0] sh pp mm Q ↔ zS 243 47 [zR a0, zI a1, zI a2, zI a3, zI s0] [] sh pp mm Q := s_go cM_test_45 cM_test_47 rfl rfl
theorem rM_test_47 {a0 : Nat} {a1 a2 a3 a4 : Int} : zS 243 47 [zR a0, zI a1, zI a2, zI a3, zI a4] [] sh pp mm Q ↔ zS 243 49 [zR a0, zI a1, zI a2, zI a3, zI a4] [zI a4] sh pp mm Q := s_go cM_test_47 cM_test_49 rfl rfl
theorem rM_test_49 {a0 : Nat} {a1 a2 a3 a4 s0 : Int} : zS 243 49 [zR a0, zI a1, zI a2, zI a3, zI a4] [zI s0] sh pp mm Q ↔ zS 243 51 [zR a0, zI a1, zI a2, zI a3, zI a4] [zI 8, zI s0] sh pp mm Q := s_go cM_test_49 cM_test_51 rfl rfl
theorem rM_test_51 {a0 : Nat} {a1 a2 a3 a4 s0 s1 : Int} : zS 243 51 [zR a0, zI a1, zI a2, zI a3, zI a4] [zI s0, zI s1] sh pp mm Q ↔ (s1 = s0 → zS 243 54 [zR a0, zU, zU, zU, zU] [] sh pp mm Q) ∧ (¬ s1 = s0 → zS 243 59 [zR a0, zI a1, zI a2, zI a3, zI a4] [] sh pp mm Q) := s_ifn cM_test_51 cM_test_54 cM_test_59 rfl rfl rfl
theorem rM_test_54 {a0 : Nat} {u1 u2 u3 u4 : zV} : zS 243 54 [zR a0, u1, u2, u3, u4] [] sh pp mm Q ↔ zS 243 55 [zU, zU, zU, zU, zU] [zR a0] sh pp mm Q := s_go cM_test_54 cM_test_55 rfl rfl
theorem rM_test_55 {s0 : Nat} {u0 u1 u2 u3 u4 : zV} (hk : zKd sh s0 = 12) : zS 243 55 [u0, u1, u2, u3, u4] [zR s0] sh pp mm Q ↔ zS 154 0 [zR s0] [] sh pp mm (fun v sh pp mm => zS 243 58 [zU, zU, zU, zU, zU] (zPush v []) sh pp mm Q) := s_call cM_test_55 cM_test_58 ((if_pos hk).trans rfl) rfl
theorem rM_test_58 {s0 : Int} {u0 u1 u2 u3 u4 : zV} : zS 243 58 [u0, u1, u2, u3, u4] [zI s0] sh pp mm Q ↔ Q (zI s0) sh pp mm := s_ret cM_test_58 rfl
theorem rM_test_59 {a0 : Nat} {a1 a2 a3 a4 : Int} : zS 243 59 [zR a0, zI a1, zI a2, zI a3, zI a4] [] sh pp mm Q ↔ zS 243 60 [zR a0, zI a1, zI a2, zI a3, zI a4] [zR a0] sh pp mm Q := s_go cM_test_59 cM_test_60 rfl rfl
theorem rM_test_60 {a0 s0 : Nat} {a1 a2 a3 a4 : Int} (hk : zKd sh s0 = 12) : zS 243 60 [zR a0, zI a1, zI a2, zI a3, zI a4] [zR s0] sh pp mm Q ↔ zS 243 63 [zR a0, zI a1, zI a2, zI a3, zI a4] [zR (pp s0 0)] sh pp mm Q := s_go cM_test_60 cM_test_63 (if_pos hk) rfl
theorem rM_test_63 {a0 s0 : Nat} {a1 a2 a3 a4 : Int} : zS 243 63 [zR a0, zI a1, zI a2, zI a3, zI a4] [zR s0] sh pp mm Q ↔ zS 243 66 [zR a0, zI a1, zI a2, zI a3, zI a4] [zI 957, zR s0] sh pp mm Q := s_go cM_test_63 cM_test_66 rfl rfl
theorem rM_test_66 {a0 s1 : Nat} {a1 a2 a3 a4 s0 : Int} : zS 243 66 [zR a0, zI a1, zI a2, zI a3, zI a4] [zI s0, zR s1] sh pp mm Q ↔ zS 243 67 [zR a0, zI a1, zI a2, zI a3, zI a4] [zI 3, zI s0, zR s1] sh pp mm Q := s_go cM_test_66 cM_test_67 rfl rfl
theorem rM_test_67 {a0 s2 : Nat} {a1 a2 a3 a4 s0 s1 : Int} : zS 243 67 [zR a0, zI a1, zI a2, zI a3, zI a4] [zI s0, zI s1, zR s2] sh pp mm Q ↔ zS 243 69 [zR a0, zI a1, zI a2, zI a3, zI a4] [zI a4, zI s0, zI s1, zR s2] sh pp mm Q := s_go cM_test_67 cM_test_69 rfl rfl
theorem rM_test_69 {a0 s3 : Nat} {a1 a2 a3 a4 s0 s1 s2 : Int} : zS 243 69 [zR a0, zI a1, zI a2, zI a3, zI a4] [zI s0, zI s1, zI s2, zR s3] sh pp mm Q ↔ zS 243 70 [zR a0, zI a1, zI a2, zI a3, zI a4] [zI (zw32 (s1 * s0)), zI s2, zR s3] sh pp mm Q := s_go cM_test_69 cM_test_70 rfl rfl
theorem rM_test_70 {a0 s2 : Nat} {a1 a2 a3 a4 s0 s1 : Int} : zS 243 70 [zR a0, zI a1, zI a2, zI a3, zI a4] [zI s0, zI s1, zR s2] sh pp mm Q ↔ zS 243 71 [zR a0, zI a1, zI a2, zI a3, zI a4] [zI (zw32 (s1 + s0)), zR s2] sh pp mm Q := s_go cM_test_70 cM_test_71 rfl rfl
theorem rM_test_71 {a0 s1 : Nat} {a1 a2 a3 a4 s0 : Int} : zS 243 71 [zR a0, zI a1, zI a2, zI a3, zI a4] [zI s0, zR s1] sh pp mm Q ↔ zS 243 72 [zR a0, zU, zI a2, zI a3, zI a4] [zI a1, zI s0, zR s1] sh pp mm Q := s_go cM_test_71 cM_test_72 rfl rfl
theorem rM_test_72 {a0 s2 : Nat} {a2 a3 a4 s0 s1 : Int} {u1 : zV} (hk : zKd sh s2 = 20) (h0 : 0 ≤ s1) (h1 : s1 < zLn sh s2) : zS 243 72 [zR a0, u1, zI a2, zI a3, zI a4] [zI s0, zI s1, zR s2] sh pp mm Q ↔ zS 243 73 [zR a0, zU, zI a2, zI a3, zI a4] [] sh pp (zupd mm s2 s1 s0) Q := s_go cM_test_72 cM_test_73 (if_pos ⟨hk, h0, h1, fun h => absurd h (by decide)⟩) rfl
theorem rM_test_73 {a0 : Nat} {a2 a3 a4 : Int} {u1 : zV} : zS 243 73 [zR a0, u1, zI a2, zI a3, zI a4] [] sh pp mm Q ↔ zS 243 74 [zR a0, zU, zI a2, zI a3, zI a4] [zR a0] sh pp mm Q := s_go cM_test_73 cM_test_74 rfl rfl
theorem rM_test_74 {a0 s0 : Nat} {a2 a3 a4 : Int} {u1 : zV} (hk : zKd sh s0 = 12) : zS 243 74 [zR a0, u1, zI a2, zI a3, zI a4] [zR s0] sh pp mm Q ↔ zS 243 77 [zR a0, zU, zI a2, zI a3, zI a4] [zR (pp s0 0)] sh pp mm Q := s_go cM_test_74 cM_test_77 (if_pos hk) rfl
theorem rM_test_77 {a0 s0 : Nat} {a2 a3 a4 : Int} {u1 : zV} : zS 243 77 [zR a0, u1, zI a2, zI a3, zI a4] [zR s0] sh pp mm Q ↔ zS 243 80 [zR a0, zU, zI a2, zI a3, zI a4] [zI 957, zR s0] sh pp mm Q := s_go cM_test_77 cM_test_80 rfl rfl
theorem rM_test_80 {a0 s1 : Nat} {a2 a3 a4 s0 : Int} {u1 : zV} : zS 243 80 [zR a0, u1, zI a2, zI a3, zI a4] [zI s0, zR s1] sh pp mm Q ↔ zS 243 81 [zR a0, zU, zI a2, zI a3, zI a4] [zI 3, zI s0, zR s1] sh pp mm Q := s_go cM_test_80 cM_test_81 rfl rfl
theorem rM_test_81 {a0 s2 : Nat} {a2 a3 a4 s0 s1 : Int} {u1 : zV} : zS 243 81 [zR a0, u1, zI a2, zI a3, zI a4] [zI s0, zI s1, zR s2] sh pp mm Q ↔ zS 243 83 [zR a0, zU, zI a2, zI a3, zI a4] [zI a4, zI s0, zI s1, zR s2] sh pp mm Q := s_go cM_test_81 cM_test_83 rfl rfl
theorem rM_test_83 {a0 s3 : Nat} {a2 a3 a4 s0 s1 s2 : Int} {u1 : zV} : zS 243 83 [zR a0, u1, zI a2, zI a3, zI a4] [zI s0, zI s1, zI s2, zR s3] sh pp mm Q ↔ zS 243 84 [zR a0, zU, zI a2, zI a3, zI a4] [zI (zw32 (s1 * s0)), zI s2, zR s3] sh pp mm Q := s_go cM_test_83 cM_test_84 rfl rfl
theorem rM_test_84 {a0 s2 : Nat} {a2 a3 a4 s0 s1 : Int} {u1 : zV} : zS 243 84 [zR a0, u1, zI a2, zI a3, zI a4] [zI s0, zI s1, zR s2] sh pp mm Q ↔ zS 243 85 [zR a0, zU, zI a2, zI a3, zI a4] [zI (zw32 (s1 + s0)), zR s2] sh pp mm Q := s_go cM_test_84 cM_test_85 rfl rfl
theorem rM_test_85 {a0 s1 : Nat} {a2 a3 a4 s0 : Int} {u1 : zV} : zS 243 85 [zR a0, u1, zI a2, zI a3, zI a4] [zI s0, zR s1] sh pp mm Q ↔ zS 243 86 [zR a0, zU, zI a2, zI a3, zI a4] [zI 1, zI s0, zR s1] sh pp mm Q := s_go cM_test_85 cM_test_86 rfl rfl
theorem rM_test_86 {a0 s2 : Nat} {a2 a3 a4 s0 s1 : Int} {u1 : zV} : zS 243 86 [zR a0, u1, zI a2, zI a3, zI a4] [zI s0, zI s1, zR s2] sh pp mm Q ↔ zS 243 87 [zR a0, zU, zI a2, zI a3, zI a4] [zI (zw32 (s1 + s0)), zR s2] sh pp mm Q := s_go cM_test_86 cM_test_87 rfl rfl
theorem rM_test_87 {a0 s1 : Nat} {a2 a3 a4 s0 : Int} {u1 : zV} : zS 243 87 [zR a0, u1, zI a2, zI a3, zI a4] [zI s0, zR s1] sh pp mm Q ↔ zS 243 88 [zR a0, zU, zU, zI a3, zI a4] [zI a2, zI s0, zR s1] sh pp mm Q := s_go cM_test_87 cM_test_88 rfl rfl
theorem rM_test_88 {a0 s2 : Nat} {a3 a4 s0 s1 : Int} {u1 u2 : zV} (hk : zKd sh s2 = 20) (h0 : 0 ≤ s1) (h1 : s1 < zLn sh s2) : zS 243 88 [zR a0, u1, u2, zI a3, zI a4] [zI s0, zI s1, zR s2] sh pp mm Q ↔ zS 243 89 [zR a0, zU, zU, zI a3, zI a4] [] sh pp (zupd mm s2 s1 s0) Q := s_go cM_test_88 cM_test_89 (if_pos ⟨hk, h0, h1, fun h => absurd h (by decide)⟩) rfl
theorem rM_test_89 {a0 : Nat} {a3 a4 : Int} {u1 u2 : zV} : zS 243 89 [zR a0, u1, u2, zI a3, zI a4] [] sh pp mm Q ↔ zS 243 90 [zR a0, zU, zU, zI a3, zI a4] [zR a0] sh pp mm Q := s_go cM_test_89 cM_test_90 rfl rfl
theorem rM_test_90 {a0 s0 : Nat} {a3 a4 : Int} {u1 u2 : zV} (hk : zKd sh s0 = 12) : zS 243 90 [zR a0, u1, u2, zI a3, zI a4] [zR s0] sh pp mm Q ↔ zS 243 93 [zR a0, zU, zU, zI a3, zI a4] [zR (pp s0 0)] sh pp mm Q := s_go cM_test_90 cM_test_93 (if_pos hk) rfl
theorem rM_test_93 {a0 s0 : Nat} {a3 a4 : Int} {u1 u2 : zV} : zS 243 93 [zR a0, u1, u2, zI a3, zI a4] [zR s0] sh pp mm Q ↔ zS 243 96 [zR a0, zU, zU, zI a3, zI a4] [zI 957, zR s0] sh pp mm Q := s_go cM_test_93 cM_test_96 rfl rfl
theorem rM_test_96 {a0 s1 : Nat} {a3 a4 s0 : Int} {u1 u2 : zV} : zS 243 96 [zR a0, u1, u2, zI a3, zI a4] [zI s0, zR s1] sh pp mm Q ↔ zS 243 97 [zR a0, zU, zU, zI a3, zI a4] [zI 3, zI s0, zR s1] sh pp mm Q := s_go cM_test_96 cM_test_97 rfl rfl
theorem rM_test_97 {a0 s2 : Nat} {a3 a4 s0 s1 : Int} {u1 u2 : zV} : zS 243 97 [zR a0, u1, u2, zI a3, zI a4] [zI s0, zI s1, zR s2] sh pp mm Q ↔ zS 243 99 [zR a0, zU, zU, zI a3, zI a4] [zI a4, zI s0, zI s1, zR s2] sh pp mm Q := s_go cM_test_97 cM_test_99 rfl rfl
theorem rM_test_99 {a0 s3 : Nat} {a3 a4 s0 s1 s2 : Int} {u1 u2 : zV} : zS 243 99 [zR a0, u1, u2, zI a3, zI a4] [zI s0, zI s1, zI s2, zR s3] sh pp mm Q ↔ zS 243 100 [zR a0, zU, zU, zI a3, zI a4] [zI (zw32 (s1 * s0)), zI s2, zR s3] sh pp mm Q := s_go cM_test_99 cM_test_100 rfl rfl
theorem rM_test_100 {a0 s2 : Nat} {a3 a4 s0 s1 : Int} {u1 u2 : zV} : zS 243 100 [zR a0, u1, u2, zI a3, zI a4] [zI s0, zI s1, zR s2] sh pp mm Q ↔ zS 243 101 [zR a0, zU, zU, zI a3, zI a4] [zI (zw32 (s1 + s0)), zR s2] sh pp mm Q := s_go cM_test_100 cM_test_101 rfl rfl
theorem rM_test_101 {a0 s1 : Nat} {a3 a4 s0 : Int} {u1 u2 : zV} : zS 243 101 [zR a0, u1, u2, zI a3, zI a4] [zI s0, zR s1] sh pp mm Q ↔ zS 243 102 [zR a0, zU, zU, zI a3, zI a4] [zI 2, zI s0, zR s1] sh pp mm Q := s_go cM_test_101 cM_test_102 rfl rfl
theorem rM_test_102 {a0 s2 : Nat} {a3 a4 s0 s1 : Int} {u1 u2 : zV} : zS 243 102 [zR a0, u1, u2, zI a3, zI a4] [zI s0, zI s1, zR s2] sh pp mm Q ↔ zS 243 103 [zR a0, zU, zU, zI a3, zI a4] [zI (zw32 (s1 + s0)), zR s2] sh pp mm Q := s_go cM_test_102 cM_test_103 rfl rfl
theorem rM_test_103 {a0 s1 : Nat} {a3 a4 s0 : Int} {u1 u2 : zV} : zS 243 103 [zR a0, u1, u2, zI a3, zI a4] [zI s0, zR s1] sh pp mm Q ↔ zS 243 104 [zR a0, zU, zU, zU, zI a4] [zI a3, zI s0, zR s1] sh pp mm Q := s_go cM_test_103 cM_test_104 rfl rfl
theorem rM_test_104 {a0 s2 : Nat} {a4 s0 s1 : Int} {u1 u2 u3 : zV} (hk : zKd sh s2 = 20) (h0 : 0 ≤ s1) (h1 : s1 < zLn sh s2) : zS 243 104 [zR a0, u1, u2, u3, zI a4] [zI s0, zI s1, zR s2] sh pp mm Q ↔ zS 243 105 [zR a0, zU, zU, zU, zI a4] [] sh pp (zupd mm s2 s1 s0) Q := s_go cM_test_104 cM_test_105 (if_pos ⟨hk, h0, h1, fun h => absurd h (by decide)⟩) rfl
theorem rM_test_105 {a0 : Nat} {a4 : Int} {u1 u2 u3 : zV} : zS 243 105 [zR a0, u1, u2, u3, zI a4] [] sh pp mm Q ↔ zS 243 106 [zU, zU, zU, zU, zI a4] [zR a0] sh pp mm Q := s_go cM_test_105 cM_test_106 rfl rfl
theorem rM_test_106 {s0 : Nat} {a4 : Int} {u0 u1 u2 u3 : zV} (hk : zKd sh s0 = 12) : zS 243 106 [u0, u1, u2, u3, zI a4] [zR s0] sh pp mm Q ↔ zS 243 109 [zU, zU, zU, zU, zI a4] [zR (pp s0 0)] sh pp mm Q := s_go cM_test_106 cM_test_109 (if_pos hk) rfl
theorem rM_test_109 {s0 : Nat} {a4 : Int} {u0 u1 u2 u3 : zV} : zS 243 109 [u0, u1, u2, u3, zI a4] [zR s0] sh pp mm Q ↔ zS 243 112 [zU, zU, zU, zU, zI a4] [zI 984, zR s0] sh pp mm Q := s_go cM_test_109 cM_test_112 rfl rfl
theorem rM_test_112 {s1 : Nat} {a4 s0 : Int} {u0 u1 u2 u3 : zV} : zS 243 112 [u0, u1, u2, u3, zI a4] [zI s0, zR s1] sh pp mm Q ↔ zS 243 113 [zU, zU, zU, zU, zI a4] [zI s0, zR s1, zI s0, zR s1] sh pp mm Q := s_go cM_test_112 cM_test_113 rfl rfl
theorem rM_test_113 {s1 s3 : Nat} {a4 s0 s2 : Int} {u0 u1 u2 u3 : zV} (hk : zKd sh s1 = 20 ∨ zKd sh s1 = 30) (h0 : 0 ≤ s0) (h1 : s0 < zLn sh s1) : zS 243 113 [u0, u1, u2, u3, zI a4] [zI s0, zR s1, zI s2, zR s3] sh pp mm Q ↔ zS 243 114 [zU, zU, zU, zU, zI a4] [zI (mm s1 s0), zI s2, zR s3] sh pp mm Q := s_go cM_test_113 cM_test_114 (if_pos ⟨hk, h0, h1⟩) rfl
theorem rM_test_114 {s2 : Nat} {a4 s0 s1 : Int} {u0 u1 u2 u3 : zV} : zS 243 114 [u0, u1, u2, u3, zI a4] [zI s0, zI s1, zR s2] sh pp mm Q ↔ zS 243 115 [zU, zU, zU, zU, zI a4] [zI 1, zI s0, zI s1, zR s2] sh pp mm Q := s_go cM_test_114 cM_test_115 rfl rfl
theorem rM_test_115 {s3 : Nat} {a4 s0 s1 s2 : Int} {u0 u1 u2 u3 : zV} : zS 243 115 [u0, u1, u2, u3, zI a4] [zI s0, zI s1, zI s2, zR s3] sh pp mm Q ↔ zS 243 116 [zU, zU, zU, zU, zI a4] [zI (zw32 (s1 + s0)), zI s2, zR s3] sh pp mm Q := s_go cM_test_115 cM_test_116 rfl rfl
theorem rM_test_116 {s2 : Nat} {a4 s0 s1 : Int} {u0 u1 u2 u3 : zV} (hk : zKd sh s2 = 20) (h0 : 0 ≤ s1) (h1 : s1 < zLn sh s2) : zS 243 116 [u0, u1, u2, u3, zI a4] [zI s0, zI s1, zR s2] sh pp mm Q ↔ zS 243 117 [zU, zU, zU, zU, zI a4] [] sh pp (zupd mm s2 s1 s0) Q := s_go cM_test_116 cM_test_117 (if_pos ⟨hk, h0, h1, fun h => absurd h (by decide)⟩) rfl
theorem rM_test_117 {a4 : Int} {u0 u1 u2 u3 : zV} : zS 243 117 [u0, u1, u2, u3, zI a4] [] sh pp mm Q ↔ zS 243 119 [zU, zU, zU, zU, zU] [zI a4] sh pp mm Q := s_go cM_test_117 cM_test_119 rfl rfl
theorem rM_test_119 {s0 : Int} {u0 u1 u2 u3 u4 : zV} : zS 243 119 [u0, u1, u2, u3, u4] [zI s0] sh pp mm Q ↔ Q (zI s0) sh pp mm := s_ret cM_test_119 rfl
theorem cAM_mayPlay : ∀ q ∈ zT244, zCode 244 q.1 = some q.2 := zAll (mid := 244) rfl (by decide +kernel)
theorem cAM_mayPlay_0 : ∀ q ∈ zT244_0, zCode 244 q.1 = some q.2 := fun q h => cAM_mayPlay q (List.mem_append_left _ h)
theorem cAM_mayPlay_1 : ∀ q ∈ zT244_1, zCode 244 q.1 = some q.2 := fun q h => cAM_mayPlay q (List.mem_append_right _ (List.mem_append_left _ h))
theorem cAM_mayPlay_2 : ∀ q ∈ zT244_2, zCode 244 q.1 = some q.2 := fun q h => cAM_mayPlay q (List.mem_append_right _ (List.mem_append_right _ (List.mem_append_left _ h)))
theorem cAM_mayPlay_3 : ∀ q ∈ zT244_3, zCode 244 q.1 = some q.2 := fun q h => cAM_mayPlay q (List.mem_append_right _ (List.mem_append_right _ (List.mem_append_right _ h)))
theorem cM_mayPlay_0 : zCode 244 0 = some (.iconst 1, 1, 0, 0, 0, 0, 7) := cAM_mayPlay_0 _ (List.mem_of_getElem? (i := 0) rfl)
theorem cM_mayPlay_1 : zCode 244 1 = some (.istore_n 3, 2, 0, 0, 0, 0, 7) := cAM_mayPlay_0 _ (List.mem_of_getElem? (i := 1) rfl)
theorem cM_mayPlay_2 : zCode 244 2 = some (.iconst 0, 3, 0, 0, 0, 0, 15) := cAM_mayPlay_0 _ (List.mem_of_getElem? (i := 2) rfl)
theorem cM_mayPlay_3 : zCode 244 3 = some (.istore 4, 5, 0, 0, 0, 0, 15) := cAM_mayPlay_0 _ (List.mem_of_getElem? (i := 3) rfl)
theorem cM_mayPlay_5 : zCode 244 5 = some (.iload 4, 7, 0, 0, 0, 0, 31) := cAM_mayPlay_0 _ (List.mem_of_getElem? (i := 4) rfl)
theorem cM_mayPlay_7 : zCode 244 7 = some (.aload_n 0, 8, 0, 0, 0, 0, 31) := cAM_mayPlay_0 _ (List.mem_of_getElem? (i := 5) rfl)
theorem cM_mayPlay_8 : zCode 244 8 = some (.iconst 3, 9, 0, 0, 0, 0, 31) := cAM_mayPlay_0 _ (List.mem_of_getElem? (i := 6) rfl)
theorem cM_mayPlay_9 : zCode 244 9 = some (.invokevirtual 288, 12, 169, 1, 2, 12, 31) := cAM_mayPlay_0 _ (List.mem_of_getElem? (i := 7) rfl)
theorem cM_mayPlay_12 : zCode 244 12 = some (.if_icmp .ge 93, 15, 105, 0, 0, 0, 31) := cAM_mayPlay_0 _ (List.mem_of_getElem? (i := 8) rfl)
theorem cM_mayPlay_15 : zCode 244 15 = some (.aload_n 0, 16, 0, 0, 0, 0, 31) := cAM_mayPlay_0 _ (List.mem_of_getElem? (i := 9) rfl)
theorem cM_mayPlay_16 : zCode 244 16 = some (.getfield 7, 19, 12, 0, 2, 1209, 31) := cAM_mayPlay_0 _ (List.mem_of_getElem? (i := 10) rfl)
theorem cM_mayPlay_19 : zCode 244 19 = some (.sipush 957, 22, 0, 0, 0, 0, 31) := cAM_mayPlay_0 _ (List.mem_of_getElem? (i := 11) rfl)
theorem cM_mayPlay_22 : zCode 244 22 = some (.iconst 3, 23, 0, 0, 0, 0, 31) := cAM_mayPlay_0 _ (List.mem_of_getElem? (i := 12) rfl)
theorem cM_mayPlay_23 : zCode 244 23 = some (.iload 4, 25, 0, 0, 0, 0, 31) := cAM_mayPlay_0 _ (List.mem_of_getElem? (i := 13) rfl)
theorem cM_mayPlay_25 : zCode 244 25 = some (.imul, 26, 0, 0, 0, 0, 31) := cAM_mayPlay_0 _ (List.mem_of_getElem? (i := 14) rfl)
theorem cM_mayPlay_26 : zCode 244 26 = some (.iadd, 27, 0, 0, 0, 0, 31) := cAM_mayPlay_0 _ (List.mem_of_getElem? (i := 15) rfl)
theorem cM_mayPlay_27 : zCode 244 27 = some (.iconst 1, 28, 0, 0, 0, 0, 31) := cAM_mayPlay_1 _ (List.mem_of_getElem? (i := 0) rfl)
theorem cM_mayPlay_28 : zCode 244 28 = some (.iadd, 29, 0, 0, 0, 0, 31) := cAM_mayPlay_1 _ (List.mem_of_getElem? (i := 1) rfl)
theorem cM_mayPlay_29 : zCode 244 29 = some (.iaload, 30, 0, 0, 0, 0, 31) := cAM_mayPlay_1 _ (List.mem_of_getElem? (i := 2) rfl)
theorem cM_mayPlay_30 : zCode 244 30 = some (.istore 5, 32, 0, 0, 0, 0, 31) := cAM_mayPlay_1 _ (List.mem_of_getElem? (i := 3) rfl)
theorem cM_mayPlay_32 : zCode 244 32 = some (.aload_n 0, 33, 0, 0, 0, 0, 63) := cAM_mayPlay_1 _ (List.mem_of_getElem? (i := 4) rfl)
theorem cM_mayPlay_33 : zCode 244 33 = some (.getfield 7, 36, 12, 0, 2, 1209, 63) := cAM_mayPlay_1 _ (List.mem_of_getElem? (i := 5) rfl)
theorem cM_mayPlay_36 : zCode 244 36 = some (.sipush 957, 39, 0, 0, 0, 0, 63) := cAM_mayPlay_1 _ (List.mem_of_getElem? (i := 6) rfl)
theorem cM_mayPlay_39 : zCode 244 39 = some (.iconst 3, 40, 0, 0, 0, 0, 63) := cAM_mayPlay_1 _ (List.mem_of_getElem? (i := 7) rfl)
theorem cM_mayPlay_40 : zCode 244 40 = some (.iload 4, 42, 0, 0, 0, 0, 63) := cAM_mayPlay_1 _ (List.mem_of_getElem? (i := 8) rfl)
theorem cM_mayPlay_42 : zCode 244 42 = some (.imul, 43, 0, 0, 0, 0, 63) := cAM_mayPlay_1 _ (List.mem_of_getElem? (i := 9) rfl)
theorem cM_mayPlay_43 : zCode 244 43 = some (.iadd, 44, 0, 0, 0, 0, 63) := cAM_mayPlay_1 _ (List.mem_of_getElem? (i := 10) rfl)
theorem cM_mayPlay_44 : zCode 244 44 = some (.iconst 2, 45, 0, 0, 0, 0, 63) := cAM_mayPlay_1 _ (List.mem_of_getElem? (i := 11) rfl)
theorem cM_mayPlay_45 : zCode 244 45 = some (.iadd, 46, 0, 0, 0, 0, 63) := cAM_mayPlay_1 _ (List.mem_of_getElem? (i := 12) rfl)
theorem cM_mayPlay_46 : zCode 244 46 = some (.iaload, 47, 0, 0, 0, 0, 63) := cAM_mayPlay_1 _ (List.mem_of_getElem? (i := 13) rfl)
theorem cM_mayPlay_47 : zCode 244 47 = some (.istore 6, 49, 0, 0, 0, 0, 63) := cAM_mayPlay_1 _ (List.mem_of_getElem? (i := 14) rfl)
theorem cM_mayPlay_49 : zCode 244 49 = some (.iload_n 3, 50, 0, 0, 0, 0, 127) := cAM_mayPlay_1 _ (List.mem_of_getElem? (i := 15) rfl)
theorem cM_mayPlay_50 : zCode 244 50 = some (.ifCond .eq 47, 53, 97, 0, 0, 0, 119) := cAM_mayPlay_2 _ (List.mem_of_getElem? (i := 0) rfl)
theorem cM_mayPlay_53 : zCode 244 53 = some (.aload_n 0, 54, 0, 0, 0, 0, 119) := cAM_mayPlay_2 _ (List.mem_of_getElem? (i := 1) rfl)
theorem cM_mayPlay_54 : zCode 244 54 = some (.getfield 7, 57, 12, 0, 2, 1209, 119) := cAM_mayPlay_2 _ (List.mem_of_getElem? (i := 2) rfl)
theorem cM_mayPlay_57 : zCode 244 57 = some (.sipush 957, 60, 0, 0, 0, 0, 119) := cAM_mayPlay_2 _ (List.mem_of_getElem? (i := 3) rfl)
theorem cM_mayPlay_60 : zCode 244 60 = some (.iconst 3, 61, 0, 0, 0, 0, 119) := cAM_mayPlay_2 _ (List.mem_of_getElem? (i := 4) rfl)
theorem cM_mayPlay_61 : zCode 244 61 = some (.iload 4, 63, 0, 0, 0, 0, 119) := cAM_mayPlay_2 _ (List.mem_of_getElem? (i := 5) rfl)
theorem cM_mayPlay_63 : zCode 244 63 = some (.imul, 64, 0, 0, 0, 0, 119) := cAM_mayPlay_2 _ (List.mem_of_getElem? (i := 6) rfl)
theorem cM_mayPlay_64 : zCode 244 64 = some (.iadd, 65, 0, 0, 0, 0, 119) := cAM_mayPlay_2 _ (List.mem_of_getElem? (i := 7) rfl)
theorem cM_mayPlay_65 : zCode 244 65 = some (.iaload, 66, 0, 0, 0, 0, 119) := cAM_mayPlay_2 _ (List.mem_of_getElem? (i := 8) rfl)
theorem cM_mayPlay_66 : zCode 244 66 = some (.iload_n 1, 67, 0, 0, 0, 0, 119) := cAM_mayPlay_2 _ (List.mem_of_getElem? (i := 9) rfl)
theorem cM_mayPlay_67 : zCode 244 67 = some (.if_icmp .ne 26, 70, 93, 0, 0, 0, 119) := cAM_mayPlay_2 _ (List.mem_of_getElem? (i := 10) rfl)
theorem cM_mayPlay_70 : zCode 244 70 = some (.iload 6, 72, 0, 0, 0, 0, 119) := cAM_mayPlay_2 _ (List.mem_of_getElem? (i := 11) rfl)
theorem cM_mayPlay_72 : zCode 244 72 = some (.ifCond .le 15, 75, 87, 0, 0, 0, 119) := cAM_mayPlay_2 _ (List.mem_of_getElem? (i := 12) rfl)
theorem cM_mayPlay_75 : zCode 244 75 = some (.iload_n 2, 76, 0, 0, 0, 0, 119) := cAM_mayPlay_2 _ (List.mem_of_getElem? (i := 13) rfl)
theorem cM_mayPlay_76 : zCode 244 76 = some (.iload 5, 78, 0, 0, 0, 0, 119) := cAM_mayPlay_2 _ (List.mem_of_getElem? (i := 14) rfl)
theorem cM_mayPlay_78 : zCode 244 78 = some (.iload 6, 80, 0, 0, 0, 0, 87) := cAM_mayPlay_2 _ (List.mem_of_getElem? (i := 15) rfl)
theorem cM_mayPlay_80 : zCode 244 80 = some (.isub, 81, 0, 0, 0, 0, 23) := cAM_mayPlay_3 _ (List.mem_of_getElem? (i := 0) rfl)
theorem cM_mayPlay_81 : zCode 244 81 = some (.if_icmp .ne 16, 84, 97, 0, 0, 0, 23) := cAM_mayPlay_3 _ (List.mem_of_getElem? (i := 1) rfl)
theorem cM_mayPlay_84 : zCode 244 84 = some (.goto 9, 87, 93, 0, 0, 0, 23) := cAM_mayPlay_3 _ (List.mem_of_getElem? (i := 2) rfl)
theorem cM_mayPlay_87 : zCode 244 87 = some (.iload_n 2, 88, 0, 0, 0, 0, 55) := cAM_mayPlay_3 _ (List.mem_of_getElem? (i := 3) rfl)
theorem cM_mayPlay_88 : zCode 244 88 = some (.iload 5, 90, 0, 0, 0, 0, 55) := cAM_mayPlay_3 _ (List.mem_of_getElem? (i := 4) rfl)
theorem cM_mayPlay_90 : zCode 244 90 = some (.if_icmp .lt 7, 93, 97, 0, 0, 0, 23) := cAM_mayPlay_3 _ (List.mem_of_getElem? (i := 5) rfl)
theorem cM_mayPlay_93 : zCode 244 93 = some (.iconst 1, 94, 0, 0, 0, 0, 23) := cAM_mayPlay_3 _ (List.mem_of_getElem? (i := 6) rfl)
theorem cM_mayPlay_94 : zCode 244 94 = some (.goto 4, 97, 98, 0, 0, 0, 23) := cAM_mayPlay_3 _ (List.mem_of_getElem? (i := 7) rfl)
theorem cM_mayPlay_97 : zCode 244 97 = some (.iconst 0, 98, 0, 0, 0, 0, 23) := cAM_mayPlay_3 _ (List.mem_of_getElem? (i := 8) rfl)
theorem cM_mayPlay_98 : zCode 244 98 = some (.istore_n 3, 99, 0, 0, 0, 0, 23) := cAM_mayPlay_3 _ (List.mem_of_getElem? (i := 9) rfl)
theorem cM_mayPlay_99 : zCode 244 99 = some (.iinc 4 1, 102, 0, 0, 0, 0, 31) := cAM_mayPlay_3 _ (List.mem_of_getElem? (i := 10) rfl)
theorem cM_mayPlay_102 : zCode 244 102 = some (.goto (-97), 105, 5, 0, 0, 0, 31) := cAM_mayPlay_3 _ (List.mem_of_getElem? (i := 11) rfl)
theorem cM_mayPlay_105 : zCode 244 105 = some (.iload_n 3, 106, 0, 0, 0, 0, 8) := cAM_mayPlay_3 _ (List.mem_of_getElem? (i := 12) rfl)
theorem cM_mayPlay_106 : zCode 244 106 = some (.ireturn, 107, 0, 3, 0, 0, 0) := cAM_mayPlay_3 _ (List.mem_of_getElem? (i := 13) rfl)
theorem rM_mayPlay_0 {a0 : Nat} {a1 a2 : Int} {u3 u4 u5 u6 : zV} : zS 244 0 [zR a0, zI a1, zI a2, u3, u4, u5, u6] [] sh pp mm Q ↔ zS 244 1 [zR a0, zI a1, zI a2, zU, zU, zU, zU] [zI 1] sh pp mm Q := s_go cM_mayPlay_0 cM_mayPlay_1 rfl rfl
theorem rM_mayPlay_1 {a0 : Nat} {a1 a2 s0 : Int} {u3 u4 u5 u6 : zV} : zS 244 1 [zR a0, zI a1, zI a2, u3, u4, u5, u6] [zI s0] sh pp mm Q ↔ zS 244 2 [zR a0, zI a1, zI a2, zI s0, zU, zU, zU] [] sh pp mm Q := s_go cM_mayPlay_1 cM_mayPlay_2 rfl rfl
theorem rM_mayPlay_2 {a0 : Nat} {a1 a2 a3 : Int} {u4 u5 u6 : zV} : zS 244 2 [zR a0, zI a1, zI a2, zI a3, u4, u5, u6] [] sh pp mm Q ↔ zS 244 3 [zR a0, zI a1, zI a2, zI a3, zU, zU, zU] [zI 0] sh pp mm Q := s_go cM_mayPlay_2 cM_mayPlay_3 rfl rfl
theorem rM_mayPlay_3 {a0 : Nat} {a1 a2 a3 s0 : Int} {u4 u5 u6 : zV} : zS 244 3 [zR a0, zI a1, zI a2, zI a3, u4, u5, u6] [zI s0] sh pp mm Q ↔ zS 244 5 [zR a0, zI a1, zI a2, zI a3, zI s0, zU, zU] [] sh pp mm Q := s_go cM_mayPlay_3 cM_mayPlay_5 rfl rfl
theorem rM_mayPlay_5 {a0 : Nat} {a1 a2 a3 a4 : Int} {u5 u6 : zV} : zS 244 5 [zR a0, zI a1, zI a2, zI a3, zI a4, u5, u6] [] sh pp mm Q ↔ zS 244 7 [zR a0, zI a1, zI a2, zI a3, zI a4, zU, zU] [zI a4] sh pp mm Q := s_go cM_mayPlay_5 cM_mayPlay_7 rfl rfl
theorem rM_mayPlay_7 {a0 : Nat} {a1 a2 a3 a4 s0 : Int} {u5 u6 : zV} : zS 244 7 [zR a0, zI a1, zI a2, zI a3, zI a4, u5, u6] [zI s0] sh pp mm Q ↔ zS 244 8 [zR a0, zI a1, zI a2, zI a3, zI a4, zU, zU] [zR a0, zI s0] sh pp mm Q := s_go cM_mayPlay_7 cM_mayPlay_8 rfl rfl
theorem rM_mayPlay_8 {a0 s0 : Nat} {a1 a2 a3 a4 s1 : Int} {u5 u6 : zV} : zS 244 8 [zR a0, zI a1, zI a2, zI a3, zI a4, u5, u6] [zR s0, zI s1] sh pp mm Q ↔ zS 244 9 [zR a0, zI a1, zI a2, zI a3, zI a4, zU, zU] [zI 3, zR s0, zI s1] sh pp mm Q := s_go cM_mayPlay_8 cM_mayPlay_9 rfl rfl
theorem rM_mayPlay_9 {a0 s1 : Nat} {a1 a2 a3 a4 s0 s2 : Int} {u5 u6 : zV} (hk : zKd sh s1 = 12) : zS 244 9 [zR a0, zI a1, zI a2, zI a3, zI a4, u5, u6] [zI s0, zR s1, zI s2] sh pp mm Q ↔ zS 169 0 [zR s1, zI s0] [] sh pp mm (fun v sh pp mm => zS 244 12 [zR a0, zI a1, zI a2, zI a3, zI a4, zU, zU] (zPush v [zI s2]) sh pp mm Q) := s_call cM_mayPlay_9 cM_mayPlay_12 ((if_pos hk).trans rfl) rfl
theorem rM_mayPlay_12 {a0 : Nat} {a1 a2 a3 a4 s0 s1 : Int} {u5 u6 : zV} : zS 244 12 [zR a0, zI a1, zI a2, zI a3, zI a4, u5, u6] [zI s0, zI s1] sh pp mm Q ↔ (s1 < s0 → zS 244 15 [zR a0, zI a1, zI a2, zI a3, zI a4, zU, zU] [] sh pp mm Q) ∧ (¬ s1 < s0 → zS 244 105 [zU, zU, zU, zI a3, zU, zU, zU] [] sh pp mm Q) := s_ifn cM_mayPlay_12 cM_mayPlay_15 cM_mayPlay_105 rfl rfl rfl
theorem rM_mayPlay_15 {a0 : Nat} {a1 a2 a3 a4 : Int} {u5 u6 : zV} : zS 244 15 [zR a0, zI a1, zI a2, zI a3, zI a4, u5, u6] [] sh pp mm Q ↔ zS 244 16 [zR a0, zI a1, zI a2, zI a3, zI a4, zU, zU] [zR a0] sh pp mm Q := s_go cM_mayPlay_15 cM_mayPlay_16 rfl rfl
theorem rM_mayPlay_16 {a0 s0 : Nat} {a1 a2 a3 a4 : Int} {u5 u6 : zV} (hk : zKd sh s0 = 12) : zS 244 16 [zR a0, zI a1, zI a2, zI a3, zI a4, u5, u6] [zR s0] sh pp mm Q ↔ zS 244 19 [zR a0, zI a1, zI a2, zI a3, zI a4, zU, zU] [zR (pp s0 0)] sh pp mm Q := s_go cM_mayPlay_16 cM_mayPlay_19 (if_pos hk) rfl
theorem rM_mayPlay_19 {a0 s0 : Nat} {a1 a2 a3 a4 : Int} {u5 u6 : zV} : zS 244 19 [zR a0, zI a1, zI a2, zI a3, zI a4, u5, u6] [zR s0] sh pp mm Q ↔ zS 244 22 [zR a0, zI a1, zI a2, zI a3, zI a4, zU, zU] [zI 957, zR s0] sh pp mm Q := s_go cM_mayPlay_19 cM_mayPlay_22 rfl rfl
theorem rM_mayPlay_22 {a0 s1 : Nat} {a1 a2 a3 a4 s0 : Int} {u5 u6 : zV} : zS 244 22 [zR a0, zI a1, zI a2, zI a3, zI a4, u5, u6] [zI s0, zR s1] sh pp mm Q ↔ zS 244 23 [zR a0, zI a1, zI a2, zI a3, zI a4, zU, zU] [zI 3, zI s0, zR s1] sh pp mm Q := s_go cM_mayPlay_22 cM_mayPlay_23 rfl rfl
theorem rM_mayPlay_23 {a0 s2 : Nat} {a1 a2 a3 a4 s0 s1 : Int} {u5 u6 : zV} : zS 244 23 [zR a0, zI a1, zI a2, zI a3, zI a4, u5, u6] [zI s0, zI s1, zR s2] sh pp mm Q ↔ zS 244 25 [zR a0, zI a1, zI a2, zI a3, zI a4, zU, zU] [zI a4, zI s0, zI s1, zR s2] sh pp mm Q := s_go cM_mayPlay_23 cM_mayPlay_25 rfl rfl
theorem rM_mayPlay_25 {a0 s3 : Nat} {a1 a2 a3 a4 s0 s1 s2 : Int} {u5 u6 : zV} : zS 244 25 [zR a0, zI a1, zI a2, zI a3, zI a4, u5, u6] [zI s0, zI s1, zI s2, zR s3] sh pp mm Q ↔ zS 244 26 [zR a0, zI a1, zI a2, zI a3, zI a4, zU, zU] [zI (zw32 (s1 * s0)), zI s2, zR s3] sh pp mm Q := s_go cM_mayPlay_25 cM_mayPlay_26 rfl rfl
theorem rM_mayPlay_26 {a0 s2 : Nat} {a1 a2 a3 a4 s0 s1 : Int} {u5 u6 : zV} : zS 244 26 [zR a0, zI a1, zI a2, zI a3, zI a4, u5, u6] [zI s0, zI s1, zR s2] sh pp mm Q ↔ zS 244 27 [zR a0, zI a1, zI a2, zI a3, zI a4, zU, zU] [zI (zw32 (s1 + s0)), zR s2] sh pp mm Q := s_go cM_mayPlay_26 cM_mayPlay_27 rfl rfl
theorem rM_mayPlay_27 {a0 s1 : Nat} {a1 a2 a3 a4 s0 : Int} {u5 u6 : zV} : zS 244 27 [zR a0, zI a1, zI a2, zI a3, zI a4, u5, u6] [zI s0, zR s1] sh pp mm Q ↔ zS 244 28 [zR a0, zI a1, zI a2, zI a3, zI a4, zU, zU] [zI 1, zI s0, zR s1] sh pp mm Q := s_go cM_mayPlay_27 cM_mayPlay_28 rfl rfl
theorem rM_mayPlay_28 {a0 s2 : Nat} {a1 a2 a3 a4 s0 s1 : Int} {u5 u6 : zV} : zS 244 28 [zR a0, zI a1, zI a2, zI a3, zI a4, u5, u6] [zI s0, zI s1, zR s2] sh pp mm Q ↔ zS 244 29 [zR a0, zI a1, zI a2, zI a3, zI a4, zU, zU] [zI (zw32 (s1 + s0)), zR s2] sh pp mm Q := s_go cM_mayPlay_28 cM_mayPlay_29 rfl rfl
theorem rM_mayPlay_29 {a0 s1 : Nat} {a1 a2 a3 a4 s0 : Int} {u5 u6 : zV} (hk : zKd sh s1 = 20 ∨ zKd sh s1 = 30) (h0 : 0 ≤ s0) (h1 : s0 < zLn sh s1) : zS 244 29 [zR a0, zI a1, zI a2, zI a3, zI a4, u5, u6] [zI s0, zR s1] sh pp mm Q ↔ zS 244 30 [zR a0, zI a1, zI a2, zI a3, zI a4, zU, zU] [zI (mm s1 s0)] sh pp mm Q := s_go cM_mayPlay_29 cM_mayPlay_30 (if_pos ⟨hk, h0, h1⟩) rfl
theorem rM_mayPlay_30 {a0 : Nat} {a1 a2 a3 a4 s0 : Int} {u5 u6 : zV} : zS 244 30 [zR a0, zI a1, zI a2, zI a3, zI a4, u5, u6] [zI s0] sh pp mm Q ↔ zS 244 32 [zR a0, zI a1, zI a2, zI a3, zI a4, zI s0, zU] [] sh pp mm Q := s_go cM_mayPlay_30 cM_mayPlay_32 rfl rfl
theorem rM_mayPlay_32 {a0 : Nat} {a1 a2 a3 a4 a5 : Int} {u6 : zV} : zS 244 32 [zR a0, zI a1, zI a2, zI a3, zI a4, zI a5, u6] [] sh pp mm Q ↔ zS 244 33 [zR a0, zI a1, zI a2, zI a3, zI a4, zI a5, zU] [zR a0] sh pp mm Q := s_go cM_mayPlay_32 cM_mayPlay_33 rfl rfl
theorem rM_mayPlay_33 {a0 s0 : Nat} {a1 a2 a3 a4 a5 : Int} {u6 : zV} (hk : zKd sh s0 = 12) : zS 244 33 [zR a0, zI a1, zI a2, zI a3, zI a4, zI a5, u6] [zR s0] sh pp mm Q ↔ zS 244 36 [zR a0, zI a1, zI a2, zI a3, zI a4, zI a5, zU] [zR (pp s0 0)] sh pp mm Q := s_go cM_mayPlay_33 cM_mayPlay_36 (if_pos hk) rfl
theorem rM_mayPlay_36 {a0 s0 : Nat} {a1 a2 a3 a4 a5 : Int} {u6 : zV} : zS 244 36 [zR a0, zI a1, zI a2, zI a3, zI a4, zI a5, u6] [zR s0] sh pp mm Q ↔ zS 244 39 [zR a0, zI a1, zI a2, zI a3, zI a4, zI a5, zU] [zI 957, zR s0] sh pp mm Q := s_go cM_mayPlay_36 cM_mayPlay_39 rfl rfl
theorem rM_mayPlay_39 {a0 s1 : Nat} {a1 a2 a3 a4 a5 s0 : Int} {u6 : zV} : zS 244 39 [zR a0, zI a1, zI a2, zI a3, zI a4, zI a5, u6] [zI s0, zR s1] sh pp mm Q ↔ zS 244 40 [zR a0, zI a1, zI a2, zI a3, zI a4, zI a5, zU] [zI 3, zI s0, zR s1] sh pp mm Q := s_go cM_mayPlay_39 cM_mayPlay_40 rfl rfl
theorem rM_mayPlay_40 {a0 s2 : Nat} {a1 a2 a3 a4 a5 s0 s1 : Int} {u6 : zV} : zS 244 40 [zR a0, zI a1, zI a2, zI a3, zI a4, zI a5, u6] [zI s0, zI s1, zR s2] sh pp mm Q ↔ zS 244 42 [zR a0, zI a1, zI a2, zI a3, zI a4, zI a5, zU] [zI a4, zI s0, zI s1, zR s2] sh pp mm Q := s_go cM_mayPlay_40 cM_mayPlay_42 rfl rfl
theorem rM_mayPlay_42 {a0 s3 : Nat} {a1 a2 a3 a4 a5 s0 s1 s2 : Int} {u6 : zV} : zS 244 42 [zR a0, zI a1, zI a2, zI a3, zI a4, zI a5, u6] [zI s0, zI s1, zI s2, zR s3] sh pp mm Q ↔ zS 244 43 [zR a0, zI a1, zI a2, zI a3, zI a4, zI a5, zU] [zI (zw32 (s1 * s0)), zI s2, zR s3] sh pp mm Q := s_go cM_mayPlay_42 cM_mayPlay_43 rfl rfl
theorem rM_mayPlay_43 {a0 s2 : Nat} {a1 a2 a3 a4 a5 s0 s1 : Int} {u6 : zV} : zS 244 43 [zR a0, zI a1, zI a2, zI a3, zI a4, zI a5, u6] [zI s0, zI s1, zR s2] sh pp mm Q ↔ zS 244 44 [zR a0, zI a1, zI a2, zI a3, zI a4, zI a5, zU] [zI (zw32 (s1 + s0)), zR s2] sh pp mm Q := s_go cM_mayPlay_43 cM_mayPlay_44 rfl rfl
theorem rM_mayPlay_44 {a0 s1 : Nat} {a1 a2 a3 a4 a5 s0 : Int} {u6 : zV} : zS 244 44 [zR a0, zI a1, zI a2, zI a3, zI a4, zI a5, u6] [zI s0, zR s1] sh pp mm Q ↔ zS 244 45 [zR a0, zI a1, zI a2, zI a3, zI a4, zI a5, zU] [zI 2, zI s0, zR s1] sh pp mm Q := s_go cM_mayPlay_44 cM_mayPlay_45 rfl rfl
theorem rM_mayPlay_45 {a0 s2 : Nat} {a1 a2 a3 a4 a5 s0 s1 : Int} {u6 : zV} : zS 244 45 [zR a0, zI a1, zI a2, zI a3, zI a4, zI a5, u6] [zI s0, zI s1, zR s2] sh pp mm Q ↔ zS 244 46 [zR a0, zI a1, zI a2, zI a3, zI a4, zI a5, zU] [zI (zw32 (s1 + s0)), zR s2] sh pp mm Q := s_go cM_mayPlay_45 cM_mayPlay_46 rfl rfl
theorem rM_mayPlay_46 {a0 s1 : Nat} {a1 a2 a3 a4 a5 s0 : Int} {u6 : zV} (hk : zKd sh s1 = 20 ∨ zKd sh s1 = 30) (h0 : 0 ≤ s0) (h1 : s0 < zLn sh s1) : zS 244 46 [zR a0, zI a1, zI a2, zI a3, zI a4, zI a5, u6] [zI s0, zR s1] sh pp mm Q ↔ zS 244 47 [zR a0, zI a1, zI a2, zI a3, zI a4, zI a5, zU] [zI (mm s1 s0)] sh pp mm Q := s_go cM_mayPlay_46 cM_mayPlay_47 (if_pos ⟨hk, h0, h1⟩) rfl
theorem rM_mayPlay_47 {a0 : Nat} {a1 a2 a3 a4 a5 s0 : Int} {u6 : zV} : zS 244 47 [zR a0, zI a1, zI a2, zI a3, zI a4, zI a5, u6] [zI s0] sh pp mm Q ↔ zS 244 49 [zR a0, zI a1, zI a2, zI a3, zI a4, zI a5, zI s0] [] sh pp mm Q := s_go cM_mayPlay_47 cM_mayPlay_49 rfl rfl
theorem rM_mayPlay_49 {a0 : Nat} {a1 a2 a3 a4 a5 a6 : Int} : zS 244 49 [zR a0, zI a1, zI a2, zI a3, zI a4, zI a5, zI a6] [] sh pp mm Q ↔ zS 244 50 [zR a0, zI a1, zI a2, zU, zI a4, zI a5, zI a6] [zI a3] sh pp mm Q := s_go cM_mayPlay_49 cM_mayPlay_50 rfl rfl
theorem rM_mayPlay_50 {a0 : Nat} {a1 a2 a4 a5 a6 s0 : Int} {u3 : zV} : zS 244 50 [zR a0, zI a1, zI a2, u3, zI a4, zI a5, zI a6] [zI s0] sh pp mm Q ↔ (s0 = 0 → zS 244 97 [zR a0, zI a1, zI a2, zU, zI a4, zU, zU] [] sh pp mm Q) ∧ (¬ s0 = 0 → zS 244 53 [zR a0, zI a1, zI a2, zU, zI a4, zI a5, zI a6] [] sh pp mm Q) := s_if cM_mayPlay_50 cM_mayPlay_97 cM_mayPlay_53 rfl rfl rfl
theorem rM_mayPlay_53 {a0 : Nat} {a1 a2 a4 a5 a6 : Int} {u3 : zV} : zS 244 53 [zR a0, zI a1, zI a2, u3, zI a4, zI a5, zI a6] [] sh pp mm Q ↔ zS 244 54 [zR a0, zI a1, zI a2, zU, zI a4, zI a5, zI a6] [zR a0] sh pp mm Q := s_go cM_mayPlay_53 cM_mayPlay_54 rfl rfl
theorem rM_mayPlay_54 {a0 s0 : Nat} {a1 a2 a4 a5 a6 : Int} {u3 : zV} (hk : zKd sh s0 = 12) : zS 244 54 [zR a0, zI a1, zI a2, u3, zI a4, zI a5, zI a6] [zR s0] sh pp mm Q ↔ zS 244 57 [zR a0, zI a1, zI a2, zU, zI a4, zI a5, zI a6] [zR (pp s0 0)] sh pp mm Q := s_go cM_mayPlay_54 cM_mayPlay_57 (if_pos hk) rfl
theorem rM_mayPlay_57 {a0 s0 : Nat} {a1 a2 a4 a5 a6 : Int} {u3 : zV} : zS 244 57 [zR a0, zI a1, zI a2, u3, zI a4, zI a5, zI a6] [zR s0] sh pp mm Q ↔ zS 244 60 [zR a0, zI a1, zI a2, zU, zI a4, zI a5, zI a6] [zI 957, zR s0] sh pp mm Q := s_go cM_mayPlay_57 cM_mayPlay_60 rfl rfl
theorem rM_mayPlay_60 {a0 s1 : Nat} {a1 a2 a4 a5 a6 s0 : Int} {u3 : zV} : zS 244 60 [zR a0, zI a1, zI a2, u3, zI a4, zI a5, zI a6] [zI s0, zR s1] sh pp mm Q ↔ zS 244 61 [zR a0, zI a1, zI a2, zU, zI a4, zI a5, zI a6] [zI 3, zI s0, zR s1] sh pp mm Q := s_go cM_mayPlay_60 cM_mayPlay_61 rfl rfl
theorem rM_mayPlay_61 {a0 s2 : Nat} {a1 a2 a4 a5 a6 s0 s1 : Int} {u3 : zV} : zS 244 61 [zR a0, zI a1, zI a2, u3, zI a4, zI a5, zI a6] [zI s0, zI s1, zR s2] sh pp mm Q ↔ zS 244 63 [zR a0, zI a1, zI a2, zU, zI a4, zI a5, zI a6] [zI a4, zI s0, zI s1, zR s2] sh pp mm Q := s_go cM_mayPlay_61 cM_mayPlay_63 rfl rfl
theorem rM_mayPlay_63 {a0 s3 : Nat} {a1 a2 a4 a5 a6 s0 s1 s2 : Int} {u3 : zV} : zS 244 63 [zR a0, zI a1, zI a2, u3, zI a4, zI a5, zI a6] [zI s0, zI s1, zI s2, zR s3] sh pp mm Q ↔ zS 244 64 [zR a0, zI a1, zI a2, zU, zI a4, zI a5, zI a6] [zI (zw32 (s1 * s0)), zI s2, zR s3] sh pp mm Q := s_go cM_mayPlay_63 cM_mayPlay_64 rfl rfl
theorem rM_mayPlay_64 {a0 s2 : Nat} {a1 a2 a4 a5 a6 s0 s1 : Int} {u3 : zV} : zS 244 64 [zR a0, zI a1, zI a2, u3, zI a4, zI a5, zI a6] [zI s0, zI s1, zR s2] sh pp mm Q ↔ zS 244 65 [zR a0, zI a1, zI a2, zU, zI a4, zI a5, zI a6] [zI (zw32 (s1 + s0)), zR s2] sh pp mm Q := s_go cM_mayPlay_64 cM_mayPlay_65 rfl rfl
theorem rM_mayPlay_65 {a0 s1 : Nat} {a1 a2 a4 a5 a6 s0 : Int} {u3 : zV} (hk : zKd sh s1 = 20 ∨ zKd sh s1 = 30) (h0 : 0 ≤ s0) (h1 : s0 < zLn sh s1) : zS 244 65 [zR a0, zI a1, zI a2, u3, zI a4, zI a5, zI a6] [zI s0, zR s1] sh pp mm Q ↔ zS 244 66 [zR a0, zI a1, zI a2, zU, zI a4, zI a5, zI a6] [zI (mm s1 s0)] sh pp mm Q := s_go cM_mayPlay_65 cM_mayPlay_66 (if_pos ⟨hk, h0, h1⟩) rfl
theorem rM_mayPlay_66 {a0 : Nat} {a1 a2 a4 a5 a6 s0 : Int} {u3 : zV} : zS 244 66 [zR a0, zI a1, zI a2, u3, zI a4, zI a5, zI a6] [zI s0] sh pp mm Q ↔ zS 244 67 [zR a0, zI a1, zI a2, zU, zI a4, zI a5, zI a6] [zI a1, zI s0] sh pp mm Q := s_go cM_mayPlay_66 cM_mayPlay_67 rfl rfl
theorem rM_mayPlay_67 {a0 : Nat} {a1 a2 a4 a5 a6 s0 s1 : Int} {u3 : zV} : zS 244 67 [zR a0, zI a1, zI a2, u3, zI a4, zI a5, zI a6] [zI s0, zI s1] sh pp mm Q ↔ (s1 = s0 → zS 244 70 [zR a0, zI a1, zI a2, zU, zI a4, zI a5, zI a6] [] sh pp mm Q) ∧ (¬ s1 = s0 → zS 244 93 [zR a0, zI a1, zI a2, zU, zI a4, zU, zU] [] sh pp mm Q) := s_ifn cM_mayPlay_67 cM_mayPlay_70 cM_mayPlay_93 rfl rfl rfl
theorem rM_mayPlay_70 {a0 : Nat} {a1 a2 a4 a5 a6 : Int} {u3 : zV} : zS 244 70 [zR a0, zI a1, zI a2, u3, zI a4, zI a5, zI a6] [] sh pp mm Q ↔ zS 244 72 [zR a0, zI a1, zI a2, zU, zI a4, zI a5, zI a6] [zI a6] sh pp mm Q := s_go cM_mayPlay_70 cM_mayPlay_72 rfl rfl
theorem rM_mayPlay_72 {a0 : Nat} {a1 a2 a4 a5 a6 s0 : Int} {u3 : zV} : zS 244 72 [zR a0, zI a1, zI a2, u3, zI a4, zI a5, zI a6] [zI s0] sh pp mm Q ↔ (0 < s0 → zS 244 75 [zR a0, zI a1, zI a2, zU, zI a4, zI a5, zI a6] [] sh pp mm Q) ∧ (¬ 0 < s0 → zS 244 87 [zR a0, zI a1, zI a2, zU, zI a4, zI a5, zU] [] sh pp mm Q) := s_ifn cM_mayPlay_72 cM_mayPlay_75 cM_mayPlay_87 rfl rfl rfl
theorem rM_mayPlay_75 {a0 : Nat} {a1 a2 a4 a5 a6 : Int} {u3 : zV} : zS 244 75 [zR a0, zI a1, zI a2, u3, zI a4, zI a5, zI a6] [] sh pp mm Q ↔ zS 244 76 [zR a0, zI a1, zI a2, zU, zI a4, zI a5, zI a6] [zI a2] sh pp mm Q := s_go cM_mayPlay_75 cM_mayPlay_76 rfl rfl
theorem rM_mayPlay_76 {a0 : Nat} {a1 a2 a4 a5 a6 s0 : Int} {u3 : zV} : zS 244 76 [zR a0, zI a1, zI a2, u3, zI a4, zI a5, zI a6] [zI s0] sh pp mm Q ↔ zS 244 78 [zR a0, zI a1, zI a2, zU, zI a4, zU, zI a6] [zI a5, zI s0] sh pp mm Q := s_go cM_mayPlay_76 cM_mayPlay_78 rfl rfl
theorem rM_mayPlay_78 {a0 : Nat} {a1 a2 a4 a6 s0 s1 : Int} {u3 u5 : zV} : zS 244 78 [zR a0, zI a1, zI a2, u3, zI a4, u5, zI a6] [zI s0, zI s1] sh pp mm Q ↔ zS 244 80 [zR a0, zI a1, zI a2, zU, zI a4, zU, zU] [zI a6, zI s0, zI s1] sh pp mm Q := s_go cM_mayPlay_78 cM_mayPlay_80 rfl rfl
theorem rM_mayPlay_80 {a0 : Nat} {a1 a2 a4 s0 s1 s2 : Int} {u3 u5 u6 : zV} : zS 244 80 [zR a0, zI a1, zI a2, u3, zI a4, u5, u6] [zI s0, zI s1, zI s2] sh pp mm Q ↔ zS 244 81 [zR a0, zI a1, zI a2, zU, zI a4, zU, zU] [zI (zw32 (s1 - s0)), zI s2] sh pp mm Q := s_go cM_mayPlay_80 cM_mayPlay_81 rfl rfl
theorem rM_mayPlay_81 {a0 : Nat} {a1 a2 a4 s0 s1 : Int} {u3 u5 u6 : zV} : zS 244 81 [zR a0, zI a1, zI a2, u3, zI a4, u5, u6] [zI s0, zI s1] sh pp mm Q ↔ (s1 = s0 → zS 244 84 [zR a0, zI a1, zI a2, zU, zI a4, zU, zU] [] sh pp mm Q) ∧ (¬ s1 = s0 → zS 244 97 [zR a0, zI a1, zI a2, zU, zI a4, zU, zU] [] sh pp mm Q) := s_ifn cM_mayPlay_81 cM_mayPlay_84 cM_mayPlay_97 rfl rfl rfl
theorem rM_mayPlay_84 {a0 : Nat} {a1 a2 a4 : Int} {u3 u5 u6 : zV} : zS 244 84 [zR a0, zI a1, zI a2, u3, zI a4, u5, u6] [] sh pp mm Q ↔ zS 244 93 [zR a0, zI a1, zI a2, zU, zI a4, zU, zU] [] sh pp mm Q := s_go cM_mayPlay_84 cM_mayPlay_93 rfl rfl
theorem rM_mayPlay_87 {a0 : Nat} {a1 a2 a4 a5 : Int} {u3 u6 : zV} : zS 244 87 [zR a0, zI a1, zI a2, u3, zI a4, zI a5, u6] [] sh pp mm Q ↔ zS 244 88 [zR a0, zI a1, zI a2, zU, zI a4, zI a5, zU] [zI a2] sh pp mm Q := s_go cM_mayPlay_87 cM_mayPlay_88 rfl rfl
theorem rM_mayPlay_88 {a0 : Nat} {a1 a2 a4 a5 s0 : Int} {u3 u6 : zV} : zS 244 88 [zR a0, zI a1, zI a2, u3, zI a4, zI a5, u6] [zI s0] sh pp mm Q ↔ zS 244 90 [zR a0, zI a1, zI a2, zU, zI a4, zU, zU] [zI a5, zI s0] sh pp mm Q := s_go cM_mayPlay_88 cM_mayPlay_90 rfl rfl
theorem rM_mayPlay_90 {a0 : Nat} {a1 a2 a4 s0 s1 : Int} {u3 u5 u6 : zV} : zS 244 90 [zR a0, zI a1, zI a2, u3, zI a4, u5, u6] [zI s0, zI s1] sh pp mm Q ↔ (s1 < s0 → zS 244 97 [zR a0, zI a1, zI a2, zU, zI a4, zU, zU] [] sh pp mm Q) ∧ (¬ s1 < s0 → zS 244 93 [zR a0, zI a1, zI a2, zU, zI a4, zU, zU] [] sh pp mm Q) := s_if cM_mayPlay_90 cM_mayPlay_97 cM_mayPlay_93 rfl rfl rfl
theorem rM_mayPlay_93 {a0 : Nat} {a1 a2 a4 : Int} {u3 u5 u6 : zV} : zS 244 93 [zR a0, zI a1, zI a2, u3, zI a4, u5, u6] [] sh pp mm Q ↔ zS 244 94 [zR a0, zI a1, zI a2, zU, zI a4, zU, zU] [zI 1] sh pp mm Q := s_go cM_mayPlay_93 cM_mayPlay_94 rfl rfl
theorem rM_mayPlay_94 {a0 : Nat} {a1 a2 a4 s0 : Int} {u3 u5 u6 : zV} : zS 244 94 [zR a0, zI a1, zI a2, u3, zI a4, u5, u6] [zI s0] sh pp mm Q ↔ zS 244 98 [zR a0, zI a1, zI a2, zU, zI a4, zU, zU] [zI s0] sh pp mm Q := s_go cM_mayPlay_94 cM_mayPlay_98 rfl rfl
theorem rM_mayPlay_97 {a0 : Nat} {a1 a2 a4 : Int} {u3 u5 u6 : zV} : zS 244 97 [zR a0, zI a1, zI a2, u3, zI a4, u5, u6] [] sh pp mm Q ↔ zS 244 98 [zR a0, zI a1, zI a2, zU, zI a4, zU, zU] [zI 0] sh pp mm Q := s_go cM_mayPlay_97 cM_mayPlay_98 rfl rfl
theorem rM_mayPlay_98 {a0 : Nat} {a1 a2 a4 s0 : Int} {u3 u5 u6 : zV} : zS 244 98 [zR a0, zI a1, zI a2, u3, zI a4, u5, u6] [zI s0] sh pp mm Q ↔ zS 244 99 [zR a0, zI a1, zI a2, zI s0, zI a4, zU, zU] [] sh pp mm Q := s_go cM_mayPlay_98 cM_mayPlay_99 rfl rfl
theorem rM_mayPlay_99 {a0 : Nat} {a1 a2 a3 a4 : Int} {u5 u6 : zV} : zS 244 99 [zR a0, zI a1, zI a2, zI a3, zI a4, u5, u6] [] sh pp mm Q ↔ zS 244 102 [zR a0, zI a1, zI a2, zI a3, zI (zw32 (a4 + 1)), zU, zU] [] sh pp mm Q := s_go cM_mayPlay_99 cM_mayPlay_102 rfl rfl
theorem rM_mayPlay_102 {a0 : Nat} {a1 a2 a3 a4 : Int} {u5 u6 : zV} : zS 244 102 [zR a0, zI a1, zI a2, zI a3, zI a4, u5, u6] [] sh pp mm Q ↔ zS 244 5 [zR a0, zI a1, zI a2, zI a3, zI a4, zU, zU] [] sh pp mm Q := s_go cM_mayPlay_102 cM_mayPlay_5 rfl rfl
theorem rM_mayPlay_105 {a3 : Int} {u0 u1 u2 u4 u5 u6 : zV} : zS 244 105 [u0, u1, u2, zI a3, u4, u5, u6] [] sh pp mm Q ↔ zS 244 106 [zU, zU, zU, zU, zU, zU, zU] [zI a3] sh pp mm Q := s_go cM_mayPlay_105 cM_mayPlay_106 rfl rfl
theorem rM_mayPlay_106 {s0 : Int} {u0 u1 u2 u3 u4 u5 u6 : zV} (hb : s0 = 0 ∨ s0 = 1) : zS 244 106 [u0, u1, u2, u3, u4, u5, u6] [zI s0] sh pp mm Q ↔ Q (zI s0) sh pp mm := s_ret cM_mayPlay_106 (if_pos (decide_eq_true hb))
theorem cAM_span : ∀ q ∈ zT245, zCode 245 q.1 = some q.2 := zAll (mid := 245) rfl (by decide +kernel)
theorem cAM_span_0 : ∀ q ∈ zT245_0, zCode 245 q.1 = some q.2 := fun q h => cAM_span q (List.mem_append_left _ h)
theorem cAM_span_1 : ∀ q ∈ zT245_1, zCode 245 q.1 = some q.2 := fun q h => cAM_span q (List.mem_append_right _ (List.mem_append_left _ h))
theorem cAM_span_2 : ∀ q ∈ zT245_2, zCode 245 q.1 = some q.2 := fun q h => cAM_span q (List.mem_append_right _ (List.mem_append_right _ (List.mem_append_left _ h)))
theorem cAM_span_3 : ∀ q ∈ zT245_3, zCode 245 q.1 = some q.2 := fun q h => cAM_span q (List.mem_append_right _ (List.mem_append_right _ (List.mem_append_right _ h)))
theorem cM_span_0 : zCode 245 0 = some (.iload_n 1, 1, 0, 0, 0, 0, 7) := cAM_span_0 _ (List.mem_of_getElem? (i := 0) rfl)
theorem cM_span_1 : zCode 245 1 = some (.i2l, 2, 0, 0, 0, 0, 7) := cAM_span_0 _ (List.mem_of_getElem? (i := 1) rfl)
theorem cM_span_2 : zCode 245 2 = some (.lconst 0, 3, 0, 0, 0, 0, 7) := cAM_span_0 _ (List.mem_of_getElem? (i := 2) rfl)
theorem cM_span_3 : zCode 245 3 = some (.lconst 1, 4, 0, 0, 0, 0, 7) := cAM_span_0 _ (List.mem_of_getElem? (i := 3) rfl)
theorem cM_span_4 : zCode 245 4 = some (.invokestatic 121, 7, 151, 3, 6, 12, 7) := cAM_span_0 _ (List.mem_of_getElem? (i := 4) rfl)
theorem cM_span_7 : zCode 245 7 = some (.ifCond .eq 13, 10, 20, 0, 0, 0, 7) := cAM_span_0 _ (List.mem_of_getElem? (i := 5) rfl)
theorem cM_span_10 : zCode 245 10 = some (.iload_n 2, 11, 0, 0, 0, 0, 7) := cAM_span_0 _ (List.mem_of_getElem? (i := 6) rfl)
theorem cM_span_11 : zCode 245 11 = some (.i2l, 12, 0, 0, 0, 0, 7) := cAM_span_0 _ (List.mem_of_getElem? (i := 7) rfl)
theorem cM_span_12 : zCode 245 12 = some (.lconst 0, 13, 0, 0, 0, 0, 7) := cAM_span_0 _ (List.mem_of_getElem? (i := 8) rfl)
theorem cM_span_13 : zCode 245 13 = some (.lconst 1, 14, 0, 0, 0, 0, 7) := cAM_span_0 _ (List.mem_of_getElem? (i := 9) rfl)
theorem cM_span_14 : zCode 245 14 = some (.invokestatic 121, 17, 151, 3, 6, 12, 7) := cAM_span_0 _ (List.mem_of_getElem? (i := 10) rfl)
theorem cM_span_17 : zCode 245 17 = some (.ifCond .ne 10, 20, 27, 0, 0, 0, 7) := cAM_span_0 _ (List.mem_of_getElem? (i := 11) rfl)
theorem cM_span_20 : zCode 245 20 = some (.aload_n 0, 21, 0, 0, 0, 0, 1) := cAM_span_0 _ (List.mem_of_getElem? (i := 12) rfl)
theorem cM_span_21 : zCode 245 21 = some (.bipush (-2), 23, 0, 0, 0, 0, 0) := cAM_span_0 _ (List.mem_of_getElem? (i := 13) rfl)
theorem cM_span_23 : zCode 245 23 = some (.invokevirtual 132, 26, 152, 1, 2, 12, 0) := cAM_span_0 _ (List.mem_of_getElem? (i := 14) rfl)
theorem cM_span_26 : zCode 245 26 = some (.ireturn, 27, 0, 0, 0, 0, 0) := cAM_span_0 _ (List.mem_of_getElem? (i := 15) rfl)
theorem cM_span_27 : zCode 245 27 = some (.iconst (-1), 28, 0, 0, 0, 0, 7) := cAM_span_1 _ (List.mem_of_getElem? (i := 0) rfl)
theorem cM_span_28 : zCode 245 28 = some (.istore_n 3, 29, 0, 0, 0, 0, 7) := cAM_span_1 _ (List.mem_of_getElem? (i := 1) rfl)
theorem cM_span_29 : zCode 245 29 = some (.iconst 0, 30, 0, 0, 0, 0, 15) := cAM_span_1 _ (List.mem_of_getElem? (i := 2) rfl)
theorem cM_span_30 : zCode 245 30 = some (.istore 4, 32, 0, 0, 0, 0, 15) := cAM_span_1 _ (List.mem_of_getElem? (i := 3) rfl)
theorem cM_span_32 : zCode 245 32 = some (.iload 4, 34, 0, 0, 0, 0, 31) := cAM_span_1 _ (List.mem_of_getElem? (i := 4) rfl)
theorem cM_span_34 : zCode 245 34 = some (.bipush 10, 36, 0, 0, 0, 0, 31) := cAM_span_1 _ (List.mem_of_getElem? (i := 5) rfl)
theorem cM_span_36 : zCode 245 36 = some (.if_icmp .ge 36, 39, 72, 0, 0, 0, 31) := cAM_span_1 _ (List.mem_of_getElem? (i := 6) rfl)
theorem cM_span_39 : zCode 245 39 = some (.aload_n 0, 40, 0, 0, 0, 0, 31) := cAM_span_1 _ (List.mem_of_getElem? (i := 7) rfl)
theorem cM_span_40 : zCode 245 40 = some (.iload_n 1, 41, 0, 0, 0, 0, 31) := cAM_span_1 _ (List.mem_of_getElem? (i := 8) rfl)
theorem cM_span_41 : zCode 245 41 = some (.iload 4, 43, 0, 0, 0, 0, 31) := cAM_span_1 _ (List.mem_of_getElem? (i := 9) rfl)
theorem cM_span_43 : zCode 245 43 = some (.invokevirtual 373, 46, 244, 2, 7, 12, 31) := cAM_span_1 _ (List.mem_of_getElem? (i := 10) rfl)
theorem cM_span_46 : zCode 245 46 = some (.ifCond .eq 18, 49, 64, 0, 0, 0, 31) := cAM_span_1 _ (List.mem_of_getElem? (i := 11) rfl)
theorem cM_span_49 : zCode 245 49 = some (.iload_n 2, 50, 0, 0, 0, 0, 31) := cAM_span_1 _ (List.mem_of_getElem? (i := 12) rfl)
theorem cM_span_50 : zCode 245 50 = some (.iconst 1, 51, 0, 0, 0, 0, 31) := cAM_span_1 _ (List.mem_of_getElem? (i := 13) rfl)
theorem cM_span_51 : zCode 245 51 = some (.if_icmp .eq 8, 54, 59, 0, 0, 0, 31) := cAM_span_1 _ (List.mem_of_getElem? (i := 14) rfl)
theorem cM_span_54 : zCode 245 54 = some (.iload_n 3, 55, 0, 0, 0, 0, 31) := cAM_span_1 _ (List.mem_of_getElem? (i := 15) rfl)
theorem cM_span_55 : zCode 245 55 = some (.iconst (-1), 56, 0, 0, 0, 0, 31) := cAM_span_2 _ (List.mem_of_getElem? (i := 0) rfl)
theorem cM_span_56 : zCode 245 56 = some (.if_icmp .ne 8, 59, 64, 0, 0, 0, 31) := cAM_span_2 _ (List.mem_of_getElem? (i := 1) rfl)
theorem cM_span_59 : zCode 245 59 = some (.iload 4, 61, 0, 0, 0, 0, 23) := cAM_span_2 _ (List.mem_of_getElem? (i := 2) rfl)
theorem cM_span_61 : zCode 245 61 = some (.goto 4, 64, 65, 0, 0, 0, 23) := cAM_span_2 _ (List.mem_of_getElem? (i := 3) rfl)
theorem cM_span_64 : zCode 245 64 = some (.iload_n 3, 65, 0, 0, 0, 0, 31) := cAM_span_2 _ (List.mem_of_getElem? (i := 4) rfl)
theorem cM_span_65 : zCode 245 65 = some (.istore_n 3, 66, 0, 0, 0, 0, 23) := cAM_span_2 _ (List.mem_of_getElem? (i := 5) rfl)
theorem cM_span_66 : zCode 245 66 = some (.iinc 4 1, 69, 0, 0, 0, 0, 31) := cAM_span_2 _ (List.mem_of_getElem? (i := 6) rfl)
theorem cM_span_69 : zCode 245 69 = some (.goto (-37), 72, 32, 0, 0, 0, 31) := cAM_span_2 _ (List.mem_of_getElem? (i := 7) rfl)
theorem cM_span_72 : zCode 245 72 = some (.iload_n 3, 73, 0, 0, 0, 0, 9) := cAM_span_2 _ (List.mem_of_getElem? (i := 8) rfl)
theorem cM_span_73 : zCode 245 73 = some (.iconst (-1), 74, 0, 0, 0, 0, 9) := cAM_span_2 _ (List.mem_of_getElem? (i := 9) rfl)
theorem cM_span_74 : zCode 245 74 = some (.if_icmp .ne 12, 77, 86, 0, 0, 0, 9) := cAM_span_2 _ (List.mem_of_getElem? (i := 10) rfl)
theorem cM_span_77 : zCode 245 77 = some (.aload_n 0, 78, 0, 0, 0, 0, 1) := cAM_span_2 _ (List.mem_of_getElem? (i := 11) rfl)
theorem cM_span_78 : zCode 245 78 = some (.bipush (-3), 80, 0, 0, 0, 0, 0) := cAM_span_2 _ (List.mem_of_getElem? (i := 12) rfl)
theorem cM_span_80 : zCode 245 80 = some (.invokevirtual 265, 83, 153, 1, 2, 12, 0) := cAM_span_2 _ (List.mem_of_getElem? (i := 13) rfl)
theorem cM_span_83 : zCode 245 83 = some (.goto 4, 86, 87, 0, 0, 0, 0) := cAM_span_2 _ (List.mem_of_getElem? (i := 14) rfl)
theorem cM_span_86 : zCode 245 86 = some (.iload_n 3, 87, 0, 0, 0, 0, 8) := cAM_span_2 _ (List.mem_of_getElem? (i := 15) rfl)
theorem cM_span_87 : zCode 245 87 = some (.ireturn, 88, 0, 0, 0, 0, 0) := cAM_span_3 _ (List.mem_of_getElem? (i := 0) rfl)
theorem rM_span_0 {a0 : Nat} {a1 a2 : Int} {u3 u4 : zV} : zS 245 0 [zR a0, zI a1, zI a2, u3, u4] [] sh pp mm Q ↔ zS 245 1 [zR a0, zI a1, zI a2, zU, zU] [zI a1] sh pp mm Q := s_go cM_span_0 cM_span_1 rfl rfl
theorem rM_span_1 {a0 : Nat} {a1 a2 s0 : Int} {u3 u4 : zV} : zS 245 1 [zR a0, zI a1, zI a2, u3, u4] [zI s0] sh pp mm Q ↔ zS 245 2 [zR a0, zI a1, zI a2, zU, zU] [zL s0] sh pp mm Q := s_go cM_span_1 cM_span_2 rfl rfl
theorem rM_span_2 {a0 : Nat} {a1 a2 s0 : Int} {u3 u4 : zV} : zS 245 2 [zR a0, zI a1, zI a2, u3, u4] [zL s0] sh pp mm Q ↔ zS 245 3 [zR a0, zI a1, zI a2, zU, zU] [zL 0, zL s0] sh pp mm Q := s_go cM_span_2 cM_span_3 rfl rfl
theorem rM_span_3 {a0 : Nat} {a1 a2 s0 s1 : Int} {u3 u4 : zV} : zS 245 3 [zR a0, zI a1, zI a2, u3, u4] [zL s0, zL s1] sh pp mm Q ↔ zS 245 4 [zR a0, zI a1, zI a2, zU, zU] [zL 1, zL s0, zL s1] sh pp mm Q := s_go cM_span_3 cM_span_4 rfl rfl
theorem rM_span_4 {a0 : Nat} {a1 a2 s0 s1 s2 : Int} {u3 u4 : zV} : zS 245 4 [zR a0, zI a1, zI a2, u3, u4] [zL s0, zL s1, zL s2] sh pp mm Q ↔ zS 151 0 [zL s2, zU, zL s1, zU, zL s0, zU] [] sh pp mm (fun v sh pp mm => zS 245 7 [zR a0, zI a1, zI a2, zU, zU] (zPush v []) sh pp mm Q) := s_call cM_span_4 cM_span_7 rfl rfl
theorem rM_span_7 {a0 : Nat} {a1 a2 s0 : Int} {u3 u4 : zV} : zS 245 7 [zR a0, zI a1, zI a2, u3, u4] [zI s0] sh pp mm Q ↔ (s0 = 0 → zS 245 20 [zR a0, zU, zU, zU, zU] [] sh pp mm Q) ∧ (¬ s0 = 0 → zS 245 10 [zR a0, zI a1, zI a2, zU, zU] [] sh pp mm Q) := s_if cM_span_7 cM_span_20 cM_span_10 rfl rfl rfl
theorem rM_span_10 {a0 : Nat} {a1 a2 : Int} {u3 u4 : zV} : zS 245 10 [zR a0, zI a1, zI a2, u3, u4] [] sh pp mm Q ↔ zS 245 11 [zR a0, zI a1, zI a2, zU, zU] [zI a2] sh pp mm Q := s_go cM_span_10 cM_span_11 rfl rfl
theorem rM_span_11 {a0 : Nat} {a1 a2 s0 : Int} {u3 u4 : zV} : zS 245 11 [zR a0, zI a1, zI a2, u3, u4] [zI s0] sh pp mm Q ↔ zS 245 12 [zR a0, zI a1, zI a2, zU, zU] [zL s0] sh pp mm Q := s_go cM_span_11 cM_span_12 rfl rfl
theorem rM_span_12 {a0 : Nat} {a1 a2 s0 : Int} {u3 u4 : zV} : zS 245 12 [zR a0, zI a1, zI a2, u3, u4] [zL s0] sh pp mm Q ↔ zS 245 13 [zR a0, zI a1, zI a2, zU, zU] [zL 0, zL s0] sh pp mm Q := s_go cM_span_12 cM_span_13 rfl rfl
theorem rM_span_13 {a0 : Nat} {a1 a2 s0 s1 : Int} {u3 u4 : zV} : zS 245 13 [zR a0, zI a1, zI a2, u3, u4] [zL s0, zL s1] sh pp mm Q ↔ zS 245 14 [zR a0, zI a1, zI a2, zU, zU] [zL 1, zL s0, zL s1] sh pp mm Q := s_go cM_span_13 cM_span_14 rfl rfl
theorem rM_span_14 {a0 : Nat} {a1 a2 s0 s1 s2 : Int} {u3 u4 : zV} : zS 245 14 [zR a0, zI a1, zI a2, u3, u4] [zL s0, zL s1, zL s2] sh pp mm Q ↔ zS 151 0 [zL s2, zU, zL s1, zU, zL s0, zU] [] sh pp mm (fun v sh pp mm => zS 245 17 [zR a0, zI a1, zI a2, zU, zU] (zPush v []) sh pp mm Q) := s_call cM_span_14 cM_span_17 rfl rfl
theorem rM_span_17 {a0 : Nat} {a1 a2 s0 : Int} {u3 u4 : zV} : zS 245 17 [zR a0, zI a1, zI a2, u3, u4] [zI s0] sh pp mm Q ↔ (s0 = 0 → zS 245 20 [zR a0, zU, zU, zU, zU] [] sh pp mm Q) ∧ (¬ s0 = 0 → zS 245 27 [zR a0, zI a1, zI a2, zU, zU] [] sh pp mm Q) := s_ifn cM_span_17 cM_span_20 cM_span_27 rfl rfl rfl
theorem rM_span_20 {a0 : Nat} {u1 u2 u3 u4 : zV} : zS 245 20 [zR a0, u1, u2, u3, u4] [] sh pp mm Q ↔ zS 245 21 [zU, zU, zU, zU, zU] [zR a0] sh pp mm Q := s_go cM_span_20 cM_span_21 rfl rfl
theorem rM_span_21 {s0 : Nat} {u0 u1 u2 u3 u4 : zV} : zS 245 21 [u0, u1, u2, u3, u4] [zR s0] sh pp mm Q ↔ zS 245 23 [zU, zU, zU, zU, zU] [zI (-2), zR s0] sh pp mm Q := s_go cM_span_21 cM_span_23 rfl rfl
theorem rM_span_23 {s1 : Nat} {s0 : Int} {u0 u1 u2 u3 u4 : zV} (hk : zKd sh s1 = 12) : zS 245 23 [u0, u1, u2, u3, u4] [zI s0, zR s1] sh pp mm Q ↔ zS 152 0 [zR s1, zI s0] [] sh pp mm (fun v sh pp mm => zS 245 26 [zU, zU, zU, zU, zU] (zPush v []) sh pp mm Q) := s_call cM_span_23 cM_span_26 ((if_pos hk).trans rfl) rfl
theorem rM_span_26 {s0 : Int} {u0 u1 u2 u3 u4 : zV} : zS 245 26 [u0, u1, u2, u3, u4] [zI s0] sh pp mm Q ↔ Q (zI s0) sh pp mm := s_ret cM_span_26 rfl
theorem rM_span_27 {a0 : Nat} {a1 a2 : Int} {u3 u4 : zV} : zS 245 27 [zR a0, zI a1, zI a2, u3, u4] [] sh pp mm Q ↔ zS 245 28 [zR a0, zI a1, zI a2, zU, zU] [zI (-1)] sh pp mm Q := s_go cM_span_27 cM_span_28 rfl rfl
theorem rM_span_28 {a0 : Nat} {a1 a2 s0 : Int} {u3 u4 : zV} : zS 245 28 [zR a0, zI a1, zI a2, u3, u4] [zI s0] sh pp mm Q ↔ zS 245 29 [zR a0, zI a1, zI a2, zI s0, zU] [] sh pp mm Q := s_go cM_span_28 cM_span_29 rfl rfl
theorem rM_span_29 {a0 : Nat} {a1 a2 a3 : Int} {u4 : zV} : zS 245 29 [zR a0, zI a1, zI a2, zI a3, u4] [] sh pp mm Q ↔ zS 245 30 [zR a0, zI a1, zI a2, zI a3, zU] [zI 0] sh pp mm Q := s_go cM_span_29 cM_span_30 rfl rfl
theorem rM_span_30 {a0 : Nat} {a1 a2 a3 s0 : Int} {u4 : zV} : zS 245 30 [zR a0, zI a1, zI a2, zI a3, u4] [zI s0] sh pp mm Q ↔ zS 245 32 [zR a0, zI a1, zI a2, zI a3, zI s0] [] sh pp mm Q := s_go cM_span_30 cM_span_32 rfl rfl
theorem rM_span_32 {a0 : Nat} {a1 a2 a3 a4 : Int} : zS 245 32 [zR a0, zI a1, zI a2, zI a3, zI a4] [] sh pp mm Q ↔ zS 245 34 [zR a0, zI a1, zI a2, zI a3, zI a4] [zI a4] sh pp mm Q := s_go cM_span_32 cM_span_34 rfl rfl
theorem rM_span_34 {a0 : Nat} {a1 a2 a3 a4 s0 : Int} : zS 245 34 [zR a0, zI a1, zI a2, zI a3, zI a4] [zI s0] sh pp mm Q ↔ zS 245 36 [zR a0, zI a1, zI a2, zI a3, zI a4] [zI 10, zI s0] sh pp mm Q := s_go cM_span_34 cM_span_36 rfl rfl
theorem rM_span_36 {a0 : Nat} {a1 a2 a3 a4 s0 s1 : Int} : zS 245 36 [zR a0, zI a1, zI a2, zI a3, zI a4] [zI s0, zI s1] sh pp mm Q ↔ (s1 < s0 → zS 245 39 [zR a0, zI a1, zI a2, zI a3, zI a4] [] sh pp mm Q) ∧ (¬ s1 < s0 → zS 245 72 [zR a0, zU, zU, zI a3, zU] [] sh pp mm Q) := s_ifn cM_span_36 cM_span_39 cM_span_72 rfl rfl rfl
theorem rM_span_39 {a0 : Nat} {a1 a2 a3 a4 : Int} : zS 245 39 [zR a0, zI a1, zI a2, zI a3, zI a4] [] sh pp mm Q ↔ zS 245 40 [zR a0, zI a1, zI a2, zI a3, zI a4] [zR a0] sh pp mm Q := s_go cM_span_39 cM_span_40 rfl rfl
theorem rM_span_40 {a0 s0 : Nat} {a1 a2 a3 a4 : Int} : zS 245 40 [zR a0, zI a1, zI a2, zI a3, zI a4] [zR s0] sh pp mm Q ↔ zS 245 41 [zR a0, zI a1, zI a2, zI a3, zI a4] [zI a1, zR s0] sh pp mm Q := s_go cM_span_40 cM_span_41 rfl rfl
theorem rM_span_41 {a0 s1 : Nat} {a1 a2 a3 a4 s0 : Int} : zS 245 41 [zR a0, zI a1, zI a2, zI a3, zI a4] [zI s0, zR s1] sh pp mm Q ↔ zS 245 43 [zR a0, zI a1, zI a2, zI a3, zI a4] [zI a4, zI s0, zR s1] sh pp mm Q := s_go cM_span_41 cM_span_43 rfl rfl
theorem rM_span_43 {a0 s2 : Nat} {a1 a2 a3 a4 s0 s1 : Int} (hk : zKd sh s2 = 12) : zS 245 43 [zR a0, zI a1, zI a2, zI a3, zI a4] [zI s0, zI s1, zR s2] sh pp mm Q ↔ zS 244 0 [zR s2, zI s1, zI s0, zU, zU, zU, zU] [] sh pp mm (fun v sh pp mm => zS 245 46 [zR a0, zI a1, zI a2, zI a3, zI a4] (zPush v []) sh pp mm Q) := s_call cM_span_43 cM_span_46 ((if_pos hk).trans rfl) rfl
theorem rM_span_46 {a0 : Nat} {a1 a2 a3 a4 s0 : Int} : zS 245 46 [zR a0, zI a1, zI a2, zI a3, zI a4] [zI s0] sh pp mm Q ↔ (s0 = 0 → zS 245 64 [zR a0, zI a1, zI a2, zI a3, zI a4] [] sh pp mm Q) ∧ (¬ s0 = 0 → zS 245 49 [zR a0, zI a1, zI a2, zI a3, zI a4] [] sh pp mm Q) := s_if cM_span_46 cM_span_64 cM_span_49 rfl rfl rfl
theorem rM_span_49 {a0 : Nat} {a1 a2 a3 a4 : Int} : zS 245 49 [zR a0, zI a1, zI a2, zI a3, zI a4] [] sh pp mm Q ↔ zS 245 50 [zR a0, zI a1, zI a2, zI a3, zI a4] [zI a2] sh pp mm Q := s_go cM_span_49 cM_span_50 rfl rfl
theorem rM_span_50 {a0 : Nat} {a1 a2 a3 a4 s0 : Int} : zS 245 50 [zR a0, zI a1, zI a2, zI a3, zI a4] [zI s0] sh pp mm Q ↔ zS 245 51 [zR a0, zI a1, zI a2, zI a3, zI a4] [zI 1, zI s0] sh pp mm Q := s_go cM_span_50 cM_span_51 rfl rfl
theorem rM_span_51 {a0 : Nat} {a1 a2 a3 a4 s0 s1 : Int} : zS 245 51 [zR a0, zI a1, zI a2, zI a3, zI a4] [zI s0, zI s1] sh pp mm Q ↔ (s1 = s0 → zS 245 59 [zR a0, zI a1, zI a2, zU, zI a4] [] sh pp mm Q) ∧ (¬ s1 = s0 → zS 245 54 [zR a0, zI a1, zI a2, zI a3, zI a4] [] sh pp mm Q) := s_if cM_span_51 cM_span_59 cM_span_54 rfl rfl rfl
theorem rM_span_54 {a0 : Nat} {a1 a2 a3 a4 : Int} : zS 245 54 [zR a0, zI a1, zI a2, zI a3, zI a4] [] sh pp mm Q ↔ zS 245 55 [zR a0, zI a1, zI a2, zI a3, zI a4] [zI a3] sh pp mm Q := s_go cM_span_54 cM_span_55 rfl rfl
theorem rM_span_55 {a0 : Nat} {a1 a2 a3 a4 s0 : Int} : zS 245 55 [zR a0, zI a1, zI a2, zI a3, zI a4] [zI s0] sh pp mm Q ↔ zS 245 56 [zR a0, zI a1, zI a2, zI a3, zI a4] [zI (-1), zI s0] sh pp mm Q := s_go cM_span_55 cM_span_56 rfl rfl
theorem rM_span_56 {a0 : Nat} {a1 a2 a3 a4 s0 s1 : Int} : zS 245 56 [zR a0, zI a1, zI a2, zI a3, zI a4] [zI s0, zI s1] sh pp mm Q ↔ (s1 = s0 → zS 245 59 [zR a0, zI a1, zI a2, zU, zI a4] [] sh pp mm Q) ∧ (¬ s1 = s0 → zS 245 64 [zR a0, zI a1, zI a2, zI a3, zI a4] [] sh pp mm Q) := s_ifn cM_span_56 cM_span_59 cM_span_64 rfl rfl rfl
theorem rM_span_59 {a0 : Nat} {a1 a2 a4 : Int} {u3 : zV} : zS 245 59 [zR a0, zI a1, zI a2, u3, zI a4] [] sh pp mm Q ↔ zS 245 61 [zR a0, zI a1, zI a2, zU, zI a4] [zI a4] sh pp mm Q := s_go cM_span_59 cM_span_61 rfl rfl
theorem rM_span_61 {a0 : Nat} {a1 a2 a4 s0 : Int} {u3 : zV} : zS 245 61 [zR a0, zI a1, zI a2, u3, zI a4] [zI s0] sh pp mm Q ↔ zS 245 65 [zR a0, zI a1, zI a2, zU, zI a4] [zI s0] sh pp mm Q := s_go cM_span_61 cM_span_65 rfl rfl
theorem rM_span_64 {a0 : Nat} {a1 a2 a3 a4 : Int} : zS 245 64 [zR a0, zI a1, zI a2, zI a3, zI a4] [] sh pp mm Q ↔ zS 245 65 [zR a0, zI a1, zI a2, zU, zI a4] [zI a3] sh pp mm Q := s_go cM_span_64 cM_span_65 rfl rfl
theorem rM_span_65 {a0 : Nat} {a1 a2 a4 s0 : Int} {u3 : zV} : zS 245 65 [zR a0, zI a1, zI a2, u3, zI a4] [zI s0] sh pp mm Q ↔ zS 245 66 [zR a0, zI a1, zI a2, zI s0, zI a4] [] sh pp mm Q := s_go cM_span_65 cM_span_66 rfl rfl
theorem rM_span_66 {a0 : Nat} {a1 a2 a3 a4 : Int} : zS 245 66 [zR a0, zI a1, zI a2, zI a3, zI a4] [] sh pp mm Q ↔ zS 245 69 [zR a0, zI a1, zI a2, zI a3, zI (zw32 (a4 + 1))] [] sh pp mm Q := s_go cM_span_66 cM_span_69 rfl rfl
theorem rM_span_69 {a0 : Nat} {a1 a2 a3 a4 : Int} : zS 245 69 [zR a0, zI a1, zI a2, zI a3, zI a4] [] sh pp mm Q ↔ zS 245 32 [zR a0, zI a1, zI a2, zI a3, zI a4] [] sh pp mm Q := s_go cM_span_69 cM_span_32 rfl rfl
theorem rM_span_72 {a0 : Nat} {a3 : Int} {u1 u2 u4 : zV} : zS 245 72 [zR a0, u1, u2, zI a3, u4] [] sh pp mm Q ↔ zS 245 73 [zR a0, zU, zU, zI a3, zU] [zI a3] sh pp mm Q := s_go cM_span_72 cM_span_73 rfl rfl
theorem rM_span_73 {a0 : Nat} {a3 s0 : Int} {u1 u2 u4 : zV} : zS 245 73 [zR a0, u1, u2, zI a3, u4] [zI s0] sh pp mm Q ↔ zS 245 74 [zR a0, zU, zU, zI a3, zU] [zI (-1), zI s0] sh pp mm Q := s_go cM_span_73 cM_span_74 rfl rfl
theorem rM_span_74 {a0 : Nat} {a3 s0 s1 : Int} {u1 u2 u4 : zV} : zS 245 74 [zR a0, u1, u2, zI a3, u4] [zI s0, zI s1] sh pp mm Q ↔ (s1 = s0 → zS 245 77 [zR a0, zU, zU, zU, zU] [] sh pp mm Q) ∧ (¬ s1 = s0 → zS 245 86 [zU, zU, zU, zI a3, zU] [] sh pp mm Q) := s_ifn cM_span_74 cM_span_77 cM_span_86 rfl rfl rfl
theorem rM_span_77 {a0 : Nat} {u1 u2 u3 u4 : zV} : zS 245 77 [zR a0, u1, u2, u3, u4] [] sh pp mm Q ↔ zS 245 78 [zU, zU, zU, zU, zU] [zR a0] sh pp mm Q := s_go cM_span_77 cM_span_78 rfl rfl
theorem rM_span_78 {s0 : Nat} {u0 u1 u2 u3 u4 : zV} : zS 245 78 [u0, u1, u2, u3, u4] [zR s0] sh pp mm Q ↔ zS 245 80 [zU, zU, zU, zU, zU] [zI (-3), zR s0] sh pp mm Q := s_go cM_span_78 cM_span_80 rfl rfl
theorem rM_span_80 {s1 : Nat} {s0 : Int} {u0 u1 u2 u3 u4 : zV} (hk : zKd sh s1 = 12) : zS 245 80 [u0, u1, u2, u3, u4] [zI s0, zR s1] sh pp mm Q ↔ zS 153 0 [zR s1, zI s0] [] sh pp mm (fun v sh pp mm => zS 245 83 [zU, zU, zU, zU, zU] (zPush v []) sh pp mm Q) := s_call cM_span_80 cM_span_83 ((if_pos hk).trans rfl) rfl
theorem rM_span_83 {s0 : Int} {u0 u1 u2 u3 u4 : zV} : zS 245 83 [u0, u1, u2, u3, u4] [zI s0] sh pp mm Q ↔ zS 245 87 [zU, zU, zU, zU, zU] [zI s0] sh pp mm Q := s_go cM_span_83 cM_span_87 rfl rfl
theorem rM_span_86 {a3 : Int} {u0 u1 u2 u4 : zV} : zS 245 86 [u0, u1, u2, zI a3, u4] [] sh pp mm Q ↔ zS 245 87 [zU, zU, zU, zU, zU] [zI a3] sh pp mm Q := s_go cM_span_86 cM_span_87 rfl rfl
theorem rM_span_87 {s0 : Int} {u0 u1 u2 u3 u4 : zV} : zS 245 87 [u0, u1, u2, u3, u4] [zI s0] sh pp mm Q ↔ Q (zI s0) sh pp mm := s_ret cM_span_87 rfl
theorem cAM_sign : ∀ q ∈ zT246, zCode 246 q.1 = some q.2 := zAll (mid := 246) rfl (by decide +kernel)
theorem cAM_sign_0 : ∀ q ∈ zT246_0, zCode 246 q.1 = some q.2 := fun q h => cAM_sign q (List.mem_append_left _ h)
theorem cAM_sign_1 : ∀ q ∈ zT246_1, zCode 246 q.1 = some q.2 := fun q h => cAM_sign q (List.mem_append_right _ h)
theorem cM_sign_0 : zCode 246 0 = some (.iload_n 1, 1, 0, 0, 0, 0, 3) := cAM_sign_0 _ (List.mem_of_getElem? (i := 0) rfl)
theorem cM_sign_1 : zCode 246 1 = some (.ifCond .ne 10, 4, 11, 0, 0, 0, 3) := cAM_sign_0 _ (List.mem_of_getElem? (i := 1) rfl)
theorem cM_sign_4 : zCode 246 4 = some (.aload_n 0, 5, 0, 0, 0, 0, 1) := cAM_sign_0 _ (List.mem_of_getElem? (i := 2) rfl)
theorem cM_sign_5 : zCode 246 5 = some (.getfield 109, 8, 12, 6, 0, 1215, 0) := cAM_sign_0 _ (List.mem_of_getElem? (i := 3) rfl)
theorem cM_sign_8 : zCode 246 8 = some (.goto 37, 11, 45, 0, 0, 0, 0) := cAM_sign_0 _ (List.mem_of_getElem? (i := 4) rfl)
theorem cM_sign_11 : zCode 246 11 = some (.iload_n 1, 12, 0, 0, 0, 0, 3) := cAM_sign_0 _ (List.mem_of_getElem? (i := 5) rfl)
theorem cM_sign_12 : zCode 246 12 = some (.iconst 1, 13, 0, 0, 0, 0, 3) := cAM_sign_0 _ (List.mem_of_getElem? (i := 6) rfl)
theorem cM_sign_13 : zCode 246 13 = some (.if_icmp .ne 12, 16, 25, 0, 0, 0, 3) := cAM_sign_0 _ (List.mem_of_getElem? (i := 7) rfl)
theorem cM_sign_16 : zCode 246 16 = some (.aload_n 0, 17, 0, 0, 0, 0, 1) := cAM_sign_0 _ (List.mem_of_getElem? (i := 8) rfl)
theorem cM_sign_17 : zCode 246 17 = some (.getfield 27, 20, 12, 5, 2, 1214, 0) := cAM_sign_0 _ (List.mem_of_getElem? (i := 9) rfl)
theorem cM_sign_20 : zCode 246 20 = some (.iconst 0, 21, 0, 0, 0, 0, 0) := cAM_sign_0 _ (List.mem_of_getElem? (i := 10) rfl)
theorem cM_sign_21 : zCode 246 21 = some (.iaload, 22, 0, 0, 0, 0, 0) := cAM_sign_0 _ (List.mem_of_getElem? (i := 11) rfl)
theorem cM_sign_22 : zCode 246 22 = some (.goto 23, 25, 45, 0, 0, 0, 0) := cAM_sign_0 _ (List.mem_of_getElem? (i := 12) rfl)
theorem cM_sign_25 : zCode 246 25 = some (.iload_n 1, 26, 0, 0, 0, 0, 3) := cAM_sign_0 _ (List.mem_of_getElem? (i := 13) rfl)
theorem cM_sign_26 : zCode 246 26 = some (.iconst 2, 27, 0, 0, 0, 0, 1) := cAM_sign_0 _ (List.mem_of_getElem? (i := 14) rfl)
theorem cM_sign_27 : zCode 246 27 = some (.if_icmp .ne 12, 30, 39, 0, 0, 0, 1) := cAM_sign_0 _ (List.mem_of_getElem? (i := 15) rfl)
theorem cM_sign_30 : zCode 246 30 = some (.aload_n 0, 31, 0, 0, 0, 0, 1) := cAM_sign_1 _ (List.mem_of_getElem? (i := 0) rfl)
theorem cM_sign_31 : zCode 246 31 = some (.getfield 27, 34, 12, 5, 2, 1214, 0) := cAM_sign_1 _ (List.mem_of_getElem? (i := 1) rfl)
theorem cM_sign_34 : zCode 246 34 = some (.iconst 1, 35, 0, 0, 0, 0, 0) := cAM_sign_1 _ (List.mem_of_getElem? (i := 2) rfl)
theorem cM_sign_35 : zCode 246 35 = some (.iaload, 36, 0, 0, 0, 0, 0) := cAM_sign_1 _ (List.mem_of_getElem? (i := 3) rfl)
theorem cM_sign_36 : zCode 246 36 = some (.goto 9, 39, 45, 0, 0, 0, 0) := cAM_sign_1 _ (List.mem_of_getElem? (i := 4) rfl)
theorem cM_sign_39 : zCode 246 39 = some (.aload_n 0, 40, 0, 0, 0, 0, 1) := cAM_sign_1 _ (List.mem_of_getElem? (i := 5) rfl)
theorem cM_sign_40 : zCode 246 40 = some (.bipush (-2), 42, 0, 0, 0, 0, 0) := cAM_sign_1 _ (List.mem_of_getElem? (i := 6) rfl)
theorem cM_sign_42 : zCode 246 42 = some (.invokevirtual 132, 45, 152, 1, 2, 12, 0) := cAM_sign_1 _ (List.mem_of_getElem? (i := 7) rfl)
theorem cM_sign_45 : zCode 246 45 = some (.ireturn, 46, 0, 0, 0, 0, 0) := cAM_sign_1 _ (List.mem_of_getElem? (i := 8) rfl)
theorem rM_sign_0 {a0 : Nat} {a1 : Int} : zS 246 0 [zR a0, zI a1] [] sh pp mm Q ↔ zS 246 1 [zR a0, zI a1] [zI a1] sh pp mm Q := s_go cM_sign_0 cM_sign_1 rfl rfl
theorem rM_sign_1 {a0 : Nat} {a1 s0 : Int} : zS 246 1 [zR a0, zI a1] [zI s0] sh pp mm Q ↔ (s0 = 0 → zS 246 4 [zR a0, zU] [] sh pp mm Q) ∧ (¬ s0 = 0 → zS 246 11 [zR a0, zI a1] [] sh pp mm Q) := s_ifn cM_sign_1 cM_sign_4 cM_sign_11 rfl rfl rfl
theorem rM_sign_4 {a0 : Nat} {u1 : zV} : zS 246 4 [zR a0, u1] [] sh pp mm Q ↔ zS 246 5 [zU, zU] [zR a0] sh pp mm Q := s_go cM_sign_4 cM_sign_5 rfl rfl
theorem rM_sign_5 {s0 : Nat} {u0 u1 : zV} (hk : zKd sh s0 = 12) : zS 246 5 [u0, u1] [zR s0] sh pp mm Q ↔ zS 246 8 [zU, zU] [zI (mm s0 6)] sh pp mm Q := s_go cM_sign_5 cM_sign_8 (if_pos hk) rfl
theorem rM_sign_8 {s0 : Int} {u0 u1 : zV} : zS 246 8 [u0, u1] [zI s0] sh pp mm Q ↔ zS 246 45 [zU, zU] [zI s0] sh pp mm Q := s_go cM_sign_8 cM_sign_45 rfl rfl
theorem rM_sign_11 {a0 : Nat} {a1 : Int} : zS 246 11 [zR a0, zI a1] [] sh pp mm Q ↔ zS 246 12 [zR a0, zI a1] [zI a1] sh pp mm Q := s_go cM_sign_11 cM_sign_12 rfl rfl
theorem rM_sign_12 {a0 : Nat} {a1 s0 : Int} : zS 246 12 [zR a0, zI a1] [zI s0] sh pp mm Q ↔ zS 246 13 [zR a0, zI a1] [zI 1, zI s0] sh pp mm Q := s_go cM_sign_12 cM_sign_13 rfl rfl
theorem rM_sign_13 {a0 : Nat} {a1 s0 s1 : Int} : zS 246 13 [zR a0, zI a1] [zI s0, zI s1] sh pp mm Q ↔ (s1 = s0 → zS 246 16 [zR a0, zU] [] sh pp mm Q) ∧ (¬ s1 = s0 → zS 246 25 [zR a0, zI a1] [] sh pp mm Q) := s_ifn cM_sign_13 cM_sign_16 cM_sign_25 rfl rfl rfl
theorem rM_sign_16 {a0 : Nat} {u1 : zV} : zS 246 16 [zR a0, u1] [] sh pp mm Q ↔ zS 246 17 [zU, zU] [zR a0] sh pp mm Q := s_go cM_sign_16 cM_sign_17 rfl rfl
theorem rM_sign_17 {s0 : Nat} {u0 u1 : zV} (hk : zKd sh s0 = 12) : zS 246 17 [u0, u1] [zR s0] sh pp mm Q ↔ zS 246 20 [zU, zU] [zR (pp s0 5)] sh pp mm Q := s_go cM_sign_17 cM_sign_20 (if_pos hk) rfl
theorem rM_sign_20 {s0 : Nat} {u0 u1 : zV} : zS 246 20 [u0, u1] [zR s0] sh pp mm Q ↔ zS 246 21 [zU, zU] [zI 0, zR s0] sh pp mm Q := s_go cM_sign_20 cM_sign_21 rfl rfl
theorem rM_sign_21 {s1 : Nat} {s0 : Int} {u0 u1 : zV} (hk : zKd sh s1 = 20 ∨ zKd sh s1 = 30) (h0 : 0 ≤ s0) (h1 : s0 < zLn sh s1) : zS 246 21 [u0, u1] [zI s0, zR s1] sh pp mm Q ↔ zS 246 22 [zU, zU] [zI (mm s1 s0)] sh pp mm Q := s_go cM_sign_21 cM_sign_22 (if_pos ⟨hk, h0, h1⟩) rfl
theorem rM_sign_22 {s0 : Int} {u0 u1 : zV} : zS 246 22 [u0, u1] [zI s0] sh pp mm Q ↔ zS 246 45 [zU, zU] [zI s0] sh pp mm Q := s_go cM_sign_22 cM_sign_45 rfl rfl
theorem rM_sign_25 {a0 : Nat} {a1 : Int} : zS 246 25 [zR a0, zI a1] [] sh pp mm Q ↔ zS 246 26 [zR a0, zU] [zI a1] sh pp mm Q := s_go cM_sign_25 cM_sign_26 rfl rfl
theorem rM_sign_26 {a0 : Nat} {s0 : Int} {u1 : zV} : zS 246 26 [zR a0, u1] [zI s0] sh pp mm Q ↔ zS 246 27 [zR a0, zU] [zI 2, zI s0] sh pp mm Q := s_go cM_sign_26 cM_sign_27 rfl rfl
theorem rM_sign_27 {a0 : Nat} {s0 s1 : Int} {u1 : zV} : zS 246 27 [zR a0, u1] [zI s0, zI s1] sh pp mm Q ↔ (s1 = s0 → zS 246 30 [zR a0, zU] [] sh pp mm Q) ∧ (¬ s1 = s0 → zS 246 39 [zR a0, zU] [] sh pp mm Q) := s_ifn cM_sign_27 cM_sign_30 cM_sign_39 rfl rfl rfl
theorem rM_sign_30 {a0 : Nat} {u1 : zV} : zS 246 30 [zR a0, u1] [] sh pp mm Q ↔ zS 246 31 [zU, zU] [zR a0] sh pp mm Q := s_go cM_sign_30 cM_sign_31 rfl rfl
theorem rM_sign_31 {s0 : Nat} {u0 u1 : zV} (hk : zKd sh s0 = 12) : zS 246 31 [u0, u1] [zR s0] sh pp mm Q ↔ zS 246 34 [zU, zU] [zR (pp s0 5)] sh pp mm Q := s_go cM_sign_31 cM_sign_34 (if_pos hk) rfl
theorem rM_sign_34 {s0 : Nat} {u0 u1 : zV} : zS 246 34 [u0, u1] [zR s0] sh pp mm Q ↔ zS 246 35 [zU, zU] [zI 1, zR s0] sh pp mm Q := s_go cM_sign_34 cM_sign_35 rfl rfl
theorem rM_sign_35 {s1 : Nat} {s0 : Int} {u0 u1 : zV} (hk : zKd sh s1 = 20 ∨ zKd sh s1 = 30) (h0 : 0 ≤ s0) (h1 : s0 < zLn sh s1) : zS 246 35 [u0, u1] [zI s0, zR s1] sh pp mm Q ↔ zS 246 36 [zU, zU] [zI (mm s1 s0)] sh pp mm Q := s_go cM_sign_35 cM_sign_36 (if_pos ⟨hk, h0, h1⟩) rfl
theorem rM_sign_36 {s0 : Int} {u0 u1 : zV} : zS 246 36 [u0, u1] [zI s0] sh pp mm Q ↔ zS 246 45 [zU, zU] [zI s0] sh pp mm Q := s_go cM_sign_36 cM_sign_45 rfl rfl
theorem rM_sign_39 {a0 : Nat} {u1 : zV} : zS 246 39 [zR a0, u1] [] sh pp mm Q ↔ zS 246 40 [zU, zU] [zR a0] sh pp mm Q := s_go cM_sign_39 cM_sign_40 rfl rfl
theorem rM_sign_40 {s0 : Nat} {u0 u1 : zV} : zS 246 40 [u0, u1] [zR s0] sh pp mm Q ↔ zS 246 42 [zU, zU] [zI (-2), zR s0] sh pp mm Q := s_go cM_sign_40 cM_sign_42 rfl rfl
theorem rM_sign_42 {s1 : Nat} {s0 : Int} {u0 u1 : zV} (hk : zKd sh s1 = 12) : zS 246 42 [u0, u1] [zI s0, zR s1] sh pp mm Q ↔ zS 152 0 [zR s1, zI s0] [] sh pp mm (fun v sh pp mm => zS 246 45 [zU, zU] (zPush v []) sh pp mm Q) := s_call cM_sign_42 cM_sign_45 ((if_pos hk).trans rfl) rfl
theorem rM_sign_45 {s0 : Int} {u0 u1 : zV} : zS 246 45 [u0, u1] [zI s0] sh pp mm Q ↔ Q (zI s0) sh pp mm := s_ret cM_sign_45 rfl
theorem cAM_limb : ∀ q ∈ zT247, zCode 247 q.1 = some q.2 := zAll (mid := 247) rfl (by decide +kernel)
theorem cAM_limb_0 : ∀ q ∈ zT247_0, zCode 247 q.1 = some q.2 := fun q h => cAM_limb q (List.mem_append_left _ h)
theorem cAM_limb_1 : ∀ q ∈ zT247_1, zCode 247 q.1 = some q.2 := fun q h => cAM_limb q (List.mem_append_right _ h)
theorem cM_limb_0 : zCode 247 0 = some (.iload_n 1, 1, 0, 0, 0, 0, 7) := cAM_limb_0 _ (List.mem_of_getElem? (i := 0) rfl)
theorem cM_limb_1 : zCode 247 1 = some (.i2l, 2, 0, 0, 0, 0, 7) := cAM_limb_0 _ (List.mem_of_getElem? (i := 1) rfl)
theorem cM_limb_2 : zCode 247 2 = some (.lconst 0, 3, 0, 0, 0, 0, 7) := cAM_limb_0 _ (List.mem_of_getElem? (i := 2) rfl)
theorem cM_limb_3 : zCode 247 3 = some (.lconst 1, 4, 0, 0, 0, 0, 7) := cAM_limb_0 _ (List.mem_of_getElem? (i := 3) rfl)
theorem cM_limb_4 : zCode 247 4 = some (.invokestatic 121, 7, 151, 3, 6, 12, 7) := cAM_limb_0 _ (List.mem_of_getElem? (i := 4) rfl)
theorem cM_limb_7 : zCode 247 7 = some (.ifCond .eq 7, 10, 14, 0, 0, 0, 7) := cAM_limb_0 _ (List.mem_of_getElem? (i := 5) rfl)
theorem cM_limb_10 : zCode 247 10 = some (.iload_n 2, 11, 0, 0, 0, 0, 7) := cAM_limb_0 _ (List.mem_of_getElem? (i := 6) rfl)
theorem cM_limb_11 : zCode 247 11 = some (.ifCond .ge 10, 14, 21, 0, 0, 0, 7) := cAM_limb_0 _ (List.mem_of_getElem? (i := 7) rfl)
theorem cM_limb_14 : zCode 247 14 = some (.aload_n 0, 15, 0, 0, 0, 0, 1) := cAM_limb_0 _ (List.mem_of_getElem? (i := 8) rfl)
theorem cM_limb_15 : zCode 247 15 = some (.bipush (-2), 17, 0, 0, 0, 0, 0) := cAM_limb_0 _ (List.mem_of_getElem? (i := 9) rfl)
theorem cM_limb_17 : zCode 247 17 = some (.invokevirtual 132, 20, 152, 1, 2, 12, 0) := cAM_limb_0 _ (List.mem_of_getElem? (i := 10) rfl)
theorem cM_limb_20 : zCode 247 20 = some (.ireturn, 21, 0, 0, 0, 0, 0) := cAM_limb_0 _ (List.mem_of_getElem? (i := 11) rfl)
theorem cM_limb_21 : zCode 247 21 = some (.iload_n 2, 22, 0, 0, 0, 0, 7) := cAM_limb_0 _ (List.mem_of_getElem? (i := 12) rfl)
theorem cM_limb_22 : zCode 247 22 = some (.aload_n 0, 23, 0, 0, 0, 0, 7) := cAM_limb_0 _ (List.mem_of_getElem? (i := 13) rfl)
theorem cM_limb_23 : zCode 247 23 = some (.getfield 27, 26, 12, 5, 2, 1214, 7) := cAM_limb_0 _ (List.mem_of_getElem? (i := 14) rfl)
theorem cM_limb_26 : zCode 247 26 = some (.iload_n 1, 27, 0, 0, 0, 0, 7) := cAM_limb_0 _ (List.mem_of_getElem? (i := 15) rfl)
theorem cM_limb_27 : zCode 247 27 = some (.iaload, 28, 0, 0, 0, 0, 7) := cAM_limb_1 _ (List.mem_of_getElem? (i := 0) rfl)
theorem cM_limb_28 : zCode 247 28 = some (.if_icmp .ge 18, 31, 46, 0, 0, 0, 7) := cAM_limb_1 _ (List.mem_of_getElem? (i := 1) rfl)
theorem cM_limb_31 : zCode 247 31 = some (.aload_n 0, 32, 0, 0, 0, 0, 7) := cAM_limb_1 _ (List.mem_of_getElem? (i := 2) rfl)
theorem cM_limb_32 : zCode 247 32 = some (.getfield 23, 35, 12, 4, 2, 1213, 6) := cAM_limb_1 _ (List.mem_of_getElem? (i := 3) rfl)
theorem cM_limb_35 : zCode 247 35 = some (.bipush 64, 37, 0, 0, 0, 0, 6) := cAM_limb_1 _ (List.mem_of_getElem? (i := 4) rfl)
theorem cM_limb_37 : zCode 247 37 = some (.iload_n 1, 38, 0, 0, 0, 0, 6) := cAM_limb_1 _ (List.mem_of_getElem? (i := 5) rfl)
theorem cM_limb_38 : zCode 247 38 = some (.imul, 39, 0, 0, 0, 0, 4) := cAM_limb_1 _ (List.mem_of_getElem? (i := 6) rfl)
theorem cM_limb_39 : zCode 247 39 = some (.iload_n 2, 40, 0, 0, 0, 0, 4) := cAM_limb_1 _ (List.mem_of_getElem? (i := 7) rfl)
theorem cM_limb_40 : zCode 247 40 = some (.iadd, 41, 0, 0, 0, 0, 0) := cAM_limb_1 _ (List.mem_of_getElem? (i := 8) rfl)
theorem cM_limb_41 : zCode 247 41 = some (.laload, 42, 0, 0, 0, 0, 0) := cAM_limb_1 _ (List.mem_of_getElem? (i := 9) rfl)
theorem cM_limb_42 : zCode 247 42 = some (.l2i, 43, 0, 0, 0, 0, 0) := cAM_limb_1 _ (List.mem_of_getElem? (i := 10) rfl)
theorem cM_limb_43 : zCode 247 43 = some (.goto 4, 46, 47, 0, 0, 0, 0) := cAM_limb_1 _ (List.mem_of_getElem? (i := 11) rfl)
theorem cM_limb_46 : zCode 247 46 = some (.iconst (-1), 47, 0, 0, 0, 0, 0) := cAM_limb_1 _ (List.mem_of_getElem? (i := 12) rfl)
theorem cM_limb_47 : zCode 247 47 = some (.ireturn, 48, 0, 0, 0, 0, 0) := cAM_limb_1 _ (List.mem_of_getElem? (i := 13) rfl)
theorem rM_limb_0 {a0 : Nat} {a1 a2 : Int} : zS 247 0 [zR a0, zI a1, zI a2] [] sh pp mm Q ↔ zS 247 1 [zR a0, zI a1, zI a2] [zI a1] sh pp mm Q := s_go cM_limb_0 cM_limb_1 rfl rfl
theorem rM_limb_1 {a0 : Nat} {a1 a2 s0 : Int} : zS 247 1 [zR a0, zI a1, zI a2] [zI s0] sh pp mm Q ↔ zS 247 2 [zR a0, zI a1, zI a2] [zL s0] sh pp mm Q := s_go cM_limb_1 cM_limb_2 rfl rfl
theorem rM_limb_2 {a0 : Nat} {a1 a2 s0 : Int} : zS 247 2 [zR a0, zI a1, zI a2] [zL s0] sh pp mm Q ↔ zS 247 3 [zR a0, zI a1, zI a2] [zL 0, zL s0] sh pp mm Q := s_go cM_limb_2 cM_limb_3 rfl rfl
theorem rM_limb_3 {a0 : Nat} {a1 a2 s0 s1 : Int} : zS 247 3 [zR a0, zI a1, zI a2] [zL s0, zL s1] sh pp mm Q ↔ zS 247 4 [zR a0, zI a1, zI a2] [zL 1, zL s0, zL s1] sh pp mm Q := s_go cM_limb_3 cM_limb_4 rfl rfl
theorem rM_limb_4 {a0 : Nat} {a1 a2 s0 s1 s2 : Int} : zS 247 4 [zR a0, zI a1, zI a2] [zL s0, zL s1, zL s2] sh pp mm Q ↔ zS 151 0 [zL s2, zU, zL s1, zU, zL s0, zU] [] sh pp mm (fun v sh pp mm => zS 247 7 [zR a0, zI a1, zI a2] (zPush v []) sh pp mm Q) := s_call cM_limb_4 cM_limb_7 rfl rfl
theorem rM_limb_7 {a0 : Nat} {a1 a2 s0 : Int} : zS 247 7 [zR a0, zI a1, zI a2] [zI s0] sh pp mm Q ↔ (s0 = 0 → zS 247 14 [zR a0, zU, zU] [] sh pp mm Q) ∧ (¬ s0 = 0 → zS 247 10 [zR a0, zI a1, zI a2] [] sh pp mm Q) := s_if cM_limb_7 cM_limb_14 cM_limb_10 rfl rfl rfl
theorem rM_limb_10 {a0 : Nat} {a1 a2 : Int} : zS 247 10 [zR a0, zI a1, zI a2] [] sh pp mm Q ↔ zS 247 11 [zR a0, zI a1, zI a2] [zI a2] sh pp mm Q := s_go cM_limb_10 cM_limb_11 rfl rfl
theorem rM_limb_11 {a0 : Nat} {a1 a2 s0 : Int} : zS 247 11 [zR a0, zI a1, zI a2] [zI s0] sh pp mm Q ↔ (s0 < 0 → zS 247 14 [zR a0, zU, zU] [] sh pp mm Q) ∧ (¬ s0 < 0 → zS 247 21 [zR a0, zI a1, zI a2] [] sh pp mm Q) := s_ifn cM_limb_11 cM_limb_14 cM_limb_21 rfl rfl rfl
theorem rM_limb_14 {a0 : Nat} {u1 u2 : zV} : zS 247 14 [zR a0, u1, u2] [] sh pp mm Q ↔ zS 247 15 [zU, zU, zU] [zR a0] sh pp mm Q := s_go cM_limb_14 cM_limb_15 rfl rfl
theorem rM_limb_15 {s0 : Nat} {u0 u1 u2 : zV} : zS 247 15 [u0, u1, u2] [zR s0] sh pp mm Q ↔ zS 247 17 [zU, zU, zU] [zI (-2), zR s0] sh pp mm Q := s_go cM_limb_15 cM_limb_17 rfl rfl
theorem rM_limb_17 {s1 : Nat} {s0 : Int} {u0 u1 u2 : zV} (hk : zKd sh s1 = 12) : zS 247 17 [u0, u1, u2] [zI s0, zR s1] sh pp mm Q ↔ zS 152 0 [zR s1, zI s0] [] sh pp mm (fun v sh pp mm => zS 247 20 [zU, zU, zU] (zPush v []) sh pp mm Q) := s_call cM_limb_17 cM_limb_20 ((if_pos hk).trans rfl) rfl
theorem rM_limb_20 {s0 : Int} {u0 u1 u2 : zV} : zS 247 20 [u0, u1, u2] [zI s0] sh pp mm Q ↔ Q (zI s0) sh pp mm := s_ret cM_limb_20 rfl
theorem rM_limb_21 {a0 : Nat} {a1 a2 : Int} : zS 247 21 [zR a0, zI a1, zI a2] [] sh pp mm Q ↔ zS 247 22 [zR a0, zI a1, zI a2] [zI a2] sh pp mm Q := s_go cM_limb_21 cM_limb_22 rfl rfl
theorem rM_limb_22 {a0 : Nat} {a1 a2 s0 : Int} : zS 247 22 [zR a0, zI a1, zI a2] [zI s0] sh pp mm Q ↔ zS 247 23 [zR a0, zI a1, zI a2] [zR a0, zI s0] sh pp mm Q := s_go cM_limb_22 cM_limb_23 rfl rfl
theorem rM_limb_23 {a0 s0 : Nat} {a1 a2 s1 : Int} (hk : zKd sh s0 = 12) : zS 247 23 [zR a0, zI a1, zI a2] [zR s0, zI s1] sh pp mm Q ↔ zS 247 26 [zR a0, zI a1, zI a2] [zR (pp s0 5), zI s1] sh pp mm Q := s_go cM_limb_23 cM_limb_26 (if_pos hk) rfl
theorem rM_limb_26 {a0 s0 : Nat} {a1 a2 s1 : Int} : zS 247 26 [zR a0, zI a1, zI a2] [zR s0, zI s1] sh pp mm Q ↔ zS 247 27 [zR a0, zI a1, zI a2] [zI a1, zR s0, zI s1] sh pp mm Q := s_go cM_limb_26 cM_limb_27 rfl rfl
theorem rM_limb_27 {a0 s1 : Nat} {a1 a2 s0 s2 : Int} (hk : zKd sh s1 = 20 ∨ zKd sh s1 = 30) (h0 : 0 ≤ s0) (h1 : s0 < zLn sh s1) : zS 247 27 [zR a0, zI a1, zI a2] [zI s0, zR s1, zI s2] sh pp mm Q ↔ zS 247 28 [zR a0, zI a1, zI a2] [zI (mm s1 s0), zI s2] sh pp mm Q := s_go cM_limb_27 cM_limb_28 (if_pos ⟨hk, h0, h1⟩) rfl
theorem rM_limb_28 {a0 : Nat} {a1 a2 s0 s1 : Int} : zS 247 28 [zR a0, zI a1, zI a2] [zI s0, zI s1] sh pp mm Q ↔ (s1 < s0 → zS 247 31 [zR a0, zI a1, zI a2] [] sh pp mm Q) ∧ (¬ s1 < s0 → zS 247 46 [zU, zU, zU] [] sh pp mm Q) := s_ifn cM_limb_28 cM_limb_31 cM_limb_46 rfl rfl rfl
theorem rM_limb_31 {a0 : Nat} {a1 a2 : Int} : zS 247 31 [zR a0, zI a1, zI a2] [] sh pp mm Q ↔ zS 247 32 [zU, zI a1, zI a2] [zR a0] sh pp mm Q := s_go cM_limb_31 cM_limb_32 rfl rfl
theorem rM_limb_32 {s0 : Nat} {a1 a2 : Int} {u0 : zV} (hk : zKd sh s0 = 12) : zS 247 32 [u0, zI a1, zI a2] [zR s0] sh pp mm Q ↔ zS 247 35 [zU, zI a1, zI a2] [zR (pp s0 4)] sh pp mm Q := s_go cM_limb_32 cM_limb_35 (if_pos hk) rfl
theorem rM_limb_35 {s0 : Nat} {a1 a2 : Int} {u0 : zV} : zS 247 35 [u0, zI a1, zI a2] [zR s0] sh pp mm Q ↔ zS 247 37 [zU, zI a1, zI a2] [zI 64, zR s0] sh pp mm Q := s_go cM_limb_35 cM_limb_37 rfl rfl
theorem rM_limb_37 {s1 : Nat} {a1 a2 s0 : Int} {u0 : zV} : zS 247 37 [u0, zI a1, zI a2] [zI s0, zR s1] sh pp mm Q ↔ zS 247 38 [zU, zU, zI a2] [zI a1, zI s0, zR s1] sh pp mm Q := s_go cM_limb_37 cM_limb_38 rfl rfl
theorem rM_limb_38 {s2 : Nat} {a2 s0 s1 : Int} {u0 u1 : zV} : zS 247 38 [u0, u1, zI a2] [zI s0, zI s1, zR s2] sh pp mm Q ↔ zS 247 39 [zU, zU, zI a2] [zI (zw32 (s1 * s0)), zR s2] sh pp mm Q := s_go cM_limb_38 cM_limb_39 rfl rfl
theorem rM_limb_39 {s1 : Nat} {a2 s0 : Int} {u0 u1 : zV} : zS 247 39 [u0, u1, zI a2] [zI s0, zR s1] sh pp mm Q ↔ zS 247 40 [zU, zU, zU] [zI a2, zI s0, zR s1] sh pp mm Q := s_go cM_limb_39 cM_limb_40 rfl rfl
theorem rM_limb_40 {s2 : Nat} {s0 s1 : Int} {u0 u1 u2 : zV} : zS 247 40 [u0, u1, u2] [zI s0, zI s1, zR s2] sh pp mm Q ↔ zS 247 41 [zU, zU, zU] [zI (zw32 (s1 + s0)), zR s2] sh pp mm Q := s_go cM_limb_40 cM_limb_41 rfl rfl
theorem rM_limb_41 {s1 : Nat} {s0 : Int} {u0 u1 u2 : zV} (hk : zKd sh s1 = 21) (h0 : 0 ≤ s0) (h1 : s0 < zLn sh s1) : zS 247 41 [u0, u1, u2] [zI s0, zR s1] sh pp mm Q ↔ zS 247 42 [zU, zU, zU] [zL (mm s1 s0)] sh pp mm Q := s_go cM_limb_41 cM_limb_42 (if_pos ⟨hk, h0, h1⟩) rfl
theorem rM_limb_42 {s0 : Int} {u0 u1 u2 : zV} : zS 247 42 [u0, u1, u2] [zL s0] sh pp mm Q ↔ zS 247 43 [zU, zU, zU] [zI (zw32 s0)] sh pp mm Q := s_go cM_limb_42 cM_limb_43 rfl rfl
theorem rM_limb_43 {s0 : Int} {u0 u1 u2 : zV} : zS 247 43 [u0, u1, u2] [zI s0] sh pp mm Q ↔ zS 247 47 [zU, zU, zU] [zI s0] sh pp mm Q := s_go cM_limb_43 cM_limb_47 rfl rfl
theorem rM_limb_46 {u0 u1 u2 : zV} : zS 247 46 [u0, u1, u2] [] sh pp mm Q ↔ zS 247 47 [zU, zU, zU] [zI (-1)] sh pp mm Q := s_go cM_limb_46 cM_limb_47 rfl rfl
theorem rM_limb_47 {s0 : Int} {u0 u1 u2 : zV} : zS 247 47 [u0, u1, u2] [zI s0] sh pp mm Q ↔ Q (zI s0) sh pp mm := s_ret cM_limb_47 rfl
theorem cAM_image : ∀ q ∈ zT248, zCode 248 q.1 = some q.2 := zAll (mid := 248) rfl (by decide +kernel)
theorem cAM_image_0 : ∀ q ∈ zT248_0, zCode 248 q.1 = some q.2 := fun q h => cAM_image q (List.mem_append_left _ h)
theorem cAM_image_1 : ∀ q ∈ zT248_1, zCode 248 q.1 = some q.2 := fun q h => cAM_image q (List.mem_append_right _ (List.mem_append_left _ h))
theorem cAM_image_2 : ∀ q ∈ zT248_2, zCode 248 q.1 = some q.2 := fun q h => cAM_image q (List.mem_append_right _ (List.mem_append_right _ h))
theorem cM_image_0 : zCode 248 0 = some (.iload_n 1, 1, 0, 0, 0, 0, 3) := cAM_image_0 _ (List.mem_of_getElem? (i := 0) rfl)
theorem cM_image_1 : zCode 248 1 = some (.i2l, 2, 0, 0, 0, 0, 3) := cAM_image_0 _ (List.mem_of_getElem? (i := 1) rfl)
theorem cM_image_2 : zCode 248 2 = some (.lconst 0, 3, 0, 0, 0, 0, 3) := cAM_image_0 _ (List.mem_of_getElem? (i := 2) rfl)
theorem cM_image_3 : zCode 248 3 = some (.lconst 1, 4, 0, 0, 0, 0, 3) := cAM_image_0 _ (List.mem_of_getElem? (i := 3) rfl)
theorem cM_image_4 : zCode 248 4 = some (.invokestatic 121, 7, 151, 3, 6, 12, 3) := cAM_image_0 _ (List.mem_of_getElem? (i := 4) rfl)
theorem cM_image_7 : zCode 248 7 = some (.ifCond .ne 10, 10, 17, 0, 0, 0, 3) := cAM_image_0 _ (List.mem_of_getElem? (i := 5) rfl)
theorem cM_image_10 : zCode 248 10 = some (.aload_n 0, 11, 0, 0, 0, 0, 1) := cAM_image_0 _ (List.mem_of_getElem? (i := 6) rfl)
theorem cM_image_11 : zCode 248 11 = some (.bipush (-2), 13, 0, 0, 0, 0, 0) := cAM_image_0 _ (List.mem_of_getElem? (i := 7) rfl)
theorem cM_image_13 : zCode 248 13 = some (.invokevirtual 132, 16, 152, 1, 2, 12, 0) := cAM_image_0 _ (List.mem_of_getElem? (i := 8) rfl)
theorem cM_image_16 : zCode 248 16 = some (.ireturn, 17, 0, 0, 0, 0, 0) := cAM_image_0 _ (List.mem_of_getElem? (i := 9) rfl)
theorem cM_image_17 : zCode 248 17 = some (.iconst 0, 18, 0, 0, 0, 0, 3) := cAM_image_0 _ (List.mem_of_getElem? (i := 10) rfl)
theorem cM_image_18 : zCode 248 18 = some (.istore_n 2, 19, 0, 0, 0, 0, 3) := cAM_image_0 _ (List.mem_of_getElem? (i := 11) rfl)
theorem cM_image_19 : zCode 248 19 = some (.iload_n 2, 20, 0, 0, 0, 0, 7) := cAM_image_0 _ (List.mem_of_getElem? (i := 12) rfl)
theorem cM_image_20 : zCode 248 20 = some (.sipush 986, 23, 0, 0, 0, 0, 7) := cAM_image_0 _ (List.mem_of_getElem? (i := 13) rfl)
theorem cM_image_23 : zCode 248 23 = some (.if_icmp .ge 27, 26, 50, 0, 0, 0, 7) := cAM_image_0 _ (List.mem_of_getElem? (i := 14) rfl)
theorem cM_image_26 : zCode 248 26 = some (.aload_n 0, 27, 0, 0, 0, 0, 7) := cAM_image_0 _ (List.mem_of_getElem? (i := 15) rfl)
theorem cM_image_27 : zCode 248 27 = some (.getfield 13, 30, 12, 1, 2, 1210, 7) := cAM_image_1 _ (List.mem_of_getElem? (i := 0) rfl)
theorem cM_image_30 : zCode 248 30 = some (.sipush 986, 33, 0, 0, 0, 0, 7) := cAM_image_1 _ (List.mem_of_getElem? (i := 1) rfl)
theorem cM_image_33 : zCode 248 33 = some (.iload_n 1, 34, 0, 0, 0, 0, 7) := cAM_image_1 _ (List.mem_of_getElem? (i := 2) rfl)
theorem cM_image_34 : zCode 248 34 = some (.imul, 35, 0, 0, 0, 0, 7) := cAM_image_1 _ (List.mem_of_getElem? (i := 3) rfl)
theorem cM_image_35 : zCode 248 35 = some (.iload_n 2, 36, 0, 0, 0, 0, 7) := cAM_image_1 _ (List.mem_of_getElem? (i := 4) rfl)
theorem cM_image_36 : zCode 248 36 = some (.iadd, 37, 0, 0, 0, 0, 7) := cAM_image_1 _ (List.mem_of_getElem? (i := 5) rfl)
theorem cM_image_37 : zCode 248 37 = some (.aload_n 0, 38, 0, 0, 0, 0, 7) := cAM_image_1 _ (List.mem_of_getElem? (i := 6) rfl)
theorem cM_image_38 : zCode 248 38 = some (.getfield 7, 41, 12, 0, 2, 1209, 7) := cAM_image_1 _ (List.mem_of_getElem? (i := 7) rfl)
theorem cM_image_41 : zCode 248 41 = some (.iload_n 2, 42, 0, 0, 0, 0, 7) := cAM_image_1 _ (List.mem_of_getElem? (i := 8) rfl)
theorem cM_image_42 : zCode 248 42 = some (.iaload, 43, 0, 0, 0, 0, 7) := cAM_image_1 _ (List.mem_of_getElem? (i := 9) rfl)
theorem cM_image_43 : zCode 248 43 = some (.iastore, 44, 0, 0, 0, 0, 7) := cAM_image_1 _ (List.mem_of_getElem? (i := 10) rfl)
theorem cM_image_44 : zCode 248 44 = some (.iinc 2 1, 47, 0, 0, 0, 0, 7) := cAM_image_1 _ (List.mem_of_getElem? (i := 11) rfl)
theorem cM_image_47 : zCode 248 47 = some (.goto (-28), 50, 19, 0, 0, 0, 7) := cAM_image_1 _ (List.mem_of_getElem? (i := 12) rfl)
theorem cM_image_50 : zCode 248 50 = some (.aload_n 0, 51, 0, 0, 0, 0, 3) := cAM_image_1 _ (List.mem_of_getElem? (i := 13) rfl)
theorem cM_image_51 : zCode 248 51 = some (.getfield 16, 54, 12, 2, 2, 1211, 2) := cAM_image_1 _ (List.mem_of_getElem? (i := 14) rfl)
theorem cM_image_54 : zCode 248 54 = some (.iload_n 1, 55, 0, 0, 0, 0, 2) := cAM_image_1 _ (List.mem_of_getElem? (i := 15) rfl)
theorem cM_image_55 : zCode 248 55 = some (.iconst 1, 56, 0, 0, 0, 0, 0) := cAM_image_2 _ (List.mem_of_getElem? (i := 0) rfl)
theorem cM_image_56 : zCode 248 56 = some (.bastore, 57, 0, 0, 0, 0, 0) := cAM_image_2 _ (List.mem_of_getElem? (i := 1) rfl)
theorem cM_image_57 : zCode 248 57 = some (.iconst 1, 58, 0, 0, 0, 0, 0) := cAM_image_2 _ (List.mem_of_getElem? (i := 2) rfl)
theorem cM_image_58 : zCode 248 58 = some (.ireturn, 59, 0, 0, 0, 0, 0) := cAM_image_2 _ (List.mem_of_getElem? (i := 3) rfl)
theorem rM_image_0 {a0 : Nat} {a1 : Int} {u2 : zV} : zS 248 0 [zR a0, zI a1, u2] [] sh pp mm Q ↔ zS 248 1 [zR a0, zI a1, zU] [zI a1] sh pp mm Q := s_go cM_image_0 cM_image_1 rfl rfl
theorem rM_image_1 {a0 : Nat} {a1 s0 : Int} {u2 : zV} : zS 248 1 [zR a0, zI a1, u2] [zI s0] sh pp mm Q ↔ zS 248 2 [zR a0, zI a1, zU] [zL s0] sh pp mm Q := s_go cM_image_1 cM_image_2 rfl rfl
theorem rM_image_2 {a0 : Nat} {a1 s0 : Int} {u2 : zV} : zS 248 2 [zR a0, zI a1, u2] [zL s0] sh pp mm Q ↔ zS 248 3 [zR a0, zI a1, zU] [zL 0, zL s0] sh pp mm Q := s_go cM_image_2 cM_image_3 rfl rfl
theorem rM_image_3 {a0 : Nat} {a1 s0 s1 : Int} {u2 : zV} : zS 248 3 [zR a0, zI a1, u2] [zL s0, zL s1] sh pp mm Q ↔ zS 248 4 [zR a0, zI a1, zU] [zL 1, zL s0, zL s1] sh pp mm Q := s_go cM_image_3 cM_image_4 rfl rfl
theorem rM_image_4 {a0 : Nat} {a1 s0 s1 s2 : Int} {u2 : zV} : zS 248 4 [zR a0, zI a1, u2] [zL s0, zL s1, zL s2] sh pp mm Q ↔ zS 151 0 [zL s2, zU, zL s1, zU, zL s0, zU] [] sh pp mm (fun v sh pp mm => zS 248 7 [zR a0, zI a1, zU] (zPush v []) sh pp mm Q) := s_call cM_image_4 cM_image_7 rfl rfl
theorem rM_image_7 {a0 : Nat} {a1 s0 : Int} {u2 : zV} : zS 248 7 [zR a0, zI a1, u2] [zI s0] sh pp mm Q ↔ (s0 = 0 → zS 248 10 [zR a0, zU, zU] [] sh pp mm Q) ∧ (¬ s0 = 0 → zS 248 17 [zR a0, zI a1, zU] [] sh pp mm Q) := s_ifn cM_image_7 cM_image_10 cM_image_17 rfl rfl rfl
theorem rM_image_10 {a0 : Nat} {u1 u2 : zV} : zS 248 10 [zR a0, u1, u2] [] sh pp mm Q ↔ zS 248 11 [zU, zU, zU] [zR a0] sh pp mm Q := s_go cM_image_10 cM_image_11 rfl rfl
theorem rM_image_11 {s0 : Nat} {u0 u1 u2 : zV} : zS 248 11 [u0, u1, u2] [zR s0] sh pp mm Q ↔ zS 248 13 [zU, zU, zU] [zI (-2), zR s0] sh pp mm Q := s_go cM_image_11 cM_image_13 rfl rfl
theorem rM_image_13 {s1 : Nat} {s0 : Int} {u0 u1 u2 : zV} (hk : zKd sh s1 = 12) : zS 248 13 [u0, u1, u2] [zI s0, zR s1] sh pp mm Q ↔ zS 152 0 [zR s1, zI s0] [] sh pp mm (fun v sh pp mm => zS 248 16 [zU, zU, zU] (zPush v []) sh pp mm Q) := s_call cM_image_13 cM_image_16 ((if_pos hk).trans rfl) rfl
theorem rM_image_16 {s0 : Int} {u0 u1 u2 : zV} : zS 248 16 [u0, u1, u2] [zI s0] sh pp mm Q ↔ Q (zI s0) sh pp mm := s_ret cM_image_16 rfl
theorem rM_image_17 {a0 : Nat} {a1 : Int} {u2 : zV} : zS 248 17 [zR a0, zI a1, u2] [] sh pp mm Q ↔ zS 248 18 [zR a0, zI a1, zU] [zI 0] sh pp mm Q := s_go cM_image_17 cM_image_18 rfl rfl
theorem rM_image_18 {a0 : Nat} {a1 s0 : Int} {u2 : zV} : zS 248 18 [zR a0, zI a1, u2] [zI s0] sh pp mm Q ↔ zS 248 19 [zR a0, zI a1, zI s0] [] sh pp mm Q := s_go cM_image_18 cM_image_19 rfl rfl
theorem rM_image_19 {a0 : Nat} {a1 a2 : Int} : zS 248 19 [zR a0, zI a1, zI a2] [] sh pp mm Q ↔ zS 248 20 [zR a0, zI a1, zI a2] [zI a2] sh pp mm Q := s_go cM_image_19 cM_image_20 rfl rfl
theorem rM_image_20 {a0 : Nat} {a1 a2 s0 : Int} : zS 248 20 [zR a0, zI a1, zI a2] [zI s0] sh pp mm Q ↔ zS 248 23 [zR a0, zI a1, zI a2] [zI 986, zI s0] sh pp mm Q := s_go cM_image_20 cM_image_23 rfl rfl
theorem rM_image_23 {a0 : Nat} {a1 a2 s0 s1 : Int} : zS 248 23 [zR a0, zI a1, zI a2] [zI s0, zI s1] sh pp mm Q ↔ (s1 < s0 → zS 248 26 [zR a0, zI a1, zI a2] [] sh pp mm Q) ∧ (¬ s1 < s0 → zS 248 50 [zR a0, zI a1, zU] [] sh pp mm Q) := s_ifn cM_image_23 cM_image_26 cM_image_50 rfl rfl rfl
theorem rM_image_26 {a0 : Nat} {a1 a2 : Int} : zS 248 26 [zR a0, zI a1, zI a2] [] sh pp mm Q ↔ zS 248 27 [zR a0, zI a1, zI a2] [zR a0] sh pp mm Q := s_go cM_image_26 cM_image_27 rfl rfl
theorem rM_image_27 {a0 s0 : Nat} {a1 a2 : Int} (hk : zKd sh s0 = 12) : zS 248 27 [zR a0, zI a1, zI a2] [zR s0] sh pp mm Q ↔ zS 248 30 [zR a0, zI a1, zI a2] [zR (pp s0 1)] sh pp mm Q := s_go cM_image_27 cM_image_30 (if_pos hk) rfl
theorem rM_image_30 {a0 s0 : Nat} {a1 a2 : Int} : zS 248 30 [zR a0, zI a1, zI a2] [zR s0] sh pp mm Q ↔ zS 248 33 [zR a0, zI a1, zI a2] [zI 986, zR s0] sh pp mm Q := s_go cM_image_30 cM_image_33 rfl rfl
theorem rM_image_33 {a0 s1 : Nat} {a1 a2 s0 : Int} : zS 248 33 [zR a0, zI a1, zI a2] [zI s0, zR s1] sh pp mm Q ↔ zS 248 34 [zR a0, zI a1, zI a2] [zI a1, zI s0, zR s1] sh pp mm Q := s_go cM_image_33 cM_image_34 rfl rfl
theorem rM_image_34 {a0 s2 : Nat} {a1 a2 s0 s1 : Int} : zS 248 34 [zR a0, zI a1, zI a2] [zI s0, zI s1, zR s2] sh pp mm Q ↔ zS 248 35 [zR a0, zI a1, zI a2] [zI (zw32 (s1 * s0)), zR s2] sh pp mm Q := s_go cM_image_34 cM_image_35 rfl rfl
theorem rM_image_35 {a0 s1 : Nat} {a1 a2 s0 : Int} : zS 248 35 [zR a0, zI a1, zI a2] [zI s0, zR s1] sh pp mm Q ↔ zS 248 36 [zR a0, zI a1, zI a2] [zI a2, zI s0, zR s1] sh pp mm Q := s_go cM_image_35 cM_image_36 rfl rfl
theorem rM_image_36 {a0 s2 : Nat} {a1 a2 s0 s1 : Int} : zS 248 36 [zR a0, zI a1, zI a2] [zI s0, zI s1, zR s2] sh pp mm Q ↔ zS 248 37 [zR a0, zI a1, zI a2] [zI (zw32 (s1 + s0)), zR s2] sh pp mm Q := s_go cM_image_36 cM_image_37 rfl rfl
theorem rM_image_37 {a0 s1 : Nat} {a1 a2 s0 : Int} : zS 248 37 [zR a0, zI a1, zI a2] [zI s0, zR s1] sh pp mm Q ↔ zS 248 38 [zR a0, zI a1, zI a2] [zR a0, zI s0, zR s1] sh pp mm Q := s_go cM_image_37 cM_image_38 rfl rfl
theorem rM_image_38 {a0 s0 s2 : Nat} {a1 a2 s1 : Int} (hk : zKd sh s0 = 12) : zS 248 38 [zR a0, zI a1, zI a2] [zR s0, zI s1, zR s2] sh pp mm Q ↔ zS 248 41 [zR a0, zI a1, zI a2] [zR (pp s0 0), zI s1, zR s2] sh pp mm Q := s_go cM_image_38 cM_image_41 (if_pos hk) rfl
theorem rM_image_41 {a0 s0 s2 : Nat} {a1 a2 s1 : Int} : zS 248 41 [zR a0, zI a1, zI a2] [zR s0, zI s1, zR s2] sh pp mm Q ↔ zS 248 42 [zR a0, zI a1, zI a2] [zI a2, zR s0, zI s1, zR s2] sh pp mm Q := s_go cM_image_41 cM_image_42 rfl rfl
theorem rM_image_42 {a0 s1 s3 : Nat} {a1 a2 s0 s2 : Int} (hk : zKd sh s1 = 20 ∨ zKd sh s1 = 30) (h0 : 0 ≤ s0) (h1 : s0 < zLn sh s1) : zS 248 42 [zR a0, zI a1, zI a2] [zI s0, zR s1, zI s2, zR s3] sh pp mm Q ↔ zS 248 43 [zR a0, zI a1, zI a2] [zI (mm s1 s0), zI s2, zR s3] sh pp mm Q := s_go cM_image_42 cM_image_43 (if_pos ⟨hk, h0, h1⟩) rfl
theorem rM_image_43 {a0 s2 : Nat} {a1 a2 s0 s1 : Int} (hk : zKd sh s2 = 20) (h0 : 0 ≤ s1) (h1 : s1 < zLn sh s2) : zS 248 43 [zR a0, zI a1, zI a2] [zI s0, zI s1, zR s2] sh pp mm Q ↔ zS 248 44 [zR a0, zI a1, zI a2] [] sh pp (zupd mm s2 s1 s0) Q := s_go cM_image_43 cM_image_44 (if_pos ⟨hk, h0, h1, fun h => absurd h (by decide)⟩) rfl
theorem rM_image_44 {a0 : Nat} {a1 a2 : Int} : zS 248 44 [zR a0, zI a1, zI a2] [] sh pp mm Q ↔ zS 248 47 [zR a0, zI a1, zI (zw32 (a2 + 1))] [] sh pp mm Q := s_go cM_image_44 cM_image_47 rfl rfl
theorem rM_image_47 {a0 : Nat} {a1 a2 : Int} : zS 248 47 [zR a0, zI a1, zI a2] [] sh pp mm Q ↔ zS 248 19 [zR a0, zI a1, zI a2] [] sh pp mm Q := s_go cM_image_47 cM_image_19 rfl rfl
theorem rM_image_50 {a0 : Nat} {a1 : Int} {u2 : zV} : zS 248 50 [zR a0, zI a1, u2] [] sh pp mm Q ↔ zS 248 51 [zU, zI a1, zU] [zR a0] sh pp mm Q := s_go cM_image_50 cM_image_51 rfl rfl
theorem rM_image_51 {s0 : Nat} {a1 : Int} {u0 u2 : zV} (hk : zKd sh s0 = 12) : zS 248 51 [u0, zI a1, u2] [zR s0] sh pp mm Q ↔ zS 248 54 [zU, zI a1, zU] [zR (pp s0 2)] sh pp mm Q := s_go cM_image_51 cM_image_54 (if_pos hk) rfl
theorem rM_image_54 {s0 : Nat} {a1 : Int} {u0 u2 : zV} : zS 248 54 [u0, zI a1, u2] [zR s0] sh pp mm Q ↔ zS 248 55 [zU, zU, zU] [zI a1, zR s0] sh pp mm Q := s_go cM_image_54 cM_image_55 rfl rfl
theorem rM_image_55 {s1 : Nat} {s0 : Int} {u0 u1 u2 : zV} : zS 248 55 [u0, u1, u2] [zI s0, zR s1] sh pp mm Q ↔ zS 248 56 [zU, zU, zU] [zI 1, zI s0, zR s1] sh pp mm Q := s_go cM_image_55 cM_image_56 rfl rfl
theorem rM_image_56 {s2 : Nat} {s0 s1 : Int} {u0 u1 u2 : zV} (hk : zKd sh s2 = 22) (h0 : 0 ≤ s1) (h1 : s1 < zLn sh s2) (hb : s0 = 0 ∨ s0 = 1) : zS 248 56 [u0, u1, u2] [zI s0, zI s1, zR s2] sh pp mm Q ↔ zS 248 57 [zU, zU, zU] [] sh pp (zupd mm s2 s1 s0) Q := s_go cM_image_56 cM_image_57 (if_pos ⟨hk, h0, h1, fun _ => hb⟩) rfl
theorem rM_image_57 {u0 u1 u2 : zV} : zS 248 57 [u0, u1, u2] [] sh pp mm Q ↔ zS 248 58 [zU, zU, zU] [zI 1] sh pp mm Q := s_go cM_image_57 cM_image_58 rfl rfl
theorem rM_image_58 {s0 : Int} {u0 u1 u2 : zV} : zS 248 58 [u0, u1, u2] [zI s0] sh pp mm Q ↔ Q (zI s0) sh pp mm := s_ret cM_image_58 rfl
theorem cAM_from : ∀ q ∈ zT249, zCode 249 q.1 = some q.2 := zAll (mid := 249) rfl (by decide +kernel)
theorem cAM_from_0 : ∀ q ∈ zT249_0, zCode 249 q.1 = some q.2 := fun q h => cAM_from q (List.mem_append_left _ h)
theorem cAM_from_1 : ∀ q ∈ zT249_1, zCode 249 q.1 = some q.2 := fun q h => cAM_from q (List.mem_append_right _ (List.mem_append_left _ h))
theorem cAM_from_2 : ∀ q ∈ zT249_2, zCode 249 q.1 = some q.2 := fun q h => cAM_from q (List.mem_append_right _ (List.mem_append_right _ h))
theorem cM_from_0 : zCode 249 0 = some (.iload_n 1, 1, 0, 0, 0, 0, 3) := cAM_from_0 _ (List.mem_of_getElem? (i := 0) rfl)
theorem cM_from_1 : zCode 249 1 = some (.i2l, 2, 0, 0, 0, 0, 3) := cAM_from_0 _ (List.mem_of_getElem? (i := 1) rfl)
theorem cM_from_2 : zCode 249 2 = some (.lconst 0, 3, 0, 0, 0, 0, 3) := cAM_from_0 _ (List.mem_of_getElem? (i := 2) rfl)
theorem cM_from_3 : zCode 249 3 = some (.lconst 1, 4, 0, 0, 0, 0, 3) := cAM_from_0 _ (List.mem_of_getElem? (i := 3) rfl)
theorem cM_from_4 : zCode 249 4 = some (.invokestatic 121, 7, 151, 3, 6, 12, 3) := cAM_from_0 _ (List.mem_of_getElem? (i := 4) rfl)
theorem cM_from_7 : zCode 249 7 = some (.ifCond .ne 10, 10, 17, 0, 0, 0, 3) := cAM_from_0 _ (List.mem_of_getElem? (i := 5) rfl)
theorem cM_from_10 : zCode 249 10 = some (.aload_n 0, 11, 0, 0, 0, 0, 1) := cAM_from_0 _ (List.mem_of_getElem? (i := 6) rfl)
theorem cM_from_11 : zCode 249 11 = some (.bipush (-2), 13, 0, 0, 0, 0, 0) := cAM_from_0 _ (List.mem_of_getElem? (i := 7) rfl)
theorem cM_from_13 : zCode 249 13 = some (.invokevirtual 132, 16, 152, 1, 2, 12, 0) := cAM_from_0 _ (List.mem_of_getElem? (i := 8) rfl)
theorem cM_from_16 : zCode 249 16 = some (.ireturn, 17, 0, 0, 0, 0, 0) := cAM_from_0 _ (List.mem_of_getElem? (i := 9) rfl)
theorem cM_from_17 : zCode 249 17 = some (.aload_n 0, 18, 0, 0, 0, 0, 3) := cAM_from_0 _ (List.mem_of_getElem? (i := 10) rfl)
theorem cM_from_18 : zCode 249 18 = some (.getfield 16, 21, 12, 2, 2, 1211, 3) := cAM_from_0 _ (List.mem_of_getElem? (i := 11) rfl)
theorem cM_from_21 : zCode 249 21 = some (.iload_n 1, 22, 0, 0, 0, 0, 3) := cAM_from_0 _ (List.mem_of_getElem? (i := 12) rfl)
theorem cM_from_22 : zCode 249 22 = some (.baload, 23, 0, 0, 0, 0, 3) := cAM_from_0 _ (List.mem_of_getElem? (i := 13) rfl)
theorem cM_from_23 : zCode 249 23 = some (.ifCond .ne 10, 26, 33, 0, 0, 0, 3) := cAM_from_0 _ (List.mem_of_getElem? (i := 14) rfl)
theorem cM_from_26 : zCode 249 26 = some (.aload_n 0, 27, 0, 0, 0, 0, 1) := cAM_from_0 _ (List.mem_of_getElem? (i := 15) rfl)
theorem cM_from_27 : zCode 249 27 = some (.bipush (-3), 29, 0, 0, 0, 0, 0) := cAM_from_1 _ (List.mem_of_getElem? (i := 0) rfl)
theorem cM_from_29 : zCode 249 29 = some (.invokevirtual 265, 32, 153, 1, 2, 12, 0) := cAM_from_1 _ (List.mem_of_getElem? (i := 1) rfl)
theorem cM_from_32 : zCode 249 32 = some (.ireturn, 33, 0, 0, 0, 0, 0) := cAM_from_1 _ (List.mem_of_getElem? (i := 2) rfl)
theorem cM_from_33 : zCode 249 33 = some (.iconst 0, 34, 0, 0, 0, 0, 3) := cAM_from_1 _ (List.mem_of_getElem? (i := 3) rfl)
theorem cM_from_34 : zCode 249 34 = some (.istore_n 2, 35, 0, 0, 0, 0, 3) := cAM_from_1 _ (List.mem_of_getElem? (i := 4) rfl)
theorem cM_from_35 : zCode 249 35 = some (.iload_n 2, 36, 0, 0, 0, 0, 7) := cAM_from_1 _ (List.mem_of_getElem? (i := 5) rfl)
theorem cM_from_36 : zCode 249 36 = some (.sipush 986, 39, 0, 0, 0, 0, 7) := cAM_from_1 _ (List.mem_of_getElem? (i := 6) rfl)
theorem cM_from_39 : zCode 249 39 = some (.if_icmp .ge 27, 42, 66, 0, 0, 0, 7) := cAM_from_1 _ (List.mem_of_getElem? (i := 7) rfl)
theorem cM_from_42 : zCode 249 42 = some (.aload_n 0, 43, 0, 0, 0, 0, 7) := cAM_from_1 _ (List.mem_of_getElem? (i := 8) rfl)
theorem cM_from_43 : zCode 249 43 = some (.getfield 7, 46, 12, 0, 2, 1209, 7) := cAM_from_1 _ (List.mem_of_getElem? (i := 9) rfl)
theorem cM_from_46 : zCode 249 46 = some (.iload_n 2, 47, 0, 0, 0, 0, 7) := cAM_from_1 _ (List.mem_of_getElem? (i := 10) rfl)
theorem cM_from_47 : zCode 249 47 = some (.aload_n 0, 48, 0, 0, 0, 0, 7) := cAM_from_1 _ (List.mem_of_getElem? (i := 11) rfl)
theorem cM_from_48 : zCode 249 48 = some (.getfield 13, 51, 12, 1, 2, 1210, 7) := cAM_from_1 _ (List.mem_of_getElem? (i := 12) rfl)
theorem cM_from_51 : zCode 249 51 = some (.sipush 986, 54, 0, 0, 0, 0, 7) := cAM_from_1 _ (List.mem_of_getElem? (i := 13) rfl)
theorem cM_from_54 : zCode 249 54 = some (.iload_n 1, 55, 0, 0, 0, 0, 7) := cAM_from_1 _ (List.mem_of_getElem? (i := 14) rfl)
theorem cM_from_55 : zCode 249 55 = some (.imul, 56, 0, 0, 0, 0, 7) := cAM_from_1 _ (List.mem_of_getElem? (i := 15) rfl)
theorem cM_from_56 : zCode 249 56 = some (.iload_n 2, 57, 0, 0, 0, 0, 7) := cAM_from_2 _ (List.mem_of_getElem? (i := 0) rfl)
theorem cM_from_57 : zCode 249 57 = some (.iadd, 58, 0, 0, 0, 0, 7) := cAM_from_2 _ (List.mem_of_getElem? (i := 1) rfl)
theorem cM_from_58 : zCode 249 58 = some (.iaload, 59, 0, 0, 0, 0, 7) := cAM_from_2 _ (List.mem_of_getElem? (i := 2) rfl)
theorem cM_from_59 : zCode 249 59 = some (.iastore, 60, 0, 0, 0, 0, 7) := cAM_from_2 _ (List.mem_of_getElem? (i := 3) rfl)
theorem cM_from_60 : zCode 249 60 = some (.iinc 2 1, 63, 0, 0, 0, 0, 7) := cAM_from_2 _ (List.mem_of_getElem? (i := 4) rfl)
theorem cM_from_63 : zCode 249 63 = some (.goto (-28), 66, 35, 0, 0, 0, 7) := cAM_from_2 _ (List.mem_of_getElem? (i := 5) rfl)
theorem cM_from_66 : zCode 249 66 = some (.iconst 1, 67, 0, 0, 0, 0, 0) := cAM_from_2 _ (List.mem_of_getElem? (i := 6) rfl)
theorem cM_from_67 : zCode 249 67 = some (.ireturn, 68, 0, 0, 0, 0, 0) := cAM_from_2 _ (List.mem_of_getElem? (i := 7) rfl)
theorem rM_from_0 {a0 : Nat} {a1 : Int} {u2 : zV} : zS 249 0 [zR a0, zI a1, u2] [] sh pp mm Q ↔ zS 249 1 [zR a0, zI a1, zU] [zI a1] sh pp mm Q := s_go cM_from_0 cM_from_1 rfl rfl
theorem rM_from_1 {a0 : Nat} {a1 s0 : Int} {u2 : zV} : zS 249 1 [zR a0, zI a1, u2] [zI s0] sh pp mm Q ↔ zS 249 2 [zR a0, zI a1, zU] [zL s0] sh pp mm Q := s_go cM_from_1 cM_from_2 rfl rfl
theorem rM_from_2 {a0 : Nat} {a1 s0 : Int} {u2 : zV} : zS 249 2 [zR a0, zI a1, u2] [zL s0] sh pp mm Q ↔ zS 249 3 [zR a0, zI a1, zU] [zL 0, zL s0] sh pp mm Q := s_go cM_from_2 cM_from_3 rfl rfl
theorem rM_from_3 {a0 : Nat} {a1 s0 s1 : Int} {u2 : zV} : zS 249 3 [zR a0, zI a1, u2] [zL s0, zL s1] sh pp mm Q ↔ zS 249 4 [zR a0, zI a1, zU] [zL 1, zL s0, zL s1] sh pp mm Q := s_go cM_from_3 cM_from_4 rfl rfl
theorem rM_from_4 {a0 : Nat} {a1 s0 s1 s2 : Int} {u2 : zV} : zS 249 4 [zR a0, zI a1, u2] [zL s0, zL s1, zL s2] sh pp mm Q ↔ zS 151 0 [zL s2, zU, zL s1, zU, zL s0, zU] [] sh pp mm (fun v sh pp mm => zS 249 7 [zR a0, zI a1, zU] (zPush v []) sh pp mm Q) := s_call cM_from_4 cM_from_7 rfl rfl
theorem rM_from_7 {a0 : Nat} {a1 s0 : Int} {u2 : zV} : zS 249 7 [zR a0, zI a1, u2] [zI s0] sh pp mm Q ↔ (s0 = 0 → zS 249 10 [zR a0, zU, zU] [] sh pp mm Q) ∧ (¬ s0 = 0 → zS 249 17 [zR a0, zI a1, zU] [] sh pp mm Q) := s_ifn cM_from_7 cM_from_10 cM_from_17 rfl rfl rfl
theorem rM_from_10 {a0 : Nat} {u1 u2 : zV} : zS 249 10 [zR a0, u1, u2] [] sh pp mm Q ↔ zS 249 11 [zU, zU, zU] [zR a0] sh pp mm Q := s_go cM_from_10 cM_from_11 rfl rfl
theorem rM_from_11 {s0 : Nat} {u0 u1 u2 : zV} : zS 249 11 [u0, u1, u2] [zR s0] sh pp mm Q ↔ zS 249 13 [zU, zU, zU] [zI (-2), zR s0] sh pp mm Q := s_go cM_from_11 cM_from_13 rfl rfl
theorem rM_from_13 {s1 : Nat} {s0 : Int} {u0 u1 u2 : zV} (hk : zKd sh s1 = 12) : zS 249 13 [u0, u1, u2] [zI s0, zR s1] sh pp mm Q ↔ zS 152 0 [zR s1, zI s0] [] sh pp mm (fun v sh pp mm => zS 249 16 [zU, zU, zU] (zPush v []) sh pp mm Q) := s_call cM_from_13 cM_from_16 ((if_pos hk).trans rfl) rfl
theorem rM_from_16 {s0 : Int} {u0 u1 u2 : zV} : zS 249 16 [u0, u1, u2] [zI s0] sh pp mm Q ↔ Q (zI s0) sh pp mm := s_ret cM_from_16 rfl
theorem rM_from_17 {a0 : Nat} {a1 : Int} {u2 : zV} : zS 249 17 [zR a0, zI a1, u2] [] sh pp mm Q ↔ zS 249 18 [zR a0, zI a1, zU] [zR a0] sh pp mm Q := s_go cM_from_17 cM_from_18 rfl rfl
theorem rM_from_18 {a0 s0 : Nat} {a1 : Int} {u2 : zV} (hk : zKd sh s0 = 12) : zS 249 18 [zR a0, zI a1, u2] [zR s0] sh pp mm Q ↔ zS 249 21 [zR a0, zI a1, zU] [zR (pp s0 2)] sh pp mm Q := s_go cM_from_18 cM_from_21 (if_pos hk) rfl
theorem rM_from_21 {a0 s0 : Nat} {a1 : Int} {u2 : zV} : zS 249 21 [zR a0, zI a1, u2] [zR s0] sh pp mm Q ↔ zS 249 22 [zR a0, zI a1, zU] [zI a1, zR s0] sh pp mm Q := s_go cM_from_21 cM_from_22 rfl rfl
theorem rM_from_22 {a0 s1 : Nat} {a1 s0 : Int} {u2 : zV} (hk : zKd sh s1 = 22 ∨ zKd sh s1 = 32) (h0 : 0 ≤ s0) (h1 : s0 < zLn sh s1) : zS 249 22 [zR a0, zI a1, u2] [zI s0, zR s1] sh pp mm Q ↔ zS 249 23 [zR a0, zI a1, zU] [zI (mm s1 s0)] sh pp mm Q := s_go cM_from_22 cM_from_23 (if_pos ⟨hk, h0, h1⟩) rfl
theorem rM_from_23 {a0 : Nat} {a1 s0 : Int} {u2 : zV} : zS 249 23 [zR a0, zI a1, u2] [zI s0] sh pp mm Q ↔ (s0 = 0 → zS 249 26 [zR a0, zU, zU] [] sh pp mm Q) ∧ (¬ s0 = 0 → zS 249 33 [zR a0, zI a1, zU] [] sh pp mm Q) := s_ifn cM_from_23 cM_from_26 cM_from_33 rfl rfl rfl
theorem rM_from_26 {a0 : Nat} {u1 u2 : zV} : zS 249 26 [zR a0, u1, u2] [] sh pp mm Q ↔ zS 249 27 [zU, zU, zU] [zR a0] sh pp mm Q := s_go cM_from_26 cM_from_27 rfl rfl
theorem rM_from_27 {s0 : Nat} {u0 u1 u2 : zV} : zS 249 27 [u0, u1, u2] [zR s0] sh pp mm Q ↔ zS 249 29 [zU, zU, zU] [zI (-3), zR s0] sh pp mm Q := s_go cM_from_27 cM_from_29 rfl rfl
theorem rM_from_29 {s1 : Nat} {s0 : Int} {u0 u1 u2 : zV} (hk : zKd sh s1 = 12) : zS 249 29 [u0, u1, u2] [zI s0, zR s1] sh pp mm Q ↔ zS 153 0 [zR s1, zI s0] [] sh pp mm (fun v sh pp mm => zS 249 32 [zU, zU, zU] (zPush v []) sh pp mm Q) := s_call cM_from_29 cM_from_32 ((if_pos hk).trans rfl) rfl
theorem rM_from_32 {s0 : Int} {u0 u1 u2 : zV} : zS 249 32 [u0, u1, u2] [zI s0] sh pp mm Q ↔ Q (zI s0) sh pp mm := s_ret cM_from_32 rfl
theorem rM_from_33 {a0 : Nat} {a1 : Int} {u2 : zV} : zS 249 33 [zR a0, zI a1, u2] [] sh pp mm Q ↔ zS 249 34 [zR a0, zI a1, zU] [zI 0] sh pp mm Q := s_go cM_from_33 cM_from_34 rfl rfl
theorem rM_from_34 {a0 : Nat} {a1 s0 : Int} {u2 : zV} : zS 249 34 [zR a0, zI a1, u2] [zI s0] sh pp mm Q ↔ zS 249 35 [zR a0, zI a1, zI s0] [] sh pp mm Q := s_go cM_from_34 cM_from_35 rfl rfl
theorem rM_from_35 {a0 : Nat} {a1 a2 : Int} : zS 249 35 [zR a0, zI a1, zI a2] [] sh pp mm Q ↔ zS 249 36 [zR a0, zI a1, zI a2] [zI a2] sh pp mm Q := s_go cM_from_35 cM_from_36 rfl rfl
theorem rM_from_36 {a0 : Nat} {a1 a2 s0 : Int} : zS 249 36 [zR a0, zI a1, zI a2] [zI s0] sh pp mm Q ↔ zS 249 39 [zR a0, zI a1, zI a2] [zI 986, zI s0] sh pp mm Q := s_go cM_from_36 cM_from_39 rfl rfl
theorem rM_from_39 {a0 : Nat} {a1 a2 s0 s1 : Int} : zS 249 39 [zR a0, zI a1, zI a2] [zI s0, zI s1] sh pp mm Q ↔ (s1 < s0 → zS 249 42 [zR a0, zI a1, zI a2] [] sh pp mm Q) ∧ (¬ s1 < s0 → zS 249 66 [zU, zU, zU] [] sh pp mm Q) := s_ifn cM_from_39 cM_from_42 cM_from_66 rfl rfl rfl
theorem rM_from_42 {a0 : Nat} {a1 a2 : Int} : zS 249 42 [zR a0, zI a1, zI a2] [] sh pp mm Q ↔ zS 249 43 [zR a0, zI a1, zI a2] [zR a0] sh pp mm Q := s_go cM_from_42 cM_from_43 rfl rfl
theorem rM_from_43 {a0 s0 : Nat} {a1 a2 : Int} (hk : zKd sh s0 = 12) : zS 249 43 [zR a0, zI a1, zI a2] [zR s0] sh pp mm Q ↔ zS 249 46 [zR a0, zI a1, zI a2] [zR (pp s0 0)] sh pp mm Q := s_go cM_from_43 cM_from_46 (if_pos hk) rfl
theorem rM_from_46 {a0 s0 : Nat} {a1 a2 : Int} : zS 249 46 [zR a0, zI a1, zI a2] [zR s0] sh pp mm Q ↔ zS 249 47 [zR a0, zI a1, zI a2] [zI a2, zR s0] sh pp mm Q := s_go cM_from_46 cM_from_47 rfl rfl
theorem rM_from_47 {a0 s1 : Nat} {a1 a2 s0 : Int} : zS 249 47 [zR a0, zI a1, zI a2] [zI s0, zR s1] sh pp mm Q ↔ zS 249 48 [zR a0, zI a1, zI a2] [zR a0, zI s0, zR s1] sh pp mm Q := s_go cM_from_47 cM_from_48 rfl rfl
theorem rM_from_48 {a0 s0 s2 : Nat} {a1 a2 s1 : Int} (hk : zKd sh s0 = 12) : zS 249 48 [zR a0, zI a1, zI a2] [zR s0, zI s1, zR s2] sh pp mm Q ↔ zS 249 51 [zR a0, zI a1, zI a2] [zR (pp s0 1), zI s1, zR s2] sh pp mm Q := s_go cM_from_48 cM_from_51 (if_pos hk) rfl
theorem rM_from_51 {a0 s0 s2 : Nat} {a1 a2 s1 : Int} : zS 249 51 [zR a0, zI a1, zI a2] [zR s0, zI s1, zR s2] sh pp mm Q ↔ zS 249 54 [zR a0, zI a1, zI a2] [zI 986, zR s0, zI s1, zR s2] sh pp mm Q := s_go cM_from_51 cM_from_54 rfl rfl
theorem rM_from_54 {a0 s1 s3 : Nat} {a1 a2 s0 s2 : Int} : zS 249 54 [zR a0, zI a1, zI a2] [zI s0, zR s1, zI s2, zR s3] sh pp mm Q ↔ zS 249 55 [zR a0, zI a1, zI a2] [zI a1, zI s0, zR s1, zI s2, zR s3] sh pp mm Q := s_go cM_from_54 cM_from_55 rfl rfl
theorem rM_from_55 {a0 s2 s4 : Nat} {a1 a2 s0 s1 s3 : Int} : zS 249 55 [zR a0, zI a1, zI a2] [zI s0, zI s1, zR s2, zI s3, zR s4] sh pp mm Q ↔ zS 249 56 [zR a0, zI a1, zI a2] [zI (zw32 (s1 * s0)), zR s2, zI s3, zR s4] sh pp mm Q := s_go cM_from_55 cM_from_56 rfl rfl
theorem rM_from_56 {a0 s1 s3 : Nat} {a1 a2 s0 s2 : Int} : zS 249 56 [zR a0, zI a1, zI a2] [zI s0, zR s1, zI s2, zR s3] sh pp mm Q ↔ zS 249 57 [zR a0, zI a1, zI a2] [zI a2, zI s0, zR s1, zI s2, zR s3] sh pp mm Q := s_go cM_from_56 cM_from_57 rfl rfl
theorem rM_from_57 {a0 s2 s4 : Nat} {a1 a2 s0 s1 s3 : Int} : zS 249 57 [zR a0, zI a1, zI a2] [zI s0, zI s1, zR s2, zI s3, zR s4] sh pp mm Q ↔ zS 249 58 [zR a0, zI a1, zI a2] [zI (zw32 (s1 + s0)), zR s2, zI s3, zR s4] sh pp mm Q := s_go cM_from_57 cM_from_58 rfl rfl
theorem rM_from_58 {a0 s1 s3 : Nat} {a1 a2 s0 s2 : Int} (hk : zKd sh s1 = 20 ∨ zKd sh s1 = 30) (h0 : 0 ≤ s0) (h1 : s0 < zLn sh s1) : zS 249 58 [zR a0, zI a1, zI a2] [zI s0, zR s1, zI s2, zR s3] sh pp mm Q ↔ zS 249 59 [zR a0, zI a1, zI a2] [zI (mm s1 s0), zI s2, zR s3] sh pp mm Q := s_go cM_from_58 cM_from_59 (if_pos ⟨hk, h0, h1⟩) rfl
theorem rM_from_59 {a0 s2 : Nat} {a1 a2 s0 s1 : Int} (hk : zKd sh s2 = 20) (h0 : 0 ≤ s1) (h1 : s1 < zLn sh s2) : zS 249 59 [zR a0, zI a1, zI a2] [zI s0, zI s1, zR s2] sh pp mm Q ↔ zS 249 60 [zR a0, zI a1, zI a2] [] sh pp (zupd mm s2 s1 s0) Q := s_go cM_from_59 cM_from_60 (if_pos ⟨hk, h0, h1, fun h => absurd h (by decide)⟩) rfl
theorem rM_from_60 {a0 : Nat} {a1 a2 : Int} : zS 249 60 [zR a0, zI a1, zI a2] [] sh pp mm Q ↔ zS 249 63 [zR a0, zI a1, zI (zw32 (a2 + 1))] [] sh pp mm Q := s_go cM_from_60 cM_from_63 rfl rfl
theorem rM_from_63 {a0 : Nat} {a1 a2 : Int} : zS 249 63 [zR a0, zI a1, zI a2] [] sh pp mm Q ↔ zS 249 35 [zR a0, zI a1, zI a2] [] sh pp mm Q := s_go cM_from_63 cM_from_35 rfl rfl
theorem rM_from_66 {u0 u1 u2 : zV} : zS 249 66 [u0, u1, u2] [] sh pp mm Q ↔ zS 249 67 [zU, zU, zU] [zI 1] sh pp mm Q := s_go cM_from_66 cM_from_67 rfl rfl
theorem rM_from_67 {s0 : Int} {u0 u1 u2 : zV} : zS 249 67 [u0, u1, u2] [zI s0] sh pp mm Q ↔ Q (zI s0) sh pp mm := s_ret cM_from_67 rfl
theorem cAM_status : ∀ q ∈ zT250, zCode 250 q.1 = some q.2 := zAll (mid := 250) rfl (by decide +kernel)
theorem cAM_status_0 : ∀ q ∈ zT250_0, zCode 250 q.1 = some q.2 := fun q h => cAM_status q (h)
theorem cM_status_0 : zCode 250 0 = some (.iload_n 1, 1, 0, 0, 0, 0, 3) := cAM_status_0 _ (List.mem_of_getElem? (i := 0) rfl)
theorem cM_status_1 : zCode 250 1 = some (.i2l, 2, 0, 0, 0, 0, 3) := cAM_status_0 _ (List.mem_of_getElem? (i := 1) rfl)
theorem cM_status_2 : zCode 250 2 = some (.lconst 0, 3, 0, 0, 0, 0, 3) := cAM_status_0 _ (List.mem_of_getElem? (i := 2) rfl)
theorem cM_status_3 : zCode 250 3 = some (.ldc2_w 83, 6, 0, 0, 1659, 2, 3) := cAM_status_0 _ (List.mem_of_getElem? (i := 3) rfl)
theorem cM_status_6 : zCode 250 6 = some (.invokestatic 121, 9, 151, 3, 6, 12, 3) := cAM_status_0 _ (List.mem_of_getElem? (i := 4) rfl)
theorem cM_status_9 : zCode 250 9 = some (.ifCond .eq 12, 12, 21, 0, 0, 0, 3) := cAM_status_0 _ (List.mem_of_getElem? (i := 5) rfl)
theorem cM_status_12 : zCode 250 12 = some (.aload_n 0, 13, 0, 0, 0, 0, 3) := cAM_status_0 _ (List.mem_of_getElem? (i := 6) rfl)
theorem cM_status_13 : zCode 250 13 = some (.getfield 20, 16, 12, 3, 2, 1212, 2) := cAM_status_0 _ (List.mem_of_getElem? (i := 7) rfl)
theorem cM_status_16 : zCode 250 16 = some (.iload_n 1, 17, 0, 0, 0, 0, 2) := cAM_status_0 _ (List.mem_of_getElem? (i := 8) rfl)
theorem cM_status_17 : zCode 250 17 = some (.iaload, 18, 0, 0, 0, 0, 0) := cAM_status_0 _ (List.mem_of_getElem? (i := 9) rfl)
theorem cM_status_18 : zCode 250 18 = some (.goto 8, 21, 26, 0, 0, 0, 0) := cAM_status_0 _ (List.mem_of_getElem? (i := 10) rfl)
theorem cM_status_21 : zCode 250 21 = some (.aload_n 0, 22, 0, 0, 0, 0, 1) := cAM_status_0 _ (List.mem_of_getElem? (i := 11) rfl)
theorem cM_status_22 : zCode 250 22 = some (.iconst (-1), 23, 0, 0, 0, 0, 0) := cAM_status_0 _ (List.mem_of_getElem? (i := 12) rfl)
theorem cM_status_23 : zCode 250 23 = some (.invokevirtual 132, 26, 152, 1, 2, 12, 0) := cAM_status_0 _ (List.mem_of_getElem? (i := 13) rfl)
theorem cM_status_26 : zCode 250 26 = some (.ireturn, 27, 0, 0, 0, 0, 0) := cAM_status_0 _ (List.mem_of_getElem? (i := 14) rfl)
theorem rM_status_0 {a0 : Nat} {a1 : Int} : zS 250 0 [zR a0, zI a1] [] sh pp mm Q ↔ zS 250 1 [zR a0, zI a1] [zI a1] sh pp mm Q := s_go cM_status_0 cM_status_1 rfl rfl
theorem rM_status_1 {a0 : Nat} {a1 s0 : Int} : zS 250 1 [zR a0, zI a1] [zI s0] sh pp mm Q ↔ zS 250 2 [zR a0, zI a1] [zL s0] sh pp mm Q := s_go cM_status_1 cM_status_2 rfl rfl
theorem rM_status_2 {a0 : Nat} {a1 s0 : Int} : zS 250 2 [zR a0, zI a1] [zL s0] sh pp mm Q ↔ zS 250 3 [zR a0, zI a1] [zL 0, zL s0] sh pp mm Q := s_go cM_status_2 cM_status_3 rfl rfl
theorem rM_status_3 {a0 : Nat} {a1 s0 s1 : Int} : zS 250 3 [zR a0, zI a1] [zL s0, zL s1] sh pp mm Q ↔ zS 250 6 [zR a0, zI a1] [zL 2, zL s0, zL s1] sh pp mm Q := s_go cM_status_3 cM_status_6 rfl rfl
theorem rM_status_6 {a0 : Nat} {a1 s0 s1 s2 : Int} : zS 250 6 [zR a0, zI a1] [zL s0, zL s1, zL s2] sh pp mm Q ↔ zS 151 0 [zL s2, zU, zL s1, zU, zL s0, zU] [] sh pp mm (fun v sh pp mm => zS 250 9 [zR a0, zI a1] (zPush v []) sh pp mm Q) := s_call cM_status_6 cM_status_9 rfl rfl
theorem rM_status_9 {a0 : Nat} {a1 s0 : Int} : zS 250 9 [zR a0, zI a1] [zI s0] sh pp mm Q ↔ (s0 = 0 → zS 250 21 [zR a0, zU] [] sh pp mm Q) ∧ (¬ s0 = 0 → zS 250 12 [zR a0, zI a1] [] sh pp mm Q) := s_if cM_status_9 cM_status_21 cM_status_12 rfl rfl rfl
theorem rM_status_12 {a0 : Nat} {a1 : Int} : zS 250 12 [zR a0, zI a1] [] sh pp mm Q ↔ zS 250 13 [zU, zI a1] [zR a0] sh pp mm Q := s_go cM_status_12 cM_status_13 rfl rfl
theorem rM_status_13 {s0 : Nat} {a1 : Int} {u0 : zV} (hk : zKd sh s0 = 12) : zS 250 13 [u0, zI a1] [zR s0] sh pp mm Q ↔ zS 250 16 [zU, zI a1] [zR (pp s0 3)] sh pp mm Q := s_go cM_status_13 cM_status_16 (if_pos hk) rfl
theorem rM_status_16 {s0 : Nat} {a1 : Int} {u0 : zV} : zS 250 16 [u0, zI a1] [zR s0] sh pp mm Q ↔ zS 250 17 [zU, zU] [zI a1, zR s0] sh pp mm Q := s_go cM_status_16 cM_status_17 rfl rfl
theorem rM_status_17 {s1 : Nat} {s0 : Int} {u0 u1 : zV} (hk : zKd sh s1 = 20 ∨ zKd sh s1 = 30) (h0 : 0 ≤ s0) (h1 : s0 < zLn sh s1) : zS 250 17 [u0, u1] [zI s0, zR s1] sh pp mm Q ↔ zS 250 18 [zU, zU] [zI (mm s1 s0)] sh pp mm Q := s_go cM_status_17 cM_status_18 (if_pos ⟨hk, h0, h1⟩) rfl
theorem rM_status_18 {s0 : Int} {u0 u1 : zV} : zS 250 18 [u0, u1] [zI s0] sh pp mm Q ↔ zS 250 26 [zU, zU] [zI s0] sh pp mm Q := s_go cM_status_18 cM_status_26 rfl rfl
theorem rM_status_21 {a0 : Nat} {u1 : zV} : zS 250 21 [zR a0, u1] [] sh pp mm Q ↔ zS 250 22 [zU, zU] [zR a0] sh pp mm Q := s_go cM_status_21 cM_status_22 rfl rfl
theorem rM_status_22 {s0 : Nat} {u0 u1 : zV} : zS 250 22 [u0, u1] [zR s0] sh pp mm Q ↔ zS 250 23 [zU, zU] [zI (-1), zR s0] sh pp mm Q := s_go cM_status_22 cM_status_23 rfl rfl
theorem rM_status_23 {s1 : Nat} {s0 : Int} {u0 u1 : zV} (hk : zKd sh s1 = 12) : zS 250 23 [u0, u1] [zI s0, zR s1] sh pp mm Q ↔ zS 152 0 [zR s1, zI s0] [] sh pp mm (fun v sh pp mm => zS 250 26 [zU, zU] (zPush v []) sh pp mm Q) := s_call cM_status_23 cM_status_26 ((if_pos hk).trans rfl) rfl
theorem rM_status_26 {s0 : Int} {u0 u1 : zV} : zS 250 26 [u0, u1] [zI s0] sh pp mm Q ↔ Q (zI s0) sh pp mm := s_ret cM_status_26 rfl
theorem cAM_counted : ∀ q ∈ zT251, zCode 251 q.1 = some q.2 := zAll (mid := 251) rfl (by decide +kernel)
theorem cAM_counted_0 : ∀ q ∈ zT251_0, zCode 251 q.1 = some q.2 := fun q h => cAM_counted q (List.mem_append_left _ h)
theorem cAM_counted_1 : ∀ q ∈ zT251_1, zCode 251 q.1 = some q.2 := fun q h => cAM_counted q (List.mem_append_right _ h)
theorem cM_counted_0 : zCode 251 0 = some (.iload_n 1, 1, 0, 0, 0, 0, 3) := cAM_counted_0 _ (List.mem_of_getElem? (i := 0) rfl)
theorem cM_counted_1 : zCode 251 1 = some (.iconst 5, 2, 0, 0, 0, 0, 3) := cAM_counted_0 _ (List.mem_of_getElem? (i := 1) rfl)
theorem cM_counted_2 : zCode 251 2 = some (.if_icmp .ge 16, 5, 18, 0, 0, 0, 3) := cAM_counted_0 _ (List.mem_of_getElem? (i := 2) rfl)
theorem cM_counted_5 : zCode 251 5 = some (.aload_n 0, 6, 0, 0, 0, 0, 3) := cAM_counted_0 _ (List.mem_of_getElem? (i := 3) rfl)
theorem cM_counted_6 : zCode 251 6 = some (.getfield 7, 9, 12, 0, 2, 1209, 2) := cAM_counted_0 _ (List.mem_of_getElem? (i := 4) rfl)
theorem cM_counted_9 : zCode 251 9 = some (.sipush 981, 12, 0, 0, 0, 0, 2) := cAM_counted_0 _ (List.mem_of_getElem? (i := 5) rfl)
theorem cM_counted_12 : zCode 251 12 = some (.iload_n 1, 13, 0, 0, 0, 0, 2) := cAM_counted_0 _ (List.mem_of_getElem? (i := 6) rfl)
theorem cM_counted_13 : zCode 251 13 = some (.iadd, 14, 0, 0, 0, 0, 0) := cAM_counted_0 _ (List.mem_of_getElem? (i := 7) rfl)
theorem cM_counted_14 : zCode 251 14 = some (.iaload, 15, 0, 0, 0, 0, 0) := cAM_counted_0 _ (List.mem_of_getElem? (i := 8) rfl)
theorem cM_counted_15 : zCode 251 15 = some (.goto 17, 18, 32, 0, 0, 0, 0) := cAM_counted_0 _ (List.mem_of_getElem? (i := 9) rfl)
theorem cM_counted_18 : zCode 251 18 = some (.aload_n 0, 19, 0, 0, 0, 0, 3) := cAM_counted_0 _ (List.mem_of_getElem? (i := 10) rfl)
theorem cM_counted_19 : zCode 251 19 = some (.getfield 7, 22, 12, 0, 2, 1209, 2) := cAM_counted_0 _ (List.mem_of_getElem? (i := 11) rfl)
theorem cM_counted_22 : zCode 251 22 = some (.bipush 9, 24, 0, 0, 0, 0, 2) := cAM_counted_0 _ (List.mem_of_getElem? (i := 12) rfl)
theorem cM_counted_24 : zCode 251 24 = some (.bipush 121, 26, 0, 0, 0, 0, 2) := cAM_counted_0 _ (List.mem_of_getElem? (i := 13) rfl)
theorem cM_counted_26 : zCode 251 26 = some (.iload_n 1, 27, 0, 0, 0, 0, 2) := cAM_counted_0 _ (List.mem_of_getElem? (i := 14) rfl)
theorem cM_counted_27 : zCode 251 27 = some (.iconst 5, 28, 0, 0, 0, 0, 0) := cAM_counted_0 _ (List.mem_of_getElem? (i := 15) rfl)
theorem cM_counted_28 : zCode 251 28 = some (.isub, 29, 0, 0, 0, 0, 0) := cAM_counted_1 _ (List.mem_of_getElem? (i := 0) rfl)
theorem cM_counted_29 : zCode 251 29 = some (.imul, 30, 0, 0, 0, 0, 0) := cAM_counted_1 _ (List.mem_of_getElem? (i := 1) rfl)
theorem cM_counted_30 : zCode 251 30 = some (.iadd, 31, 0, 0, 0, 0, 0) := cAM_counted_1 _ (List.mem_of_getElem? (i := 2) rfl)
theorem cM_counted_31 : zCode 251 31 = some (.iaload, 32, 0, 0, 0, 0, 0) := cAM_counted_1 _ (List.mem_of_getElem? (i := 3) rfl)
theorem cM_counted_32 : zCode 251 32 = some (.ireturn, 33, 0, 0, 0, 0, 0) := cAM_counted_1 _ (List.mem_of_getElem? (i := 4) rfl)
theorem rM_counted_0 {a0 : Nat} {a1 : Int} : zS 251 0 [zR a0, zI a1] [] sh pp mm Q ↔ zS 251 1 [zR a0, zI a1] [zI a1] sh pp mm Q := s_go cM_counted_0 cM_counted_1 rfl rfl
theorem rM_counted_1 {a0 : Nat} {a1 s0 : Int} : zS 251 1 [zR a0, zI a1] [zI s0] sh pp mm Q ↔ zS 251 2 [zR a0, zI a1] [zI 5, zI s0] sh pp mm Q := s_go cM_counted_1 cM_counted_2 rfl rfl
theorem rM_counted_2 {a0 : Nat} {a1 s0 s1 : Int} : zS 251 2 [zR a0, zI a1] [zI s0, zI s1] sh pp mm Q ↔ (s1 < s0 → zS 251 5 [zR a0, zI a1] [] sh pp mm Q) ∧ (¬ s1 < s0 → zS 251 18 [zR a0, zI a1] [] sh pp mm Q) := s_ifn cM_counted_2 cM_counted_5 cM_counted_18 rfl rfl rfl
theorem rM_counted_5 {a0 : Nat} {a1 : Int} : zS 251 5 [zR a0, zI a1] [] sh pp mm Q ↔ zS 251 6 [zU, zI a1] [zR a0] sh pp mm Q := s_go cM_counted_5 cM_counted_6 rfl rfl
theorem rM_counted_6 {s0 : Nat} {a1 : Int} {u0 : zV} (hk : zKd sh s0 = 12) : zS 251 6 [u0, zI a1] [zR s0] sh pp mm Q ↔ zS 251 9 [zU, zI a1] [zR (pp s0 0)] sh pp mm Q := s_go cM_counted_6 cM_counted_9 (if_pos hk) rfl
theorem rM_counted_9 {s0 : Nat} {a1 : Int} {u0 : zV} : zS 251 9 [u0, zI a1] [zR s0] sh pp mm Q ↔ zS 251 12 [zU, zI a1] [zI 981, zR s0] sh pp mm Q := s_go cM_counted_9 cM_counted_12 rfl rfl
theorem rM_counted_12 {s1 : Nat} {a1 s0 : Int} {u0 : zV} : zS 251 12 [u0, zI a1] [zI s0, zR s1] sh pp mm Q ↔ zS 251 13 [zU, zU] [zI a1, zI s0, zR s1] sh pp mm Q := s_go cM_counted_12 cM_counted_13 rfl rfl
theorem rM_counted_13 {s2 : Nat} {s0 s1 : Int} {u0 u1 : zV} : zS 251 13 [u0, u1] [zI s0, zI s1, zR s2] sh pp mm Q ↔ zS 251 14 [zU, zU] [zI (zw32 (s1 + s0)), zR s2] sh pp mm Q := s_go cM_counted_13 cM_counted_14 rfl rfl
theorem rM_counted_14 {s1 : Nat} {s0 : Int} {u0 u1 : zV} (hk : zKd sh s1 = 20 ∨ zKd sh s1 = 30) (h0 : 0 ≤ s0) (h1 : s0 < zLn sh s1) : zS 251 14 [u0, u1] [zI s0, zR s1] sh pp mm Q ↔ zS 251 15 [zU, zU] [zI (mm s1 s0)] sh pp mm Q := s_go cM_counted_14 cM_counted_15 (if_pos ⟨hk, h0, h1⟩) rfl
theorem rM_counted_15 {s0 : Int} {u0 u1 : zV} : zS 251 15 [u0, u1] [zI s0] sh pp mm Q ↔ zS 251 32 [zU, zU] [zI s0] sh pp mm Q := s_go cM_counted_15 cM_counted_32 rfl rfl
theorem rM_counted_18 {a0 : Nat} {a1 : Int} : zS 251 18 [zR a0, zI a1] [] sh pp mm Q ↔ zS 251 19 [zU, zI a1] [zR a0] sh pp mm Q := s_go cM_counted_18 cM_counted_19 rfl rfl
theorem rM_counted_19 {s0 : Nat} {a1 : Int} {u0 : zV} (hk : zKd sh s0 = 12) : zS 251 19 [u0, zI a1] [zR s0] sh pp mm Q ↔ zS 251 22 [zU, zI a1] [zR (pp s0 0)] sh pp mm Q := s_go cM_counted_19 cM_counted_22 (if_pos hk) rfl
theorem rM_counted_22 {s0 : Nat} {a1 : Int} {u0 : zV} : zS 251 22 [u0, zI a1] [zR s0] sh pp mm Q ↔ zS 251 24 [zU, zI a1] [zI 9, zR s0] sh pp mm Q := s_go cM_counted_22 cM_counted_24 rfl rfl
theorem rM_counted_24 {s1 : Nat} {a1 s0 : Int} {u0 : zV} : zS 251 24 [u0, zI a1] [zI s0, zR s1] sh pp mm Q ↔ zS 251 26 [zU, zI a1] [zI 121, zI s0, zR s1] sh pp mm Q := s_go cM_counted_24 cM_counted_26 rfl rfl
theorem rM_counted_26 {s2 : Nat} {a1 s0 s1 : Int} {u0 : zV} : zS 251 26 [u0, zI a1] [zI s0, zI s1, zR s2] sh pp mm Q ↔ zS 251 27 [zU, zU] [zI a1, zI s0, zI s1, zR s2] sh pp mm Q := s_go cM_counted_26 cM_counted_27 rfl rfl
theorem rM_counted_27 {s3 : Nat} {s0 s1 s2 : Int} {u0 u1 : zV} : zS 251 27 [u0, u1] [zI s0, zI s1, zI s2, zR s3] sh pp mm Q ↔ zS 251 28 [zU, zU] [zI 5, zI s0, zI s1, zI s2, zR s3] sh pp mm Q := s_go cM_counted_27 cM_counted_28 rfl rfl
theorem rM_counted_28 {s4 : Nat} {s0 s1 s2 s3 : Int} {u0 u1 : zV} : zS 251 28 [u0, u1] [zI s0, zI s1, zI s2, zI s3, zR s4] sh pp mm Q ↔ zS 251 29 [zU, zU] [zI (zw32 (s1 - s0)), zI s2, zI s3, zR s4] sh pp mm Q := s_go cM_counted_28 cM_counted_29 rfl rfl
theorem rM_counted_29 {s3 : Nat} {s0 s1 s2 : Int} {u0 u1 : zV} : zS 251 29 [u0, u1] [zI s0, zI s1, zI s2, zR s3] sh pp mm Q ↔ zS 251 30 [zU, zU] [zI (zw32 (s1 * s0)), zI s2, zR s3] sh pp mm Q := s_go cM_counted_29 cM_counted_30 rfl rfl
theorem rM_counted_30 {s2 : Nat} {s0 s1 : Int} {u0 u1 : zV} : zS 251 30 [u0, u1] [zI s0, zI s1, zR s2] sh pp mm Q ↔ zS 251 31 [zU, zU] [zI (zw32 (s1 + s0)), zR s2] sh pp mm Q := s_go cM_counted_30 cM_counted_31 rfl rfl
theorem rM_counted_31 {s1 : Nat} {s0 : Int} {u0 u1 : zV} (hk : zKd sh s1 = 20 ∨ zKd sh s1 = 30) (h0 : 0 ≤ s0) (h1 : s0 < zLn sh s1) : zS 251 31 [u0, u1] [zI s0, zR s1] sh pp mm Q ↔ zS 251 32 [zU, zU] [zI (mm s1 s0)] sh pp mm Q := s_go cM_counted_31 cM_counted_32 (if_pos ⟨hk, h0, h1⟩) rfl
theorem rM_counted_32 {s0 : Int} {u0 u1 : zV} : zS 251 32 [u0, u1] [zI s0] sh pp mm Q ↔ Q (zI s0) sh pp mm := s_ret cM_counted_32 rfl
theorem cAM_count : ∀ q ∈ zT252, zCode 252 q.1 = some q.2 := zAll (mid := 252) rfl (by decide +kernel)
theorem cAM_count_0 : ∀ q ∈ zT252_0, zCode 252 q.1 = some q.2 := fun q h => cAM_count q (h)
theorem cM_count_0 : zCode 252 0 = some (.iload_n 1, 1, 0, 0, 0, 0, 3) := cAM_count_0 _ (List.mem_of_getElem? (i := 0) rfl)
theorem cM_count_1 : zCode 252 1 = some (.i2l, 2, 0, 0, 0, 0, 3) := cAM_count_0 _ (List.mem_of_getElem? (i := 1) rfl)
theorem cM_count_2 : zCode 252 2 = some (.lconst 0, 3, 0, 0, 0, 0, 3) := cAM_count_0 _ (List.mem_of_getElem? (i := 2) rfl)
theorem cM_count_3 : zCode 252 3 = some (.ldc2_w 119, 6, 0, 0, 1323, 8, 3) := cAM_count_0 _ (List.mem_of_getElem? (i := 3) rfl)
theorem cM_count_6 : zCode 252 6 = some (.invokestatic 121, 9, 151, 3, 6, 12, 3) := cAM_count_0 _ (List.mem_of_getElem? (i := 4) rfl)
theorem cM_count_9 : zCode 252 9 = some (.ifCond .eq 11, 12, 20, 0, 0, 0, 3) := cAM_count_0 _ (List.mem_of_getElem? (i := 5) rfl)
theorem cM_count_12 : zCode 252 12 = some (.aload_n 0, 13, 0, 0, 0, 0, 3) := cAM_count_0 _ (List.mem_of_getElem? (i := 6) rfl)
theorem cM_count_13 : zCode 252 13 = some (.iload_n 1, 14, 0, 0, 0, 0, 2) := cAM_count_0 _ (List.mem_of_getElem? (i := 7) rfl)
theorem cM_count_14 : zCode 252 14 = some (.invokevirtual 376, 17, 251, 1, 2, 12, 0) := cAM_count_0 _ (List.mem_of_getElem? (i := 8) rfl)
theorem cM_count_17 : zCode 252 17 = some (.goto 9, 20, 26, 0, 0, 0, 0) := cAM_count_0 _ (List.mem_of_getElem? (i := 9) rfl)
theorem cM_count_20 : zCode 252 20 = some (.aload_n 0, 21, 0, 0, 0, 0, 1) := cAM_count_0 _ (List.mem_of_getElem? (i := 10) rfl)
theorem cM_count_21 : zCode 252 21 = some (.bipush (-2), 23, 0, 0, 0, 0, 0) := cAM_count_0 _ (List.mem_of_getElem? (i := 11) rfl)
theorem cM_count_23 : zCode 252 23 = some (.invokevirtual 132, 26, 152, 1, 2, 12, 0) := cAM_count_0 _ (List.mem_of_getElem? (i := 12) rfl)
theorem cM_count_26 : zCode 252 26 = some (.ireturn, 27, 0, 0, 0, 0, 0) := cAM_count_0 _ (List.mem_of_getElem? (i := 13) rfl)
theorem rM_count_0 {a0 : Nat} {a1 : Int} : zS 252 0 [zR a0, zI a1] [] sh pp mm Q ↔ zS 252 1 [zR a0, zI a1] [zI a1] sh pp mm Q := s_go cM_count_0 cM_count_1 rfl rfl
theorem rM_count_1 {a0 : Nat} {a1 s0 : Int} : zS 252 1 [zR a0, zI a1] [zI s0] sh pp mm Q ↔ zS 252 2 [zR a0, zI a1] [zL s0] sh pp mm Q := s_go cM_count_1 cM_count_2 rfl rfl
theorem rM_count_2 {a0 : Nat} {a1 s0 : Int} : zS 252 2 [zR a0, zI a1] [zL s0] sh pp mm Q ↔ zS 252 3 [zR a0, zI a1] [zL 0, zL s0] sh pp mm Q := s_go cM_count_2 cM_count_3 rfl rfl
theorem rM_count_3 {a0 : Nat} {a1 s0 s1 : Int} : zS 252 3 [zR a0, zI a1] [zL s0, zL s1] sh pp mm Q ↔ zS 252 6 [zR a0, zI a1] [zL 8, zL s0, zL s1] sh pp mm Q := s_go cM_count_3 cM_count_6 rfl rfl
theorem rM_count_6 {a0 : Nat} {a1 s0 s1 s2 : Int} : zS 252 6 [zR a0, zI a1] [zL s0, zL s1, zL s2] sh pp mm Q ↔ zS 151 0 [zL s2, zU, zL s1, zU, zL s0, zU] [] sh pp mm (fun v sh pp mm => zS 252 9 [zR a0, zI a1] (zPush v []) sh pp mm Q) := s_call cM_count_6 cM_count_9 rfl rfl
theorem rM_count_9 {a0 : Nat} {a1 s0 : Int} : zS 252 9 [zR a0, zI a1] [zI s0] sh pp mm Q ↔ (s0 = 0 → zS 252 20 [zR a0, zU] [] sh pp mm Q) ∧ (¬ s0 = 0 → zS 252 12 [zR a0, zI a1] [] sh pp mm Q) := s_if cM_count_9 cM_count_20 cM_count_12 rfl rfl rfl
theorem rM_count_12 {a0 : Nat} {a1 : Int} : zS 252 12 [zR a0, zI a1] [] sh pp mm Q ↔ zS 252 13 [zU, zI a1] [zR a0] sh pp mm Q := s_go cM_count_12 cM_count_13 rfl rfl
theorem rM_count_13 {s0 : Nat} {a1 : Int} {u0 : zV} : zS 252 13 [u0, zI a1] [zR s0] sh pp mm Q ↔ zS 252 14 [zU, zU] [zI a1, zR s0] sh pp mm Q := s_go cM_count_13 cM_count_14 rfl rfl
theorem rM_count_14 {s1 : Nat} {s0 : Int} {u0 u1 : zV} (hk : zKd sh s1 = 12) : zS 252 14 [u0, u1] [zI s0, zR s1] sh pp mm Q ↔ zS 251 0 [zR s1, zI s0] [] sh pp mm (fun v sh pp mm => zS 252 17 [zU, zU] (zPush v []) sh pp mm Q) := s_call cM_count_14 cM_count_17 ((if_pos hk).trans rfl) rfl
theorem rM_count_17 {s0 : Int} {u0 u1 : zV} : zS 252 17 [u0, u1] [zI s0] sh pp mm Q ↔ zS 252 26 [zU, zU] [zI s0] sh pp mm Q := s_go cM_count_17 cM_count_26 rfl rfl
theorem rM_count_20 {a0 : Nat} {u1 : zV} : zS 252 20 [zR a0, u1] [] sh pp mm Q ↔ zS 252 21 [zU, zU] [zR a0] sh pp mm Q := s_go cM_count_20 cM_count_21 rfl rfl
theorem rM_count_21 {s0 : Nat} {u0 u1 : zV} : zS 252 21 [u0, u1] [zR s0] sh pp mm Q ↔ zS 252 23 [zU, zU] [zI (-2), zR s0] sh pp mm Q := s_go cM_count_21 cM_count_23 rfl rfl
theorem rM_count_23 {s1 : Nat} {s0 : Int} {u0 u1 : zV} (hk : zKd sh s1 = 12) : zS 252 23 [u0, u1] [zI s0, zR s1] sh pp mm Q ↔ zS 152 0 [zR s1, zI s0] [] sh pp mm (fun v sh pp mm => zS 252 26 [zU, zU] (zPush v []) sh pp mm Q) := s_call cM_count_23 cM_count_26 ((if_pos hk).trans rfl) rfl
theorem rM_count_26 {s0 : Int} {u0 u1 : zV} : zS 252 26 [u0, u1] [zI s0] sh pp mm Q ↔ Q (zI s0) sh pp mm := s_ret cM_count_26 rfl
theorem cAM_sums : ∀ q ∈ zT253, zCode 253 q.1 = some q.2 := zAll (mid := 253) rfl (by decide +kernel)
theorem cAM_sums_0 : ∀ q ∈ zT253_0, zCode 253 q.1 = some q.2 := fun q h => cAM_sums q (List.mem_append_left _ h)
theorem cAM_sums_1 : ∀ q ∈ zT253_1, zCode 253 q.1 = some q.2 := fun q h => cAM_sums q (List.mem_append_right _ h)
theorem cM_sums_0 : zCode 253 0 = some (.lload_n 1, 1, 0, 0, 0, 0, 27) := cAM_sums_0 _ (List.mem_of_getElem? (i := 0) rfl)
theorem cM_sums_1 : zCode 253 1 = some (.lstore 5, 3, 0, 0, 0, 0, 25) := cAM_sums_0 _ (List.mem_of_getElem? (i := 1) rfl)
theorem cM_sums_3 : zCode 253 3 = some (.iconst 0, 4, 0, 0, 0, 0, 57) := cAM_sums_0 _ (List.mem_of_getElem? (i := 2) rfl)
theorem cM_sums_4 : zCode 253 4 = some (.istore 7, 6, 0, 0, 0, 0, 57) := cAM_sums_0 _ (List.mem_of_getElem? (i := 3) rfl)
theorem cM_sums_6 : zCode 253 6 = some (.iload 7, 8, 0, 0, 0, 0, 185) := cAM_sums_0 _ (List.mem_of_getElem? (i := 4) rfl)
theorem cM_sums_8 : zCode 253 8 = some (.iload 4, 10, 0, 0, 0, 0, 185) := cAM_sums_0 _ (List.mem_of_getElem? (i := 5) rfl)
theorem cM_sums_10 : zCode 253 10 = some (.if_icmp .ge 28, 13, 38, 0, 0, 0, 185) := cAM_sums_0 _ (List.mem_of_getElem? (i := 6) rfl)
theorem cM_sums_13 : zCode 253 13 = some (.ldc2_w 379, 16, 0, 0, 1734, 31, 185) := cAM_sums_0 _ (List.mem_of_getElem? (i := 7) rfl)
theorem cM_sums_16 : zCode 253 16 = some (.lload 5, 18, 0, 0, 0, 0, 185) := cAM_sums_0 _ (List.mem_of_getElem? (i := 8) rfl)
theorem cM_sums_18 : zCode 253 18 = some (.lmul, 19, 0, 0, 0, 0, 153) := cAM_sums_0 _ (List.mem_of_getElem? (i := 9) rfl)
theorem cM_sums_19 : zCode 253 19 = some (.aload_n 0, 20, 0, 0, 0, 0, 153) := cAM_sums_0 _ (List.mem_of_getElem? (i := 10) rfl)
theorem cM_sums_20 : zCode 253 20 = some (.getfield 7, 23, 12, 0, 2, 1209, 153) := cAM_sums_0 _ (List.mem_of_getElem? (i := 11) rfl)
theorem cM_sums_23 : zCode 253 23 = some (.iload_n 3, 24, 0, 0, 0, 0, 153) := cAM_sums_0 _ (List.mem_of_getElem? (i := 12) rfl)
theorem cM_sums_24 : zCode 253 24 = some (.iload 7, 26, 0, 0, 0, 0, 153) := cAM_sums_0 _ (List.mem_of_getElem? (i := 13) rfl)
theorem cM_sums_26 : zCode 253 26 = some (.iadd, 27, 0, 0, 0, 0, 153) := cAM_sums_0 _ (List.mem_of_getElem? (i := 14) rfl)
theorem cM_sums_27 : zCode 253 27 = some (.iaload, 28, 0, 0, 0, 0, 153) := cAM_sums_0 _ (List.mem_of_getElem? (i := 15) rfl)
theorem cM_sums_28 : zCode 253 28 = some (.i2l, 29, 0, 0, 0, 0, 153) := cAM_sums_1 _ (List.mem_of_getElem? (i := 0) rfl)
theorem cM_sums_29 : zCode 253 29 = some (.ladd, 30, 0, 0, 0, 0, 153) := cAM_sums_1 _ (List.mem_of_getElem? (i := 1) rfl)
theorem cM_sums_30 : zCode 253 30 = some (.lstore 5, 32, 0, 0, 0, 0, 153) := cAM_sums_1 _ (List.mem_of_getElem? (i := 2) rfl)
theorem cM_sums_32 : zCode 253 32 = some (.iinc 7 1, 35, 0, 0, 0, 0, 185) := cAM_sums_1 _ (List.mem_of_getElem? (i := 3) rfl)
theorem cM_sums_35 : zCode 253 35 = some (.goto (-29), 38, 6, 0, 0, 0, 185) := cAM_sums_1 _ (List.mem_of_getElem? (i := 4) rfl)
theorem cM_sums_38 : zCode 253 38 = some (.lload 5, 40, 0, 0, 0, 0, 32) := cAM_sums_1 _ (List.mem_of_getElem? (i := 5) rfl)
theorem cM_sums_40 : zCode 253 40 = some (.lreturn, 41, 0, 0, 0, 0, 0) := cAM_sums_1 _ (List.mem_of_getElem? (i := 6) rfl)
theorem rM_sums_0 {a0 : Nat} {a1 a3 a4 : Int} {u2 u5 u6 u7 : zV} : zS 253 0 [zR a0, zL a1, u2, zI a3, zI a4, u5, u6, u7] [] sh pp mm Q ↔ zS 253 1 [zR a0, zU, zU, zI a3, zI a4, zU, zU, zU] [zL a1] sh pp mm Q := s_go cM_sums_0 cM_sums_1 rfl rfl
theorem rM_sums_1 {a0 : Nat} {a3 a4 s0 : Int} {u1 u2 u5 u6 u7 : zV} : zS 253 1 [zR a0, u1, u2, zI a3, zI a4, u5, u6, u7] [zL s0] sh pp mm Q ↔ zS 253 3 [zR a0, zU, zU, zI a3, zI a4, zL s0, zU, zU] [] sh pp mm Q := s_go cM_sums_1 cM_sums_3 rfl rfl
theorem rM_sums_3 {a0 : Nat} {a3 a4 a5 : Int} {u1 u2 u6 u7 : zV} : zS 253 3 [zR a0, u1, u2, zI a3, zI a4, zL a5, u6, u7] [] sh pp mm Q ↔ zS 253 4 [zR a0, zU, zU, zI a3, zI a4, zL a5, zU, zU] [zI 0] sh pp mm Q := s_go cM_sums_3 cM_sums_4 rfl rfl
theorem rM_sums_4 {a0 : Nat} {a3 a4 a5 s0 : Int} {u1 u2 u6 u7 : zV} : zS 253 4 [zR a0, u1, u2, zI a3, zI a4, zL a5, u6, u7] [zI s0] sh pp mm Q ↔ zS 253 6 [zR a0, zU, zU, zI a3, zI a4, zL a5, zU, zI s0] [] sh pp mm Q := s_go cM_sums_4 cM_sums_6 rfl rfl
theorem rM_sums_6 {a0 : Nat} {a3 a4 a5 a7 : Int} {u1 u2 u6 : zV} : zS 253 6 [zR a0, u1, u2, zI a3, zI a4, zL a5, u6, zI a7] [] sh pp mm Q ↔ zS 253 8 [zR a0, zU, zU, zI a3, zI a4, zL a5, zU, zI a7] [zI a7] sh pp mm Q := s_go cM_sums_6 cM_sums_8 rfl rfl
theorem rM_sums_8 {a0 : Nat} {a3 a4 a5 a7 s0 : Int} {u1 u2 u6 : zV} : zS 253 8 [zR a0, u1, u2, zI a3, zI a4, zL a5, u6, zI a7] [zI s0] sh pp mm Q ↔ zS 253 10 [zR a0, zU, zU, zI a3, zI a4, zL a5, zU, zI a7] [zI a4, zI s0] sh pp mm Q := s_go cM_sums_8 cM_sums_10 rfl rfl
theorem rM_sums_10 {a0 : Nat} {a3 a4 a5 a7 s0 s1 : Int} {u1 u2 u6 : zV} : zS 253 10 [zR a0, u1, u2, zI a3, zI a4, zL a5, u6, zI a7] [zI s0, zI s1] sh pp mm Q ↔ (s1 < s0 → zS 253 13 [zR a0, zU, zU, zI a3, zI a4, zL a5, zU, zI a7] [] sh pp mm Q) ∧ (¬ s1 < s0 → zS 253 38 [zU, zU, zU, zU, zU, zL a5, zU, zU] [] sh pp mm Q) := s_ifn cM_sums_10 cM_sums_13 cM_sums_38 rfl rfl rfl
theorem rM_sums_13 {a0 : Nat} {a3 a4 a5 a7 : Int} {u1 u2 u6 : zV} : zS 253 13 [zR a0, u1, u2, zI a3, zI a4, zL a5, u6, zI a7] [] sh pp mm Q ↔ zS 253 16 [zR a0, zU, zU, zI a3, zI a4, zL a5, zU, zI a7] [zL 31] sh pp mm Q := s_go cM_sums_13 cM_sums_16 rfl rfl
theorem rM_sums_16 {a0 : Nat} {a3 a4 a5 a7 s0 : Int} {u1 u2 u6 : zV} : zS 253 16 [zR a0, u1, u2, zI a3, zI a4, zL a5, u6, zI a7] [zL s0] sh pp mm Q ↔ zS 253 18 [zR a0, zU, zU, zI a3, zI a4, zU, zU, zI a7] [zL a5, zL s0] sh pp mm Q := s_go cM_sums_16 cM_sums_18 rfl rfl
theorem rM_sums_18 {a0 : Nat} {a3 a4 a7 s0 s1 : Int} {u1 u2 u5 u6 : zV} : zS 253 18 [zR a0, u1, u2, zI a3, zI a4, u5, u6, zI a7] [zL s0, zL s1] sh pp mm Q ↔ zS 253 19 [zR a0, zU, zU, zI a3, zI a4, zU, zU, zI a7] [zL (zw64 (s1 * s0))] sh pp mm Q := s_go cM_sums_18 cM_sums_19 rfl rfl
theorem rM_sums_19 {a0 : Nat} {a3 a4 a7 s0 : Int} {u1 u2 u5 u6 : zV} : zS 253 19 [zR a0, u1, u2, zI a3, zI a4, u5, u6, zI a7] [zL s0] sh pp mm Q ↔ zS 253 20 [zR a0, zU, zU, zI a3, zI a4, zU, zU, zI a7] [zR a0, zL s0] sh pp mm Q := s_go cM_sums_19 cM_sums_20 rfl rfl
theorem rM_sums_20 {a0 s0 : Nat} {a3 a4 a7 s1 : Int} {u1 u2 u5 u6 : zV} (hk : zKd sh s0 = 12) : zS 253 20 [zR a0, u1, u2, zI a3, zI a4, u5, u6, zI a7] [zR s0, zL s1] sh pp mm Q ↔ zS 253 23 [zR a0, zU, zU, zI a3, zI a4, zU, zU, zI a7] [zR (pp s0 0), zL s1] sh pp mm Q := s_go cM_sums_20 cM_sums_23 (if_pos hk) rfl
theorem rM_sums_23 {a0 s0 : Nat} {a3 a4 a7 s1 : Int} {u1 u2 u5 u6 : zV} : zS 253 23 [zR a0, u1, u2, zI a3, zI a4, u5, u6, zI a7] [zR s0, zL s1] sh pp mm Q ↔ zS 253 24 [zR a0, zU, zU, zI a3, zI a4, zU, zU, zI a7] [zI a3, zR s0, zL s1] sh pp mm Q := s_go cM_sums_23 cM_sums_24 rfl rfl
theorem rM_sums_24 {a0 s1 : Nat} {a3 a4 a7 s0 s2 : Int} {u1 u2 u5 u6 : zV} : zS 253 24 [zR a0, u1, u2, zI a3, zI a4, u5, u6, zI a7] [zI s0, zR s1, zL s2] sh pp mm Q ↔ zS 253 26 [zR a0, zU, zU, zI a3, zI a4, zU, zU, zI a7] [zI a7, zI s0, zR s1, zL s2] sh pp mm Q := s_go cM_sums_24 cM_sums_26 rfl rfl
theorem rM_sums_26 {a0 s2 : Nat} {a3 a4 a7 s0 s1 s3 : Int} {u1 u2 u5 u6 : zV} : zS 253 26 [zR a0, u1, u2, zI a3, zI a4, u5, u6, zI a7] [zI s0, zI s1, zR s2, zL s3] sh pp mm Q ↔ zS 253 27 [zR a0, zU, zU, zI a3, zI a4, zU, zU, zI a7] [zI (zw32 (s1 + s0)), zR s2, zL s3] sh pp mm Q := s_go cM_sums_26 cM_sums_27 rfl rfl
theorem rM_sums_27 {a0 s1 : Nat} {a3 a4 a7 s0 s2 : Int} {u1 u2 u5 u6 : zV} (hk : zKd sh s1 = 20 ∨ zKd sh s1 = 30) (h0 : 0 ≤ s0) (h1 : s0 < zLn sh s1) : zS 253 27 [zR a0, u1, u2, zI a3, zI a4, u5, u6, zI a7] [zI s0, zR s1, zL s2] sh pp mm Q ↔ zS 253 28 [zR a0, zU, zU, zI a3, zI a4, zU, zU, zI a7] [zI (mm s1 s0), zL s2] sh pp mm Q := s_go cM_sums_27 cM_sums_28 (if_pos ⟨hk, h0, h1⟩) rfl
theorem rM_sums_28 {a0 : Nat} {a3 a4 a7 s0 s1 : Int} {u1 u2 u5 u6 : zV} : zS 253 28 [zR a0, u1, u2, zI a3, zI a4, u5, u6, zI a7] [zI s0, zL s1] sh pp mm Q ↔ zS 253 29 [zR a0, zU, zU, zI a3, zI a4, zU, zU, zI a7] [zL s0, zL s1] sh pp mm Q := s_go cM_sums_28 cM_sums_29 rfl rfl
theorem rM_sums_29 {a0 : Nat} {a3 a4 a7 s0 s1 : Int} {u1 u2 u5 u6 : zV} : zS 253 29 [zR a0, u1, u2, zI a3, zI a4, u5, u6, zI a7] [zL s0, zL s1] sh pp mm Q ↔ zS 253 30 [zR a0, zU, zU, zI a3, zI a4, zU, zU, zI a7] [zL (zw64 (s1 + s0))] sh pp mm Q := s_go cM_sums_29 cM_sums_30 rfl rfl
theorem rM_sums_30 {a0 : Nat} {a3 a4 a7 s0 : Int} {u1 u2 u5 u6 : zV} : zS 253 30 [zR a0, u1, u2, zI a3, zI a4, u5, u6, zI a7] [zL s0] sh pp mm Q ↔ zS 253 32 [zR a0, zU, zU, zI a3, zI a4, zL s0, zU, zI a7] [] sh pp mm Q := s_go cM_sums_30 cM_sums_32 rfl rfl
theorem rM_sums_32 {a0 : Nat} {a3 a4 a5 a7 : Int} {u1 u2 u6 : zV} : zS 253 32 [zR a0, u1, u2, zI a3, zI a4, zL a5, u6, zI a7] [] sh pp mm Q ↔ zS 253 35 [zR a0, zU, zU, zI a3, zI a4, zL a5, zU, zI (zw32 (a7 + 1))] [] sh pp mm Q := s_go cM_sums_32 cM_sums_35 rfl rfl
theorem rM_sums_35 {a0 : Nat} {a3 a4 a5 a7 : Int} {u1 u2 u6 : zV} : zS 253 35 [zR a0, u1, u2, zI a3, zI a4, zL a5, u6, zI a7] [] sh pp mm Q ↔ zS 253 6 [zR a0, zU, zU, zI a3, zI a4, zL a5, zU, zI a7] [] sh pp mm Q := s_go cM_sums_35 cM_sums_6 rfl rfl
theorem rM_sums_38 {a5 : Int} {u0 u1 u2 u3 u4 u6 u7 : zV} : zS 253 38 [u0, u1, u2, u3, u4, zL a5, u6, u7] [] sh pp mm Q ↔ zS 253 40 [zU, zU, zU, zU, zU, zU, zU, zU] [zL a5] sh pp mm Q := s_go cM_sums_38 cM_sums_40 rfl rfl
theorem rM_sums_40 {s0 : Int} {u0 u1 u2 u3 u4 u5 u6 u7 : zV} : zS 253 40 [u0, u1, u2, u3, u4, u5, u6, u7] [zL s0] sh pp mm Q ↔ Q (zL s0) sh pp mm := s_ret cM_sums_40 rfl
theorem cAM_digest : ∀ q ∈ zT254, zCode 254 q.1 = some q.2 := zAll (mid := 254) rfl (by decide +kernel)
theorem cAM_digest_0 : ∀ q ∈ zT254_0, zCode 254 q.1 = some q.2 := fun q h => cAM_digest q (List.mem_append_left _ h)
theorem cAM_digest_1 : ∀ q ∈ zT254_1, zCode 254 q.1 = some q.2 := fun q h => cAM_digest q (List.mem_append_right _ (List.mem_append_left _ h))
theorem cAM_digest_2 : ∀ q ∈ zT254_2, zCode 254 q.1 = some q.2 := fun q h => cAM_digest q (List.mem_append_right _ (List.mem_append_right _ (List.mem_append_left _ h)))
theorem cAM_digest_3 : ∀ q ∈ zT254_3, zCode 254 q.1 = some q.2 := fun q h => cAM_digest q (List.mem_append_right _ (List.mem_append_right _ (List.mem_append_right _ (List.mem_append_left _ h))))
theorem cAM_digest_4 : ∀ q ∈ zT254_4, zCode 254 q.1 = some q.2 := fun q h => cAM_digest q (List.mem_append_right _ (List.mem_append_right _ (List.mem_append_right _ (List.mem_append_right _ (List.mem_append_left _ h)))))
theorem cAM_digest_5 : ∀ q ∈ zT254_5, zCode 254 q.1 = some q.2 := fun q h => cAM_digest q (List.mem_append_right _ (List.mem_append_right _ (List.mem_append_right _ (List.mem_append_right _ (List.mem_append_right _ (List.mem_append_left _ h))))))
theorem cAM_digest_6 : ∀ q ∈ zT254_6, zCode 254 q.1 = some q.2 := fun q h => cAM_digest q (List.mem_append_right _ (List.mem_append_right _ (List.mem_append_right _ (List.mem_append_right _ (List.mem_append_right _ (List.mem_append_right _ (List.mem_append_left _ h)))))))
theorem cAM_digest_7 : ∀ q ∈ zT254_7, zCode 254 q.1 = some q.2 := fun q h => cAM_digest q (List.mem_append_right _ (List.mem_append_right _ (List.mem_append_right _ (List.mem_append_right _ (List.mem_append_right _ (List.mem_append_right _ (List.mem_append_right _ (List.mem_append_left _ h))))))))
theorem cAM_digest_8 : ∀ q ∈ zT254_8, zCode 254 q.1 = some q.2 := fun q h => cAM_digest q (List.mem_append_right _ (List.mem_append_right _ (List.mem_append_right _ (List.mem_append_right _ (List.mem_append_right _ (List.mem_append_right _ (List.mem_append_right _ (List.mem_append_right _ (List.mem_append_left _ h)))))))))
theorem cAM_digest_9 : ∀ q ∈ zT254_9, zCode 254 q.1 = some q.2 := fun q h => cAM_digest q (List.mem_append_right _ (List.mem_append_right _ (List.mem_append_right _ (List.mem_append_right _ (List.mem_append_right _ (List.mem_append_right _ (List.mem_append_right _ (List.mem_append_right _ (List.mem_append_right _ h)))))))))
theorem cM_digest_0 : zCode 254 0 = some (.ldc2_w 381, 3, 0, 0, 1733, 599, 1) := cAM_digest_0 _ (List.mem_of_getElem? (i := 0) rfl)
theorem cM_digest_3 : zCode 254 3 = some (.lstore_n 1, 4, 0, 0, 0, 0, 1) := cAM_digest_0 _ (List.mem_of_getElem? (i := 1) rfl)
theorem cM_digest_4 : zCode 254 4 = some (.iconst 0, 5, 0, 0, 0, 0, 3) := cAM_digest_0 _ (List.mem_of_getElem? (i := 2) rfl)
theorem cM_digest_5 : zCode 254 5 = some (.istore_n 3, 6, 0, 0, 0, 0, 3) := cAM_digest_0 _ (List.mem_of_getElem? (i := 3) rfl)
theorem cM_digest_6 : zCode 254 6 = some (.iload_n 3, 7, 0, 0, 0, 0, 11) := cAM_digest_0 _ (List.mem_of_getElem? (i := 4) rfl)
theorem cM_digest_7 : zCode 254 7 = some (.bipush 9, 9, 0, 0, 0, 0, 11) := cAM_digest_0 _ (List.mem_of_getElem? (i := 5) rfl)
theorem cM_digest_9 : zCode 254 9 = some (.if_icmp .ge 22, 12, 31, 0, 0, 0, 11) := cAM_digest_0 _ (List.mem_of_getElem? (i := 6) rfl)
theorem cM_digest_12 : zCode 254 12 = some (.ldc2_w 379, 15, 0, 0, 1734, 31, 11) := cAM_digest_0 _ (List.mem_of_getElem? (i := 7) rfl)
theorem cM_digest_15 : zCode 254 15 = some (.lload_n 1, 16, 0, 0, 0, 0, 11) := cAM_digest_0 _ (List.mem_of_getElem? (i := 8) rfl)
theorem cM_digest_16 : zCode 254 16 = some (.lmul, 17, 0, 0, 0, 0, 9) := cAM_digest_0 _ (List.mem_of_getElem? (i := 9) rfl)
theorem cM_digest_17 : zCode 254 17 = some (.aload_n 0, 18, 0, 0, 0, 0, 9) := cAM_digest_0 _ (List.mem_of_getElem? (i := 10) rfl)
theorem cM_digest_18 : zCode 254 18 = some (.iload_n 3, 19, 0, 0, 0, 0, 9) := cAM_digest_0 _ (List.mem_of_getElem? (i := 11) rfl)
theorem cM_digest_19 : zCode 254 19 = some (.invokevirtual 376, 22, 251, 1, 2, 12, 9) := cAM_digest_0 _ (List.mem_of_getElem? (i := 12) rfl)
theorem cM_digest_22 : zCode 254 22 = some (.i2l, 23, 0, 0, 0, 0, 9) := cAM_digest_0 _ (List.mem_of_getElem? (i := 13) rfl)
theorem cM_digest_23 : zCode 254 23 = some (.ladd, 24, 0, 0, 0, 0, 9) := cAM_digest_0 _ (List.mem_of_getElem? (i := 14) rfl)
theorem cM_digest_24 : zCode 254 24 = some (.lstore_n 1, 25, 0, 0, 0, 0, 9) := cAM_digest_0 _ (List.mem_of_getElem? (i := 15) rfl)
theorem cM_digest_25 : zCode 254 25 = some (.iinc 3 1, 28, 0, 0, 0, 0, 11) := cAM_digest_1 _ (List.mem_of_getElem? (i := 0) rfl)
theorem cM_digest_28 : zCode 254 28 = some (.goto (-22), 31, 6, 0, 0, 0, 11) := cAM_digest_1 _ (List.mem_of_getElem? (i := 1) rfl)
theorem cM_digest_31 : zCode 254 31 = some (.aload_n 0, 32, 0, 0, 0, 0, 3) := cAM_digest_1 _ (List.mem_of_getElem? (i := 2) rfl)
theorem cM_digest_32 : zCode 254 32 = some (.lload_n 1, 33, 0, 0, 0, 0, 3) := cAM_digest_1 _ (List.mem_of_getElem? (i := 3) rfl)
theorem cM_digest_33 : zCode 254 33 = some (.iconst 0, 34, 0, 0, 0, 0, 1) := cAM_digest_1 _ (List.mem_of_getElem? (i := 4) rfl)
theorem cM_digest_34 : zCode 254 34 = some (.bipush 9, 36, 0, 0, 0, 0, 1) := cAM_digest_1 _ (List.mem_of_getElem? (i := 5) rfl)
theorem cM_digest_36 : zCode 254 36 = some (.invokevirtual 383, 39, 253, 3, 8, 12, 1) := cAM_digest_1 _ (List.mem_of_getElem? (i := 6) rfl)
theorem cM_digest_39 : zCode 254 39 = some (.lstore_n 1, 40, 0, 0, 0, 0, 1) := cAM_digest_1 _ (List.mem_of_getElem? (i := 7) rfl)
theorem cM_digest_40 : zCode 254 40 = some (.iconst 0, 41, 0, 0, 0, 0, 3) := cAM_digest_1 _ (List.mem_of_getElem? (i := 8) rfl)
theorem cM_digest_41 : zCode 254 41 = some (.istore_n 3, 42, 0, 0, 0, 0, 3) := cAM_digest_1 _ (List.mem_of_getElem? (i := 9) rfl)
theorem cM_digest_42 : zCode 254 42 = some (.iload_n 3, 43, 0, 0, 0, 0, 11) := cAM_digest_1 _ (List.mem_of_getElem? (i := 10) rfl)
theorem cM_digest_43 : zCode 254 43 = some (.iconst 4, 44, 0, 0, 0, 0, 11) := cAM_digest_1 _ (List.mem_of_getElem? (i := 11) rfl)
theorem cM_digest_44 : zCode 254 44 = some (.if_icmp .ge 36, 47, 80, 0, 0, 0, 11) := cAM_digest_1 _ (List.mem_of_getElem? (i := 12) rfl)
theorem cM_digest_47 : zCode 254 47 = some (.aload_n 0, 48, 0, 0, 0, 0, 11) := cAM_digest_1 _ (List.mem_of_getElem? (i := 13) rfl)
theorem cM_digest_48 : zCode 254 48 = some (.lload_n 1, 49, 0, 0, 0, 0, 11) := cAM_digest_1 _ (List.mem_of_getElem? (i := 14) rfl)
theorem cM_digest_49 : zCode 254 49 = some (.bipush 9, 51, 0, 0, 0, 0, 9) := cAM_digest_1 _ (List.mem_of_getElem? (i := 15) rfl)
theorem cM_digest_51 : zCode 254 51 = some (.bipush 121, 53, 0, 0, 0, 0, 9) := cAM_digest_2 _ (List.mem_of_getElem? (i := 0) rfl)
theorem cM_digest_53 : zCode 254 53 = some (.iload_n 3, 54, 0, 0, 0, 0, 9) := cAM_digest_2 _ (List.mem_of_getElem? (i := 1) rfl)
theorem cM_digest_54 : zCode 254 54 = some (.imul, 55, 0, 0, 0, 0, 9) := cAM_digest_2 _ (List.mem_of_getElem? (i := 2) rfl)
theorem cM_digest_55 : zCode 254 55 = some (.iadd, 56, 0, 0, 0, 0, 9) := cAM_digest_2 _ (List.mem_of_getElem? (i := 3) rfl)
theorem cM_digest_56 : zCode 254 56 = some (.iconst 1, 57, 0, 0, 0, 0, 9) := cAM_digest_2 _ (List.mem_of_getElem? (i := 4) rfl)
theorem cM_digest_57 : zCode 254 57 = some (.iadd, 58, 0, 0, 0, 0, 9) := cAM_digest_2 _ (List.mem_of_getElem? (i := 5) rfl)
theorem cM_digest_58 : zCode 254 58 = some (.aload_n 0, 59, 0, 0, 0, 0, 9) := cAM_digest_2 _ (List.mem_of_getElem? (i := 6) rfl)
theorem cM_digest_59 : zCode 254 59 = some (.getfield 7, 62, 12, 0, 2, 1209, 9) := cAM_digest_2 _ (List.mem_of_getElem? (i := 7) rfl)
theorem cM_digest_62 : zCode 254 62 = some (.bipush 9, 64, 0, 0, 0, 0, 9) := cAM_digest_2 _ (List.mem_of_getElem? (i := 8) rfl)
theorem cM_digest_64 : zCode 254 64 = some (.bipush 121, 66, 0, 0, 0, 0, 9) := cAM_digest_2 _ (List.mem_of_getElem? (i := 9) rfl)
theorem cM_digest_66 : zCode 254 66 = some (.iload_n 3, 67, 0, 0, 0, 0, 9) := cAM_digest_2 _ (List.mem_of_getElem? (i := 10) rfl)
theorem cM_digest_67 : zCode 254 67 = some (.imul, 68, 0, 0, 0, 0, 9) := cAM_digest_2 _ (List.mem_of_getElem? (i := 11) rfl)
theorem cM_digest_68 : zCode 254 68 = some (.iadd, 69, 0, 0, 0, 0, 9) := cAM_digest_2 _ (List.mem_of_getElem? (i := 12) rfl)
theorem cM_digest_69 : zCode 254 69 = some (.iaload, 70, 0, 0, 0, 0, 9) := cAM_digest_2 _ (List.mem_of_getElem? (i := 13) rfl)
theorem cM_digest_70 : zCode 254 70 = some (.invokevirtual 383, 73, 253, 3, 8, 12, 9) := cAM_digest_2 _ (List.mem_of_getElem? (i := 14) rfl)
theorem cM_digest_73 : zCode 254 73 = some (.lstore_n 1, 74, 0, 0, 0, 0, 9) := cAM_digest_2 _ (List.mem_of_getElem? (i := 15) rfl)
theorem cM_digest_74 : zCode 254 74 = some (.iinc 3 1, 77, 0, 0, 0, 0, 11) := cAM_digest_3 _ (List.mem_of_getElem? (i := 0) rfl)
theorem cM_digest_77 : zCode 254 77 = some (.goto (-35), 80, 42, 0, 0, 0, 11) := cAM_digest_3 _ (List.mem_of_getElem? (i := 1) rfl)
theorem cM_digest_80 : zCode 254 80 = some (.aload_n 0, 81, 0, 0, 0, 0, 3) := cAM_digest_3 _ (List.mem_of_getElem? (i := 2) rfl)
theorem cM_digest_81 : zCode 254 81 = some (.lload_n 1, 82, 0, 0, 0, 0, 3) := cAM_digest_3 _ (List.mem_of_getElem? (i := 3) rfl)
theorem cM_digest_82 : zCode 254 82 = some (.sipush 493, 85, 0, 0, 0, 0, 1) := cAM_digest_3 _ (List.mem_of_getElem? (i := 4) rfl)
theorem cM_digest_85 : zCode 254 85 = some (.iconst 2, 86, 0, 0, 0, 0, 1) := cAM_digest_3 _ (List.mem_of_getElem? (i := 5) rfl)
theorem cM_digest_86 : zCode 254 86 = some (.aload_n 0, 87, 0, 0, 0, 0, 1) := cAM_digest_3 _ (List.mem_of_getElem? (i := 6) rfl)
theorem cM_digest_87 : zCode 254 87 = some (.iconst 0, 88, 0, 0, 0, 0, 1) := cAM_digest_3 _ (List.mem_of_getElem? (i := 7) rfl)
theorem cM_digest_88 : zCode 254 88 = some (.invokevirtual 288, 91, 169, 1, 2, 12, 1) := cAM_digest_3 _ (List.mem_of_getElem? (i := 8) rfl)
theorem cM_digest_91 : zCode 254 91 = some (.imul, 92, 0, 0, 0, 0, 1) := cAM_digest_3 _ (List.mem_of_getElem? (i := 9) rfl)
theorem cM_digest_92 : zCode 254 92 = some (.invokevirtual 383, 95, 253, 3, 8, 12, 1) := cAM_digest_3 _ (List.mem_of_getElem? (i := 10) rfl)
theorem cM_digest_95 : zCode 254 95 = some (.lstore_n 1, 96, 0, 0, 0, 0, 1) := cAM_digest_3 _ (List.mem_of_getElem? (i := 11) rfl)
theorem cM_digest_96 : zCode 254 96 = some (.aload_n 0, 97, 0, 0, 0, 0, 3) := cAM_digest_3 _ (List.mem_of_getElem? (i := 12) rfl)
theorem cM_digest_97 : zCode 254 97 = some (.lload_n 1, 98, 0, 0, 0, 0, 3) := cAM_digest_3 _ (List.mem_of_getElem? (i := 13) rfl)
theorem cM_digest_98 : zCode 254 98 = some (.sipush 517, 101, 0, 0, 0, 0, 1) := cAM_digest_3 _ (List.mem_of_getElem? (i := 14) rfl)
theorem cM_digest_101 : zCode 254 101 = some (.iconst 2, 102, 0, 0, 0, 0, 1) := cAM_digest_3 _ (List.mem_of_getElem? (i := 15) rfl)
theorem cM_digest_102 : zCode 254 102 = some (.aload_n 0, 103, 0, 0, 0, 0, 1) := cAM_digest_4 _ (List.mem_of_getElem? (i := 0) rfl)
theorem cM_digest_103 : zCode 254 103 = some (.iconst 1, 104, 0, 0, 0, 0, 1) := cAM_digest_4 _ (List.mem_of_getElem? (i := 1) rfl)
theorem cM_digest_104 : zCode 254 104 = some (.invokevirtual 288, 107, 169, 1, 2, 12, 1) := cAM_digest_4 _ (List.mem_of_getElem? (i := 2) rfl)
theorem cM_digest_107 : zCode 254 107 = some (.imul, 108, 0, 0, 0, 0, 1) := cAM_digest_4 _ (List.mem_of_getElem? (i := 3) rfl)
theorem cM_digest_108 : zCode 254 108 = some (.invokevirtual 383, 111, 253, 3, 8, 12, 1) := cAM_digest_4 _ (List.mem_of_getElem? (i := 4) rfl)
theorem cM_digest_111 : zCode 254 111 = some (.lstore_n 1, 112, 0, 0, 0, 0, 1) := cAM_digest_4 _ (List.mem_of_getElem? (i := 5) rfl)
theorem cM_digest_112 : zCode 254 112 = some (.aload_n 0, 113, 0, 0, 0, 0, 3) := cAM_digest_4 _ (List.mem_of_getElem? (i := 6) rfl)
theorem cM_digest_113 : zCode 254 113 = some (.lload_n 1, 114, 0, 0, 0, 0, 3) := cAM_digest_4 _ (List.mem_of_getElem? (i := 7) rfl)
theorem cM_digest_114 : zCode 254 114 = some (.sipush 537, 117, 0, 0, 0, 0, 1) := cAM_digest_4 _ (List.mem_of_getElem? (i := 8) rfl)
theorem cM_digest_117 : zCode 254 117 = some (.iconst 3, 118, 0, 0, 0, 0, 1) := cAM_digest_4 _ (List.mem_of_getElem? (i := 9) rfl)
theorem cM_digest_118 : zCode 254 118 = some (.aload_n 0, 119, 0, 0, 0, 0, 1) := cAM_digest_4 _ (List.mem_of_getElem? (i := 10) rfl)
theorem cM_digest_119 : zCode 254 119 = some (.iconst 2, 120, 0, 0, 0, 0, 1) := cAM_digest_4 _ (List.mem_of_getElem? (i := 11) rfl)
theorem cM_digest_120 : zCode 254 120 = some (.invokevirtual 288, 123, 169, 1, 2, 12, 1) := cAM_digest_4 _ (List.mem_of_getElem? (i := 12) rfl)
theorem cM_digest_123 : zCode 254 123 = some (.imul, 124, 0, 0, 0, 0, 1) := cAM_digest_4 _ (List.mem_of_getElem? (i := 13) rfl)
theorem cM_digest_124 : zCode 254 124 = some (.invokevirtual 383, 127, 253, 3, 8, 12, 1) := cAM_digest_4 _ (List.mem_of_getElem? (i := 14) rfl)
theorem cM_digest_127 : zCode 254 127 = some (.lstore_n 1, 128, 0, 0, 0, 0, 1) := cAM_digest_4 _ (List.mem_of_getElem? (i := 15) rfl)
theorem cM_digest_128 : zCode 254 128 = some (.aload_n 0, 129, 0, 0, 0, 0, 3) := cAM_digest_5 _ (List.mem_of_getElem? (i := 0) rfl)
theorem cM_digest_129 : zCode 254 129 = some (.lload_n 1, 130, 0, 0, 0, 0, 3) := cAM_digest_5 _ (List.mem_of_getElem? (i := 1) rfl)
theorem cM_digest_130 : zCode 254 130 = some (.sipush 573, 133, 0, 0, 0, 0, 1) := cAM_digest_5 _ (List.mem_of_getElem? (i := 2) rfl)
theorem cM_digest_133 : zCode 254 133 = some (.sipush 384, 136, 0, 0, 0, 0, 1) := cAM_digest_5 _ (List.mem_of_getElem? (i := 3) rfl)
theorem cM_digest_136 : zCode 254 136 = some (.invokevirtual 383, 139, 253, 3, 8, 12, 1) := cAM_digest_5 _ (List.mem_of_getElem? (i := 4) rfl)
theorem cM_digest_139 : zCode 254 139 = some (.lstore_n 1, 140, 0, 0, 0, 0, 1) := cAM_digest_5 _ (List.mem_of_getElem? (i := 5) rfl)
theorem cM_digest_140 : zCode 254 140 = some (.aload_n 0, 141, 0, 0, 0, 0, 3) := cAM_digest_5 _ (List.mem_of_getElem? (i := 6) rfl)
theorem cM_digest_141 : zCode 254 141 = some (.lload_n 1, 142, 0, 0, 0, 0, 3) := cAM_digest_5 _ (List.mem_of_getElem? (i := 7) rfl)
theorem cM_digest_142 : zCode 254 142 = some (.sipush 957, 145, 0, 0, 0, 0, 1) := cAM_digest_5 _ (List.mem_of_getElem? (i := 8) rfl)
theorem cM_digest_145 : zCode 254 145 = some (.iconst 3, 146, 0, 0, 0, 0, 1) := cAM_digest_5 _ (List.mem_of_getElem? (i := 9) rfl)
theorem cM_digest_146 : zCode 254 146 = some (.aload_n 0, 147, 0, 0, 0, 0, 1) := cAM_digest_5 _ (List.mem_of_getElem? (i := 10) rfl)
theorem cM_digest_147 : zCode 254 147 = some (.iconst 3, 148, 0, 0, 0, 0, 1) := cAM_digest_5 _ (List.mem_of_getElem? (i := 11) rfl)
theorem cM_digest_148 : zCode 254 148 = some (.invokevirtual 288, 151, 169, 1, 2, 12, 1) := cAM_digest_5 _ (List.mem_of_getElem? (i := 12) rfl)
theorem cM_digest_151 : zCode 254 151 = some (.imul, 152, 0, 0, 0, 0, 1) := cAM_digest_5 _ (List.mem_of_getElem? (i := 13) rfl)
theorem cM_digest_152 : zCode 254 152 = some (.invokevirtual 383, 155, 253, 3, 8, 12, 1) := cAM_digest_5 _ (List.mem_of_getElem? (i := 14) rfl)
theorem cM_digest_155 : zCode 254 155 = some (.lstore_n 1, 156, 0, 0, 0, 0, 1) := cAM_digest_5 _ (List.mem_of_getElem? (i := 15) rfl)
theorem cM_digest_156 : zCode 254 156 = some (.ldc2_w 379, 159, 0, 0, 1734, 31, 3) := cAM_digest_6 _ (List.mem_of_getElem? (i := 0) rfl)
theorem cM_digest_159 : zCode 254 159 = some (.ldc2_w 379, 162, 0, 0, 1734, 31, 3) := cAM_digest_6 _ (List.mem_of_getElem? (i := 1) rfl)
theorem cM_digest_162 : zCode 254 162 = some (.ldc2_w 379, 165, 0, 0, 1734, 31, 3) := cAM_digest_6 _ (List.mem_of_getElem? (i := 2) rfl)
theorem cM_digest_165 : zCode 254 165 = some (.lload_n 1, 166, 0, 0, 0, 0, 3) := cAM_digest_6 _ (List.mem_of_getElem? (i := 3) rfl)
theorem cM_digest_166 : zCode 254 166 = some (.lmul, 167, 0, 0, 0, 0, 1) := cAM_digest_6 _ (List.mem_of_getElem? (i := 4) rfl)
theorem cM_digest_167 : zCode 254 167 = some (.aload_n 0, 168, 0, 0, 0, 0, 1) := cAM_digest_6 _ (List.mem_of_getElem? (i := 5) rfl)
theorem cM_digest_168 : zCode 254 168 = some (.getfield 109, 171, 12, 6, 0, 1215, 1) := cAM_digest_6 _ (List.mem_of_getElem? (i := 6) rfl)
theorem cM_digest_171 : zCode 254 171 = some (.i2l, 172, 0, 0, 0, 0, 1) := cAM_digest_6 _ (List.mem_of_getElem? (i := 7) rfl)
theorem cM_digest_172 : zCode 254 172 = some (.ladd, 173, 0, 0, 0, 0, 1) := cAM_digest_6 _ (List.mem_of_getElem? (i := 8) rfl)
theorem cM_digest_173 : zCode 254 173 = some (.lmul, 174, 0, 0, 0, 0, 1) := cAM_digest_6 _ (List.mem_of_getElem? (i := 9) rfl)
theorem cM_digest_174 : zCode 254 174 = some (.aload_n 0, 175, 0, 0, 0, 0, 1) := cAM_digest_6 _ (List.mem_of_getElem? (i := 10) rfl)
theorem cM_digest_175 : zCode 254 175 = some (.getfield 27, 178, 12, 5, 2, 1214, 1) := cAM_digest_6 _ (List.mem_of_getElem? (i := 11) rfl)
theorem cM_digest_178 : zCode 254 178 = some (.iconst 0, 179, 0, 0, 0, 0, 1) := cAM_digest_6 _ (List.mem_of_getElem? (i := 12) rfl)
theorem cM_digest_179 : zCode 254 179 = some (.iaload, 180, 0, 0, 0, 0, 1) := cAM_digest_6 _ (List.mem_of_getElem? (i := 13) rfl)
theorem cM_digest_180 : zCode 254 180 = some (.i2l, 181, 0, 0, 0, 0, 1) := cAM_digest_6 _ (List.mem_of_getElem? (i := 14) rfl)
theorem cM_digest_181 : zCode 254 181 = some (.ladd, 182, 0, 0, 0, 0, 1) := cAM_digest_6 _ (List.mem_of_getElem? (i := 15) rfl)
theorem cM_digest_182 : zCode 254 182 = some (.lmul, 183, 0, 0, 0, 0, 1) := cAM_digest_7 _ (List.mem_of_getElem? (i := 0) rfl)
theorem cM_digest_183 : zCode 254 183 = some (.aload_n 0, 184, 0, 0, 0, 0, 1) := cAM_digest_7 _ (List.mem_of_getElem? (i := 1) rfl)
theorem cM_digest_184 : zCode 254 184 = some (.getfield 27, 187, 12, 5, 2, 1214, 1) := cAM_digest_7 _ (List.mem_of_getElem? (i := 2) rfl)
theorem cM_digest_187 : zCode 254 187 = some (.iconst 1, 188, 0, 0, 0, 0, 1) := cAM_digest_7 _ (List.mem_of_getElem? (i := 3) rfl)
theorem cM_digest_188 : zCode 254 188 = some (.iaload, 189, 0, 0, 0, 0, 1) := cAM_digest_7 _ (List.mem_of_getElem? (i := 4) rfl)
theorem cM_digest_189 : zCode 254 189 = some (.i2l, 190, 0, 0, 0, 0, 1) := cAM_digest_7 _ (List.mem_of_getElem? (i := 5) rfl)
theorem cM_digest_190 : zCode 254 190 = some (.ladd, 191, 0, 0, 0, 0, 1) := cAM_digest_7 _ (List.mem_of_getElem? (i := 6) rfl)
theorem cM_digest_191 : zCode 254 191 = some (.lstore_n 1, 192, 0, 0, 0, 0, 1) := cAM_digest_7 _ (List.mem_of_getElem? (i := 7) rfl)
theorem cM_digest_192 : zCode 254 192 = some (.iconst 0, 193, 0, 0, 0, 0, 3) := cAM_digest_7 _ (List.mem_of_getElem? (i := 8) rfl)
theorem cM_digest_193 : zCode 254 193 = some (.istore_n 3, 194, 0, 0, 0, 0, 3) := cAM_digest_7 _ (List.mem_of_getElem? (i := 9) rfl)
theorem cM_digest_194 : zCode 254 194 = some (.iload_n 3, 195, 0, 0, 0, 0, 11) := cAM_digest_7 _ (List.mem_of_getElem? (i := 10) rfl)
theorem cM_digest_195 : zCode 254 195 = some (.iconst 1, 196, 0, 0, 0, 0, 11) := cAM_digest_7 _ (List.mem_of_getElem? (i := 11) rfl)
theorem cM_digest_196 : zCode 254 196 = some (.if_icmp .gt 48, 199, 244, 0, 0, 0, 11) := cAM_digest_7 _ (List.mem_of_getElem? (i := 12) rfl)
theorem cM_digest_199 : zCode 254 199 = some (.iconst 0, 200, 0, 0, 0, 0, 11) := cAM_digest_7 _ (List.mem_of_getElem? (i := 13) rfl)
theorem cM_digest_200 : zCode 254 200 = some (.istore 4, 202, 0, 0, 0, 0, 11) := cAM_digest_7 _ (List.mem_of_getElem? (i := 14) rfl)
theorem cM_digest_202 : zCode 254 202 = some (.iload 4, 204, 0, 0, 0, 0, 27) := cAM_digest_7 _ (List.mem_of_getElem? (i := 15) rfl)
theorem cM_digest_204 : zCode 254 204 = some (.aload_n 0, 205, 0, 0, 0, 0, 27) := cAM_digest_8 _ (List.mem_of_getElem? (i := 0) rfl)
theorem cM_digest_205 : zCode 254 205 = some (.getfield 27, 208, 12, 5, 2, 1214, 27) := cAM_digest_8 _ (List.mem_of_getElem? (i := 1) rfl)
theorem cM_digest_208 : zCode 254 208 = some (.iload_n 3, 209, 0, 0, 0, 0, 27) := cAM_digest_8 _ (List.mem_of_getElem? (i := 2) rfl)
theorem cM_digest_209 : zCode 254 209 = some (.iaload, 210, 0, 0, 0, 0, 27) := cAM_digest_8 _ (List.mem_of_getElem? (i := 3) rfl)
theorem cM_digest_210 : zCode 254 210 = some (.if_icmp .ge 28, 213, 238, 0, 0, 0, 27) := cAM_digest_8 _ (List.mem_of_getElem? (i := 4) rfl)
theorem cM_digest_213 : zCode 254 213 = some (.ldc2_w 379, 216, 0, 0, 1734, 31, 27) := cAM_digest_8 _ (List.mem_of_getElem? (i := 5) rfl)
theorem cM_digest_216 : zCode 254 216 = some (.lload_n 1, 217, 0, 0, 0, 0, 27) := cAM_digest_8 _ (List.mem_of_getElem? (i := 6) rfl)
theorem cM_digest_217 : zCode 254 217 = some (.lmul, 218, 0, 0, 0, 0, 25) := cAM_digest_8 _ (List.mem_of_getElem? (i := 7) rfl)
theorem cM_digest_218 : zCode 254 218 = some (.aload_n 0, 219, 0, 0, 0, 0, 25) := cAM_digest_8 _ (List.mem_of_getElem? (i := 8) rfl)
theorem cM_digest_219 : zCode 254 219 = some (.getfield 23, 222, 12, 4, 2, 1213, 25) := cAM_digest_8 _ (List.mem_of_getElem? (i := 9) rfl)
theorem cM_digest_222 : zCode 254 222 = some (.bipush 64, 224, 0, 0, 0, 0, 25) := cAM_digest_8 _ (List.mem_of_getElem? (i := 10) rfl)
theorem cM_digest_224 : zCode 254 224 = some (.iload_n 3, 225, 0, 0, 0, 0, 25) := cAM_digest_8 _ (List.mem_of_getElem? (i := 11) rfl)
theorem cM_digest_225 : zCode 254 225 = some (.imul, 226, 0, 0, 0, 0, 25) := cAM_digest_8 _ (List.mem_of_getElem? (i := 12) rfl)
theorem cM_digest_226 : zCode 254 226 = some (.iload 4, 228, 0, 0, 0, 0, 25) := cAM_digest_8 _ (List.mem_of_getElem? (i := 13) rfl)
theorem cM_digest_228 : zCode 254 228 = some (.iadd, 229, 0, 0, 0, 0, 25) := cAM_digest_8 _ (List.mem_of_getElem? (i := 14) rfl)
theorem cM_digest_229 : zCode 254 229 = some (.laload, 230, 0, 0, 0, 0, 25) := cAM_digest_8 _ (List.mem_of_getElem? (i := 15) rfl)
theorem cM_digest_230 : zCode 254 230 = some (.ladd, 231, 0, 0, 0, 0, 25) := cAM_digest_9 _ (List.mem_of_getElem? (i := 0) rfl)
theorem cM_digest_231 : zCode 254 231 = some (.lstore_n 1, 232, 0, 0, 0, 0, 25) := cAM_digest_9 _ (List.mem_of_getElem? (i := 1) rfl)
theorem cM_digest_232 : zCode 254 232 = some (.iinc 4 1, 235, 0, 0, 0, 0, 27) := cAM_digest_9 _ (List.mem_of_getElem? (i := 2) rfl)
theorem cM_digest_235 : zCode 254 235 = some (.goto (-33), 238, 202, 0, 0, 0, 27) := cAM_digest_9 _ (List.mem_of_getElem? (i := 3) rfl)
theorem cM_digest_238 : zCode 254 238 = some (.iinc 3 1, 241, 0, 0, 0, 0, 11) := cAM_digest_9 _ (List.mem_of_getElem? (i := 4) rfl)
theorem cM_digest_241 : zCode 254 241 = some (.goto (-47), 244, 194, 0, 0, 0, 11) := cAM_digest_9 _ (List.mem_of_getElem? (i := 5) rfl)
theorem cM_digest_244 : zCode 254 244 = some (.lload_n 1, 245, 0, 0, 0, 0, 2) := cAM_digest_9 _ (List.mem_of_getElem? (i := 6) rfl)
theorem cM_digest_245 : zCode 254 245 = some (.lreturn, 246, 0, 0, 0, 0, 0) := cAM_digest_9 _ (List.mem_of_getElem? (i := 7) rfl)
theorem rM_digest_0 {a0 : Nat} {u1 u2 u3 u4 : zV} : zS 254 0 [zR a0, u1, u2, u3, u4] [] sh pp mm Q ↔ zS 254 3 [zR a0, zU, zU, zU, zU] [zL 599] sh pp mm Q := s_go cM_digest_0 cM_digest_3 rfl rfl
theorem rM_digest_3 {a0 : Nat} {s0 : Int} {u1 u2 u3 u4 : zV} : zS 254 3 [zR a0, u1, u2, u3, u4] [zL s0] sh pp mm Q ↔ zS 254 4 [zR a0, zL s0, zU, zU, zU] [] sh pp mm Q := s_go cM_digest_3 cM_digest_4 rfl rfl
theorem rM_digest_4 {a0 : Nat} {a1 : Int} {u2 u3 u4 : zV} : zS 254 4 [zR a0, zL a1, u2, u3, u4] [] sh pp mm Q ↔ zS 254 5 [zR a0, zL a1, zU, zU, zU] [zI 0] sh pp mm Q := s_go cM_digest_4 cM_digest_5 rfl rfl
theorem rM_digest_5 {a0 : Nat} {a1 s0 : Int} {u2 u3 u4 : zV} : zS 254 5 [zR a0, zL a1, u2, u3, u4] [zI s0] sh pp mm Q ↔ zS 254 6 [zR a0, zL a1, zU, zI s0, zU] [] sh pp mm Q := s_go cM_digest_5 cM_digest_6 rfl rfl
theorem rM_digest_6 {a0 : Nat} {a1 a3 : Int} {u2 u4 : zV} : zS 254 6 [zR a0, zL a1, u2, zI a3, u4] [] sh pp mm Q ↔ zS 254 7 [zR a0, zL a1, zU, zI a3, zU] [zI a3] sh pp mm Q := s_go cM_digest_6 cM_digest_7 rfl rfl
theorem rM_digest_7 {a0 : Nat} {a1 a3 s0 : Int} {u2 u4 : zV} : zS 254 7 [zR a0, zL a1, u2, zI a3, u4] [zI s0] sh pp mm Q ↔ zS 254 9 [zR a0, zL a1, zU, zI a3, zU] [zI 9, zI s0] sh pp mm Q := s_go cM_digest_7 cM_digest_9 rfl rfl
theorem rM_digest_9 {a0 : Nat} {a1 a3 s0 s1 : Int} {u2 u4 : zV} : zS 254 9 [zR a0, zL a1, u2, zI a3, u4] [zI s0, zI s1] sh pp mm Q ↔ (s1 < s0 → zS 254 12 [zR a0, zL a1, zU, zI a3, zU] [] sh pp mm Q) ∧ (¬ s1 < s0 → zS 254 31 [zR a0, zL a1, zU, zU, zU] [] sh pp mm Q) := s_ifn cM_digest_9 cM_digest_12 cM_digest_31 rfl rfl rfl
theorem rM_digest_12 {a0 : Nat} {a1 a3 : Int} {u2 u4 : zV} : zS 254 12 [zR a0, zL a1, u2, zI a3, u4] [] sh pp mm Q ↔ zS 254 15 [zR a0, zL a1, zU, zI a3, zU] [zL 31] sh pp mm Q := s_go cM_digest_12 cM_digest_15 rfl rfl
theorem rM_digest_15 {a0 : Nat} {a1 a3 s0 : Int} {u2 u4 : zV} : zS 254 15 [zR a0, zL a1, u2, zI a3, u4] [zL s0] sh pp mm Q ↔ zS 254 16 [zR a0, zU, zU, zI a3, zU] [zL a1, zL s0] sh pp mm Q := s_go cM_digest_15 cM_digest_16 rfl rfl
theorem rM_digest_16 {a0 : Nat} {a3 s0 s1 : Int} {u1 u2 u4 : zV} : zS 254 16 [zR a0, u1, u2, zI a3, u4] [zL s0, zL s1] sh pp mm Q ↔ zS 254 17 [zR a0, zU, zU, zI a3, zU] [zL (zw64 (s1 * s0))] sh pp mm Q := s_go cM_digest_16 cM_digest_17 rfl rfl
theorem rM_digest_17 {a0 : Nat} {a3 s0 : Int} {u1 u2 u4 : zV} : zS 254 17 [zR a0, u1, u2, zI a3, u4] [zL s0] sh pp mm Q ↔ zS 254 18 [zR a0, zU, zU, zI a3, zU] [zR a0, zL s0] sh pp mm Q := s_go cM_digest_17 cM_digest_18 rfl rfl
theorem rM_digest_18 {a0 s0 : Nat} {a3 s1 : Int} {u1 u2 u4 : zV} : zS 254 18 [zR a0, u1, u2, zI a3, u4] [zR s0, zL s1] sh pp mm Q ↔ zS 254 19 [zR a0, zU, zU, zI a3, zU] [zI a3, zR s0, zL s1] sh pp mm Q := s_go cM_digest_18 cM_digest_19 rfl rfl
theorem rM_digest_19 {a0 s1 : Nat} {a3 s0 s2 : Int} {u1 u2 u4 : zV} (hk : zKd sh s1 = 12) : zS 254 19 [zR a0, u1, u2, zI a3, u4] [zI s0, zR s1, zL s2] sh pp mm Q ↔ zS 251 0 [zR s1, zI s0] [] sh pp mm (fun v sh pp mm => zS 254 22 [zR a0, zU, zU, zI a3, zU] (zPush v [zL s2]) sh pp mm Q) := s_call cM_digest_19 cM_digest_22 ((if_pos hk).trans rfl) rfl
theorem rM_digest_22 {a0 : Nat} {a3 s0 s1 : Int} {u1 u2 u4 : zV} : zS 254 22 [zR a0, u1, u2, zI a3, u4] [zI s0, zL s1] sh pp mm Q ↔ zS 254 23 [zR a0, zU, zU, zI a3, zU] [zL s0, zL s1] sh pp mm Q := s_go cM_digest_22 cM_digest_23 rfl rfl
theorem rM_digest_23 {a0 : Nat} {a3 s0 s1 : Int} {u1 u2 u4 : zV} : zS 254 23 [zR a0, u1, u2, zI a3, u4] [zL s0, zL s1] sh pp mm Q ↔ zS 254 24 [zR a0, zU, zU, zI a3, zU] [zL (zw64 (s1 + s0))] sh pp mm Q := s_go cM_digest_23 cM_digest_24 rfl rfl
theorem rM_digest_24 {a0 : Nat} {a3 s0 : Int} {u1 u2 u4 : zV} : zS 254 24 [zR a0, u1, u2, zI a3, u4] [zL s0] sh pp mm Q ↔ zS 254 25 [zR a0, zL s0, zU, zI a3, zU] [] sh pp mm Q := s_go cM_digest_24 cM_digest_25 rfl rfl
theorem rM_digest_25 {a0 : Nat} {a1 a3 : Int} {u2 u4 : zV} : zS 254 25 [zR a0, zL a1, u2, zI a3, u4] [] sh pp mm Q ↔ zS 254 28 [zR a0, zL a1, zU, zI (zw32 (a3 + 1)), zU] [] sh pp mm Q := s_go cM_digest_25 cM_digest_28 rfl rfl
theorem rM_digest_28 {a0 : Nat} {a1 a3 : Int} {u2 u4 : zV} : zS 254 28 [zR a0, zL a1, u2, zI a3, u4] [] sh pp mm Q ↔ zS 254 6 [zR a0, zL a1, zU, zI a3, zU] [] sh pp mm Q := s_go cM_digest_28 cM_digest_6 rfl rfl
theorem rM_digest_31 {a0 : Nat} {a1 : Int} {u2 u3 u4 : zV} : zS 254 31 [zR a0, zL a1, u2, u3, u4] [] sh pp mm Q ↔ zS 254 32 [zR a0, zL a1, zU, zU, zU] [zR a0] sh pp mm Q := s_go cM_digest_31 cM_digest_32 rfl rfl
theorem rM_digest_32 {a0 s0 : Nat} {a1 : Int} {u2 u3 u4 : zV} : zS 254 32 [zR a0, zL a1, u2, u3, u4] [zR s0] sh pp mm Q ↔ zS 254 33 [zR a0, zU, zU, zU, zU] [zL a1, zR s0] sh pp mm Q := s_go cM_digest_32 cM_digest_33 rfl rfl
theorem rM_digest_33 {a0 s1 : Nat} {s0 : Int} {u1 u2 u3 u4 : zV} : zS 254 33 [zR a0, u1, u2, u3, u4] [zL s0, zR s1] sh pp mm Q ↔ zS 254 34 [zR a0, zU, zU, zU, zU] [zI 0, zL s0, zR s1] sh pp mm Q := s_go cM_digest_33 cM_digest_34 rfl rfl
theorem rM_digest_34 {a0 s2 : Nat} {s0 s1 : Int} {u1 u2 u3 u4 : zV} : zS 254 34 [zR a0, u1, u2, u3, u4] [zI s0, zL s1, zR s2] sh pp mm Q ↔ zS 254 36 [zR a0, zU, zU, zU, zU] [zI 9, zI s0, zL s1, zR s2] sh pp mm Q := s_go cM_digest_34 cM_digest_36 rfl rfl
theorem rM_digest_36 {a0 s3 : Nat} {s0 s1 s2 : Int} {u1 u2 u3 u4 : zV} (hk : zKd sh s3 = 12) : zS 254 36 [zR a0, u1, u2, u3, u4] [zI s0, zI s1, zL s2, zR s3] sh pp mm Q ↔ zS 253 0 [zR s3, zL s2, zU, zI s1, zI s0, zU, zU, zU] [] sh pp mm (fun v sh pp mm => zS 254 39 [zR a0, zU, zU, zU, zU] (zPush v []) sh pp mm Q) := s_call cM_digest_36 cM_digest_39 ((if_pos hk).trans rfl) rfl
theorem rM_digest_39 {a0 : Nat} {s0 : Int} {u1 u2 u3 u4 : zV} : zS 254 39 [zR a0, u1, u2, u3, u4] [zL s0] sh pp mm Q ↔ zS 254 40 [zR a0, zL s0, zU, zU, zU] [] sh pp mm Q := s_go cM_digest_39 cM_digest_40 rfl rfl
theorem rM_digest_40 {a0 : Nat} {a1 : Int} {u2 u3 u4 : zV} : zS 254 40 [zR a0, zL a1, u2, u3, u4] [] sh pp mm Q ↔ zS 254 41 [zR a0, zL a1, zU, zU, zU] [zI 0] sh pp mm Q := s_go cM_digest_40 cM_digest_41 rfl rfl
theorem rM_digest_41 {a0 : Nat} {a1 s0 : Int} {u2 u3 u4 : zV} : zS 254 41 [zR a0, zL a1, u2, u3, u4] [zI s0] sh pp mm Q ↔ zS 254 42 [zR a0, zL a1, zU, zI s0, zU] [] sh pp mm Q := s_go cM_digest_41 cM_digest_42 rfl rfl
theorem rM_digest_42 {a0 : Nat} {a1 a3 : Int} {u2 u4 : zV} : zS 254 42 [zR a0, zL a1, u2, zI a3, u4] [] sh pp mm Q ↔ zS 254 43 [zR a0, zL a1, zU, zI a3, zU] [zI a3] sh pp mm Q := s_go cM_digest_42 cM_digest_43 rfl rfl
theorem rM_digest_43 {a0 : Nat} {a1 a3 s0 : Int} {u2 u4 : zV} : zS 254 43 [zR a0, zL a1, u2, zI a3, u4] [zI s0] sh pp mm Q ↔ zS 254 44 [zR a0, zL a1, zU, zI a3, zU] [zI 4, zI s0] sh pp mm Q := s_go cM_digest_43 cM_digest_44 rfl rfl
theorem rM_digest_44 {a0 : Nat} {a1 a3 s0 s1 : Int} {u2 u4 : zV} : zS 254 44 [zR a0, zL a1, u2, zI a3, u4] [zI s0, zI s1] sh pp mm Q ↔ (s1 < s0 → zS 254 47 [zR a0, zL a1, zU, zI a3, zU] [] sh pp mm Q) ∧ (¬ s1 < s0 → zS 254 80 [zR a0, zL a1, zU, zU, zU] [] sh pp mm Q) := s_ifn cM_digest_44 cM_digest_47 cM_digest_80 rfl rfl rfl
theorem rM_digest_47 {a0 : Nat} {a1 a3 : Int} {u2 u4 : zV} : zS 254 47 [zR a0, zL a1, u2, zI a3, u4] [] sh pp mm Q ↔ zS 254 48 [zR a0, zL a1, zU, zI a3, zU] [zR a0] sh pp mm Q := s_go cM_digest_47 cM_digest_48 rfl rfl
theorem rM_digest_48 {a0 s0 : Nat} {a1 a3 : Int} {u2 u4 : zV} : zS 254 48 [zR a0, zL a1, u2, zI a3, u4] [zR s0] sh pp mm Q ↔ zS 254 49 [zR a0, zU, zU, zI a3, zU] [zL a1, zR s0] sh pp mm Q := s_go cM_digest_48 cM_digest_49 rfl rfl
theorem rM_digest_49 {a0 s1 : Nat} {a3 s0 : Int} {u1 u2 u4 : zV} : zS 254 49 [zR a0, u1, u2, zI a3, u4] [zL s0, zR s1] sh pp mm Q ↔ zS 254 51 [zR a0, zU, zU, zI a3, zU] [zI 9, zL s0, zR s1] sh pp mm Q := s_go cM_digest_49 cM_digest_51 rfl rfl
theorem rM_digest_51 {a0 s2 : Nat} {a3 s0 s1 : Int} {u1 u2 u4 : zV} : zS 254 51 [zR a0, u1, u2, zI a3, u4] [zI s0, zL s1, zR s2] sh pp mm Q ↔ zS 254 53 [zR a0, zU, zU, zI a3, zU] [zI 121, zI s0, zL s1, zR s2] sh pp mm Q := s_go cM_digest_51 cM_digest_53 rfl rfl
theorem rM_digest_53 {a0 s3 : Nat} {a3 s0 s1 s2 : Int} {u1 u2 u4 : zV} : zS 254 53 [zR a0, u1, u2, zI a3, u4] [zI s0, zI s1, zL s2, zR s3] sh pp mm Q ↔ zS 254 54 [zR a0, zU, zU, zI a3, zU] [zI a3, zI s0, zI s1, zL s2, zR s3] sh pp mm Q := s_go cM_digest_53 cM_digest_54 rfl rfl
theorem rM_digest_54 {a0 s4 : Nat} {a3 s0 s1 s2 s3 : Int} {u1 u2 u4 : zV} : zS 254 54 [zR a0, u1, u2, zI a3, u4] [zI s0, zI s1, zI s2, zL s3, zR s4] sh pp mm Q ↔ zS 254 55 [zR a0, zU, zU, zI a3, zU] [zI (zw32 (s1 * s0)), zI s2, zL s3, zR s4] sh pp mm Q := s_go cM_digest_54 cM_digest_55 rfl rfl
theorem rM_digest_55 {a0 s3 : Nat} {a3 s0 s1 s2 : Int} {u1 u2 u4 : zV} : zS 254 55 [zR a0, u1, u2, zI a3, u4] [zI s0, zI s1, zL s2, zR s3] sh pp mm Q ↔ zS 254 56 [zR a0, zU, zU, zI a3, zU] [zI (zw32 (s1 + s0)), zL s2, zR s3] sh pp mm Q := s_go cM_digest_55 cM_digest_56 rfl rfl
theorem rM_digest_56 {a0 s2 : Nat} {a3 s0 s1 : Int} {u1 u2 u4 : zV} : zS 254 56 [zR a0, u1, u2, zI a3, u4] [zI s0, zL s1, zR s2] sh pp mm Q ↔ zS 254 57 [zR a0, zU, zU, zI a3, zU] [zI 1, zI s0, zL s1, zR s2] sh pp mm Q := s_go cM_digest_56 cM_digest_57 rfl rfl
theorem rM_digest_57 {a0 s3 : Nat} {a3 s0 s1 s2 : Int} {u1 u2 u4 : zV} : zS 254 57 [zR a0, u1, u2, zI a3, u4] [zI s0, zI s1, zL s2, zR s3] sh pp mm Q ↔ zS 254 58 [zR a0, zU, zU, zI a3, zU] [zI (zw32 (s1 + s0)), zL s2, zR s3] sh pp mm Q := s_go cM_digest_57 cM_digest_58 rfl rfl
theorem rM_digest_58 {a0 s2 : Nat} {a3 s0 s1 : Int} {u1 u2 u4 : zV} : zS 254 58 [zR a0, u1, u2, zI a3, u4] [zI s0, zL s1, zR s2] sh pp mm Q ↔ zS 254 59 [zR a0, zU, zU, zI a3, zU] [zR a0, zI s0, zL s1, zR s2] sh pp mm Q := s_go cM_digest_58 cM_digest_59 rfl rfl
theorem rM_digest_59 {a0 s0 s3 : Nat} {a3 s1 s2 : Int} {u1 u2 u4 : zV} (hk : zKd sh s0 = 12) : zS 254 59 [zR a0, u1, u2, zI a3, u4] [zR s0, zI s1, zL s2, zR s3] sh pp mm Q ↔ zS 254 62 [zR a0, zU, zU, zI a3, zU] [zR (pp s0 0), zI s1, zL s2, zR s3] sh pp mm Q := s_go cM_digest_59 cM_digest_62 (if_pos hk) rfl
theorem rM_digest_62 {a0 s0 s3 : Nat} {a3 s1 s2 : Int} {u1 u2 u4 : zV} : zS 254 62 [zR a0, u1, u2, zI a3, u4] [zR s0, zI s1, zL s2, zR s3] sh pp mm Q ↔ zS 254 64 [zR a0, zU, zU, zI a3, zU] [zI 9, zR s0, zI s1, zL s2, zR s3] sh pp mm Q := s_go cM_digest_62 cM_digest_64 rfl rfl
theorem rM_digest_64 {a0 s1 s4 : Nat} {a3 s0 s2 s3 : Int} {u1 u2 u4 : zV} : zS 254 64 [zR a0, u1, u2, zI a3, u4] [zI s0, zR s1, zI s2, zL s3, zR s4] sh pp mm Q ↔ zS 254 66 [zR a0, zU, zU, zI a3, zU] [zI 121, zI s0, zR s1, zI s2, zL s3, zR s4] sh pp mm Q := s_go cM_digest_64 cM_digest_66 rfl rfl
theorem rM_digest_66 {a0 s2 s5 : Nat} {a3 s0 s1 s3 s4 : Int} {u1 u2 u4 : zV} : zS 254 66 [zR a0, u1, u2, zI a3, u4] [zI s0, zI s1, zR s2, zI s3, zL s4, zR s5] sh pp mm Q ↔ zS 254 67 [zR a0, zU, zU, zI a3, zU] [zI a3, zI s0, zI s1, zR s2, zI s3, zL s4, zR s5] sh pp mm Q := s_go cM_digest_66 cM_digest_67 rfl rfl
theorem rM_digest_67 {a0 s3 s6 : Nat} {a3 s0 s1 s2 s4 s5 : Int} {u1 u2 u4 : zV} : zS 254 67 [zR a0, u1, u2, zI a3, u4] [zI s0, zI s1, zI s2, zR s3, zI s4, zL s5, zR s6] sh pp mm Q ↔ zS 254 68 [zR a0, zU, zU, zI a3, zU] [zI (zw32 (s1 * s0)), zI s2, zR s3, zI s4, zL s5, zR s6] sh pp mm Q := s_go cM_digest_67 cM_digest_68 rfl rfl
theorem rM_digest_68 {a0 s2 s5 : Nat} {a3 s0 s1 s3 s4 : Int} {u1 u2 u4 : zV} : zS 254 68 [zR a0, u1, u2, zI a3, u4] [zI s0, zI s1, zR s2, zI s3, zL s4, zR s5] sh pp mm Q ↔ zS 254 69 [zR a0, zU, zU, zI a3, zU] [zI (zw32 (s1 + s0)), zR s2, zI s3, zL s4, zR s5] sh pp mm Q := s_go cM_digest_68 cM_digest_69 rfl rfl
theorem rM_digest_69 {a0 s1 s4 : Nat} {a3 s0 s2 s3 : Int} {u1 u2 u4 : zV} (hk : zKd sh s1 = 20 ∨ zKd sh s1 = 30) (h0 : 0 ≤ s0) (h1 : s0 < zLn sh s1) : zS 254 69 [zR a0, u1, u2, zI a3, u4] [zI s0, zR s1, zI s2, zL s3, zR s4] sh pp mm Q ↔ zS 254 70 [zR a0, zU, zU, zI a3, zU] [zI (mm s1 s0), zI s2, zL s3, zR s4] sh pp mm Q := s_go cM_digest_69 cM_digest_70 (if_pos ⟨hk, h0, h1⟩) rfl
theorem rM_digest_70 {a0 s3 : Nat} {a3 s0 s1 s2 : Int} {u1 u2 u4 : zV} (hk : zKd sh s3 = 12) : zS 254 70 [zR a0, u1, u2, zI a3, u4] [zI s0, zI s1, zL s2, zR s3] sh pp mm Q ↔ zS 253 0 [zR s3, zL s2, zU, zI s1, zI s0, zU, zU, zU] [] sh pp mm (fun v sh pp mm => zS 254 73 [zR a0, zU, zU, zI a3, zU] (zPush v []) sh pp mm Q) := s_call cM_digest_70 cM_digest_73 ((if_pos hk).trans rfl) rfl
theorem rM_digest_73 {a0 : Nat} {a3 s0 : Int} {u1 u2 u4 : zV} : zS 254 73 [zR a0, u1, u2, zI a3, u4] [zL s0] sh pp mm Q ↔ zS 254 74 [zR a0, zL s0, zU, zI a3, zU] [] sh pp mm Q := s_go cM_digest_73 cM_digest_74 rfl rfl
theorem rM_digest_74 {a0 : Nat} {a1 a3 : Int} {u2 u4 : zV} : zS 254 74 [zR a0, zL a1, u2, zI a3, u4] [] sh pp mm Q ↔ zS 254 77 [zR a0, zL a1, zU, zI (zw32 (a3 + 1)), zU] [] sh pp mm Q := s_go cM_digest_74 cM_digest_77 rfl rfl
theorem rM_digest_77 {a0 : Nat} {a1 a3 : Int} {u2 u4 : zV} : zS 254 77 [zR a0, zL a1, u2, zI a3, u4] [] sh pp mm Q ↔ zS 254 42 [zR a0, zL a1, zU, zI a3, zU] [] sh pp mm Q := s_go cM_digest_77 cM_digest_42 rfl rfl
theorem rM_digest_80 {a0 : Nat} {a1 : Int} {u2 u3 u4 : zV} : zS 254 80 [zR a0, zL a1, u2, u3, u4] [] sh pp mm Q ↔ zS 254 81 [zR a0, zL a1, zU, zU, zU] [zR a0] sh pp mm Q := s_go cM_digest_80 cM_digest_81 rfl rfl
theorem rM_digest_81 {a0 s0 : Nat} {a1 : Int} {u2 u3 u4 : zV} : zS 254 81 [zR a0, zL a1, u2, u3, u4] [zR s0] sh pp mm Q ↔ zS 254 82 [zR a0, zU, zU, zU, zU] [zL a1, zR s0] sh pp mm Q := s_go cM_digest_81 cM_digest_82 rfl rfl
theorem rM_digest_82 {a0 s1 : Nat} {s0 : Int} {u1 u2 u3 u4 : zV} : zS 254 82 [zR a0, u1, u2, u3, u4] [zL s0, zR s1] sh pp mm Q ↔ zS 254 85 [zR a0, zU, zU, zU, zU] [zI 493, zL s0, zR s1] sh pp mm Q := s_go cM_digest_82 cM_digest_85 rfl rfl
theorem rM_digest_85 {a0 s2 : Nat} {s0 s1 : Int} {u1 u2 u3 u4 : zV} : zS 254 85 [zR a0, u1, u2, u3, u4] [zI s0, zL s1, zR s2] sh pp mm Q ↔ zS 254 86 [zR a0, zU, zU, zU, zU] [zI 2, zI s0, zL s1, zR s2] sh pp mm Q := s_go cM_digest_85 cM_digest_86 rfl rfl
theorem rM_digest_86 {a0 s3 : Nat} {s0 s1 s2 : Int} {u1 u2 u3 u4 : zV} : zS 254 86 [zR a0, u1, u2, u3, u4] [zI s0, zI s1, zL s2, zR s3] sh pp mm Q ↔ zS 254 87 [zR a0, zU, zU, zU, zU] [zR a0, zI s0, zI s1, zL s2, zR s3] sh pp mm Q := s_go cM_digest_86 cM_digest_87 rfl rfl
theorem rM_digest_87 {a0 s0 s4 : Nat} {s1 s2 s3 : Int} {u1 u2 u3 u4 : zV} : zS 254 87 [zR a0, u1, u2, u3, u4] [zR s0, zI s1, zI s2, zL s3, zR s4] sh pp mm Q ↔ zS 254 88 [zR a0, zU, zU, zU, zU] [zI 0, zR s0, zI s1, zI s2, zL s3, zR s4] sh pp mm Q := s_go cM_digest_87 cM_digest_88 rfl rfl
theorem rM_digest_88 {a0 s1 s5 : Nat} {s0 s2 s3 s4 : Int} {u1 u2 u3 u4 : zV} (hk : zKd sh s1 = 12) : zS 254 88 [zR a0, u1, u2, u3, u4] [zI s0, zR s1, zI s2, zI s3, zL s4, zR s5] sh pp mm Q ↔ zS 169 0 [zR s1, zI s0] [] sh pp mm (fun v sh pp mm => zS 254 91 [zR a0, zU, zU, zU, zU] (zPush v [zI s2, zI s3, zL s4, zR s5]) sh pp mm Q) := s_call cM_digest_88 cM_digest_91 ((if_pos hk).trans rfl) rfl
theorem rM_digest_91 {a0 s4 : Nat} {s0 s1 s2 s3 : Int} {u1 u2 u3 u4 : zV} : zS 254 91 [zR a0, u1, u2, u3, u4] [zI s0, zI s1, zI s2, zL s3, zR s4] sh pp mm Q ↔ zS 254 92 [zR a0, zU, zU, zU, zU] [zI (zw32 (s1 * s0)), zI s2, zL s3, zR s4] sh pp mm Q := s_go cM_digest_91 cM_digest_92 rfl rfl
theorem rM_digest_92 {a0 s3 : Nat} {s0 s1 s2 : Int} {u1 u2 u3 u4 : zV} (hk : zKd sh s3 = 12) : zS 254 92 [zR a0, u1, u2, u3, u4] [zI s0, zI s1, zL s2, zR s3] sh pp mm Q ↔ zS 253 0 [zR s3, zL s2, zU, zI s1, zI s0, zU, zU, zU] [] sh pp mm (fun v sh pp mm => zS 254 95 [zR a0, zU, zU, zU, zU] (zPush v []) sh pp mm Q) := s_call cM_digest_92 cM_digest_95 ((if_pos hk).trans rfl) rfl
theorem rM_digest_95 {a0 : Nat} {s0 : Int} {u1 u2 u3 u4 : zV} : zS 254 95 [zR a0, u1, u2, u3, u4] [zL s0] sh pp mm Q ↔ zS 254 96 [zR a0, zL s0, zU, zU, zU] [] sh pp mm Q := s_go cM_digest_95 cM_digest_96 rfl rfl
theorem rM_digest_96 {a0 : Nat} {a1 : Int} {u2 u3 u4 : zV} : zS 254 96 [zR a0, zL a1, u2, u3, u4] [] sh pp mm Q ↔ zS 254 97 [zR a0, zL a1, zU, zU, zU] [zR a0] sh pp mm Q := s_go cM_digest_96 cM_digest_97 rfl rfl
theorem rM_digest_97 {a0 s0 : Nat} {a1 : Int} {u2 u3 u4 : zV} : zS 254 97 [zR a0, zL a1, u2, u3, u4] [zR s0] sh pp mm Q ↔ zS 254 98 [zR a0, zU, zU, zU, zU] [zL a1, zR s0] sh pp mm Q := s_go cM_digest_97 cM_digest_98 rfl rfl
theorem rM_digest_98 {a0 s1 : Nat} {s0 : Int} {u1 u2 u3 u4 : zV} : zS 254 98 [zR a0, u1, u2, u3, u4] [zL s0, zR s1] sh pp mm Q ↔ zS 254 101 [zR a0, zU, zU, zU, zU] [zI 517, zL s0, zR s1] sh pp mm Q := s_go cM_digest_98 cM_digest_101 rfl rfl
theorem rM_digest_101 {a0 s2 : Nat} {s0 s1 : Int} {u1 u2 u3 u4 : zV} : zS 254 101 [zR a0, u1, u2, u3, u4] [zI s0, zL s1, zR s2] sh pp mm Q ↔ zS 254 102 [zR a0, zU, zU, zU, zU] [zI 2, zI s0, zL s1, zR s2] sh pp mm Q := s_go cM_digest_101 cM_digest_102 rfl rfl
theorem rM_digest_102 {a0 s3 : Nat} {s0 s1 s2 : Int} {u1 u2 u3 u4 : zV} : zS 254 102 [zR a0, u1, u2, u3, u4] [zI s0, zI s1, zL s2, zR s3] sh pp mm Q ↔ zS 254 103 [zR a0, zU, zU, zU, zU] [zR a0, zI s0, zI s1, zL s2, zR s3] sh pp mm Q := s_go cM_digest_102 cM_digest_103 rfl rfl
theorem rM_digest_103 {a0 s0 s4 : Nat} {s1 s2 s3 : Int} {u1 u2 u3 u4 : zV} : zS 254 103 [zR a0, u1, u2, u3, u4] [zR s0, zI s1, zI s2, zL s3, zR s4] sh pp mm Q ↔ zS 254 104 [zR a0, zU, zU, zU, zU] [zI 1, zR s0, zI s1, zI s2, zL s3, zR s4] sh pp mm Q := s_go cM_digest_103 cM_digest_104 rfl rfl
theorem rM_digest_104 {a0 s1 s5 : Nat} {s0 s2 s3 s4 : Int} {u1 u2 u3 u4 : zV} (hk : zKd sh s1 = 12) : zS 254 104 [zR a0, u1, u2, u3, u4] [zI s0, zR s1, zI s2, zI s3, zL s4, zR s5] sh pp mm Q ↔ zS 169 0 [zR s1, zI s0] [] sh pp mm (fun v sh pp mm => zS 254 107 [zR a0, zU, zU, zU, zU] (zPush v [zI s2, zI s3, zL s4, zR s5]) sh pp mm Q) := s_call cM_digest_104 cM_digest_107 ((if_pos hk).trans rfl) rfl
theorem rM_digest_107 {a0 s4 : Nat} {s0 s1 s2 s3 : Int} {u1 u2 u3 u4 : zV} : zS 254 107 [zR a0, u1, u2, u3, u4] [zI s0, zI s1, zI s2, zL s3, zR s4] sh pp mm Q ↔ zS 254 108 [zR a0, zU, zU, zU, zU] [zI (zw32 (s1 * s0)), zI s2, zL s3, zR s4] sh pp mm Q := s_go cM_digest_107 cM_digest_108 rfl rfl
theorem rM_digest_108 {a0 s3 : Nat} {s0 s1 s2 : Int} {u1 u2 u3 u4 : zV} (hk : zKd sh s3 = 12) : zS 254 108 [zR a0, u1, u2, u3, u4] [zI s0, zI s1, zL s2, zR s3] sh pp mm Q ↔ zS 253 0 [zR s3, zL s2, zU, zI s1, zI s0, zU, zU, zU] [] sh pp mm (fun v sh pp mm => zS 254 111 [zR a0, zU, zU, zU, zU] (zPush v []) sh pp mm Q) := s_call cM_digest_108 cM_digest_111 ((if_pos hk).trans rfl) rfl
theorem rM_digest_111 {a0 : Nat} {s0 : Int} {u1 u2 u3 u4 : zV} : zS 254 111 [zR a0, u1, u2, u3, u4] [zL s0] sh pp mm Q ↔ zS 254 112 [zR a0, zL s0, zU, zU, zU] [] sh pp mm Q := s_go cM_digest_111 cM_digest_112 rfl rfl
theorem rM_digest_112 {a0 : Nat} {a1 : Int} {u2 u3 u4 : zV} : zS 254 112 [zR a0, zL a1, u2, u3, u4] [] sh pp mm Q ↔ zS 254 113 [zR a0, zL a1, zU, zU, zU] [zR a0] sh pp mm Q := s_go cM_digest_112 cM_digest_113 rfl rfl
theorem rM_digest_113 {a0 s0 : Nat} {a1 : Int} {u2 u3 u4 : zV} : zS 254 113 [zR a0, zL a1, u2, u3, u4] [zR s0] sh pp mm Q ↔ zS 254 114 [zR a0, zU, zU, zU, zU] [zL a1, zR s0] sh pp mm Q := s_go cM_digest_113 cM_digest_114 rfl rfl
theorem rM_digest_114 {a0 s1 : Nat} {s0 : Int} {u1 u2 u3 u4 : zV} : zS 254 114 [zR a0, u1, u2, u3, u4] [zL s0, zR s1] sh pp mm Q ↔ zS 254 117 [zR a0, zU, zU, zU, zU] [zI 537, zL s0, zR s1] sh pp mm Q := s_go cM_digest_114 cM_digest_117 rfl rfl
theorem rM_digest_117 {a0 s2 : Nat} {s0 s1 : Int} {u1 u2 u3 u4 : zV} : zS 254 117 [zR a0, u1, u2, u3, u4] [zI s0, zL s1, zR s2] sh pp mm Q ↔ zS 254 118 [zR a0, zU, zU, zU, zU] [zI 3, zI s0, zL s1, zR s2] sh pp mm Q := s_go cM_digest_117 cM_digest_118 rfl rfl
theorem rM_digest_118 {a0 s3 : Nat} {s0 s1 s2 : Int} {u1 u2 u3 u4 : zV} : zS 254 118 [zR a0, u1, u2, u3, u4] [zI s0, zI s1, zL s2, zR s3] sh pp mm Q ↔ zS 254 119 [zR a0, zU, zU, zU, zU] [zR a0, zI s0, zI s1, zL s2, zR s3] sh pp mm Q := s_go cM_digest_118 cM_digest_119 rfl rfl
theorem rM_digest_119 {a0 s0 s4 : Nat} {s1 s2 s3 : Int} {u1 u2 u3 u4 : zV} : zS 254 119 [zR a0, u1, u2, u3, u4] [zR s0, zI s1, zI s2, zL s3, zR s4] sh pp mm Q ↔ zS 254 120 [zR a0, zU, zU, zU, zU] [zI 2, zR s0, zI s1, zI s2, zL s3, zR s4] sh pp mm Q := s_go cM_digest_119 cM_digest_120 rfl rfl
theorem rM_digest_120 {a0 s1 s5 : Nat} {s0 s2 s3 s4 : Int} {u1 u2 u3 u4 : zV} (hk : zKd sh s1 = 12) : zS 254 120 [zR a0, u1, u2, u3, u4] [zI s0, zR s1, zI s2, zI s3, zL s4, zR s5] sh pp mm Q ↔ zS 169 0 [zR s1, zI s0] [] sh pp mm (fun v sh pp mm => zS 254 123 [zR a0, zU, zU, zU, zU] (zPush v [zI s2, zI s3, zL s4, zR s5]) sh pp mm Q) := s_call cM_digest_120 cM_digest_123 ((if_pos hk).trans rfl) rfl
theorem rM_digest_123 {a0 s4 : Nat} {s0 s1 s2 s3 : Int} {u1 u2 u3 u4 : zV} : zS 254 123 [zR a0, u1, u2, u3, u4] [zI s0, zI s1, zI s2, zL s3, zR s4] sh pp mm Q ↔ zS 254 124 [zR a0, zU, zU, zU, zU] [zI (zw32 (s1 * s0)), zI s2, zL s3, zR s4] sh pp mm Q := s_go cM_digest_123 cM_digest_124 rfl rfl
theorem rM_digest_124 {a0 s3 : Nat} {s0 s1 s2 : Int} {u1 u2 u3 u4 : zV} (hk : zKd sh s3 = 12) : zS 254 124 [zR a0, u1, u2, u3, u4] [zI s0, zI s1, zL s2, zR s3] sh pp mm Q ↔ zS 253 0 [zR s3, zL s2, zU, zI s1, zI s0, zU, zU, zU] [] sh pp mm (fun v sh pp mm => zS 254 127 [zR a0, zU, zU, zU, zU] (zPush v []) sh pp mm Q) := s_call cM_digest_124 cM_digest_127 ((if_pos hk).trans rfl) rfl
theorem rM_digest_127 {a0 : Nat} {s0 : Int} {u1 u2 u3 u4 : zV} : zS 254 127 [zR a0, u1, u2, u3, u4] [zL s0] sh pp mm Q ↔ zS 254 128 [zR a0, zL s0, zU, zU, zU] [] sh pp mm Q := s_go cM_digest_127 cM_digest_128 rfl rfl
theorem rM_digest_128 {a0 : Nat} {a1 : Int} {u2 u3 u4 : zV} : zS 254 128 [zR a0, zL a1, u2, u3, u4] [] sh pp mm Q ↔ zS 254 129 [zR a0, zL a1, zU, zU, zU] [zR a0] sh pp mm Q := s_go cM_digest_128 cM_digest_129 rfl rfl
theorem rM_digest_129 {a0 s0 : Nat} {a1 : Int} {u2 u3 u4 : zV} : zS 254 129 [zR a0, zL a1, u2, u3, u4] [zR s0] sh pp mm Q ↔ zS 254 130 [zR a0, zU, zU, zU, zU] [zL a1, zR s0] sh pp mm Q := s_go cM_digest_129 cM_digest_130 rfl rfl
theorem rM_digest_130 {a0 s1 : Nat} {s0 : Int} {u1 u2 u3 u4 : zV} : zS 254 130 [zR a0, u1, u2, u3, u4] [zL s0, zR s1] sh pp mm Q ↔ zS 254 133 [zR a0, zU, zU, zU, zU] [zI 573, zL s0, zR s1] sh pp mm Q := s_go cM_digest_130 cM_digest_133 rfl rfl
theorem rM_digest_133 {a0 s2 : Nat} {s0 s1 : Int} {u1 u2 u3 u4 : zV} : zS 254 133 [zR a0, u1, u2, u3, u4] [zI s0, zL s1, zR s2] sh pp mm Q ↔ zS 254 136 [zR a0, zU, zU, zU, zU] [zI 384, zI s0, zL s1, zR s2] sh pp mm Q := s_go cM_digest_133 cM_digest_136 rfl rfl
theorem rM_digest_136 {a0 s3 : Nat} {s0 s1 s2 : Int} {u1 u2 u3 u4 : zV} (hk : zKd sh s3 = 12) : zS 254 136 [zR a0, u1, u2, u3, u4] [zI s0, zI s1, zL s2, zR s3] sh pp mm Q ↔ zS 253 0 [zR s3, zL s2, zU, zI s1, zI s0, zU, zU, zU] [] sh pp mm (fun v sh pp mm => zS 254 139 [zR a0, zU, zU, zU, zU] (zPush v []) sh pp mm Q) := s_call cM_digest_136 cM_digest_139 ((if_pos hk).trans rfl) rfl
theorem rM_digest_139 {a0 : Nat} {s0 : Int} {u1 u2 u3 u4 : zV} : zS 254 139 [zR a0, u1, u2, u3, u4] [zL s0] sh pp mm Q ↔ zS 254 140 [zR a0, zL s0, zU, zU, zU] [] sh pp mm Q := s_go cM_digest_139 cM_digest_140 rfl rfl
theorem rM_digest_140 {a0 : Nat} {a1 : Int} {u2 u3 u4 : zV} : zS 254 140 [zR a0, zL a1, u2, u3, u4] [] sh pp mm Q ↔ zS 254 141 [zR a0, zL a1, zU, zU, zU] [zR a0] sh pp mm Q := s_go cM_digest_140 cM_digest_141 rfl rfl
theorem rM_digest_141 {a0 s0 : Nat} {a1 : Int} {u2 u3 u4 : zV} : zS 254 141 [zR a0, zL a1, u2, u3, u4] [zR s0] sh pp mm Q ↔ zS 254 142 [zR a0, zU, zU, zU, zU] [zL a1, zR s0] sh pp mm Q := s_go cM_digest_141 cM_digest_142 rfl rfl
theorem rM_digest_142 {a0 s1 : Nat} {s0 : Int} {u1 u2 u3 u4 : zV} : zS 254 142 [zR a0, u1, u2, u3, u4] [zL s0, zR s1] sh pp mm Q ↔ zS 254 145 [zR a0, zU, zU, zU, zU] [zI 957, zL s0, zR s1] sh pp mm Q := s_go cM_digest_142 cM_digest_145 rfl rfl
theorem rM_digest_145 {a0 s2 : Nat} {s0 s1 : Int} {u1 u2 u3 u4 : zV} : zS 254 145 [zR a0, u1, u2, u3, u4] [zI s0, zL s1, zR s2] sh pp mm Q ↔ zS 254 146 [zR a0, zU, zU, zU, zU] [zI 3, zI s0, zL s1, zR s2] sh pp mm Q := s_go cM_digest_145 cM_digest_146 rfl rfl
theorem rM_digest_146 {a0 s3 : Nat} {s0 s1 s2 : Int} {u1 u2 u3 u4 : zV} : zS 254 146 [zR a0, u1, u2, u3, u4] [zI s0, zI s1, zL s2, zR s3] sh pp mm Q ↔ zS 254 147 [zR a0, zU, zU, zU, zU] [zR a0, zI s0, zI s1, zL s2, zR s3] sh pp mm Q := s_go cM_digest_146 cM_digest_147 rfl rfl
theorem rM_digest_147 {a0 s0 s4 : Nat} {s1 s2 s3 : Int} {u1 u2 u3 u4 : zV} : zS 254 147 [zR a0, u1, u2, u3, u4] [zR s0, zI s1, zI s2, zL s3, zR s4] sh pp mm Q ↔ zS 254 148 [zR a0, zU, zU, zU, zU] [zI 3, zR s0, zI s1, zI s2, zL s3, zR s4] sh pp mm Q := s_go cM_digest_147 cM_digest_148 rfl rfl
theorem rM_digest_148 {a0 s1 s5 : Nat} {s0 s2 s3 s4 : Int} {u1 u2 u3 u4 : zV} (hk : zKd sh s1 = 12) : zS 254 148 [zR a0, u1, u2, u3, u4] [zI s0, zR s1, zI s2, zI s3, zL s4, zR s5] sh pp mm Q ↔ zS 169 0 [zR s1, zI s0] [] sh pp mm (fun v sh pp mm => zS 254 151 [zR a0, zU, zU, zU, zU] (zPush v [zI s2, zI s3, zL s4, zR s5]) sh pp mm Q) := s_call cM_digest_148 cM_digest_151 ((if_pos hk).trans rfl) rfl
theorem rM_digest_151 {a0 s4 : Nat} {s0 s1 s2 s3 : Int} {u1 u2 u3 u4 : zV} : zS 254 151 [zR a0, u1, u2, u3, u4] [zI s0, zI s1, zI s2, zL s3, zR s4] sh pp mm Q ↔ zS 254 152 [zR a0, zU, zU, zU, zU] [zI (zw32 (s1 * s0)), zI s2, zL s3, zR s4] sh pp mm Q := s_go cM_digest_151 cM_digest_152 rfl rfl
theorem rM_digest_152 {a0 s3 : Nat} {s0 s1 s2 : Int} {u1 u2 u3 u4 : zV} (hk : zKd sh s3 = 12) : zS 254 152 [zR a0, u1, u2, u3, u4] [zI s0, zI s1, zL s2, zR s3] sh pp mm Q ↔ zS 253 0 [zR s3, zL s2, zU, zI s1, zI s0, zU, zU, zU] [] sh pp mm (fun v sh pp mm => zS 254 155 [zR a0, zU, zU, zU, zU] (zPush v []) sh pp mm Q) := s_call cM_digest_152 cM_digest_155 ((if_pos hk).trans rfl) rfl
theorem rM_digest_155 {a0 : Nat} {s0 : Int} {u1 u2 u3 u4 : zV} : zS 254 155 [zR a0, u1, u2, u3, u4] [zL s0] sh pp mm Q ↔ zS 254 156 [zR a0, zL s0, zU, zU, zU] [] sh pp mm Q := s_go cM_digest_155 cM_digest_156 rfl rfl
theorem rM_digest_156 {a0 : Nat} {a1 : Int} {u2 u3 u4 : zV} : zS 254 156 [zR a0, zL a1, u2, u3, u4] [] sh pp mm Q ↔ zS 254 159 [zR a0, zL a1, zU, zU, zU] [zL 31] sh pp mm Q := s_go cM_digest_156 cM_digest_159 rfl rfl
theorem rM_digest_159 {a0 : Nat} {a1 s0 : Int} {u2 u3 u4 : zV} : zS 254 159 [zR a0, zL a1, u2, u3, u4] [zL s0] sh pp mm Q ↔ zS 254 162 [zR a0, zL a1, zU, zU, zU] [zL 31, zL s0] sh pp mm Q := s_go cM_digest_159 cM_digest_162 rfl rfl
theorem rM_digest_162 {a0 : Nat} {a1 s0 s1 : Int} {u2 u3 u4 : zV} : zS 254 162 [zR a0, zL a1, u2, u3, u4] [zL s0, zL s1] sh pp mm Q ↔ zS 254 165 [zR a0, zL a1, zU, zU, zU] [zL 31, zL s0, zL s1] sh pp mm Q := s_go cM_digest_162 cM_digest_165 rfl rfl
theorem rM_digest_165 {a0 : Nat} {a1 s0 s1 s2 : Int} {u2 u3 u4 : zV} : zS 254 165 [zR a0, zL a1, u2, u3, u4] [zL s0, zL s1, zL s2] sh pp mm Q ↔ zS 254 166 [zR a0, zU, zU, zU, zU] [zL a1, zL s0, zL s1, zL s2] sh pp mm Q := s_go cM_digest_165 cM_digest_166 rfl rfl
theorem rM_digest_166 {a0 : Nat} {s0 s1 s2 s3 : Int} {u1 u2 u3 u4 : zV} : zS 254 166 [zR a0, u1, u2, u3, u4] [zL s0, zL s1, zL s2, zL s3] sh pp mm Q ↔ zS 254 167 [zR a0, zU, zU, zU, zU] [zL (zw64 (s1 * s0)), zL s2, zL s3] sh pp mm Q := s_go cM_digest_166 cM_digest_167 rfl rfl
theorem rM_digest_167 {a0 : Nat} {s0 s1 s2 : Int} {u1 u2 u3 u4 : zV} : zS 254 167 [zR a0, u1, u2, u3, u4] [zL s0, zL s1, zL s2] sh pp mm Q ↔ zS 254 168 [zR a0, zU, zU, zU, zU] [zR a0, zL s0, zL s1, zL s2] sh pp mm Q := s_go cM_digest_167 cM_digest_168 rfl rfl
theorem rM_digest_168 {a0 s0 : Nat} {s1 s2 s3 : Int} {u1 u2 u3 u4 : zV} (hk : zKd sh s0 = 12) : zS 254 168 [zR a0, u1, u2, u3, u4] [zR s0, zL s1, zL s2, zL s3] sh pp mm Q ↔ zS 254 171 [zR a0, zU, zU, zU, zU] [zI (mm s0 6), zL s1, zL s2, zL s3] sh pp mm Q := s_go cM_digest_168 cM_digest_171 (if_pos hk) rfl
theorem rM_digest_171 {a0 : Nat} {s0 s1 s2 s3 : Int} {u1 u2 u3 u4 : zV} : zS 254 171 [zR a0, u1, u2, u3, u4] [zI s0, zL s1, zL s2, zL s3] sh pp mm Q ↔ zS 254 172 [zR a0, zU, zU, zU, zU] [zL s0, zL s1, zL s2, zL s3] sh pp mm Q := s_go cM_digest_171 cM_digest_172 rfl rfl
theorem rM_digest_172 {a0 : Nat} {s0 s1 s2 s3 : Int} {u1 u2 u3 u4 : zV} : zS 254 172 [zR a0, u1, u2, u3, u4] [zL s0, zL s1, zL s2, zL s3] sh pp mm Q ↔ zS 254 173 [zR a0, zU, zU, zU, zU] [zL (zw64 (s1 + s0)), zL s2, zL s3] sh pp mm Q := s_go cM_digest_172 cM_digest_173 rfl rfl
theorem rM_digest_173 {a0 : Nat} {s0 s1 s2 : Int} {u1 u2 u3 u4 : zV} : zS 254 173 [zR a0, u1, u2, u3, u4] [zL s0, zL s1, zL s2] sh pp mm Q ↔ zS 254 174 [zR a0, zU, zU, zU, zU] [zL (zw64 (s1 * s0)), zL s2] sh pp mm Q := s_go cM_digest_173 cM_digest_174 rfl rfl
theorem rM_digest_174 {a0 : Nat} {s0 s1 : Int} {u1 u2 u3 u4 : zV} : zS 254 174 [zR a0, u1, u2, u3, u4] [zL s0, zL s1] sh pp mm Q ↔ zS 254 175 [zR a0, zU, zU, zU, zU] [zR a0, zL s0, zL s1] sh pp mm Q := s_go cM_digest_174 cM_digest_175 rfl rfl
theorem rM_digest_175 {a0 s0 : Nat} {s1 s2 : Int} {u1 u2 u3 u4 : zV} (hk : zKd sh s0 = 12) : zS 254 175 [zR a0, u1, u2, u3, u4] [zR s0, zL s1, zL s2] sh pp mm Q ↔ zS 254 178 [zR a0, zU, zU, zU, zU] [zR (pp s0 5), zL s1, zL s2] sh pp mm Q := s_go cM_digest_175 cM_digest_178 (if_pos hk) rfl
theorem rM_digest_178 {a0 s0 : Nat} {s1 s2 : Int} {u1 u2 u3 u4 : zV} : zS 254 178 [zR a0, u1, u2, u3, u4] [zR s0, zL s1, zL s2] sh pp mm Q ↔ zS 254 179 [zR a0, zU, zU, zU, zU] [zI 0, zR s0, zL s1, zL s2] sh pp mm Q := s_go cM_digest_178 cM_digest_179 rfl rfl
theorem rM_digest_179 {a0 s1 : Nat} {s0 s2 s3 : Int} {u1 u2 u3 u4 : zV} (hk : zKd sh s1 = 20 ∨ zKd sh s1 = 30) (h0 : 0 ≤ s0) (h1 : s0 < zLn sh s1) : zS 254 179 [zR a0, u1, u2, u3, u4] [zI s0, zR s1, zL s2, zL s3] sh pp mm Q ↔ zS 254 180 [zR a0, zU, zU, zU, zU] [zI (mm s1 s0), zL s2, zL s3] sh pp mm Q := s_go cM_digest_179 cM_digest_180 (if_pos ⟨hk, h0, h1⟩) rfl
theorem rM_digest_180 {a0 : Nat} {s0 s1 s2 : Int} {u1 u2 u3 u4 : zV} : zS 254 180 [zR a0, u1, u2, u3, u4] [zI s0, zL s1, zL s2] sh pp mm Q ↔ zS 254 181 [zR a0, zU, zU, zU, zU] [zL s0, zL s1, zL s2] sh pp mm Q := s_go cM_digest_180 cM_digest_181 rfl rfl
theorem rM_digest_181 {a0 : Nat} {s0 s1 s2 : Int} {u1 u2 u3 u4 : zV} : zS 254 181 [zR a0, u1, u2, u3, u4] [zL s0, zL s1, zL s2] sh pp mm Q ↔ zS 254 182 [zR a0, zU, zU, zU, zU] [zL (zw64 (s1 + s0)), zL s2] sh pp mm Q := s_go cM_digest_181 cM_digest_182 rfl rfl
theorem rM_digest_182 {a0 : Nat} {s0 s1 : Int} {u1 u2 u3 u4 : zV} : zS 254 182 [zR a0, u1, u2, u3, u4] [zL s0, zL s1] sh pp mm Q ↔ zS 254 183 [zR a0, zU, zU, zU, zU] [zL (zw64 (s1 * s0))] sh pp mm Q := s_go cM_digest_182 cM_digest_183 rfl rfl
theorem rM_digest_183 {a0 : Nat} {s0 : Int} {u1 u2 u3 u4 : zV} : zS 254 183 [zR a0, u1, u2, u3, u4] [zL s0] sh pp mm Q ↔ zS 254 184 [zR a0, zU, zU, zU, zU] [zR a0, zL s0] sh pp mm Q := s_go cM_digest_183 cM_digest_184 rfl rfl
theorem rM_digest_184 {a0 s0 : Nat} {s1 : Int} {u1 u2 u3 u4 : zV} (hk : zKd sh s0 = 12) : zS 254 184 [zR a0, u1, u2, u3, u4] [zR s0, zL s1] sh pp mm Q ↔ zS 254 187 [zR a0, zU, zU, zU, zU] [zR (pp s0 5), zL s1] sh pp mm Q := s_go cM_digest_184 cM_digest_187 (if_pos hk) rfl
theorem rM_digest_187 {a0 s0 : Nat} {s1 : Int} {u1 u2 u3 u4 : zV} : zS 254 187 [zR a0, u1, u2, u3, u4] [zR s0, zL s1] sh pp mm Q ↔ zS 254 188 [zR a0, zU, zU, zU, zU] [zI 1, zR s0, zL s1] sh pp mm Q := s_go cM_digest_187 cM_digest_188 rfl rfl
theorem rM_digest_188 {a0 s1 : Nat} {s0 s2 : Int} {u1 u2 u3 u4 : zV} (hk : zKd sh s1 = 20 ∨ zKd sh s1 = 30) (h0 : 0 ≤ s0) (h1 : s0 < zLn sh s1) : zS 254 188 [zR a0, u1, u2, u3, u4] [zI s0, zR s1, zL s2] sh pp mm Q ↔ zS 254 189 [zR a0, zU, zU, zU, zU] [zI (mm s1 s0), zL s2] sh pp mm Q := s_go cM_digest_188 cM_digest_189 (if_pos ⟨hk, h0, h1⟩) rfl
theorem rM_digest_189 {a0 : Nat} {s0 s1 : Int} {u1 u2 u3 u4 : zV} : zS 254 189 [zR a0, u1, u2, u3, u4] [zI s0, zL s1] sh pp mm Q ↔ zS 254 190 [zR a0, zU, zU, zU, zU] [zL s0, zL s1] sh pp mm Q := s_go cM_digest_189 cM_digest_190 rfl rfl
theorem rM_digest_190 {a0 : Nat} {s0 s1 : Int} {u1 u2 u3 u4 : zV} : zS 254 190 [zR a0, u1, u2, u3, u4] [zL s0, zL s1] sh pp mm Q ↔ zS 254 191 [zR a0, zU, zU, zU, zU] [zL (zw64 (s1 + s0))] sh pp mm Q := s_go cM_digest_190 cM_digest_191 rfl rfl
theorem rM_digest_191 {a0 : Nat} {s0 : Int} {u1 u2 u3 u4 : zV} : zS 254 191 [zR a0, u1, u2, u3, u4] [zL s0] sh pp mm Q ↔ zS 254 192 [zR a0, zL s0, zU, zU, zU] [] sh pp mm Q := s_go cM_digest_191 cM_digest_192 rfl rfl
theorem rM_digest_192 {a0 : Nat} {a1 : Int} {u2 u3 u4 : zV} : zS 254 192 [zR a0, zL a1, u2, u3, u4] [] sh pp mm Q ↔ zS 254 193 [zR a0, zL a1, zU, zU, zU] [zI 0] sh pp mm Q := s_go cM_digest_192 cM_digest_193 rfl rfl
theorem rM_digest_193 {a0 : Nat} {a1 s0 : Int} {u2 u3 u4 : zV} : zS 254 193 [zR a0, zL a1, u2, u3, u4] [zI s0] sh pp mm Q ↔ zS 254 194 [zR a0, zL a1, zU, zI s0, zU] [] sh pp mm Q := s_go cM_digest_193 cM_digest_194 rfl rfl
theorem rM_digest_194 {a0 : Nat} {a1 a3 : Int} {u2 u4 : zV} : zS 254 194 [zR a0, zL a1, u2, zI a3, u4] [] sh pp mm Q ↔ zS 254 195 [zR a0, zL a1, zU, zI a3, zU] [zI a3] sh pp mm Q := s_go cM_digest_194 cM_digest_195 rfl rfl
theorem rM_digest_195 {a0 : Nat} {a1 a3 s0 : Int} {u2 u4 : zV} : zS 254 195 [zR a0, zL a1, u2, zI a3, u4] [zI s0] sh pp mm Q ↔ zS 254 196 [zR a0, zL a1, zU, zI a3, zU] [zI 1, zI s0] sh pp mm Q := s_go cM_digest_195 cM_digest_196 rfl rfl
theorem rM_digest_196 {a0 : Nat} {a1 a3 s0 s1 : Int} {u2 u4 : zV} : zS 254 196 [zR a0, zL a1, u2, zI a3, u4] [zI s0, zI s1] sh pp mm Q ↔ (s0 < s1 → zS 254 244 [zU, zL a1, zU, zU, zU] [] sh pp mm Q) ∧ (¬ s0 < s1 → zS 254 199 [zR a0, zL a1, zU, zI a3, zU] [] sh pp mm Q) := s_if cM_digest_196 cM_digest_244 cM_digest_199 rfl rfl rfl
theorem rM_digest_199 {a0 : Nat} {a1 a3 : Int} {u2 u4 : zV} : zS 254 199 [zR a0, zL a1, u2, zI a3, u4] [] sh pp mm Q ↔ zS 254 200 [zR a0, zL a1, zU, zI a3, zU] [zI 0] sh pp mm Q := s_go cM_digest_199 cM_digest_200 rfl rfl
theorem rM_digest_200 {a0 : Nat} {a1 a3 s0 : Int} {u2 u4 : zV} : zS 254 200 [zR a0, zL a1, u2, zI a3, u4] [zI s0] sh pp mm Q ↔ zS 254 202 [zR a0, zL a1, zU, zI a3, zI s0] [] sh pp mm Q := s_go cM_digest_200 cM_digest_202 rfl rfl
theorem rM_digest_202 {a0 : Nat} {a1 a3 a4 : Int} {u2 : zV} : zS 254 202 [zR a0, zL a1, u2, zI a3, zI a4] [] sh pp mm Q ↔ zS 254 204 [zR a0, zL a1, zU, zI a3, zI a4] [zI a4] sh pp mm Q := s_go cM_digest_202 cM_digest_204 rfl rfl
theorem rM_digest_204 {a0 : Nat} {a1 a3 a4 s0 : Int} {u2 : zV} : zS 254 204 [zR a0, zL a1, u2, zI a3, zI a4] [zI s0] sh pp mm Q ↔ zS 254 205 [zR a0, zL a1, zU, zI a3, zI a4] [zR a0, zI s0] sh pp mm Q := s_go cM_digest_204 cM_digest_205 rfl rfl
theorem rM_digest_205 {a0 s0 : Nat} {a1 a3 a4 s1 : Int} {u2 : zV} (hk : zKd sh s0 = 12) : zS 254 205 [zR a0, zL a1, u2, zI a3, zI a4] [zR s0, zI s1] sh pp mm Q ↔ zS 254 208 [zR a0, zL a1, zU, zI a3, zI a4] [zR (pp s0 5), zI s1] sh pp mm Q := s_go cM_digest_205 cM_digest_208 (if_pos hk) rfl
theorem rM_digest_208 {a0 s0 : Nat} {a1 a3 a4 s1 : Int} {u2 : zV} : zS 254 208 [zR a0, zL a1, u2, zI a3, zI a4] [zR s0, zI s1] sh pp mm Q ↔ zS 254 209 [zR a0, zL a1, zU, zI a3, zI a4] [zI a3, zR s0, zI s1] sh pp mm Q := s_go cM_digest_208 cM_digest_209 rfl rfl
theorem rM_digest_209 {a0 s1 : Nat} {a1 a3 a4 s0 s2 : Int} {u2 : zV} (hk : zKd sh s1 = 20 ∨ zKd sh s1 = 30) (h0 : 0 ≤ s0) (h1 : s0 < zLn sh s1) : zS 254 209 [zR a0, zL a1, u2, zI a3, zI a4] [zI s0, zR s1, zI s2] sh pp mm Q ↔ zS 254 210 [zR a0, zL a1, zU, zI a3, zI a4] [zI (mm s1 s0), zI s2] sh pp mm Q := s_go cM_digest_209 cM_digest_210 (if_pos ⟨hk, h0, h1⟩) rfl
theorem rM_digest_210 {a0 : Nat} {a1 a3 a4 s0 s1 : Int} {u2 : zV} : zS 254 210 [zR a0, zL a1, u2, zI a3, zI a4] [zI s0, zI s1] sh pp mm Q ↔ (s1 < s0 → zS 254 213 [zR a0, zL a1, zU, zI a3, zI a4] [] sh pp mm Q) ∧ (¬ s1 < s0 → zS 254 238 [zR a0, zL a1, zU, zI a3, zU] [] sh pp mm Q) := s_ifn cM_digest_210 cM_digest_213 cM_digest_238 rfl rfl rfl
theorem rM_digest_213 {a0 : Nat} {a1 a3 a4 : Int} {u2 : zV} : zS 254 213 [zR a0, zL a1, u2, zI a3, zI a4] [] sh pp mm Q ↔ zS 254 216 [zR a0, zL a1, zU, zI a3, zI a4] [zL 31] sh pp mm Q := s_go cM_digest_213 cM_digest_216 rfl rfl
theorem rM_digest_216 {a0 : Nat} {a1 a3 a4 s0 : Int} {u2 : zV} : zS 254 216 [zR a0, zL a1, u2, zI a3, zI a4] [zL s0] sh pp mm Q ↔ zS 254 217 [zR a0, zU, zU, zI a3, zI a4] [zL a1, zL s0] sh pp mm Q := s_go cM_digest_216 cM_digest_217 rfl rfl
theorem rM_digest_217 {a0 : Nat} {a3 a4 s0 s1 : Int} {u1 u2 : zV} : zS 254 217 [zR a0, u1, u2, zI a3, zI a4] [zL s0, zL s1] sh pp mm Q ↔ zS 254 218 [zR a0, zU, zU, zI a3, zI a4] [zL (zw64 (s1 * s0))] sh pp mm Q := s_go cM_digest_217 cM_digest_218 rfl rfl
theorem rM_digest_218 {a0 : Nat} {a3 a4 s0 : Int} {u1 u2 : zV} : zS 254 218 [zR a0, u1, u2, zI a3, zI a4] [zL s0] sh pp mm Q ↔ zS 254 219 [zR a0, zU, zU, zI a3, zI a4] [zR a0, zL s0] sh pp mm Q := s_go cM_digest_218 cM_digest_219 rfl rfl
theorem rM_digest_219 {a0 s0 : Nat} {a3 a4 s1 : Int} {u1 u2 : zV} (hk : zKd sh s0 = 12) : zS 254 219 [zR a0, u1, u2, zI a3, zI a4] [zR s0, zL s1] sh pp mm Q ↔ zS 254 222 [zR a0, zU, zU, zI a3, zI a4] [zR (pp s0 4), zL s1] sh pp mm Q := s_go cM_digest_219 cM_digest_222 (if_pos hk) rfl
theorem rM_digest_222 {a0 s0 : Nat} {a3 a4 s1 : Int} {u1 u2 : zV} : zS 254 222 [zR a0, u1, u2, zI a3, zI a4] [zR s0, zL s1] sh pp mm Q ↔ zS 254 224 [zR a0, zU, zU, zI a3, zI a4] [zI 64, zR s0, zL s1] sh pp mm Q := s_go cM_digest_222 cM_digest_224 rfl rfl
theorem rM_digest_224 {a0 s1 : Nat} {a3 a4 s0 s2 : Int} {u1 u2 : zV} : zS 254 224 [zR a0, u1, u2, zI a3, zI a4] [zI s0, zR s1, zL s2] sh pp mm Q ↔ zS 254 225 [zR a0, zU, zU, zI a3, zI a4] [zI a3, zI s0, zR s1, zL s2] sh pp mm Q := s_go cM_digest_224 cM_digest_225 rfl rfl
theorem rM_digest_225 {a0 s2 : Nat} {a3 a4 s0 s1 s3 : Int} {u1 u2 : zV} : zS 254 225 [zR a0, u1, u2, zI a3, zI a4] [zI s0, zI s1, zR s2, zL s3] sh pp mm Q ↔ zS 254 226 [zR a0, zU, zU, zI a3, zI a4] [zI (zw32 (s1 * s0)), zR s2, zL s3] sh pp mm Q := s_go cM_digest_225 cM_digest_226 rfl rfl
theorem rM_digest_226 {a0 s1 : Nat} {a3 a4 s0 s2 : Int} {u1 u2 : zV} : zS 254 226 [zR a0, u1, u2, zI a3, zI a4] [zI s0, zR s1, zL s2] sh pp mm Q ↔ zS 254 228 [zR a0, zU, zU, zI a3, zI a4] [zI a4, zI s0, zR s1, zL s2] sh pp mm Q := s_go cM_digest_226 cM_digest_228 rfl rfl
theorem rM_digest_228 {a0 s2 : Nat} {a3 a4 s0 s1 s3 : Int} {u1 u2 : zV} : zS 254 228 [zR a0, u1, u2, zI a3, zI a4] [zI s0, zI s1, zR s2, zL s3] sh pp mm Q ↔ zS 254 229 [zR a0, zU, zU, zI a3, zI a4] [zI (zw32 (s1 + s0)), zR s2, zL s3] sh pp mm Q := s_go cM_digest_228 cM_digest_229 rfl rfl
theorem rM_digest_229 {a0 s1 : Nat} {a3 a4 s0 s2 : Int} {u1 u2 : zV} (hk : zKd sh s1 = 21) (h0 : 0 ≤ s0) (h1 : s0 < zLn sh s1) : zS 254 229 [zR a0, u1, u2, zI a3, zI a4] [zI s0, zR s1, zL s2] sh pp mm Q ↔ zS 254 230 [zR a0, zU, zU, zI a3, zI a4] [zL (mm s1 s0), zL s2] sh pp mm Q := s_go cM_digest_229 cM_digest_230 (if_pos ⟨hk, h0, h1⟩) rfl
theorem rM_digest_230 {a0 : Nat} {a3 a4 s0 s1 : Int} {u1 u2 : zV} : zS 254 230 [zR a0, u1, u2, zI a3, zI a4] [zL s0, zL s1] sh pp mm Q ↔ zS 254 231 [zR a0, zU, zU, zI a3, zI a4] [zL (zw64 (s1 + s0))] sh pp mm Q := s_go cM_digest_230 cM_digest_231 rfl rfl
theorem rM_digest_231 {a0 : Nat} {a3 a4 s0 : Int} {u1 u2 : zV} : zS 254 231 [zR a0, u1, u2, zI a3, zI a4] [zL s0] sh pp mm Q ↔ zS 254 232 [zR a0, zL s0, zU, zI a3, zI a4] [] sh pp mm Q := s_go cM_digest_231 cM_digest_232 rfl rfl
theorem rM_digest_232 {a0 : Nat} {a1 a3 a4 : Int} {u2 : zV} : zS 254 232 [zR a0, zL a1, u2, zI a3, zI a4] [] sh pp mm Q ↔ zS 254 235 [zR a0, zL a1, zU, zI a3, zI (zw32 (a4 + 1))] [] sh pp mm Q := s_go cM_digest_232 cM_digest_235 rfl rfl
theorem rM_digest_235 {a0 : Nat} {a1 a3 a4 : Int} {u2 : zV} : zS 254 235 [zR a0, zL a1, u2, zI a3, zI a4] [] sh pp mm Q ↔ zS 254 202 [zR a0, zL a1, zU, zI a3, zI a4] [] sh pp mm Q := s_go cM_digest_235 cM_digest_202 rfl rfl
theorem rM_digest_238 {a0 : Nat} {a1 a3 : Int} {u2 u4 : zV} : zS 254 238 [zR a0, zL a1, u2, zI a3, u4] [] sh pp mm Q ↔ zS 254 241 [zR a0, zL a1, zU, zI (zw32 (a3 + 1)), zU] [] sh pp mm Q := s_go cM_digest_238 cM_digest_241 rfl rfl
theorem rM_digest_241 {a0 : Nat} {a1 a3 : Int} {u2 u4 : zV} : zS 254 241 [zR a0, zL a1, u2, zI a3, u4] [] sh pp mm Q ↔ zS 254 194 [zR a0, zL a1, zU, zI a3, zU] [] sh pp mm Q := s_go cM_digest_241 cM_digest_194 rfl rfl
theorem rM_digest_244 {a1 : Int} {u0 u2 u3 u4 : zV} : zS 254 244 [u0, zL a1, u2, u3, u4] [] sh pp mm Q ↔ zS 254 245 [zU, zU, zU, zU, zU] [zL a1] sh pp mm Q := s_go cM_digest_244 cM_digest_245 rfl rfl
theorem rM_digest_245 {s0 : Int} {u0 u1 u2 u3 u4 : zV} : zS 254 245 [u0, u1, u2, u3, u4] [zL s0] sh pp mm Q ↔ Q (zL s0) sh pp mm := s_ret cM_digest_245 rfl
end
