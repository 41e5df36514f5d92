theorem readBody_b (x : SR) : (pX0_readBody x).1 = 0 ∨ (pX0_readBody x).1 = 1 := by
  rw [pX0_readBody]
  by_cases d_1 : (x.1 2) = 99
  · rw [if_pos d_1]
    dsimp only; first | with_reducible exact readNumber_b _ _ | with_reducible exact Or.inl rfl | with_reducible exact Or.inr rfl
  · rw [if_neg d_1]
    by_cases d_2 : (x.1 2) = 107
    · rw [if_pos d_2]
      dsimp only; first | with_reducible exact readNumber_b _ _ | with_reducible exact Or.inl rfl | with_reducible exact Or.inr rfl
    · rw [if_neg d_2]
      by_cases d_3 : (x.1 2) = 112
      · rw [if_pos d_3]
        by_cases d_4 : ((pX0_readNumber 99 (pS x 1 ((x.1 1) + 1))).1) = 0
        · rw [if_pos d_4]
          dsimp only; first | with_reducible exact readNumber_b _ _ | with_reducible exact Or.inl rfl | with_reducible exact Or.inr rfl
        · rw [if_neg d_4]
          by_cases d_5 : ((pX0_skip 99 (pX0_readNumber 99 (pS x 1 ((x.1 1) + 1))).2).1) = 0
          · rw [if_pos d_5]
            dsimp only; first | with_reducible exact readNumber_b _ _ | with_reducible exact Or.inl rfl | with_reducible exact Or.inr rfl
          · rw [if_neg d_5]
            dsimp only; first | with_reducible exact readNumber_b _ _ | with_reducible exact Or.inl rfl | with_reducible exact Or.inr rfl
      · rw [if_neg d_3]
        by_cases d_6 : (x.1 2) = 114
        · rw [if_pos d_6]
          by_cases d_7 : ((pX0_skip 45 (pS x 1 ((x.1 1) + 1))).1) = 0
          · rw [if_pos d_7]
            by_cases d_8 : ((pX0_readHours (pX0_skip 45 (pS x 1 ((x.1 1) + 1))).2).1) = 0
            · rw [if_pos d_8]
              dsimp only; first | with_reducible exact readNumber_b _ _ | with_reducible exact Or.inl rfl | with_reducible exact Or.inr rfl
            · rw [if_neg d_8]
              dsimp only; first | with_reducible exact readNumber_b _ _ | with_reducible exact Or.inl rfl | with_reducible exact Or.inr rfl
          · rw [if_neg d_7]
            dsimp only; first | with_reducible exact readNumber_b _ _ | with_reducible exact Or.inl rfl | with_reducible exact Or.inr rfl
        · rw [if_neg d_6]
          by_cases d_9 : (x.1 2) = 116
          · rw [if_pos d_9]
            dsimp only; first | with_reducible exact readNumber_b _ _ | with_reducible exact Or.inl rfl | with_reducible exact Or.inr rfl
          · rw [if_neg d_9]
            dsimp only; first | with_reducible exact readNumber_b _ _ | with_reducible exact Or.inl rfl | with_reducible exact Or.inr rfl
theorem readBody_t (x : SR) : (pX0_readBody x).2.2 = x.2 := by
  rw [pX0_readBody]
  by_cases d_10 : (x.1 2) = 99
  · rw [if_pos d_10]
    all_goals simp only [pS_2, skip_t, readNumber_t, readHours_t, readBody_t]
  · rw [if_neg d_10]
    by_cases d_11 : (x.1 2) = 107
    · rw [if_pos d_11]
      all_goals simp only [pS_2, skip_t, readNumber_t, readHours_t, readBody_t]
    · rw [if_neg d_11]
      by_cases d_12 : (x.1 2) = 112
      · rw [if_pos d_12]
        by_cases d_13 : ((pX0_readNumber 99 (pS x 1 ((x.1 1) + 1))).1) = 0
        · rw [if_pos d_13]
          all_goals simp only [pS_2, skip_t, readNumber_t, readHours_t, readBody_t]
        · rw [if_neg d_13]
          by_cases d_14 : ((pX0_skip 99 (pX0_readNumber 99 (pS x 1 ((x.1 1) + 1))).2).1) = 0
          · rw [if_pos d_14]
            all_goals simp only [pS_2, skip_t, readNumber_t, readHours_t, readBody_t]
          · rw [if_neg d_14]
            all_goals simp only [pS_2, skip_t, readNumber_t, readHours_t, readBody_t]
      · rw [if_neg d_12]
        by_cases d_15 : (x.1 2) = 114
        · rw [if_pos d_15]
          by_cases d_16 : ((pX0_skip 45 (pS x 1 ((x.1 1) + 1))).1) = 0
          · rw [if_pos d_16]
            by_cases d_17 : ((pX0_readHours (pX0_skip 45 (pS x 1 ((x.1 1) + 1))).2).1) = 0
            · rw [if_pos d_17]
              all_goals simp only [pS_2, skip_t, readNumber_t, readHours_t, readBody_t]
            · rw [if_neg d_17]
              all_goals simp only [pS_2, skip_t, readNumber_t, readHours_t, readBody_t]
          · rw [if_neg d_16]
            all_goals simp only [pS_2, skip_t, readNumber_t, readHours_t, readBody_t]
        · rw [if_neg d_15]
          by_cases d_18 : (x.1 2) = 116
          · rw [if_pos d_18]
            all_goals simp only [pS_2, skip_t, readNumber_t, readHours_t, readBody_t]
          · rw [if_neg d_18]
            all_goals simp only [pS_2, skip_t, readNumber_t, readHours_t, readBody_t]
