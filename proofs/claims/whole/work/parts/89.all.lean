/-! PURE PART: every call. -/
theorem zst_all : zStep Rl := by
  unfold zStep
  exact ⟨st_person, st_thing, st_lie, st_tells, st_of, st_row, st_feed, st_evening, st_told, st_doubt, st_round, st_guess, st_hands, st_order, st_likely, st_best, st_first, st_line, st_worth, st_see, st_lies, st_ends, st_odds, st_mean, st_book, st_looked, st_judge, st_image, st_undo, st_act, st_trace, st_taken, st_count, st_tape, st_item, st_read, st_shift⟩
