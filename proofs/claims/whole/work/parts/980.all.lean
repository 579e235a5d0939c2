/-! all calls -/
theorem obl_all : Obl Iv := ⟨o_set, o_road, o_person, o_told, o_feed, o_force, o_pays, o_trade, o_round, o_run, o_all, o_soon, o_gift, o_missed, o_walk, o_tells, o_film, o_drawn, o_chance, o_image, o_back, o_count, o_sheet, o_cell, o_copy, o_people, o_taken, o_text, o_idle⟩
theorem obl_start : ob_init Iv := o_init
