theorem ggX0_control_X0_hasMoreThan16Bits : GoodIn wsX0_control wsX0_hasMoreThan16Bits := goodIn_sub (fun _ h => List.mem_append_right _ (List.mem_append_right _ (List.mem_append_right _ h))) al_wsX0_hasMoreThan16Bits
set_option maxRecDepth 20000 in
theorem gX0_control_X0_hasMoreThan16Bits : GoodIn wsX0_control (va_wsS RX0 21 yX0_hasMoreThan16Bits wsX0_hasMoreThan16Bits) := goodIn_app (goodIn_of _ (by decide +kernel)) ggX0_control_X0_hasMoreThan16Bits
theorem ggL_control_X0_control : GoodIn wsL_control wsX0_control := goodIn_sub (fun _ h => List.mem_append_right _ h) al_wsX0_control
set_option maxRecDepth 20000 in
theorem gL_control_X0_control : GoodIn wsL_control (wsV RL 7 RX0 yX0_control wsX0_control) := goodIn_app (goodIn_of _ (by decide +kernel)) ggL_control_X0_control
theorem ggX0_set_X0_isNoRegister : GoodIn wsX0_set wsX0_isNoRegister := goodIn_sub (fun _ h => List.mem_append_right _ (List.mem_append_right _ (List.mem_append_right _ (List.mem_append_right _ (List.mem_append_left _ h))))) al_wsX0_isNoRegister
set_option maxRecDepth 20000 in
theorem gX0_set_X0_isNoRegister : GoodIn wsX0_set (va_wsS RX0 32 yX0_isNoRegister wsX0_isNoRegister) := goodIn_app (goodIn_of _ (by decide +kernel)) ggX0_set_X0_isNoRegister
theorem ggX0_set_X0_hasMoreThan16Bits : GoodIn wsX0_set wsX0_hasMoreThan16Bits := goodIn_sub (fun _ h => List.mem_append_right _ (List.mem_append_right _ (List.mem_append_right _ (List.mem_append_right _ (List.mem_append_right _ (List.mem_append_left _ h)))))) al_wsX0_hasMoreThan16Bits
set_option maxRecDepth 20000 in
theorem gX0_set_X0_hasMoreThan16Bits : GoodIn wsX0_set (va_wsS RX0 21 yX0_hasMoreThan16Bits wsX0_hasMoreThan16Bits) := goodIn_app (goodIn_of _ (by decide +kernel)) ggX0_set_X0_hasMoreThan16Bits
theorem ggX0_set_X0_join : GoodIn wsX0_set wsX0_join := goodIn_sub (fun _ h => List.mem_append_right _ (List.mem_append_right _ (List.mem_append_right _ (List.mem_append_right _ (List.mem_append_right _ (List.mem_append_right _ h)))))) al_wsX0_join
set_option maxRecDepth 20000 in
theorem gX0_set_X0_join : GoodIn wsX0_set (va_wsS RX0 42 yX0_join wsX0_join) := goodIn_app (goodIn_of _ (by decide +kernel)) ggX0_set_X0_join
theorem ggL_set_X0_set : GoodIn wsL_set wsX0_set := goodIn_sub (fun _ h => List.mem_append_right _ h) al_wsX0_set
set_option maxRecDepth 20000 in
theorem gL_set_X0_set : GoodIn wsL_set (wsV RL 15 RX0 yX0_set wsX0_set) := goodIn_app (goodIn_of _ (by decide +kernel)) ggL_set_X0_set
theorem ggX0_kindOf_X0_powerOf : GoodIn wsX0_kindOf wsX0_powerOf := goodIn_sub (fun _ h => List.mem_append_right _ (List.mem_append_right _ h)) al_wsX0_powerOf
set_option maxRecDepth 20000 in
theorem gX0_kindOf_X0_powerOf : GoodIn wsX0_kindOf (wsV RX0 80 RX0 yX0_powerOf wsX0_powerOf) := goodIn_app (goodIn_of _ (by decide +kernel)) ggX0_kindOf_X0_powerOf
theorem ggJL_numberOfLeadingZeros_JI_numberOfLeadingZeros : GoodIn wsJL_numberOfLeadingZeros wsJI_numberOfLeadingZeros := goodIn_sub (fun _ h => List.mem_append_right _ h) al_wsJI_numberOfLeadingZeros
set_option maxRecDepth 20000 in
theorem gJL_numberOfLeadingZeros_JI_numberOfLeadingZeros : GoodIn wsJL_numberOfLeadingZeros (va_wsS RJL 308 yJI_numberOfLeadingZeros wsJI_numberOfLeadingZeros) := goodIn_app (goodIn_of _ (by decide +kernel)) ggJL_numberOfLeadingZeros_JI_numberOfLeadingZeros
theorem ggX0_part_X0_isNoRegister : GoodIn wsX0_part wsX0_isNoRegister := goodIn_sub (fun _ h => List.mem_append_right _ (List.mem_append_right _ (List.mem_append_right _ (List.mem_append_right _ (List.mem_append_left _ h))))) al_wsX0_isNoRegister
set_option maxRecDepth 20000 in
theorem gX0_part_X0_isNoRegister : GoodIn wsX0_part (va_wsS RX0 32 yX0_isNoRegister wsX0_isNoRegister) := goodIn_app (goodIn_of _ (by decide +kernel)) ggX0_part_X0_isNoRegister
theorem ggX0_part_X0_kindOf : GoodIn wsX0_part wsX0_kindOf := goodIn_sub (fun _ h => List.mem_append_right _ (List.mem_append_right _ (List.mem_append_right _ (List.mem_append_right _ (List.mem_append_right _ (List.mem_append_left _ h)))))) al_wsX0_kindOf
set_option maxRecDepth 20000 in
theorem gX0_part_X0_kindOf : GoodIn wsX0_part (wsV RX0 46 RX0 yX0_kindOf wsX0_kindOf) := goodIn_app (goodIn_of _ (by decide +kernel)) ggX0_part_X0_kindOf
theorem ggX0_part_JL_numberOfLeadingZeros : GoodIn wsX0_part wsJL_numberOfLeadingZeros := goodIn_sub (fun _ h => List.mem_append_right _ (List.mem_append_right _ (List.mem_append_right _ (List.mem_append_right _ (List.mem_append_right _ (List.mem_append_right _ h)))))) al_wsJL_numberOfLeadingZeros
set_option maxRecDepth 20000 in
theorem gX0_part_JL_numberOfLeadingZeros : GoodIn wsX0_part (va_wsS RX0 50 yJL_numberOfLeadingZeros wsJL_numberOfLeadingZeros) := goodIn_app (goodIn_of _ (by decide +kernel)) ggX0_part_JL_numberOfLeadingZeros
theorem ggL_part_X0_part : GoodIn wsL_part wsX0_part := goodIn_sub (fun _ h => List.mem_append_right _ h) al_wsX0_part
set_option maxRecDepth 20000 in
theorem gL_part_X0_part : GoodIn wsL_part (wsV RL 21 RX0 yX0_part wsX0_part) := goodIn_app (goodIn_of _ (by decide +kernel)) ggL_part_X0_part
theorem ggX0_goesAway_X0_rounding : GoodIn wsX0_goesAway wsX0_rounding := goodIn_sub (fun _ h => List.mem_append_right _ h) al_wsX0_rounding
set_option maxRecDepth 20000 in
theorem gX0_goesAway_X0_rounding : GoodIn wsX0_goesAway (wsV RX0 132 RX0 yX0_rounding wsX0_rounding) := goodIn_app (goodIn_of _ (by decide +kernel)) ggX0_goesAway_X0_rounding
theorem ggX0_takesAbove_X0_rounding : GoodIn wsX0_takesAbove wsX0_rounding := goodIn_sub (fun _ h => List.mem_append_right _ (List.mem_append_left _ h)) al_wsX0_rounding
set_option maxRecDepth 20000 in
theorem gX0_takesAbove_X0_rounding : GoodIn wsX0_takesAbove (wsV RX0 132 RX0 yX0_rounding wsX0_rounding) := goodIn_app (goodIn_of _ (by decide +kernel)) ggX0_takesAbove_X0_rounding
theorem ggX0_takesAbove_X0_goesAway : GoodIn wsX0_takesAbove wsX0_goesAway := goodIn_sub (fun _ h => List.mem_append_right _ (List.mem_append_right _ h)) al_wsX0_goesAway
set_option maxRecDepth 20000 in
theorem gX0_takesAbove_X0_goesAway : GoodIn wsX0_takesAbove (wsV RX0 136 RX0 yX0_goesAway wsX0_goesAway) := goodIn_app (goodIn_of _ (by decide +kernel)) ggX0_takesAbove_X0_goesAway
theorem ggX0_makeSmall_X0_digits : GoodIn wsX0_makeSmall wsX0_digits := goodIn_sub (fun _ h => List.mem_append_right _ (List.mem_append_left _ h)) al_wsX0_digits
set_option maxRecDepth 20000 in
theorem gX0_makeSmall_X0_digits : GoodIn wsX0_makeSmall (wsV RX0 149 RX0 yX0_digits wsX0_digits) := goodIn_app (goodIn_of _ (by decide +kernel)) ggX0_makeSmall_X0_digits
theorem ggX0_makeSmall_X0_wholePart : GoodIn wsX0_makeSmall wsX0_wholePart := goodIn_sub (fun _ h => List.mem_append_right _ (List.mem_append_right _ (List.mem_append_left _ h))) al_wsX0_wholePart
set_option maxRecDepth 20000 in
theorem gX0_makeSmall_X0_wholePart : GoodIn wsX0_makeSmall (va_wsS RX0 152 yX0_wholePart wsX0_wholePart) := goodIn_app (goodIn_of _ (by decide +kernel)) ggX0_makeSmall_X0_wholePart
theorem ggX0_makeSmall_X0_lostPart : GoodIn wsX0_makeSmall wsX0_lostPart := goodIn_sub (fun _ h => List.mem_append_right _ (List.mem_append_right _ (List.mem_append_right _ (List.mem_append_left _ h)))) al_wsX0_lostPart
set_option maxRecDepth 20000 in
theorem gX0_makeSmall_X0_lostPart : GoodIn wsX0_makeSmall (va_wsS RX0 156 yX0_lostPart wsX0_lostPart) := goodIn_app (goodIn_of _ (by decide +kernel)) ggX0_makeSmall_X0_lostPart
theorem ggX0_makeSmall_X0_takesAbove : GoodIn wsX0_makeSmall wsX0_takesAbove := goodIn_sub (fun _ h => List.mem_append_right _ (List.mem_append_right _ (List.mem_append_right _ (List.mem_append_right _ (List.mem_append_left _ h))))) al_wsX0_takesAbove
set_option maxRecDepth 20000 in
theorem gX0_makeSmall_X0_takesAbove : GoodIn wsX0_makeSmall (wsV RX0 159 RX0 yX0_takesAbove wsX0_takesAbove) := goodIn_app (goodIn_of _ (by decide +kernel)) ggX0_makeSmall_X0_takesAbove
theorem ggX0_makeSmall_X0_store : GoodIn wsX0_makeSmall wsX0_store := goodIn_sub (fun _ h => List.mem_append_right _ (List.mem_append_right _ (List.mem_append_right _ (List.mem_append_right _ (List.mem_append_right _ (List.mem_append_left _ h)))))) al_wsX0_store
set_option maxRecDepth 20000 in
theorem gX0_makeSmall_X0_store : GoodIn wsX0_makeSmall (wsV RX0 109 RX0 yX0_store wsX0_store) := goodIn_app (goodIn_of _ (by decide +kernel)) ggX0_makeSmall_X0_store
theorem ggX0_makeSmall_X0_changeOf : GoodIn wsX0_makeSmall wsX0_changeOf := goodIn_sub (fun _ h => List.mem_append_right _ (List.mem_append_right _ (List.mem_append_right _ (List.mem_append_right _ (List.mem_append_right _ (List.mem_append_right _ (List.mem_append_left _ h))))))) al_wsX0_changeOf
set_option maxRecDepth 20000 in
theorem gX0_makeSmall_X0_changeOf : GoodIn wsX0_makeSmall (va_wsS RX0 163 yX0_changeOf wsX0_changeOf) := goodIn_app (goodIn_of _ (by decide +kernel)) ggX0_makeSmall_X0_changeOf
theorem ggX0_makeSmall_X0_tell : GoodIn wsX0_makeSmall wsX0_tell := goodIn_sub (fun _ h => List.mem_append_right _ (List.mem_append_right _ (List.mem_append_right _ (List.mem_append_right _ (List.mem_append_right _ (List.mem_append_right _ (List.mem_append_right _ h))))))) al_wsX0_tell
set_option maxRecDepth 20000 in
theorem gX0_makeSmall_X0_tell : GoodIn wsX0_makeSmall (wsV RX0 76 RX0 yX0_tell wsX0_tell) := goodIn_app (goodIn_of _ (by decide +kernel)) ggX0_makeSmall_X0_tell
theorem ggX0_makeTooGreat_X0_rounding : GoodIn wsX0_makeTooGreat wsX0_rounding := goodIn_sub (fun _ h => List.mem_append_right _ (List.mem_append_left _ h)) al_wsX0_rounding
set_option maxRecDepth 20000 in
theorem gX0_makeTooGreat_X0_rounding : GoodIn wsX0_makeTooGreat (wsV RX0 132 RX0 yX0_rounding wsX0_rounding) := goodIn_app (goodIn_of _ (by decide +kernel)) ggX0_makeTooGreat_X0_rounding
theorem ggX0_makeTooGreat_X0_goesAway : GoodIn wsX0_makeTooGreat wsX0_goesAway := goodIn_sub (fun _ h => List.mem_append_right _ (List.mem_append_right _ (List.mem_append_left _ h))) al_wsX0_goesAway
set_option maxRecDepth 20000 in
theorem gX0_makeTooGreat_X0_goesAway : GoodIn wsX0_makeTooGreat (wsV RX0 136 RX0 yX0_goesAway wsX0_goesAway) := goodIn_app (goodIn_of _ (by decide +kernel)) ggX0_makeTooGreat_X0_goesAway
theorem ggX0_makeTooGreat_X0_store : GoodIn wsX0_makeTooGreat wsX0_store := goodIn_sub (fun _ h => List.mem_append_right _ (List.mem_append_right _ (List.mem_append_right _ (List.mem_append_left _ h)))) al_wsX0_store
set_option maxRecDepth 20000 in
theorem gX0_makeTooGreat_X0_store : GoodIn wsX0_makeTooGreat (wsV RX0 109 RX0 yX0_store wsX0_store) := goodIn_app (goodIn_of _ (by decide +kernel)) ggX0_makeTooGreat_X0_store
theorem ggX0_makeTooGreat_X0_tell : GoodIn wsX0_makeTooGreat wsX0_tell := goodIn_sub (fun _ h => List.mem_append_right _ (List.mem_append_right _ (List.mem_append_right _ (List.mem_append_right _ (List.mem_append_left _ h))))) al_wsX0_tell
set_option maxRecDepth 20000 in
theorem gX0_makeTooGreat_X0_tell : GoodIn wsX0_makeTooGreat (wsV RX0 76 RX0 yX0_tell wsX0_tell) := goodIn_app (goodIn_of _ (by decide +kernel)) ggX0_makeTooGreat_X0_tell
theorem ggX0_makeTooGreat_X0_digits : GoodIn wsX0_makeTooGreat wsX0_digits := goodIn_sub (fun _ h => List.mem_append_right _ (List.mem_append_right _ (List.mem_append_right _ (List.mem_append_right _ (List.mem_append_right _ h))))) al_wsX0_digits
set_option maxRecDepth 20000 in
theorem gX0_makeTooGreat_X0_digits : GoodIn wsX0_makeTooGreat (wsV RX0 149 RX0 yX0_digits wsX0_digits) := goodIn_app (goodIn_of _ (by decide +kernel)) ggX0_makeTooGreat_X0_digits
theorem ggX0_makeRounded_X0_digits : GoodIn wsX0_makeRounded wsX0_digits := goodIn_sub (fun _ h => List.mem_append_right _ (List.mem_append_left _ h)) al_wsX0_digits
set_option maxRecDepth 20000 in
theorem gX0_makeRounded_X0_digits : GoodIn wsX0_makeRounded (wsV RX0 149 RX0 yX0_digits wsX0_digits) := goodIn_app (goodIn_of _ (by decide +kernel)) ggX0_makeRounded_X0_digits
theorem ggX0_makeRounded_X0_wholePart : GoodIn wsX0_makeRounded wsX0_wholePart := goodIn_sub (fun _ h => List.mem_append_right _ (List.mem_append_right _ (List.mem_append_left _ h))) al_wsX0_wholePart
set_option maxRecDepth 20000 in
theorem gX0_makeRounded_X0_wholePart : GoodIn wsX0_makeRounded (va_wsS RX0 152 yX0_wholePart wsX0_wholePart) := goodIn_app (goodIn_of _ (by decide +kernel)) ggX0_makeRounded_X0_wholePart
theorem ggX0_makeRounded_X0_lostPart : GoodIn wsX0_makeRounded wsX0_lostPart := goodIn_sub (fun _ h => List.mem_append_right _ (List.mem_append_right _ (List.mem_append_right _ (List.mem_append_left _ h)))) al_wsX0_lostPart
set_option maxRecDepth 20000 in
theorem gX0_makeRounded_X0_lostPart : GoodIn wsX0_makeRounded (va_wsS RX0 156 yX0_lostPart wsX0_lostPart) := goodIn_app (goodIn_of _ (by decide +kernel)) ggX0_makeRounded_X0_lostPart
theorem ggX0_makeRounded_X0_takesAbove : GoodIn wsX0_makeRounded wsX0_takesAbove := goodIn_sub (fun _ h => List.mem_append_right _ (List.mem_append_right _ (List.mem_append_right _ (List.mem_append_right _ (List.mem_append_left _ h))))) al_wsX0_takesAbove
set_option maxRecDepth 20000 in
theorem gX0_makeRounded_X0_takesAbove : GoodIn wsX0_makeRounded (wsV RX0 159 RX0 yX0_takesAbove wsX0_takesAbove) := goodIn_app (goodIn_of _ (by decide +kernel)) ggX0_makeRounded_X0_takesAbove
theorem ggX0_makeRounded_X0_isMasked : GoodIn wsX0_makeRounded wsX0_isMasked := goodIn_sub (fun _ h => List.mem_append_right _ (List.mem_append_right _ (List.mem_append_right _ (List.mem_append_right _ (List.mem_append_right _ (List.mem_append_left _ h)))))) al_wsX0_isMasked
set_option maxRecDepth 20000 in
theorem gX0_makeRounded_X0_isMasked : GoodIn wsX0_makeRounded (wsV RX0 140 RX0 yX0_isMasked wsX0_isMasked) := goodIn_app (goodIn_of _ (by decide +kernel)) ggX0_makeRounded_X0_isMasked
theorem ggX0_makeRounded_X0_makeTooGreat : GoodIn wsX0_makeRounded wsX0_makeTooGreat := goodIn_sub (fun _ h => List.mem_append_right _ (List.mem_append_right _ (List.mem_append_right _ (List.mem_append_right _ (List.mem_append_right _ (List.mem_append_right _ (List.mem_append_left _ h))))))) al_wsX0_makeTooGreat
set_option maxRecDepth 20000 in
theorem gX0_makeRounded_X0_makeTooGreat : GoodIn wsX0_makeRounded (wsV RX0 167 RX0 yX0_makeTooGreat wsX0_makeTooGreat) := goodIn_app (goodIn_of _ (by decide +kernel)) ggX0_makeRounded_X0_makeTooGreat
theorem ggX0_makeRounded_X0_store : GoodIn wsX0_makeRounded wsX0_store := goodIn_sub (fun _ h => List.mem_append_right _ (List.mem_append_right _ (List.mem_append_right _ (List.mem_append_right _ (List.mem_append_right _ (List.mem_append_right _ (List.mem_append_right _ (List.mem_append_left _ h)))))))) al_wsX0_store
set_option maxRecDepth 20000 in
theorem gX0_makeRounded_X0_store : GoodIn wsX0_makeRounded (wsV RX0 109 RX0 yX0_store wsX0_store) := goodIn_app (goodIn_of _ (by decide +kernel)) ggX0_makeRounded_X0_store
theorem ggX0_makeRounded_X0_changeOf : GoodIn wsX0_makeRounded wsX0_changeOf := goodIn_sub (fun _ h => List.mem_append_right _ (List.mem_append_right _ (List.mem_append_right _ (List.mem_append_right _ (List.mem_append_right _ (List.mem_append_right _ (List.mem_append_right _ (List.mem_append_right _ (List.mem_append_left _ h))))))))) al_wsX0_changeOf
set_option maxRecDepth 20000 in
theorem gX0_makeRounded_X0_changeOf : GoodIn wsX0_makeRounded (va_wsS RX0 163 yX0_changeOf wsX0_changeOf) := goodIn_app (goodIn_of _ (by decide +kernel)) ggX0_makeRounded_X0_changeOf
theorem ggX0_makeRounded_X0_tell : GoodIn wsX0_makeRounded wsX0_tell := goodIn_sub (fun _ h => List.mem_append_right _ (List.mem_append_right _ (List.mem_append_right _ (List.mem_append_right _ (List.mem_append_right _ (List.mem_append_right _ (List.mem_append_right _ (List.mem_append_right _ (List.mem_append_right _ h))))))))) al_wsX0_tell
set_option maxRecDepth 20000 in
theorem gX0_makeRounded_X0_tell : GoodIn wsX0_makeRounded (wsV RX0 76 RX0 yX0_tell wsX0_tell) := goodIn_app (goodIn_of _ (by decide +kernel)) ggX0_makeRounded_X0_tell
theorem ggX0_makeSize_X0_store : GoodIn wsX0_makeSize wsX0_store := goodIn_sub (fun _ h => List.mem_append_right _ (List.mem_append_left _ h)) al_wsX0_store
set_option maxRecDepth 20000 in
theorem gX0_makeSize_X0_store : GoodIn wsX0_makeSize (wsV RX0 109 RX0 yX0_store wsX0_store) := goodIn_app (goodIn_of _ (by decide +kernel)) ggX0_makeSize_X0_store
theorem ggX0_makeSize_X0_tell : GoodIn wsX0_makeSize wsX0_tell := goodIn_sub (fun _ h => List.mem_append_right _ (List.mem_append_right _ (List.mem_append_left _ h))) al_wsX0_tell
set_option maxRecDepth 20000 in
theorem gX0_makeSize_X0_tell : GoodIn wsX0_makeSize (wsV RX0 76 RX0 yX0_tell wsX0_tell) := goodIn_app (goodIn_of _ (by decide +kernel)) ggX0_makeSize_X0_tell
theorem ggX0_makeSize_X0_isMasked : GoodIn wsX0_makeSize wsX0_isMasked := goodIn_sub (fun _ h => List.mem_append_right _ (List.mem_append_right _ (List.mem_append_right _ (List.mem_append_left _ h)))) al_wsX0_isMasked
set_option maxRecDepth 20000 in
theorem gX0_makeSize_X0_isMasked : GoodIn wsX0_makeSize (wsV RX0 140 RX0 yX0_isMasked wsX0_isMasked) := goodIn_app (goodIn_of _ (by decide +kernel)) ggX0_makeSize_X0_isMasked
theorem ggX0_makeSize_X0_makeSmall : GoodIn wsX0_makeSize wsX0_makeSmall := goodIn_sub (fun _ h => List.mem_append_right _ (List.mem_append_right _ (List.mem_append_right _ (List.mem_append_right _ (List.mem_append_left _ h))))) al_wsX0_makeSmall
set_option maxRecDepth 20000 in
theorem gX0_makeSize_X0_makeSmall : GoodIn wsX0_makeSize (wsV RX0 143 RX0 yX0_makeSmall wsX0_makeSmall) := goodIn_app (goodIn_of _ (by decide +kernel)) ggX0_makeSize_X0_makeSmall
theorem ggX0_makeSize_X0_makeRounded : GoodIn wsX0_makeSize wsX0_makeRounded := goodIn_sub (fun _ h => List.mem_append_right _ (List.mem_append_right _ (List.mem_append_right _ (List.mem_append_right _ (List.mem_append_right _ h))))) al_wsX0_makeRounded
set_option maxRecDepth 20000 in
theorem gX0_makeSize_X0_makeRounded : GoodIn wsX0_makeSize (wsV RX0 146 RX0 yX0_makeRounded wsX0_makeRounded) := goodIn_app (goodIn_of _ (by decide +kernel)) ggX0_makeSize_X0_makeRounded
theorem ggX0_make_X0_isNoRegister : GoodIn wsX0_make wsX0_isNoRegister := goodIn_sub (fun _ h => List.mem_append_right _ (List.mem_append_right _ (List.mem_append_right _ (List.mem_append_left _ h)))) al_wsX0_isNoRegister
set_option maxRecDepth 20000 in
theorem gX0_make_X0_isNoRegister : GoodIn wsX0_make (va_wsS RX0 32 yX0_isNoRegister wsX0_isNoRegister) := goodIn_app (goodIn_of _ (by decide +kernel)) ggX0_make_X0_isNoRegister
theorem ggX0_make_X0_join : GoodIn wsX0_make wsX0_join := goodIn_sub (fun _ h => List.mem_append_right _ (List.mem_append_right _ (List.mem_append_right _ (List.mem_append_right _ (List.mem_append_left _ h))))) al_wsX0_join
set_option maxRecDepth 20000 in
theorem gX0_make_X0_join : GoodIn wsX0_make (va_wsS RX0 42 yX0_join wsX0_join) := goodIn_app (goodIn_of _ (by decide +kernel)) ggX0_make_X0_join
theorem ggX0_make_JL_numberOfLeadingZeros : GoodIn wsX0_make wsJL_numberOfLeadingZeros := goodIn_sub (fun _ h => List.mem_append_right _ (List.mem_append_right _ (List.mem_append_right _ (List.mem_append_right _ (List.mem_append_right _ (List.mem_append_left _ h)))))) al_wsJL_numberOfLeadingZeros
set_option maxRecDepth 20000 in
theorem gX0_make_JL_numberOfLeadingZeros : GoodIn wsX0_make (va_wsS RX0 50 yJL_numberOfLeadingZeros wsJL_numberOfLeadingZeros) := goodIn_app (goodIn_of _ (by decide +kernel)) ggX0_make_JL_numberOfLeadingZeros
theorem ggX0_make_X0_shiftIn : GoodIn wsX0_make wsX0_shiftIn := goodIn_sub (fun _ h => List.mem_append_right _ (List.mem_append_right _ (List.mem_append_right _ (List.mem_append_right _ (List.mem_append_right _ (List.mem_append_right _ (List.mem_append_left _ h))))))) al_wsX0_shiftIn
set_option maxRecDepth 20000 in
theorem gX0_make_X0_shiftIn : GoodIn wsX0_make (va_wsS RX0 64 yX0_shiftIn wsX0_shiftIn) := goodIn_app (goodIn_of _ (by decide +kernel)) ggX0_make_X0_shiftIn
theorem ggX0_make_X0_makeSize : GoodIn wsX0_make wsX0_makeSize := goodIn_sub (fun _ h => List.mem_append_right _ (List.mem_append_right _ (List.mem_append_right _ (List.mem_append_right _ (List.mem_append_right _ (List.mem_append_right _ (List.mem_append_right _ h))))))) al_wsX0_makeSize
set_option maxRecDepth 20000 in
theorem gX0_make_X0_makeSize : GoodIn wsX0_make (wsV RX0 68 RX0 yX0_makeSize wsX0_makeSize) := goodIn_app (goodIn_of _ (by decide +kernel)) ggX0_make_X0_makeSize
theorem ggL_make_X0_make : GoodIn wsL_make wsX0_make := goodIn_sub (fun _ h => List.mem_append_right _ h) al_wsX0_make
set_option maxRecDepth 20000 in
theorem gL_make_X0_make : GoodIn wsL_make (wsV RL 25 RX0 yX0_make wsX0_make) := goodIn_app (goodIn_of _ (by decide +kernel)) ggL_make_X0_make
theorem ggX0_again_X0_isNoRegister : GoodIn wsX0_again wsX0_isNoRegister := goodIn_sub (fun _ h => List.mem_append_right _ (List.mem_append_right _ (List.mem_append_right _ (List.mem_append_left _ h)))) al_wsX0_isNoRegister
set_option maxRecDepth 20000 in
theorem gX0_again_X0_isNoRegister : GoodIn wsX0_again (va_wsS RX0 32 yX0_isNoRegister wsX0_isNoRegister) := goodIn_app (goodIn_of _ (by decide +kernel)) ggX0_again_X0_isNoRegister
theorem ggX0_again_X0_kindOf : GoodIn wsX0_again wsX0_kindOf := goodIn_sub (fun _ h => List.mem_append_right _ (List.mem_append_right _ (List.mem_append_right _ (List.mem_append_right _ (List.mem_append_left _ h))))) al_wsX0_kindOf
set_option maxRecDepth 20000 in
theorem gX0_again_X0_kindOf : GoodIn wsX0_again (wsV RX0 46 RX0 yX0_kindOf wsX0_kindOf) := goodIn_app (goodIn_of _ (by decide +kernel)) ggX0_again_X0_kindOf
theorem ggX0_again_X0_copy : GoodIn wsX0_again wsX0_copy := goodIn_sub (fun _ h => List.mem_append_right _ (List.mem_append_right _ (List.mem_append_right _ (List.mem_append_right _ (List.mem_append_right _ (List.mem_append_left _ h)))))) al_wsX0_copy
set_option maxRecDepth 20000 in
theorem gX0_again_X0_copy : GoodIn wsX0_again (wsV RX0 72 RX0 yX0_copy wsX0_copy) := goodIn_app (goodIn_of _ (by decide +kernel)) ggX0_again_X0_copy
theorem ggX0_again_X0_tell : GoodIn wsX0_again wsX0_tell := goodIn_sub (fun _ h => List.mem_append_right _ (List.mem_append_right _ (List.mem_append_right _ (List.mem_append_right _ (List.mem_append_right _ (List.mem_append_right _ (List.mem_append_left _ h))))))) al_wsX0_tell
set_option maxRecDepth 20000 in
theorem gX0_again_X0_tell : GoodIn wsX0_again (wsV RX0 76 RX0 yX0_tell wsX0_tell) := goodIn_app (goodIn_of _ (by decide +kernel)) ggX0_again_X0_tell
theorem ggX0_again_JL_numberOfLeadingZeros : GoodIn wsX0_again wsJL_numberOfLeadingZeros := goodIn_sub (fun _ h => List.mem_append_right _ (List.mem_append_right _ (List.mem_append_right _ (List.mem_append_right _ (List.mem_append_right _ (List.mem_append_right _ (List.mem_append_right _ (List.mem_append_left _ h)))))))) al_wsJL_numberOfLeadingZeros
set_option maxRecDepth 20000 in
theorem gX0_again_JL_numberOfLeadingZeros : GoodIn wsX0_again (va_wsS RX0 50 yJL_numberOfLeadingZeros wsJL_numberOfLeadingZeros) := goodIn_app (goodIn_of _ (by decide +kernel)) ggX0_again_JL_numberOfLeadingZeros
theorem ggX0_again_X0_powerOf : GoodIn wsX0_again wsX0_powerOf := goodIn_sub (fun _ h => List.mem_append_right _ (List.mem_append_right _ (List.mem_append_right _ (List.mem_append_right _ (List.mem_append_right _ (List.mem_append_right _ (List.mem_append_right _ (List.mem_append_right _ (List.mem_append_left _ h))))))))) al_wsX0_powerOf
set_option maxRecDepth 20000 in
theorem gX0_again_X0_powerOf : GoodIn wsX0_again (wsV RX0 80 RX0 yX0_powerOf wsX0_powerOf) := goodIn_app (goodIn_of _ (by decide +kernel)) ggX0_again_X0_powerOf
theorem ggX0_again_X0_isNegative : GoodIn wsX0_again wsX0_isNegative := goodIn_sub (fun _ h => List.mem_append_right _ (List.mem_append_right _ (List.mem_append_right _ (List.mem_append_right _ (List.mem_append_right _ (List.mem_append_right _ (List.mem_append_right _ (List.mem_append_right _ (List.mem_append_right _ (List.mem_append_left _ h)))))))))) al_wsX0_isNegative
set_option maxRecDepth 20000 in
theorem gX0_again_X0_isNegative : GoodIn wsX0_again (wsV RX0 89 RX0 yX0_isNegative wsX0_isNegative) := goodIn_app (goodIn_of _ (by decide +kernel)) ggX0_again_X0_isNegative
theorem ggX0_again_X0_shiftIn : GoodIn wsX0_again wsX0_shiftIn := goodIn_sub (fun _ h => List.mem_append_right _ (List.mem_append_right _ (List.mem_append_right _ (List.mem_append_right _ (List.mem_append_right _ (List.mem_append_right _ (List.mem_append_right _ (List.mem_append_right _ (List.mem_append_right _ (List.mem_append_right _ (List.mem_append_left _ h))))))))))) al_wsX0_shiftIn
set_option maxRecDepth 20000 in
theorem gX0_again_X0_shiftIn : GoodIn wsX0_again (va_wsS RX0 64 yX0_shiftIn wsX0_shiftIn) := goodIn_app (goodIn_of _ (by decide +kernel)) ggX0_again_X0_shiftIn
theorem ggX0_again_X0_makeSize : GoodIn wsX0_again wsX0_makeSize := goodIn_sub (fun _ h => List.mem_append_right _ (List.mem_append_right _ (List.mem_append_right _ (List.mem_append_right _ (List.mem_append_right _ (List.mem_append_right _ (List.mem_append_right _ (List.mem_append_right _ (List.mem_append_right _ (List.mem_append_right _ (List.mem_append_right _ h))))))))))) al_wsX0_makeSize
set_option maxRecDepth 20000 in
theorem gX0_again_X0_makeSize : GoodIn wsX0_again (wsV RX0 68 RX0 yX0_makeSize wsX0_makeSize) := goodIn_app (goodIn_of _ (by decide +kernel)) ggX0_again_X0_makeSize
theorem ggL_again_X0_again : GoodIn wsL_again wsX0_again := goodIn_sub (fun _ h => List.mem_append_right _ h) al_wsX0_again
set_option maxRecDepth 20000 in
theorem gL_again_X0_again : GoodIn wsL_again (wsV RL 29 RX0 yX0_again wsX0_again) := goodIn_app (goodIn_of _ (by decide +kernel)) ggL_again_X0_again
theorem ggL_last_X0_last : GoodIn wsL_last wsX0_last := goodIn_sub (fun _ h => List.mem_append_right _ h) al_wsX0_last
set_option maxRecDepth 20000 in
theorem gL_last_X0_last : GoodIn wsL_last (wsV RL 32 RX0 yX0_last wsX0_last) := goodIn_app (goodIn_of _ (by decide +kernel)) ggL_last_X0_last
theorem ggX0_signum_X0_kindOf : GoodIn wsX0_signum wsX0_kindOf := goodIn_sub (fun _ h => List.mem_append_right _ (List.mem_append_right _ (List.mem_append_left _ h))) al_wsX0_kindOf
set_option maxRecDepth 20000 in
theorem gX0_signum_X0_kindOf : GoodIn wsX0_signum (wsV RX0 46 RX0 yX0_kindOf wsX0_kindOf) := goodIn_app (goodIn_of _ (by decide +kernel)) ggX0_signum_X0_kindOf
theorem ggX0_signum_X0_isNegative : GoodIn wsX0_signum wsX0_isNegative := goodIn_sub (fun _ h => List.mem_append_right _ (List.mem_append_right _ (List.mem_append_right _ h))) al_wsX0_isNegative
set_option maxRecDepth 20000 in
theorem gX0_signum_X0_isNegative : GoodIn wsX0_signum (wsV RX0 89 RX0 yX0_isNegative wsX0_isNegative) := goodIn_app (goodIn_of _ (by decide +kernel)) ggX0_signum_X0_isNegative
theorem ggX0_plainShift_JL_numberOfLeadingZeros : GoodIn wsX0_plainShift wsJL_numberOfLeadingZeros := goodIn_sub (fun _ h => List.mem_append_right _ (List.mem_append_right _ (List.mem_append_left _ h))) al_wsJL_numberOfLeadingZeros
set_option maxRecDepth 20000 in
theorem gX0_plainShift_JL_numberOfLeadingZeros : GoodIn wsX0_plainShift (va_wsS RX0 50 yJL_numberOfLeadingZeros wsJL_numberOfLeadingZeros) := goodIn_app (goodIn_of _ (by decide +kernel)) ggX0_plainShift_JL_numberOfLeadingZeros
theorem ggX0_plainShift_X0_powerOf : GoodIn wsX0_plainShift wsX0_powerOf := goodIn_sub (fun _ h => List.mem_append_right _ (List.mem_append_right _ (List.mem_append_right _ h))) al_wsX0_powerOf
set_option maxRecDepth 20000 in
theorem gX0_plainShift_X0_powerOf : GoodIn wsX0_plainShift (wsV RX0 80 RX0 yX0_powerOf wsX0_powerOf) := goodIn_app (goodIn_of _ (by decide +kernel)) ggX0_plainShift_X0_powerOf
theorem ggX0_plainFraction_X0_powerOf : GoodIn wsX0_plainFraction wsX0_powerOf := goodIn_sub (fun _ h => List.mem_append_right _ (List.mem_append_right _ (List.mem_append_left _ h))) al_wsX0_powerOf
set_option maxRecDepth 20000 in
theorem gX0_plainFraction_X0_powerOf : GoodIn wsX0_plainFraction (wsV RX0 80 RX0 yX0_powerOf wsX0_powerOf) := goodIn_app (goodIn_of _ (by decide +kernel)) ggX0_plainFraction_X0_powerOf
theorem ggX0_plainFraction_X0_plainShift : GoodIn wsX0_plainFraction wsX0_plainShift := goodIn_sub (fun _ h => List.mem_append_right _ (List.mem_append_right _ (List.mem_append_right _ (List.mem_append_left _ h)))) al_wsX0_plainShift
set_option maxRecDepth 20000 in
theorem gX0_plainFraction_X0_plainShift : GoodIn wsX0_plainFraction (wsV RX0 183 RX0 yX0_plainShift wsX0_plainShift) := goodIn_app (goodIn_of _ (by decide +kernel)) ggX0_plainFraction_X0_plainShift
theorem ggX0_plainFraction_X0_shiftIn : GoodIn wsX0_plainFraction wsX0_shiftIn := goodIn_sub (fun _ h => List.mem_append_right _ (List.mem_append_right _ (List.mem_append_right _ (List.mem_append_right _ h)))) al_wsX0_shiftIn
set_option maxRecDepth 20000 in
theorem gX0_plainFraction_X0_shiftIn : GoodIn wsX0_plainFraction (va_wsS RX0 64 yX0_shiftIn wsX0_shiftIn) := goodIn_app (goodIn_of _ (by decide +kernel)) ggX0_plainFraction_X0_shiftIn
theorem ggX0_plainPower_X0_powerOf : GoodIn wsX0_plainPower wsX0_powerOf := goodIn_sub (fun _ h => List.mem_append_right _ (List.mem_append_left _ h)) al_wsX0_powerOf
set_option maxRecDepth 20000 in
theorem gX0_plainPower_X0_powerOf : GoodIn wsX0_plainPower (wsV RX0 80 RX0 yX0_powerOf wsX0_powerOf) := goodIn_app (goodIn_of _ (by decide +kernel)) ggX0_plainPower_X0_powerOf
theorem ggX0_plainPower_X0_plainFraction : GoodIn wsX0_plainPower wsX0_plainFraction := goodIn_sub (fun _ h => List.mem_append_right _ (List.mem_append_right _ (List.mem_append_left _ h))) al_wsX0_plainFraction
set_option maxRecDepth 20000 in
theorem gX0_plainPower_X0_plainFraction : GoodIn wsX0_plainPower (wsV RX0 116 RX0 yX0_plainFraction wsX0_plainFraction) := goodIn_app (goodIn_of _ (by decide +kernel)) ggX0_plainPower_X0_plainFraction
theorem ggX0_plainPower_X0_plainShift : GoodIn wsX0_plainPower wsX0_plainShift := goodIn_sub (fun _ h => List.mem_append_right _ (List.mem_append_right _ (List.mem_append_right _ h))) al_wsX0_plainShift
set_option maxRecDepth 20000 in
theorem gX0_plainPower_X0_plainShift : GoodIn wsX0_plainPower (wsV RX0 183 RX0 yX0_plainShift wsX0_plainShift) := goodIn_app (goodIn_of _ (by decide +kernel)) ggX0_plainPower_X0_plainShift
theorem ggJL_compareUnsigned_JL_compare : GoodIn wsJL_compareUnsigned wsJL_compare := goodIn_sub (fun _ h => List.mem_append_right _ h) al_wsJL_compare
set_option maxRecDepth 20000 in
theorem gJL_compareUnsigned_JL_compare : GoodIn wsJL_compareUnsigned (va_wsS RJL 302 yJL_compare wsJL_compare) := goodIn_app (goodIn_of _ (by decide +kernel)) ggJL_compareUnsigned_JL_compare
theorem ggX0_compareSizes_X0_plainPower : GoodIn wsX0_compareSizes wsX0_plainPower := goodIn_sub (fun _ h => List.mem_append_right _ (List.mem_append_left _ h)) al_wsX0_plainPower
set_option maxRecDepth 20000 in
theorem gX0_compareSizes_X0_plainPower : GoodIn wsX0_compareSizes (wsV RX0 113 RX0 yX0_plainPower wsX0_plainPower) := goodIn_app (goodIn_of _ (by decide +kernel)) ggX0_compareSizes_X0_plainPower
theorem ggX0_compareSizes_X0_plainFraction : GoodIn wsX0_compareSizes wsX0_plainFraction := goodIn_sub (fun _ h => List.mem_append_right _ (List.mem_append_right _ (List.mem_append_left _ h))) al_wsX0_plainFraction
set_option maxRecDepth 20000 in
theorem gX0_compareSizes_X0_plainFraction : GoodIn wsX0_compareSizes (wsV RX0 116 RX0 yX0_plainFraction wsX0_plainFraction) := goodIn_app (goodIn_of _ (by decide +kernel)) ggX0_compareSizes_X0_plainFraction
theorem ggX0_compareSizes_JL_compareUnsigned : GoodIn wsX0_compareSizes wsJL_compareUnsigned := goodIn_sub (fun _ h => List.mem_append_right _ (List.mem_append_right _ (List.mem_append_right _ (List.mem_append_left _ h)))) al_wsJL_compareUnsigned
set_option maxRecDepth 20000 in
theorem gX0_compareSizes_JL_compareUnsigned : GoodIn wsX0_compareSizes (va_wsS RX0 173 yJL_compareUnsigned wsJL_compareUnsigned) := goodIn_app (goodIn_of _ (by decide +kernel)) ggX0_compareSizes_JL_compareUnsigned
theorem ggX0_compareSizes_JI_signum : GoodIn wsX0_compareSizes wsJI_signum := goodIn_sub (fun _ h => List.mem_append_right _ (List.mem_append_right _ (List.mem_append_right _ (List.mem_append_right _ h)))) al_wsJI_signum
set_option maxRecDepth 20000 in
theorem gX0_compareSizes_JI_signum : GoodIn wsX0_compareSizes (va_wsS RX0 177 yJI_signum wsJI_signum) := goodIn_app (goodIn_of _ (by decide +kernel)) ggX0_compareSizes_JI_signum
theorem ggX0_compare_X0_isNoRegister : GoodIn wsX0_compare wsX0_isNoRegister := goodIn_sub (fun _ h => List.mem_append_right _ (List.mem_append_right _ (List.mem_append_left _ h))) al_wsX0_isNoRegister
set_option maxRecDepth 20000 in
theorem gX0_compare_X0_isNoRegister : GoodIn wsX0_compare (va_wsS RX0 32 yX0_isNoRegister wsX0_isNoRegister) := goodIn_app (goodIn_of _ (by decide +kernel)) ggX0_compare_X0_isNoRegister
theorem ggX0_compare_X0_kindOf : GoodIn wsX0_compare wsX0_kindOf := goodIn_sub (fun _ h => List.mem_append_right _ (List.mem_append_right _ (List.mem_append_right _ (List.mem_append_left _ h)))) al_wsX0_kindOf
set_option maxRecDepth 20000 in
theorem gX0_compare_X0_kindOf : GoodIn wsX0_compare (wsV RX0 46 RX0 yX0_kindOf wsX0_kindOf) := goodIn_app (goodIn_of _ (by decide +kernel)) ggX0_compare_X0_kindOf
theorem ggX0_compare_X0_signum : GoodIn wsX0_compare wsX0_signum := goodIn_sub (fun _ h => List.mem_append_right _ (List.mem_append_right _ (List.mem_append_right _ (List.mem_append_right _ (List.mem_append_left _ h))))) al_wsX0_signum
set_option maxRecDepth 20000 in
theorem gX0_compare_X0_signum : GoodIn wsX0_compare (wsV RX0 103 RX0 yX0_signum wsX0_signum) := goodIn_app (goodIn_of _ (by decide +kernel)) ggX0_compare_X0_signum
theorem ggX0_compare_X0_compareSizes : GoodIn wsX0_compare wsX0_compareSizes := goodIn_sub (fun _ h => List.mem_append_right _ (List.mem_append_right _ (List.mem_append_right _ (List.mem_append_right _ (List.mem_append_right _ h))))) al_wsX0_compareSizes
set_option maxRecDepth 20000 in
theorem gX0_compare_X0_compareSizes : GoodIn wsX0_compare (wsV RX0 106 RX0 yX0_compareSizes wsX0_compareSizes) := goodIn_app (goodIn_of _ (by decide +kernel)) ggX0_compare_X0_compareSizes
theorem ggL_compare_X0_compare : GoodIn wsL_compare wsX0_compare := goodIn_sub (fun _ h => List.mem_append_right _ h) al_wsX0_compare
set_option maxRecDepth 20000 in
theorem gL_compare_X0_compare : GoodIn wsL_compare (wsV RL 36 RX0 yX0_compare wsX0_compare) := goodIn_app (goodIn_of _ (by decide +kernel)) ggL_compare_X0_compare
theorem ggX0_storeNextGreater_X0_store : GoodIn wsX0_storeNextGreater wsX0_store := goodIn_sub (fun _ h => List.mem_append_right _ h) al_wsX0_store
set_option maxRecDepth 20000 in
theorem gX0_storeNextGreater_X0_store : GoodIn wsX0_storeNextGreater (wsV RX0 109 RX0 yX0_store wsX0_store) := goodIn_app (goodIn_of _ (by decide +kernel)) ggX0_storeNextGreater_X0_store
theorem ggX0_storeNextLesser_X0_store : GoodIn wsX0_storeNextLesser wsX0_store := goodIn_sub (fun _ h => List.mem_append_right _ h) al_wsX0_store
set_option maxRecDepth 20000 in
theorem gX0_storeNextLesser_X0_store : GoodIn wsX0_storeNextLesser (wsV RX0 109 RX0 yX0_store wsX0_store) := goodIn_app (goodIn_of _ (by decide +kernel)) ggX0_storeNextLesser_X0_store
theorem ggX0_neighbour_X0_isNoRegister : GoodIn wsX0_neighbour wsX0_isNoRegister := goodIn_sub (fun _ h => List.mem_append_right _ (List.mem_append_right _ (List.mem_append_left _ h))) al_wsX0_isNoRegister
set_option maxRecDepth 20000 in
theorem gX0_neighbour_X0_isNoRegister : GoodIn wsX0_neighbour (va_wsS RX0 32 yX0_isNoRegister wsX0_isNoRegister) := goodIn_app (goodIn_of _ (by decide +kernel)) ggX0_neighbour_X0_isNoRegister
theorem ggX0_neighbour_X0_kindOf : GoodIn wsX0_neighbour wsX0_kindOf := goodIn_sub (fun _ h => List.mem_append_right _ (List.mem_append_right _ (List.mem_append_right _ (List.mem_append_left _ h)))) al_wsX0_kindOf
set_option maxRecDepth 20000 in
theorem gX0_neighbour_X0_kindOf : GoodIn wsX0_neighbour (wsV RX0 46 RX0 yX0_kindOf wsX0_kindOf) := goodIn_app (goodIn_of _ (by decide +kernel)) ggX0_neighbour_X0_kindOf
theorem ggX0_neighbour_X0_isNegative : GoodIn wsX0_neighbour wsX0_isNegative := goodIn_sub (fun _ h => List.mem_append_right _ (List.mem_append_right _ (List.mem_append_right _ (List.mem_append_right _ (List.mem_append_left _ h))))) al_wsX0_isNegative
set_option maxRecDepth 20000 in
theorem gX0_neighbour_X0_isNegative : GoodIn wsX0_neighbour (wsV RX0 89 RX0 yX0_isNegative wsX0_isNegative) := goodIn_app (goodIn_of _ (by decide +kernel)) ggX0_neighbour_X0_isNegative
theorem ggX0_neighbour_X0_copy : GoodIn wsX0_neighbour wsX0_copy := goodIn_sub (fun _ h => List.mem_append_right _ (List.mem_append_right _ (List.mem_append_right _ (List.mem_append_right _ (List.mem_append_right _ (List.mem_append_left _ h)))))) al_wsX0_copy
set_option maxRecDepth 20000 in
theorem gX0_neighbour_X0_copy : GoodIn wsX0_neighbour (wsV RX0 72 RX0 yX0_copy wsX0_copy) := goodIn_app (goodIn_of _ (by decide +kernel)) ggX0_neighbour_X0_copy
theorem ggX0_neighbour_X0_signum : GoodIn wsX0_neighbour wsX0_signum := goodIn_sub (fun _ h => List.mem_append_right _ (List.mem_append_right _ (List.mem_append_right _ (List.mem_append_right _ (List.mem_append_right _ (List.mem_append_right _ (List.mem_append_left _ h))))))) al_wsX0_signum
set_option maxRecDepth 20000 in
theorem gX0_neighbour_X0_signum : GoodIn wsX0_neighbour (wsV RX0 103 RX0 yX0_signum wsX0_signum) := goodIn_app (goodIn_of _ (by decide +kernel)) ggX0_neighbour_X0_signum
theorem ggX0_neighbour_X0_store : GoodIn wsX0_neighbour wsX0_store := goodIn_sub (fun _ h => List.mem_append_right _ (List.mem_append_right _ (List.mem_append_right _ (List.mem_append_right _ (List.mem_append_right _ (List.mem_append_right _ (List.mem_append_right _ (List.mem_append_left _ h)))))))) al_wsX0_store
set_option maxRecDepth 20000 in
theorem gX0_neighbour_X0_store : GoodIn wsX0_neighbour (wsV RX0 109 RX0 yX0_store wsX0_store) := goodIn_app (goodIn_of _ (by decide +kernel)) ggX0_neighbour_X0_store
theorem ggX0_neighbour_X0_plainPower : GoodIn wsX0_neighbour wsX0_plainPower := goodIn_sub (fun _ h => List.mem_append_right _ (List.mem_append_right _ (List.mem_append_right _ (List.mem_append_right _ (List.mem_append_right _ (List.mem_append_right _ (List.mem_append_right _ (List.mem_append_right _ (List.mem_append_left _ h))))))))) al_wsX0_plainPower
set_option maxRecDepth 20000 in
theorem gX0_neighbour_X0_plainPower : GoodIn wsX0_neighbour (wsV RX0 113 RX0 yX0_plainPower wsX0_plainPower) := goodIn_app (goodIn_of _ (by decide +kernel)) ggX0_neighbour_X0_plainPower
theorem ggX0_neighbour_X0_plainFraction : GoodIn wsX0_neighbour wsX0_plainFraction := goodIn_sub (fun _ h => List.mem_append_right _ (List.mem_append_right _ (List.mem_append_right _ (List.mem_append_right _ (List.mem_append_right _ (List.mem_append_right _ (List.mem_append_right _ (List.mem_append_right _ (List.mem_append_right _ (List.mem_append_left _ h)))))))))) al_wsX0_plainFraction
set_option maxRecDepth 20000 in
theorem gX0_neighbour_X0_plainFraction : GoodIn wsX0_neighbour (wsV RX0 116 RX0 yX0_plainFraction wsX0_plainFraction) := goodIn_app (goodIn_of _ (by decide +kernel)) ggX0_neighbour_X0_plainFraction
theorem ggX0_neighbour_X0_storeNextGreater : GoodIn wsX0_neighbour wsX0_storeNextGreater := goodIn_sub (fun _ h => List.mem_append_right _ (List.mem_append_right _ (List.mem_append_right _ (List.mem_append_right _ (List.mem_append_right _ (List.mem_append_right _ (List.mem_append_right _ (List.mem_append_right _ (List.mem_append_right _ (List.mem_append_right _ (List.mem_append_left _ h))))))))))) al_wsX0_storeNextGreater
set_option maxRecDepth 20000 in
theorem gX0_neighbour_X0_storeNextGreater : GoodIn wsX0_neighbour (wsV RX0 120 RX0 yX0_storeNextGreater wsX0_storeNextGreater) := goodIn_app (goodIn_of _ (by decide +kernel)) ggX0_neighbour_X0_storeNextGreater
theorem ggX0_neighbour_X0_storeNextLesser : GoodIn wsX0_neighbour wsX0_storeNextLesser := goodIn_sub (fun _ h => List.mem_append_right _ (List.mem_append_right _ (List.mem_append_right _ (List.mem_append_right _ (List.mem_append_right _ (List.mem_append_right _ (List.mem_append_right _ (List.mem_append_right _ (List.mem_append_right _ (List.mem_append_right _ (List.mem_append_right _ h))))))))))) al_wsX0_storeNextLesser
set_option maxRecDepth 20000 in
theorem gX0_neighbour_X0_storeNextLesser : GoodIn wsX0_neighbour (wsV RX0 123 RX0 yX0_storeNextLesser wsX0_storeNextLesser) := goodIn_app (goodIn_of _ (by decide +kernel)) ggX0_neighbour_X0_storeNextLesser
theorem ggL_neighbour_X0_neighbour : GoodIn wsL_neighbour wsX0_neighbour := goodIn_sub (fun _ h => List.mem_append_right _ h) al_wsX0_neighbour
set_option maxRecDepth 20000 in
theorem gL_neighbour_X0_neighbour : GoodIn wsL_neighbour (wsV RL 39 RX0 yX0_neighbour wsX0_neighbour) := goodIn_app (goodIn_of _ (by decide +kernel)) ggL_neighbour_X0_neighbour
theorem ggX1_set_X1_none : GoodIn wsX1_set wsX1_none := goodIn_sub (fun _ h => List.mem_append_right _ (List.mem_append_right _ h)) al_wsX1_none
set_option maxRecDepth 20000 in
theorem gX1_set_X1_none : GoodIn wsX1_set (va_wsS RX1 28 yX1_none wsX1_none) := goodIn_app (goodIn_of _ (by decide +kernel)) ggX1_set_X1_none
theorem ggX1_part_X1_none : GoodIn wsX1_part wsX1_none := goodIn_sub (fun _ h => List.mem_append_right _ (List.mem_append_right _ (List.mem_append_left _ h))) al_wsX1_none
set_option maxRecDepth 20000 in
theorem gX1_part_X1_none : GoodIn wsX1_part (va_wsS RX1 28 yX1_none wsX1_none) := goodIn_app (goodIn_of _ (by decide +kernel)) ggX1_part_X1_none
theorem ggX1_part_X1_kind : GoodIn wsX1_part wsX1_kind := goodIn_sub (fun _ h => List.mem_append_right _ (List.mem_append_right _ (List.mem_append_right _ h))) al_wsX1_kind
set_option maxRecDepth 20000 in
theorem gX1_part_X1_kind : GoodIn wsX1_part (wsV RX1 39 RX1 yX1_kind wsX1_kind) := goodIn_app (goodIn_of _ (by decide +kernel)) ggX1_part_X1_kind
theorem ggX1_make0_X1_result : GoodIn wsX1_make0 wsX1_result := goodIn_sub (fun _ h => List.mem_append_right _ (List.mem_append_right _ (List.mem_append_left _ h))) al_wsX1_result
set_option maxRecDepth 20000 in
theorem gX1_make0_X1_result : GoodIn wsX1_make0 (wsV RX1 79 RX1 yX1_result wsX1_result) := goodIn_app (goodIn_of _ (by decide +kernel)) ggX1_make0_X1_result
theorem ggX1_make0_X1_round : GoodIn wsX1_make0 wsX1_round := goodIn_sub (fun _ h => List.mem_append_right _ (List.mem_append_right _ (List.mem_append_right _ h))) al_wsX1_round
set_option maxRecDepth 20000 in
theorem gX1_make0_X1_round : GoodIn wsX1_make0 (wsV RX1 83 RX1 yX1_round wsX1_round) := goodIn_app (goodIn_of _ (by decide +kernel)) ggX1_make0_X1_round
theorem ggX1_make_X1_none : GoodIn wsX1_make wsX1_none := goodIn_sub (fun _ h => List.mem_append_right _ (List.mem_append_right _ (List.mem_append_left _ h))) al_wsX1_none
set_option maxRecDepth 20000 in
theorem gX1_make_X1_none : GoodIn wsX1_make (va_wsS RX1 28 yX1_none wsX1_none) := goodIn_app (goodIn_of _ (by decide +kernel)) ggX1_make_X1_none
theorem ggX1_make_X1_make0 : GoodIn wsX1_make wsX1_make0 := goodIn_sub (fun _ h => List.mem_append_right _ (List.mem_append_right _ (List.mem_append_right _ (List.mem_append_left _ h)))) al_wsX1_make0
set_option maxRecDepth 20000 in
theorem gX1_make_X1_make0 : GoodIn wsX1_make (wsV RX1 89 RX1 yX1_make0 wsX1_make0) := goodIn_app (goodIn_of _ (by decide +kernel)) ggX1_make_X1_make0
theorem ggX1_make_X1_keep : GoodIn wsX1_make wsX1_keep := goodIn_sub (fun _ h => List.mem_append_right _ (List.mem_append_right _ (List.mem_append_right _ (List.mem_append_right _ h)))) al_wsX1_keep
set_option maxRecDepth 20000 in
theorem gX1_make_X1_keep : GoodIn wsX1_make (wsV RX1 92 RX1 yX1_keep wsX1_keep) := goodIn_app (goodIn_of _ (by decide +kernel)) ggX1_make_X1_keep
theorem ggX1_again_X1_none : GoodIn wsX1_again wsX1_none := goodIn_sub (fun _ h => List.mem_append_right _ (List.mem_append_right _ (List.mem_append_left _ h))) al_wsX1_none
set_option maxRecDepth 20000 in
theorem gX1_again_X1_none : GoodIn wsX1_again (va_wsS RX1 28 yX1_none wsX1_none) := goodIn_app (goodIn_of _ (by decide +kernel)) ggX1_again_X1_none
theorem ggX1_again_X1_kind : GoodIn wsX1_again wsX1_kind := goodIn_sub (fun _ h => List.mem_append_right _ (List.mem_append_right _ (List.mem_append_right _ (List.mem_append_left _ h)))) al_wsX1_kind
set_option maxRecDepth 20000 in
theorem gX1_again_X1_kind : GoodIn wsX1_again (wsV RX1 39 RX1 yX1_kind wsX1_kind) := goodIn_app (goodIn_of _ (by decide +kernel)) ggX1_again_X1_kind
theorem ggX1_again_X1_keep : GoodIn wsX1_again wsX1_keep := goodIn_sub (fun _ h => List.mem_append_right _ (List.mem_append_right _ (List.mem_append_right _ (List.mem_append_right _ (List.mem_append_left _ h))))) al_wsX1_keep
set_option maxRecDepth 20000 in
theorem gX1_again_X1_keep : GoodIn wsX1_again (wsV RX1 92 RX1 yX1_keep wsX1_keep) := goodIn_app (goodIn_of _ (by decide +kernel)) ggX1_again_X1_keep
theorem ggX1_again_X1_powerOf : GoodIn wsX1_again wsX1_powerOf := goodIn_sub (fun _ h => List.mem_append_right _ (List.mem_append_right _ (List.mem_append_right _ (List.mem_append_right _ (List.mem_append_right _ (List.mem_append_left _ h)))))) al_wsX1_powerOf
set_option maxRecDepth 20000 in
theorem gX1_again_X1_powerOf : GoodIn wsX1_again (wsV RX1 95 RX1 yX1_powerOf wsX1_powerOf) := goodIn_app (goodIn_of _ (by decide +kernel)) ggX1_again_X1_powerOf
theorem ggX1_again_X1_make0 : GoodIn wsX1_again wsX1_make0 := goodIn_sub (fun _ h => List.mem_append_right _ (List.mem_append_right _ (List.mem_append_right _ (List.mem_append_right _ (List.mem_append_right _ (List.mem_append_right _ h)))))) al_wsX1_make0
set_option maxRecDepth 20000 in
theorem gX1_again_X1_make0 : GoodIn wsX1_again (wsV RX1 89 RX1 yX1_make0 wsX1_make0) := goodIn_app (goodIn_of _ (by decide +kernel)) ggX1_again_X1_make0
theorem ggX1_isNothing_X1_kind : GoodIn wsX1_isNothing wsX1_kind := goodIn_sub (fun _ h => List.mem_append_right _ (List.mem_append_right _ h)) al_wsX1_kind
set_option maxRecDepth 20000 in
theorem gX1_isNothing_X1_kind : GoodIn wsX1_isNothing (wsV RX1 39 RX1 yX1_kind wsX1_kind) := goodIn_app (goodIn_of _ (by decide +kernel)) ggX1_isNothing_X1_kind
theorem ggX1_compareSizes_X1_kind : GoodIn wsX1_compareSizes wsX1_kind := goodIn_sub (fun _ h => List.mem_append_right _ (List.mem_append_right _ (List.mem_append_left _ h))) al_wsX1_kind
set_option maxRecDepth 20000 in
theorem gX1_compareSizes_X1_kind : GoodIn wsX1_compareSizes (wsV RX1 39 RX1 yX1_kind wsX1_kind) := goodIn_app (goodIn_of _ (by decide +kernel)) ggX1_compareSizes_X1_kind
theorem ggX1_compareSizes_X1_isNothing : GoodIn wsX1_compareSizes wsX1_isNothing := goodIn_sub (fun _ h => List.mem_append_right _ (List.mem_append_right _ (List.mem_append_right _ (List.mem_append_left _ h)))) al_wsX1_isNothing
set_option maxRecDepth 20000 in
theorem gX1_compareSizes_X1_isNothing : GoodIn wsX1_compareSizes (wsV RX1 98 RX1 yX1_isNothing wsX1_isNothing) := goodIn_app (goodIn_of _ (by decide +kernel)) ggX1_compareSizes_X1_isNothing
theorem ggX1_compareSizes_X1_powerOf : GoodIn wsX1_compareSizes wsX1_powerOf := goodIn_sub (fun _ h => List.mem_append_right _ (List.mem_append_right _ (List.mem_append_right _ (List.mem_append_right _ h)))) al_wsX1_powerOf
set_option maxRecDepth 20000 in
theorem gX1_compareSizes_X1_powerOf : GoodIn wsX1_compareSizes (wsV RX1 95 RX1 yX1_powerOf wsX1_powerOf) := goodIn_app (goodIn_of _ (by decide +kernel)) ggX1_compareSizes_X1_powerOf
theorem ggX1_compare_X1_none : GoodIn wsX1_compare wsX1_none := goodIn_sub (fun _ h => List.mem_append_right _ (List.mem_append_right _ (List.mem_append_left _ h))) al_wsX1_none
set_option maxRecDepth 20000 in
theorem gX1_compare_X1_none : GoodIn wsX1_compare (va_wsS RX1 28 yX1_none wsX1_none) := goodIn_app (goodIn_of _ (by decide +kernel)) ggX1_compare_X1_none
theorem ggX1_compare_X1_kind : GoodIn wsX1_compare wsX1_kind := goodIn_sub (fun _ h => List.mem_append_right _ (List.mem_append_right _ (List.mem_append_right _ (List.mem_append_left _ h)))) al_wsX1_kind
set_option maxRecDepth 20000 in
theorem gX1_compare_X1_kind : GoodIn wsX1_compare (wsV RX1 39 RX1 yX1_kind wsX1_kind) := goodIn_app (goodIn_of _ (by decide +kernel)) ggX1_compare_X1_kind
theorem ggX1_compare_X1_isNothing : GoodIn wsX1_compare wsX1_isNothing := goodIn_sub (fun _ h => List.mem_append_right _ (List.mem_append_right _ (List.mem_append_right _ (List.mem_append_right _ (List.mem_append_left _ h))))) al_wsX1_isNothing
set_option maxRecDepth 20000 in
theorem gX1_compare_X1_isNothing : GoodIn wsX1_compare (wsV RX1 98 RX1 yX1_isNothing wsX1_isNothing) := goodIn_app (goodIn_of _ (by decide +kernel)) ggX1_compare_X1_isNothing
theorem ggX1_compare_X1_compareSizes : GoodIn wsX1_compare wsX1_compareSizes := goodIn_sub (fun _ h => List.mem_append_right _ (List.mem_append_right _ (List.mem_append_right _ (List.mem_append_right _ (List.mem_append_right _ h))))) al_wsX1_compareSizes
set_option maxRecDepth 20000 in
theorem gX1_compare_X1_compareSizes : GoodIn wsX1_compare (wsV RX1 101 RX1 yX1_compareSizes wsX1_compareSizes) := goodIn_app (goodIn_of _ (by decide +kernel)) ggX1_compare_X1_compareSizes
theorem ggX1_neighbour_X1_none : GoodIn wsX1_neighbour wsX1_none := goodIn_sub (fun _ h => List.mem_append_right _ (List.mem_append_right _ (List.mem_append_left _ h))) al_wsX1_none
set_option maxRecDepth 20000 in
theorem gX1_neighbour_X1_none : GoodIn wsX1_neighbour (va_wsS RX1 28 yX1_none wsX1_none) := goodIn_app (goodIn_of _ (by decide +kernel)) ggX1_neighbour_X1_none
theorem ggX1_neighbour_X1_kind : GoodIn wsX1_neighbour wsX1_kind := goodIn_sub (fun _ h => List.mem_append_right _ (List.mem_append_right _ (List.mem_append_right _ (List.mem_append_left _ h)))) al_wsX1_kind
set_option maxRecDepth 20000 in
theorem gX1_neighbour_X1_kind : GoodIn wsX1_neighbour (wsV RX1 39 RX1 yX1_kind wsX1_kind) := goodIn_app (goodIn_of _ (by decide +kernel)) ggX1_neighbour_X1_kind
theorem ggX1_neighbour_X1_isNothing : GoodIn wsX1_neighbour wsX1_isNothing := goodIn_sub (fun _ h => List.mem_append_right _ (List.mem_append_right _ (List.mem_append_right _ (List.mem_append_right _ h)))) al_wsX1_isNothing
set_option maxRecDepth 20000 in
theorem gX1_neighbour_X1_isNothing : GoodIn wsX1_neighbour (wsV RX1 98 RX1 yX1_isNothing wsX1_isNothing) := goodIn_app (goodIn_of _ (by decide +kernel)) ggX1_neighbour_X1_isNothing
theorem ggL_law_X0_init : GoodIn wsL_law wsX0_init := goodIn_sub (fun _ h => List.mem_append_right _ (List.mem_append_right _ (List.mem_append_right _ (List.mem_append_left _ h)))) al_wsX0_init
theorem ggL_law_X1_init : GoodIn wsL_law wsX1_init := goodIn_sub (fun _ h => List.mem_append_right _ (List.mem_append_right _ (List.mem_append_right _ (List.mem_append_right _ (List.mem_append_left _ h))))) al_wsX1_init
theorem ggL_law_L_control : GoodIn wsL_law wsL_control := goodIn_sub (fun _ h => List.mem_append_right _ (List.mem_append_right _ (List.mem_append_right _ (List.mem_append_right _ (List.mem_append_right _ (List.mem_append_left _ h)))))) al_wsL_control
set_option maxRecDepth 20000 in
theorem gL_law_L_control : GoodIn wsL_law (va_wsS RL 47 yL_control wsL_control) := goodIn_app (goodIn_of _ (by decide +kernel)) ggL_law_L_control
theorem ggL_law_X1_control : GoodIn wsL_law wsX1_control := goodIn_sub (fun _ h => List.mem_append_right _ (List.mem_append_right _ (List.mem_append_right _ (List.mem_append_right _ (List.mem_append_right _ (List.mem_append_right _ (List.mem_append_left _ h))))))) al_wsX1_control
set_option maxRecDepth 20000 in
theorem gL_law_X1_control : GoodIn wsL_law (wsV RL 52 RX1 yX1_control wsX1_control) := goodIn_app (goodIn_of _ (by decide +kernel)) ggL_law_X1_control
theorem ggL_law_X1_thrown : GoodIn wsL_law wsX1_thrown := goodIn_sub (fun _ h => List.mem_append_right _ (List.mem_append_right _ (List.mem_append_right _ (List.mem_append_right _ (List.mem_append_right _ (List.mem_append_right _ (List.mem_append_right _ (List.mem_append_left _ h)))))))) al_wsX1_thrown
set_option maxRecDepth 20000 in
theorem gL_law_X1_thrown : GoodIn wsL_law (wsV RL 53 RX1 yX1_thrown wsX1_thrown) := goodIn_app (goodIn_of _ (by decide +kernel)) ggL_law_X1_thrown
theorem ggL_law_L_set : GoodIn wsL_law wsL_set := goodIn_sub (fun _ h => List.mem_append_right _ (List.mem_append_right _ (List.mem_append_right _ (List.mem_append_right _ (List.mem_append_right _ (List.mem_append_right _ (List.mem_append_right _ (List.mem_append_right _ (List.mem_append_left _ h))))))))) al_wsL_set
set_option maxRecDepth 20000 in
theorem gL_law_L_set : GoodIn wsL_law (va_wsS RL 57 yL_set wsL_set) := goodIn_app (goodIn_of _ (by decide +kernel)) ggL_law_L_set
theorem ggL_law_X1_set : GoodIn wsL_law wsX1_set := goodIn_sub (fun _ h => List.mem_append_right _ (List.mem_append_right _ (List.mem_append_right _ (List.mem_append_right _ (List.mem_append_right _ (List.mem_append_right _ (List.mem_append_right _ (List.mem_append_right _ (List.mem_append_right _ (List.mem_append_left _ h)))))))))) al_wsX1_set
set_option maxRecDepth 20000 in
theorem gL_law_X1_set : GoodIn wsL_law (wsV RL 60 RX1 yX1_set wsX1_set) := goodIn_app (goodIn_of _ (by decide +kernel)) ggL_law_X1_set
theorem ggL_law_L_part : GoodIn wsL_law wsL_part := goodIn_sub (fun _ h => List.mem_append_right _ (List.mem_append_right _ (List.mem_append_right _ (List.mem_append_right _ (List.mem_append_right _ (List.mem_append_right _ (List.mem_append_right _ (List.mem_append_right _ (List.mem_append_right _ (List.mem_append_right _ (List.mem_append_left _ h))))))))))) al_wsL_part
set_option maxRecDepth 20000 in
theorem gL_law_L_part : GoodIn wsL_law (va_wsS RL 61 yL_part wsL_part) := goodIn_app (goodIn_of _ (by decide +kernel)) ggL_law_L_part
theorem ggL_law_X1_part : GoodIn wsL_law wsX1_part := goodIn_sub (fun _ h => List.mem_append_right _ (List.mem_append_right _ (List.mem_append_right _ (List.mem_append_right _ (List.mem_append_right _ (List.mem_append_right _ (List.mem_append_right _ (List.mem_append_right _ (List.mem_append_right _ (List.mem_append_right _ (List.mem_append_right _ (List.mem_append_left _ h)))))))))))) al_wsX1_part
set_option maxRecDepth 20000 in
theorem gL_law_X1_part : GoodIn wsL_law (wsV RL 64 RX1 yX1_part wsX1_part) := goodIn_app (goodIn_of _ (by decide +kernel)) ggL_law_X1_part
theorem ggL_law_L_make : GoodIn wsL_law wsL_make := goodIn_sub (fun _ h => List.mem_append_right _ (List.mem_append_right _ (List.mem_append_right _ (List.mem_append_right _ (List.mem_append_right _ (List.mem_append_right _ (List.mem_append_right _ (List.mem_append_right _ (List.mem_append_right _ (List.mem_append_right _ (List.mem_append_right _ (List.mem_append_right _ (List.mem_append_left _ h))))))))))))) al_wsL_make
set_option maxRecDepth 20000 in
theorem gL_law_L_make : GoodIn wsL_law (va_wsS RL 65 yL_make wsL_make) := goodIn_app (goodIn_of _ (by decide +kernel)) ggL_law_L_make
theorem ggL_law_X1_make : GoodIn wsL_law wsX1_make := goodIn_sub (fun _ h => List.mem_append_right _ (List.mem_append_right _ (List.mem_append_right _ (List.mem_append_right _ (List.mem_append_right _ (List.mem_append_right _ (List.mem_append_right _ (List.mem_append_right _ (List.mem_append_right _ (List.mem_append_right _ (List.mem_append_right _ (List.mem_append_right _ (List.mem_append_right _ (List.mem_append_left _ h)))))))))))))) al_wsX1_make
set_option maxRecDepth 20000 in
theorem gL_law_X1_make : GoodIn wsL_law (wsV RL 68 RX1 yX1_make wsX1_make) := goodIn_app (goodIn_of _ (by decide +kernel)) ggL_law_X1_make
theorem ggL_law_L_again : GoodIn wsL_law wsL_again := goodIn_sub (fun _ h => List.mem_append_right _ (List.mem_append_right _ (List.mem_append_right _ (List.mem_append_right _ (List.mem_append_right _ (List.mem_append_right _ (List.mem_append_right _ (List.mem_append_right _ (List.mem_append_right _ (List.mem_append_right _ (List.mem_append_right _ (List.mem_append_right _ (List.mem_append_right _ (List.mem_append_right _ (List.mem_append_left _ h))))))))))))))) al_wsL_again
set_option maxRecDepth 20000 in
theorem gL_law_L_again : GoodIn wsL_law (va_wsS RL 69 yL_again wsL_again) := goodIn_app (goodIn_of _ (by decide +kernel)) ggL_law_L_again
theorem ggL_law_X1_again : GoodIn wsL_law wsX1_again := goodIn_sub (fun _ h => List.mem_append_right _ (List.mem_append_right _ (List.mem_append_right _ (List.mem_append_right _ (List.mem_append_right _ (List.mem_append_right _ (List.mem_append_right _ (List.mem_append_right _ (List.mem_append_right _ (List.mem_append_right _ (List.mem_append_right _ (List.mem_append_right _ (List.mem_append_right _ (List.mem_append_right _ (List.mem_append_right _ (List.mem_append_left _ h)))))))))))))))) al_wsX1_again
set_option maxRecDepth 20000 in
theorem gL_law_X1_again : GoodIn wsL_law (wsV RL 71 RX1 yX1_again wsX1_again) := goodIn_app (goodIn_of _ (by decide +kernel)) ggL_law_X1_again
theorem ggL_law_L_last : GoodIn wsL_law wsL_last := goodIn_sub (fun _ h => List.mem_append_right _ (List.mem_append_right _ (List.mem_append_right _ (List.mem_append_right _ (List.mem_append_right _ (List.mem_append_right _ (List.mem_append_right _ (List.mem_append_right _ (List.mem_append_right _ (List.mem_append_right _ (List.mem_append_right _ (List.mem_append_right _ (List.mem_append_right _ (List.mem_append_right _ (List.mem_append_right _ (List.mem_append_right _ (List.mem_append_left _ h))))))))))))))))) al_wsL_last
set_option maxRecDepth 20000 in
theorem gL_law_L_last : GoodIn wsL_law (va_wsS RL 72 yL_last wsL_last) := goodIn_app (goodIn_of _ (by decide +kernel)) ggL_law_L_last
theorem ggL_law_X1_last : GoodIn wsL_law wsX1_last := goodIn_sub (fun _ h => List.mem_append_right _ (List.mem_append_right _ (List.mem_append_right _ (List.mem_append_right _ (List.mem_append_right _ (List.mem_append_right _ (List.mem_append_right _ (List.mem_append_right _ (List.mem_append_right _ (List.mem_append_right _ (List.mem_append_right _ (List.mem_append_right _ (List.mem_append_right _ (List.mem_append_right _ (List.mem_append_right _ (List.mem_append_right _ (List.mem_append_right _ (List.mem_append_left _ h)))))))))))))))))) al_wsX1_last
set_option maxRecDepth 20000 in
theorem gL_law_X1_last : GoodIn wsL_law (wsV RL 75 RX1 yX1_last wsX1_last) := goodIn_app (goodIn_of _ (by decide +kernel)) ggL_law_X1_last
theorem ggL_law_L_compare : GoodIn wsL_law wsL_compare := goodIn_sub (fun _ h => List.mem_append_right _ (List.mem_append_right _ (List.mem_append_right _ (List.mem_append_right _ (List.mem_append_right _ (List.mem_append_right _ (List.mem_append_right _ (List.mem_append_right _ (List.mem_append_right _ (List.mem_append_right _ (List.mem_append_right _ (List.mem_append_right _ (List.mem_append_right _ (List.mem_append_right _ (List.mem_append_right _ (List.mem_append_right _ (List.mem_append_right _ (List.mem_append_right _ (List.mem_append_left _ h))))))))))))))))))) al_wsL_compare
set_option maxRecDepth 20000 in
theorem gL_law_L_compare : GoodIn wsL_law (va_wsS RL 76 yL_compare wsL_compare) := goodIn_app (goodIn_of _ (by decide +kernel)) ggL_law_L_compare
theorem ggL_law_X1_compare : GoodIn wsL_law wsX1_compare := goodIn_sub (fun _ h => List.mem_append_right _ (List.mem_append_right _ (List.mem_append_right _ (List.mem_append_right _ (List.mem_append_right _ (List.mem_append_right _ (List.mem_append_right _ (List.mem_append_right _ (List.mem_append_right _ (List.mem_append_right _ (List.mem_append_right _ (List.mem_append_right _ (List.mem_append_right _ (List.mem_append_right _ (List.mem_append_right _ (List.mem_append_right _ (List.mem_append_right _ (List.mem_append_right _ (List.mem_append_right _ (List.mem_append_left _ h)))))))))))))))))))) al_wsX1_compare
set_option maxRecDepth 20000 in
theorem gL_law_X1_compare : GoodIn wsL_law (wsV RL 78 RX1 yX1_compare wsX1_compare) := goodIn_app (goodIn_of _ (by decide +kernel)) ggL_law_X1_compare
theorem ggL_law_L_neighbour : GoodIn wsL_law wsL_neighbour := goodIn_sub (fun _ h => List.mem_append_right _ (List.mem_append_right _ (List.mem_append_right _ (List.mem_append_right _ (List.mem_append_right _ (List.mem_append_right _ (List.mem_append_right _ (List.mem_append_right _ (List.mem_append_right _ (List.mem_append_right _ (List.mem_append_right _ (List.mem_append_right _ (List.mem_append_right _ (List.mem_append_right _ (List.mem_append_right _ (List.mem_append_right _ (List.mem_append_right _ (List.mem_append_right _ (List.mem_append_right _ (List.mem_append_right _ (List.mem_append_left _ h))))))))))))))))))))) al_wsL_neighbour
set_option maxRecDepth 20000 in
theorem gL_law_L_neighbour : GoodIn wsL_law (va_wsS RL 79 yL_neighbour wsL_neighbour) := goodIn_app (goodIn_of _ (by decide +kernel)) ggL_law_L_neighbour
theorem ggL_law_X1_neighbour : GoodIn wsL_law wsX1_neighbour := goodIn_sub (fun _ h => List.mem_append_right _ (List.mem_append_right _ (List.mem_append_right _ (List.mem_append_right _ (List.mem_append_right _ (List.mem_append_right _ (List.mem_append_right _ (List.mem_append_right _ (List.mem_append_right _ (List.mem_append_right _ (List.mem_append_right _ (List.mem_append_right _ (List.mem_append_right _ (List.mem_append_right _ (List.mem_append_right _ (List.mem_append_right _ (List.mem_append_right _ (List.mem_append_right _ (List.mem_append_right _ (List.mem_append_right _ (List.mem_append_right _ h))))))))))))))))))))) al_wsX1_neighbour
set_option maxRecDepth 20000 in
theorem gL_law_X1_neighbour : GoodIn wsL_law (wsV RL 82 RX1 yX1_neighbour wsX1_neighbour) := goodIn_app (goodIn_of _ (by decide +kernel)) ggL_law_X1_neighbour
theorem wsL_law_in : ∀ w ∈ wsL_law, w ∈ lw_tbl := ti_wsL_law
