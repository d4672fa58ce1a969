theorem wa_a {a b : List Cond} (h1 : a.all goodWord = true) (h2 : b.all goodWord = true) : (a ++ b).all goodWord = true := by rw [List.all_append, h1, h2]; rfl
theorem wi_a {a b T : List Cond} (h1 : ∀ w ∈ a, w ∈ T) (h2 : ∀ w ∈ b, w ∈ T) : ∀ w ∈ a ++ b, w ∈ T := fun w h => (List.mem_append.mp h).elim (h1 w) (h2 w)
set_option maxRecDepth 20000 in
theorem al_wsX00 : wsX00.all goodWord = true := by decide +kernel
set_option maxRecDepth 20000 in
theorem ti_wsX00 : ∀ w ∈ wsX00, w ∈ lw_tbl := by decide +kernel
set_option maxRecDepth 20000 in
theorem al_wsX10 : wsX10.all goodWord = true := by decide +kernel
set_option maxRecDepth 20000 in
theorem ti_wsX10 : ∀ w ∈ wsX10, w ∈ lw_tbl := by decide +kernel
set_option maxRecDepth 20000 in
theorem al_xT1 : xT1.all goodWord = true := by decide +kernel
set_option maxRecDepth 20000 in
theorem ti_xT1 : ∀ w ∈ xT1, w ∈ lw_tbl := by decide +kernel
set_option maxRecDepth 20000 in
theorem al_xT2 : xT2.all goodWord = true := by decide +kernel
set_option maxRecDepth 20000 in
theorem ti_xT2 : ∀ w ∈ xT2, w ∈ lw_tbl := by decide +kernel
def owX0_init : List Cond := [Cond.code yX0_init cX0_init 1 none, Cond.methodLink RX0 1 objectInit, Cond.instanceMethod objectInit, Cond.code objectInit ⟨#[0xb1]⟩ 1 none, Cond.arrayClass .int, Cond.fieldLink RX0 9 "TemporaryReals" "tops" "[I", Cond.arrayClass .long, Cond.fieldLink RX0 13 "TemporaryReals" "fractions" "[J", Cond.fieldLink RX0 17 "TemporaryReals" "word" "I"]
set_option maxRecDepth 20000 in
theorem aloX0_init : owX0_init.all goodWord = true := by decide +kernel
set_option maxRecDepth 20000 in
theorem tihX0_init : Cond.code yX0_init cX0_init 1 none ∈ lw_tbl := List.mem_append_right _ (List.mem_of_getElem? (i := 15) rfl)
set_option maxRecDepth 20000 in
theorem tioX0_init : ∀ w ∈ owX0_init, w ∈ lw_tbl := List.forall_mem_cons.mpr ⟨tihX0_init, by decide +kernel⟩
def wsX0_init : List Cond := owX0_init ++ (wsX00)
theorem al_wsX0_init : wsX0_init.all goodWord = true := wa_a aloX0_init al_wsX00
theorem ti_wsX0_init : ∀ w ∈ wsX0_init, w ∈ lw_tbl := wi_a tioX0_init ti_wsX00
def owX0_hasMoreThan16Bits : List Cond := [Cond.code yX0_hasMoreThan16Bits cX0_hasMoreThan16Bits 1 (some .boolean), Cond.constant RX0 126 (65535)]
set_option maxRecDepth 20000 in
theorem aloX0_hasMoreThan16Bits : owX0_hasMoreThan16Bits.all goodWord = true := by decide +kernel
set_option maxRecDepth 20000 in
theorem tihX0_hasMoreThan16Bits : Cond.code yX0_hasMoreThan16Bits cX0_hasMoreThan16Bits 1 (some .boolean) ∈ lw_tbl := List.mem_append_right _ (List.mem_of_getElem? (i := 50) rfl)
set_option maxRecDepth 20000 in
theorem tioX0_hasMoreThan16Bits : ∀ w ∈ owX0_hasMoreThan16Bits, w ∈ lw_tbl := List.forall_mem_cons.mpr ⟨tihX0_hasMoreThan16Bits, by decide +kernel⟩
def wsX0_hasMoreThan16Bits : List Cond := owX0_hasMoreThan16Bits
theorem al_wsX0_hasMoreThan16Bits : wsX0_hasMoreThan16Bits.all goodWord = true := aloX0_hasMoreThan16Bits
theorem ti_wsX0_hasMoreThan16Bits : ∀ w ∈ wsX0_hasMoreThan16Bits, w ∈ lw_tbl := tioX0_hasMoreThan16Bits
def owX0_control : List Cond := [Cond.code yX0_control cX0_control 2 none, Cond.methodLink RX0 21 yX0_hasMoreThan16Bits, Cond.static yX0_hasMoreThan16Bits, Cond.initialized RX0, Cond.classLink RX0 25 "java/lang/IllegalArgumentException", Cond.initialized "java/lang/IllegalArgumentException", Cond.fieldLink RX0 17 "TemporaryReals" "word" "I"]
set_option maxRecDepth 20000 in
theorem aloX0_control : owX0_control.all goodWord = true := by decide +kernel
set_option maxRecDepth 20000 in
theorem tihX0_control : Cond.code yX0_control cX0_control 2 none ∈ lw_tbl := List.mem_append_right _ (List.mem_of_getElem? (i := 47) rfl)
set_option maxRecDepth 20000 in
theorem tioX0_control : ∀ w ∈ owX0_control, w ∈ lw_tbl := List.forall_mem_cons.mpr ⟨tihX0_control, by decide +kernel⟩
def wsX0_control : List Cond := owX0_control ++ (wsX00 ++ (xT2 ++ (wsX0_hasMoreThan16Bits)))
theorem al_wsX0_control : wsX0_control.all goodWord = true := wa_a aloX0_control (wa_a al_wsX00 (wa_a al_xT2 al_wsX0_hasMoreThan16Bits))
theorem ti_wsX0_control : ∀ w ∈ wsX0_control, w ∈ lw_tbl := wi_a tioX0_control (wi_a ti_wsX00 (wi_a ti_xT2 ti_wsX0_hasMoreThan16Bits))
def owL_control : List Cond := [Cond.codeWith yL_control cL_control 3 (some .int) [(0, 5, 8, 13)], Cond.classLink RL 13 "java/lang/IllegalArgumentException", Cond.methodLink RL 7 yX0_control, Cond.instanceMethod yX0_control, Cond.selects RX0 yX0_control yX0_control, Cond.initialized RX0]
set_option maxRecDepth 20000 in
theorem aloL_control : owL_control.all goodWord = true := by decide +kernel
set_option maxRecDepth 20000 in
theorem tihL_control : Cond.codeWith yL_control cL_control 3 (some .int) [(0, 5, 8, 13)] ∈ lw_tbl := List.mem_append_right _ (List.mem_of_getElem? (i := 42) rfl)
set_option maxRecDepth 20000 in
theorem tioL_control : ∀ w ∈ owL_control, w ∈ lw_tbl := List.forall_mem_cons.mpr ⟨tihL_control, by decide +kernel⟩
def wsL_control : List Cond := owL_control ++ (wsX0_control)
theorem al_wsL_control : wsL_control.all goodWord = true := wa_a aloL_control al_wsX0_control
theorem ti_wsL_control : ∀ w ∈ wsL_control, w ∈ lw_tbl := wi_a tioL_control ti_wsX0_control
def owX0_isNoRegister : List Cond := [Cond.code yX0_isNoRegister cX0_isNoRegister 1 (some .boolean)]
set_option maxRecDepth 20000 in
theorem aloX0_isNoRegister : owX0_isNoRegister.all goodWord = true := by decide +kernel
set_option maxRecDepth 20000 in
theorem tihX0_isNoRegister : Cond.code yX0_isNoRegister cX0_isNoRegister 1 (some .boolean) ∈ lw_tbl := List.mem_append_right _ (List.mem_of_getElem? (i := 129) rfl)
set_option maxRecDepth 20000 in
theorem tioX0_isNoRegister : ∀ w ∈ owX0_isNoRegister, w ∈ lw_tbl := List.forall_mem_cons.mpr ⟨tihX0_isNoRegister, by decide +kernel⟩
def wsX0_isNoRegister : List Cond := owX0_isNoRegister
theorem al_wsX0_isNoRegister : wsX0_isNoRegister.all goodWord = true := aloX0_isNoRegister
theorem ti_wsX0_isNoRegister : ∀ w ∈ wsX0_isNoRegister, w ∈ lw_tbl := tioX0_isNoRegister
def owX0_join : List Cond := [Cond.code yX0_join cX0_join 2 (some .long), Cond.constantLong RX0 127 (4294967295)]
set_option maxRecDepth 20000 in
theorem aloX0_join : owX0_join.all goodWord = true := by decide +kernel
set_option maxRecDepth 20000 in
theorem tihX0_join : Cond.code yX0_join cX0_join 2 (some .long) ∈ lw_tbl := List.mem_append_right _ (List.mem_of_getElem? (i := 149) rfl)
set_option maxRecDepth 20000 in
theorem tioX0_join : ∀ w ∈ owX0_join, w ∈ lw_tbl := List.forall_mem_cons.mpr ⟨tihX0_join, by decide +kernel⟩
def wsX0_join : List Cond := owX0_join
theorem al_wsX0_join : wsX0_join.all goodWord = true := aloX0_join
theorem ti_wsX0_join : ∀ w ∈ wsX0_join, w ∈ lw_tbl := tioX0_join
def owX0_set : List Cond := [Cond.code yX0_set cX0_set 5 none, Cond.methodLink RX0 32 yX0_isNoRegister, Cond.static yX0_isNoRegister, Cond.initialized RX0, Cond.classLink RX0 35 "java/lang/IndexOutOfBoundsException", Cond.initialized "java/lang/IndexOutOfBoundsException", Cond.methodLink RX0 21 yX0_hasMoreThan16Bits, Cond.static yX0_hasMoreThan16Bits, Cond.classLink RX0 25 "java/lang/IllegalArgumentException", Cond.initialized "java/lang/IllegalArgumentException", Cond.fieldLink RX0 9 "TemporaryReals" "tops" "[I", Cond.fieldLink RX0 13 "TemporaryReals" "fractions" "[J", Cond.methodLink RX0 42 yX0_join, Cond.static yX0_join]
set_option maxRecDepth 20000 in
theorem aloX0_set : owX0_set.all goodWord = true := by decide +kernel
set_option maxRecDepth 20000 in
theorem tihX0_set : Cond.code yX0_set cX0_set 5 none ∈ lw_tbl := List.mem_append_right _ (List.mem_of_getElem? (i := 126) rfl)
set_option maxRecDepth 20000 in
theorem tioX0_set : ∀ w ∈ owX0_set, w ∈ lw_tbl := List.forall_mem_cons.mpr ⟨tihX0_set, by decide +kernel⟩
def wsX0_set : List Cond := owX0_set ++ (wsX00 ++ (xT2 ++ (xT1 ++ (wsX0_isNoRegister ++ (wsX0_hasMoreThan16Bits ++ (wsX0_join))))))
theorem al_wsX0_set : wsX0_set.all goodWord = true := wa_a aloX0_set (wa_a al_wsX00 (wa_a al_xT2 (wa_a al_xT1 (wa_a al_wsX0_isNoRegister (wa_a al_wsX0_hasMoreThan16Bits al_wsX0_join)))))
theorem ti_wsX0_set : ∀ w ∈ wsX0_set, w ∈ lw_tbl := wi_a tioX0_set (wi_a ti_wsX00 (wi_a ti_xT2 (wi_a ti_xT1 (wi_a ti_wsX0_isNoRegister (wi_a ti_wsX0_hasMoreThan16Bits ti_wsX0_join)))))
def owL_set : List Cond := [Cond.codeWith yL_set cL_set 6 (some .int) [(0, 9, 12, 19), (0, 9, 16, 13)], Cond.classLink RL 19 "java/lang/IndexOutOfBoundsException", Cond.classLink RL 13 "java/lang/IllegalArgumentException", Cond.methodLink RL 15 yX0_set, Cond.instanceMethod yX0_set, Cond.selects RX0 yX0_set yX0_set, Cond.initialized RX0]
set_option maxRecDepth 20000 in
theorem aloL_set : owL_set.all goodWord = true := by decide +kernel
set_option maxRecDepth 20000 in
theorem tihL_set : Cond.codeWith yL_set cL_set 6 (some .int) [(0, 9, 12, 19), (0, 9, 16, 13)] ∈ lw_tbl := List.mem_append_right _ (List.mem_of_getElem? (i := 121) rfl)
set_option maxRecDepth 20000 in
theorem tioL_set : ∀ w ∈ owL_set, w ∈ lw_tbl := List.forall_mem_cons.mpr ⟨tihL_set, by decide +kernel⟩
def wsL_set : List Cond := owL_set ++ (wsX0_set)
theorem al_wsL_set : wsL_set.all goodWord = true := wa_a aloL_set al_wsX0_set
theorem ti_wsL_set : ∀ w ∈ wsL_set, w ∈ lw_tbl := wi_a tioL_set ti_wsX0_set
def owX0_powerOf : List Cond := [Cond.code yX0_powerOf cX0_powerOf 2 (some .int), Cond.fieldLink RX0 9 "TemporaryReals" "tops" "[I"]
set_option maxRecDepth 20000 in
theorem aloX0_powerOf : owX0_powerOf.all goodWord = true := by decide +kernel
set_option maxRecDepth 20000 in
theorem tihX0_powerOf : Cond.code yX0_powerOf cX0_powerOf 2 (some .int) ∈ lw_tbl := List.mem_append_right _ (List.mem_of_getElem? (i := 165) rfl)
set_option maxRecDepth 20000 in
theorem tioX0_powerOf : ∀ w ∈ owX0_powerOf, w ∈ lw_tbl := List.forall_mem_cons.mpr ⟨tihX0_powerOf, by decide +kernel⟩
def wsX0_powerOf : List Cond := owX0_powerOf ++ (wsX00)
theorem al_wsX0_powerOf : wsX0_powerOf.all goodWord = true := wa_a aloX0_powerOf al_wsX00
theorem ti_wsX0_powerOf : ∀ w ∈ wsX0_powerOf, w ∈ lw_tbl := wi_a tioX0_powerOf ti_wsX00
def owX0_kindOf : List Cond := [Cond.code yX0_kindOf cX0_kindOf 5 (some .int), Cond.methodLink RX0 80 yX0_powerOf, Cond.instanceMethod yX0_powerOf, Cond.selects RX0 yX0_powerOf yX0_powerOf, Cond.initialized RX0, Cond.fieldLink RX0 13 "TemporaryReals" "fractions" "[J", Cond.constantLong RX0 130 (9223372036854775807)]
set_option maxRecDepth 20000 in
theorem aloX0_kindOf : owX0_kindOf.all goodWord = true := by decide +kernel
set_option maxRecDepth 20000 in
theorem tihX0_kindOf : Cond.code yX0_kindOf cX0_kindOf 5 (some .int) ∈ lw_tbl := List.mem_append_right _ (List.mem_of_getElem? (i := 161) rfl)
set_option maxRecDepth 20000 in
theorem tioX0_kindOf : ∀ w ∈ owX0_kindOf, w ∈ lw_tbl := List.forall_mem_cons.mpr ⟨tihX0_kindOf, by decide +kernel⟩
def wsX0_kindOf : List Cond := owX0_kindOf ++ (wsX00 ++ (wsX0_powerOf))
theorem al_wsX0_kindOf : wsX0_kindOf.all goodWord = true := wa_a aloX0_kindOf (wa_a al_wsX00 al_wsX0_powerOf)
theorem ti_wsX0_kindOf : ∀ w ∈ wsX0_kindOf, w ∈ lw_tbl := wi_a tioX0_kindOf (wi_a ti_wsX00 ti_wsX0_powerOf)
def owJI_numberOfLeadingZeros : List Cond := [Cond.code yJI_numberOfLeadingZeros cJI_numberOfLeadingZeros 2 (some .int), Cond.constant RJI 264 (65536)]
set_option maxRecDepth 20000 in
theorem aloJI_numberOfLeadingZeros : owJI_numberOfLeadingZeros.all goodWord = true := by decide +kernel
set_option maxRecDepth 20000 in
theorem tihJI_numberOfLeadingZeros : Cond.code yJI_numberOfLeadingZeros cJI_numberOfLeadingZeros 2 (some .int) ∈ lw_tbl := List.mem_append_right _ (List.mem_of_getElem? (i := 172) rfl)
set_option maxRecDepth 20000 in
theorem tioJI_numberOfLeadingZeros : ∀ w ∈ owJI_numberOfLeadingZeros, w ∈ lw_tbl := List.forall_mem_cons.mpr ⟨tihJI_numberOfLeadingZeros, by decide +kernel⟩
def wsJI_numberOfLeadingZeros : List Cond := owJI_numberOfLeadingZeros
theorem al_wsJI_numberOfLeadingZeros : wsJI_numberOfLeadingZeros.all goodWord = true := aloJI_numberOfLeadingZeros
theorem ti_wsJI_numberOfLeadingZeros : ∀ w ∈ wsJI_numberOfLeadingZeros, w ∈ lw_tbl := tioJI_numberOfLeadingZeros
def owJL_numberOfLeadingZeros : List Cond := [Cond.code yJL_numberOfLeadingZeros cJL_numberOfLeadingZeros 3 (some .int), Cond.methodLink RJL 308 yJI_numberOfLeadingZeros, Cond.static yJI_numberOfLeadingZeros, Cond.initialized RJI]
set_option maxRecDepth 20000 in
theorem aloJL_numberOfLeadingZeros : owJL_numberOfLeadingZeros.all goodWord = true := by decide +kernel
set_option maxRecDepth 20000 in
theorem tihJL_numberOfLeadingZeros : Cond.code yJL_numberOfLeadingZeros cJL_numberOfLeadingZeros 3 (some .int) ∈ lw_tbl := List.mem_append_right _ (List.mem_of_getElem? (i := 169) rfl)
set_option maxRecDepth 20000 in
theorem tioJL_numberOfLeadingZeros : ∀ w ∈ owJL_numberOfLeadingZeros, w ∈ lw_tbl := List.forall_mem_cons.mpr ⟨tihJL_numberOfLeadingZeros, by decide +kernel⟩
def wsJL_numberOfLeadingZeros : List Cond := owJL_numberOfLeadingZeros ++ (wsJI_numberOfLeadingZeros)
theorem al_wsJL_numberOfLeadingZeros : wsJL_numberOfLeadingZeros.all goodWord = true := wa_a aloJL_numberOfLeadingZeros al_wsJI_numberOfLeadingZeros
theorem ti_wsJL_numberOfLeadingZeros : ∀ w ∈ wsJL_numberOfLeadingZeros, w ∈ lw_tbl := wi_a tioJL_numberOfLeadingZeros ti_wsJI_numberOfLeadingZeros
def owX0_part : List Cond := [Cond.code yX0_part cX0_part 3 (some .int), Cond.methodLink RX0 32 yX0_isNoRegister, Cond.static yX0_isNoRegister, Cond.initialized RX0, Cond.classLink RX0 35 "java/lang/IndexOutOfBoundsException", Cond.initialized "java/lang/IndexOutOfBoundsException", Cond.fieldLink RX0 9 "TemporaryReals" "tops" "[I", Cond.fieldLink RX0 13 "TemporaryReals" "fractions" "[J", Cond.methodLink RX0 46 yX0_kindOf, Cond.instanceMethod yX0_kindOf, Cond.selects RX0 yX0_kindOf yX0_kindOf, Cond.methodLink RX0 50 yJL_numberOfLeadingZeros, Cond.static yJL_numberOfLeadingZeros, Cond.initialized RJL, Cond.classLink RX0 25 "java/lang/IllegalArgumentException", Cond.initialized "java/lang/IllegalArgumentException"]
set_option maxRecDepth 20000 in
theorem aloX0_part : owX0_part.all goodWord = true := by decide +kernel
set_option maxRecDepth 20000 in
theorem tihX0_part : Cond.code yX0_part cX0_part 3 (some .int) ∈ lw_tbl := List.mem_append_right _ (List.mem_of_getElem? (i := 157) rfl)
set_option maxRecDepth 20000 in
theorem tioX0_part : ∀ w ∈ owX0_part, w ∈ lw_tbl := List.forall_mem_cons.mpr ⟨tihX0_part, by decide +kernel⟩
def wsX0_part : List Cond := owX0_part ++ (wsX00 ++ (xT2 ++ (xT1 ++ (wsX0_isNoRegister ++ (wsX0_kindOf ++ (wsJL_numberOfLeadingZeros))))))
theorem al_wsX0_part : wsX0_part.all goodWord = true := wa_a aloX0_part (wa_a al_wsX00 (wa_a al_xT2 (wa_a al_xT1 (wa_a al_wsX0_isNoRegister (wa_a al_wsX0_kindOf al_wsJL_numberOfLeadingZeros)))))
theorem ti_wsX0_part : ∀ w ∈ wsX0_part, w ∈ lw_tbl := wi_a tioX0_part (wi_a ti_wsX00 (wi_a ti_xT2 (wi_a ti_xT1 (wi_a ti_wsX0_isNoRegister (wi_a ti_wsX0_kindOf ti_wsJL_numberOfLeadingZeros)))))
def owL_part : List Cond := [Cond.codeWith yL_part cL_part 5 (some .int) [(0, 10, 13, 19), (0, 10, 17, 13)], Cond.classLink RL 19 "java/lang/IndexOutOfBoundsException", Cond.classLink RL 13 "java/lang/IllegalArgumentException", Cond.methodLink RL 21 yX0_part, Cond.instanceMethod yX0_part, Cond.selects RX0 yX0_part yX0_part, Cond.initialized RX0]
set_option maxRecDepth 20000 in
theorem aloL_part : owL_part.all goodWord = true := by decide +kernel
set_option maxRecDepth 20000 in
theorem tihL_part : Cond.codeWith yL_part cL_part 5 (some .int) [(0, 10, 13, 19), (0, 10, 17, 13)] ∈ lw_tbl := List.mem_append_right _ (List.mem_of_getElem? (i := 153) rfl)
set_option maxRecDepth 20000 in
theorem tioL_part : ∀ w ∈ owL_part, w ∈ lw_tbl := List.forall_mem_cons.mpr ⟨tihL_part, by decide +kernel⟩
def wsL_part : List Cond := owL_part ++ (wsX0_part)
theorem al_wsL_part : wsL_part.all goodWord = true := wa_a aloL_part al_wsX0_part
theorem ti_wsL_part : ∀ w ∈ wsL_part, w ∈ lw_tbl := wi_a tioL_part ti_wsX0_part
def owX0_shiftIn : List Cond := [Cond.code yX0_shiftIn cX0_shiftIn 5 (some .long)]
set_option maxRecDepth 20000 in
theorem aloX0_shiftIn : owX0_shiftIn.all goodWord = true := by decide +kernel
set_option maxRecDepth 20000 in
theorem tihX0_shiftIn : Cond.code yX0_shiftIn cX0_shiftIn 5 (some .long) ∈ lw_tbl := List.mem_append_right _ (List.mem_of_getElem? (i := 188) rfl)
set_option maxRecDepth 20000 in
theorem tioX0_shiftIn : ∀ w ∈ owX0_shiftIn, w ∈ lw_tbl := List.forall_mem_cons.mpr ⟨tihX0_shiftIn, by decide +kernel⟩
def wsX0_shiftIn : List Cond := owX0_shiftIn
theorem al_wsX0_shiftIn : wsX0_shiftIn.all goodWord = true := aloX0_shiftIn
theorem ti_wsX0_shiftIn : ∀ w ∈ wsX0_shiftIn, w ∈ lw_tbl := tioX0_shiftIn
def owX0_store : List Cond := [Cond.code yX0_store cX0_store 6 none, Cond.fieldLink RX0 9 "TemporaryReals" "tops" "[I", Cond.constant RX0 129 (32768), Cond.fieldLink RX0 13 "TemporaryReals" "fractions" "[J"]
set_option maxRecDepth 20000 in
theorem aloX0_store : owX0_store.all goodWord = true := by decide +kernel
set_option maxRecDepth 20000 in
theorem tihX0_store : Cond.code yX0_store cX0_store 6 none ∈ lw_tbl := List.mem_append_right _ (List.mem_of_getElem? (i := 196) rfl)
set_option maxRecDepth 20000 in
theorem tioX0_store : ∀ w ∈ owX0_store, w ∈ lw_tbl := List.forall_mem_cons.mpr ⟨tihX0_store, by decide +kernel⟩
def wsX0_store : List Cond := owX0_store ++ (wsX00)
theorem al_wsX0_store : wsX0_store.all goodWord = true := wa_a aloX0_store al_wsX00
theorem ti_wsX0_store : ∀ w ∈ wsX0_store, w ∈ lw_tbl := wi_a tioX0_store ti_wsX00
def owX0_tell : List Cond := [Cond.code yX0_tell cX0_tell 4 (some .int), Cond.fieldLink RX0 92 "TemporaryReals" "lastTold" "I", Cond.fieldLink RX0 95 "TemporaryReals" "lastK" "I", Cond.fieldLink RX0 98 "TemporaryReals" "lastChange" "I"]
set_option maxRecDepth 20000 in
theorem aloX0_tell : owX0_tell.all goodWord = true := by decide +kernel
set_option maxRecDepth 20000 in
theorem tihX0_tell : Cond.code yX0_tell cX0_tell 4 (some .int) ∈ lw_tbl := List.mem_append_right _ (List.mem_of_getElem? (i := 201) rfl)
set_option maxRecDepth 20000 in
theorem tioX0_tell : ∀ w ∈ owX0_tell, w ∈ lw_tbl := List.forall_mem_cons.mpr ⟨tihX0_tell, by decide +kernel⟩
def wsX0_tell : List Cond := owX0_tell ++ (wsX00)
theorem al_wsX0_tell : wsX0_tell.all goodWord = true := wa_a aloX0_tell al_wsX00
theorem ti_wsX0_tell : ∀ w ∈ wsX0_tell, w ∈ lw_tbl := wi_a tioX0_tell ti_wsX00
def owX0_isMasked : List Cond := [Cond.code yX0_isMasked cX0_isMasked 2 (some .boolean), Cond.fieldLink RX0 17 "TemporaryReals" "word" "I"]
set_option maxRecDepth 20000 in
theorem aloX0_isMasked : owX0_isMasked.all goodWord = true := by decide +kernel
set_option maxRecDepth 20000 in
theorem tihX0_isMasked : Cond.code yX0_isMasked cX0_isMasked 2 (some .boolean) ∈ lw_tbl := List.mem_append_right _ (List.mem_of_getElem? (i := 205) rfl)
set_option maxRecDepth 20000 in
theorem tioX0_isMasked : ∀ w ∈ owX0_isMasked, w ∈ lw_tbl := List.forall_mem_cons.mpr ⟨tihX0_isMasked, by decide +kernel⟩
def wsX0_isMasked : List Cond := owX0_isMasked ++ (wsX00)
theorem al_wsX0_isMasked : wsX0_isMasked.all goodWord = true := wa_a aloX0_isMasked al_wsX00
theorem ti_wsX0_isMasked : ∀ w ∈ wsX0_isMasked, w ∈ lw_tbl := wi_a tioX0_isMasked ti_wsX00
def owX0_digits : List Cond := [Cond.code yX0_digits cX0_digits 1 (some .int), Cond.fieldLink RX0 17 "TemporaryReals" "word" "I"]
set_option maxRecDepth 20000 in
theorem aloX0_digits : owX0_digits.all goodWord = true := by decide +kernel
set_option maxRecDepth 20000 in
theorem tihX0_digits : Cond.code yX0_digits cX0_digits 1 (some .int) ∈ lw_tbl := List.mem_append_right _ (List.mem_of_getElem? (i := 213) rfl)
set_option maxRecDepth 20000 in
theorem tioX0_digits : ∀ w ∈ owX0_digits, w ∈ lw_tbl := List.forall_mem_cons.mpr ⟨tihX0_digits, by decide +kernel⟩
def wsX0_digits : List Cond := owX0_digits ++ (wsX00)
theorem al_wsX0_digits : wsX0_digits.all goodWord = true := wa_a aloX0_digits al_wsX00
theorem ti_wsX0_digits : ∀ w ∈ wsX0_digits, w ∈ lw_tbl := wi_a tioX0_digits ti_wsX00
def owX0_wholePart : List Cond := [Cond.code yX0_wholePart cX0_wholePart 3 (some .long)]
set_option maxRecDepth 20000 in
theorem aloX0_wholePart : owX0_wholePart.all goodWord = true := by decide +kernel
set_option maxRecDepth 20000 in
theorem tihX0_wholePart : Cond.code yX0_wholePart cX0_wholePart 3 (some .long) ∈ lw_tbl := List.mem_append_right _ (List.mem_of_getElem? (i := 216) rfl)
set_option maxRecDepth 20000 in
theorem tioX0_wholePart : ∀ w ∈ owX0_wholePart, w ∈ lw_tbl := List.forall_mem_cons.mpr ⟨tihX0_wholePart, by decide +kernel⟩
def wsX0_wholePart : List Cond := owX0_wholePart
theorem al_wsX0_wholePart : wsX0_wholePart.all goodWord = true := aloX0_wholePart
theorem ti_wsX0_wholePart : ∀ w ∈ wsX0_wholePart, w ∈ lw_tbl := tioX0_wholePart
def owX0_lostPart : List Cond := [Cond.code yX0_lostPart cX0_lostPart 7 (some .long)]
set_option maxRecDepth 20000 in
theorem aloX0_lostPart : owX0_lostPart.all goodWord = true := by decide +kernel
set_option maxRecDepth 20000 in
theorem tihX0_lostPart : Cond.code yX0_lostPart cX0_lostPart 7 (some .long) ∈ lw_tbl := List.mem_append_right _ (List.mem_of_getElem? (i := 219) rfl)
set_option maxRecDepth 20000 in
theorem tioX0_lostPart : ∀ w ∈ owX0_lostPart, w ∈ lw_tbl := List.forall_mem_cons.mpr ⟨tihX0_lostPart, by decide +kernel⟩
def wsX0_lostPart : List Cond := owX0_lostPart
theorem al_wsX0_lostPart : wsX0_lostPart.all goodWord = true := aloX0_lostPart
theorem ti_wsX0_lostPart : ∀ w ∈ wsX0_lostPart, w ∈ lw_tbl := tioX0_lostPart
def owX0_rounding : List Cond := [Cond.code yX0_rounding cX0_rounding 1 (some .int), Cond.fieldLink RX0 17 "TemporaryReals" "word" "I"]
set_option maxRecDepth 20000 in
theorem aloX0_rounding : owX0_rounding.all goodWord = true := by decide +kernel
set_option maxRecDepth 20000 in
theorem tihX0_rounding : Cond.code yX0_rounding cX0_rounding 1 (some .int) ∈ lw_tbl := List.mem_append_right _ (List.mem_of_getElem? (i := 227) rfl)
set_option maxRecDepth 20000 in
theorem tioX0_rounding : ∀ w ∈ owX0_rounding, w ∈ lw_tbl := List.forall_mem_cons.mpr ⟨tihX0_rounding, by decide +kernel⟩
def wsX0_rounding : List Cond := owX0_rounding ++ (wsX00)
theorem al_wsX0_rounding : wsX0_rounding.all goodWord = true := wa_a aloX0_rounding al_wsX00
theorem ti_wsX0_rounding : ∀ w ∈ wsX0_rounding, w ∈ lw_tbl := wi_a tioX0_rounding ti_wsX00
def owX0_goesAway : List Cond := [Cond.code yX0_goesAway cX0_goesAway 3 (some .boolean), Cond.methodLink RX0 132 yX0_rounding, Cond.instanceMethod yX0_rounding, Cond.selects RX0 yX0_rounding yX0_rounding, Cond.initialized RX0]
set_option maxRecDepth 20000 in
theorem aloX0_goesAway : owX0_goesAway.all goodWord = true := by decide +kernel
set_option maxRecDepth 20000 in
theorem tihX0_goesAway : Cond.code yX0_goesAway cX0_goesAway 3 (some .boolean) ∈ lw_tbl := List.mem_append_right _ (List.mem_of_getElem? (i := 231) rfl)
set_option maxRecDepth 20000 in
theorem tioX0_goesAway : ∀ w ∈ owX0_goesAway, w ∈ lw_tbl := List.forall_mem_cons.mpr ⟨tihX0_goesAway, by decide +kernel⟩
def wsX0_goesAway : List Cond := owX0_goesAway ++ (wsX0_rounding)
theorem al_wsX0_goesAway : wsX0_goesAway.all goodWord = true := wa_a aloX0_goesAway al_wsX0_rounding
theorem ti_wsX0_goesAway : ∀ w ∈ wsX0_goesAway, w ∈ lw_tbl := wi_a tioX0_goesAway ti_wsX0_rounding
def owX0_takesAbove : List Cond := [Cond.code yX0_takesAbove cX0_takesAbove 6 (some .boolean), Cond.methodLink RX0 132 yX0_rounding, Cond.instanceMethod yX0_rounding, Cond.selects RX0 yX0_rounding yX0_rounding, Cond.initialized RX0, Cond.methodLink RX0 136 yX0_goesAway, Cond.instanceMethod yX0_goesAway, Cond.selects RX0 yX0_goesAway yX0_goesAway, Cond.constantLong RX0 62 (-9223372036854775808)]
set_option maxRecDepth 20000 in
theorem aloX0_takesAbove : owX0_takesAbove.all goodWord = true := by decide +kernel
set_option maxRecDepth 20000 in
theorem tihX0_takesAbove : Cond.code yX0_takesAbove cX0_takesAbove 6 (some .boolean) ∈ lw_tbl := List.mem_append_right _ (List.mem_of_getElem? (i := 223) rfl)
set_option maxRecDepth 20000 in
theorem tioX0_takesAbove : ∀ w ∈ owX0_takesAbove, w ∈ lw_tbl := List.forall_mem_cons.mpr ⟨tihX0_takesAbove, by decide +kernel⟩
def wsX0_takesAbove : List Cond := owX0_takesAbove ++ (wsX0_rounding ++ (wsX0_goesAway))
theorem al_wsX0_takesAbove : wsX0_takesAbove.all goodWord = true := wa_a aloX0_takesAbove (wa_a al_wsX0_rounding al_wsX0_goesAway)
theorem ti_wsX0_takesAbove : ∀ w ∈ wsX0_takesAbove, w ∈ lw_tbl := wi_a tioX0_takesAbove (wi_a ti_wsX0_rounding ti_wsX0_goesAway)
def owX0_changeOf : List Cond := [Cond.code yX0_changeOf cX0_changeOf 3 (some .int)]
set_option maxRecDepth 20000 in
theorem aloX0_changeOf : owX0_changeOf.all goodWord = true := by decide +kernel
set_option maxRecDepth 20000 in
theorem tihX0_changeOf : Cond.code yX0_changeOf cX0_changeOf 3 (some .int) ∈ lw_tbl := List.mem_append_right _ (List.mem_of_getElem? (i := 234) rfl)
set_option maxRecDepth 20000 in
theorem tioX0_changeOf : ∀ w ∈ owX0_changeOf, w ∈ lw_tbl := List.forall_mem_cons.mpr ⟨tihX0_changeOf, by decide +kernel⟩
def wsX0_changeOf : List Cond := owX0_changeOf
theorem al_wsX0_changeOf : wsX0_changeOf.all goodWord = true := aloX0_changeOf
theorem ti_wsX0_changeOf : ∀ w ∈ wsX0_changeOf, w ∈ lw_tbl := tioX0_changeOf
def owX0_makeSmall : List Cond := [Cond.code yX0_makeSmall cX0_makeSmall 17 (some .int), Cond.methodLink RX0 149 yX0_digits, Cond.instanceMethod yX0_digits, Cond.selects RX0 yX0_digits yX0_digits, Cond.initialized RX0, Cond.methodLink RX0 152 yX0_wholePart, Cond.static yX0_wholePart, Cond.methodLink RX0 156 yX0_lostPart, Cond.static yX0_lostPart, Cond.methodLink RX0 159 yX0_takesAbove, Cond.instanceMethod yX0_takesAbove, Cond.selects RX0 yX0_takesAbove yX0_takesAbove, Cond.methodLink RX0 109 yX0_store, Cond.instanceMethod yX0_store, Cond.selects RX0 yX0_store yX0_store, Cond.methodLink RX0 163 yX0_changeOf, Cond.static yX0_changeOf, Cond.methodLink RX0 76 yX0_tell, Cond.instanceMethod yX0_tell, Cond.selects RX0 yX0_tell yX0_tell]
set_option maxRecDepth 20000 in
theorem aloX0_makeSmall : owX0_makeSmall.all goodWord = true := by decide +kernel
set_option maxRecDepth 20000 in
theorem tihX0_makeSmall : Cond.code yX0_makeSmall cX0_makeSmall 17 (some .int) ∈ lw_tbl := List.mem_append_right _ (List.mem_of_getElem? (i := 209) rfl)
set_option maxRecDepth 20000 in
theorem tioX0_makeSmall : ∀ w ∈ owX0_makeSmall, w ∈ lw_tbl := List.forall_mem_cons.mpr ⟨tihX0_makeSmall, by decide +kernel⟩
def wsX0_makeSmall : List Cond := owX0_makeSmall ++ (wsX0_digits ++ (wsX0_wholePart ++ (wsX0_lostPart ++ (wsX0_takesAbove ++ (wsX0_store ++ (wsX0_changeOf ++ (wsX0_tell)))))))
theorem al_wsX0_makeSmall : wsX0_makeSmall.all goodWord = true := wa_a aloX0_makeSmall (wa_a al_wsX0_digits (wa_a al_wsX0_wholePart (wa_a al_wsX0_lostPart (wa_a al_wsX0_takesAbove (wa_a al_wsX0_store (wa_a al_wsX0_changeOf al_wsX0_tell))))))
theorem ti_wsX0_makeSmall : ∀ w ∈ wsX0_makeSmall, w ∈ lw_tbl := wi_a tioX0_makeSmall (wi_a ti_wsX0_digits (wi_a ti_wsX0_wholePart (wi_a ti_wsX0_lostPart (wi_a ti_wsX0_takesAbove (wi_a ti_wsX0_store (wi_a ti_wsX0_changeOf ti_wsX0_tell))))))
def owX0_makeTooGreat : List Cond := [Cond.code yX0_makeTooGreat cX0_makeTooGreat 4 (some .int), Cond.methodLink RX0 132 yX0_rounding, Cond.instanceMethod yX0_rounding, Cond.selects RX0 yX0_rounding yX0_rounding, Cond.initialized RX0, Cond.methodLink RX0 136 yX0_goesAway, Cond.instanceMethod yX0_goesAway, Cond.selects RX0 yX0_goesAway yX0_goesAway, Cond.constantLong RX0 62 (-9223372036854775808), Cond.methodLink RX0 109 yX0_store, Cond.instanceMethod yX0_store, Cond.selects RX0 yX0_store yX0_store, Cond.methodLink RX0 76 yX0_tell, Cond.instanceMethod yX0_tell, Cond.selects RX0 yX0_tell yX0_tell, Cond.constantLong RX0 171 (-1), Cond.methodLink RX0 149 yX0_digits, Cond.instanceMethod yX0_digits, Cond.selects RX0 yX0_digits yX0_digits]
set_option maxRecDepth 20000 in
theorem aloX0_makeTooGreat : owX0_makeTooGreat.all goodWord = true := by decide +kernel
set_option maxRecDepth 20000 in
theorem tihX0_makeTooGreat : Cond.code yX0_makeTooGreat cX0_makeTooGreat 4 (some .int) ∈ lw_tbl := List.mem_append_right _ (List.mem_of_getElem? (i := 242) rfl)
set_option maxRecDepth 20000 in
theorem tioX0_makeTooGreat : ∀ w ∈ owX0_makeTooGreat, w ∈ lw_tbl := List.forall_mem_cons.mpr ⟨tihX0_makeTooGreat, by decide +kernel⟩
def wsX0_makeTooGreat : List Cond := owX0_makeTooGreat ++ (wsX0_rounding ++ (wsX0_goesAway ++ (wsX0_store ++ (wsX0_tell ++ (wsX0_digits)))))
theorem al_wsX0_makeTooGreat : wsX0_makeTooGreat.all goodWord = true := wa_a aloX0_makeTooGreat (wa_a al_wsX0_rounding (wa_a al_wsX0_goesAway (wa_a al_wsX0_store (wa_a al_wsX0_tell al_wsX0_digits))))
theorem ti_wsX0_makeTooGreat : ∀ w ∈ wsX0_makeTooGreat, w ∈ lw_tbl := wi_a tioX0_makeTooGreat (wi_a ti_wsX0_rounding (wi_a ti_wsX0_goesAway (wi_a ti_wsX0_store (wi_a ti_wsX0_tell ti_wsX0_digits))))
def owX0_makeRounded : List Cond := [Cond.code yX0_makeRounded cX0_makeRounded 18 (some .int), Cond.methodLink RX0 149 yX0_digits, Cond.instanceMethod yX0_digits, Cond.selects RX0 yX0_digits yX0_digits, Cond.initialized RX0, Cond.methodLink RX0 152 yX0_wholePart, Cond.static yX0_wholePart, Cond.methodLink RX0 156 yX0_lostPart, Cond.static yX0_lostPart, Cond.methodLink RX0 159 yX0_takesAbove, Cond.instanceMethod yX0_takesAbove, Cond.selects RX0 yX0_takesAbove yX0_takesAbove, Cond.constantLong RX0 62 (-9223372036854775808), Cond.methodLink RX0 140 yX0_isMasked, Cond.instanceMethod yX0_isMasked, Cond.selects RX0 yX0_isMasked yX0_isMasked, Cond.methodLink RX0 167 yX0_makeTooGreat, Cond.instanceMethod yX0_makeTooGreat, Cond.selects RX0 yX0_makeTooGreat yX0_makeTooGreat, Cond.methodLink RX0 109 yX0_store, Cond.instanceMethod yX0_store, Cond.selects RX0 yX0_store yX0_store, Cond.methodLink RX0 163 yX0_changeOf, Cond.static yX0_changeOf, Cond.methodLink RX0 76 yX0_tell, Cond.instanceMethod yX0_tell, Cond.selects RX0 yX0_tell yX0_tell]
set_option maxRecDepth 20000 in
theorem aloX0_makeRounded : owX0_makeRounded.all goodWord = true := by decide +kernel
set_option maxRecDepth 20000 in
theorem tihX0_makeRounded : Cond.code yX0_makeRounded cX0_makeRounded 18 (some .int) ∈ lw_tbl := List.mem_append_right _ (List.mem_of_getElem? (i := 238) rfl)
set_option maxRecDepth 20000 in
theorem tioX0_makeRounded : ∀ w ∈ owX0_makeRounded, w ∈ lw_tbl := List.forall_mem_cons.mpr ⟨tihX0_makeRounded, by decide +kernel⟩
def wsX0_makeRounded : List Cond := owX0_makeRounded ++ (wsX0_digits ++ (wsX0_wholePart ++ (wsX0_lostPart ++ (wsX0_takesAbove ++ (wsX0_isMasked ++ (wsX0_makeTooGreat ++ (wsX0_store ++ (wsX0_changeOf ++ (wsX0_tell)))))))))
theorem al_wsX0_makeRounded : wsX0_makeRounded.all goodWord = true := wa_a aloX0_makeRounded (wa_a al_wsX0_digits (wa_a al_wsX0_wholePart (wa_a al_wsX0_lostPart (wa_a al_wsX0_takesAbove (wa_a al_wsX0_isMasked (wa_a al_wsX0_makeTooGreat (wa_a al_wsX0_store (wa_a al_wsX0_changeOf al_wsX0_tell))))))))
theorem ti_wsX0_makeRounded : ∀ w ∈ wsX0_makeRounded, w ∈ lw_tbl := wi_a tioX0_makeRounded (wi_a ti_wsX0_digits (wi_a ti_wsX0_wholePart (wi_a ti_wsX0_lostPart (wi_a ti_wsX0_takesAbove (wi_a ti_wsX0_isMasked (wi_a ti_wsX0_makeTooGreat (wi_a ti_wsX0_store (wi_a ti_wsX0_changeOf ti_wsX0_tell))))))))
def owX0_makeSize : List Cond := [Cond.code yX0_makeSize cX0_makeSize 8 (some .int), Cond.methodLink RX0 109 yX0_store, Cond.instanceMethod yX0_store, Cond.selects RX0 yX0_store yX0_store, Cond.initialized RX0, Cond.methodLink RX0 76 yX0_tell, Cond.instanceMethod yX0_tell, Cond.selects RX0 yX0_tell yX0_tell, Cond.methodLink RX0 140 yX0_isMasked, Cond.instanceMethod yX0_isMasked, Cond.selects RX0 yX0_isMasked yX0_isMasked, Cond.methodLink RX0 143 yX0_makeSmall, Cond.instanceMethod yX0_makeSmall, Cond.selects RX0 yX0_makeSmall yX0_makeSmall, Cond.methodLink RX0 146 yX0_makeRounded, Cond.instanceMethod yX0_makeRounded, Cond.selects RX0 yX0_makeRounded yX0_makeRounded]
set_option maxRecDepth 20000 in
theorem aloX0_makeSize : owX0_makeSize.all goodWord = true := by decide +kernel
set_option maxRecDepth 20000 in
theorem tihX0_makeSize : Cond.code yX0_makeSize cX0_makeSize 8 (some .int) ∈ lw_tbl := List.mem_append_right _ (List.mem_of_getElem? (i := 192) rfl)
set_option maxRecDepth 20000 in
theorem tioX0_makeSize : ∀ w ∈ owX0_makeSize, w ∈ lw_tbl := List.forall_mem_cons.mpr ⟨tihX0_makeSize, by decide +kernel⟩
def wsX0_makeSize : List Cond := owX0_makeSize ++ (wsX0_store ++ (wsX0_tell ++ (wsX0_isMasked ++ (wsX0_makeSmall ++ (wsX0_makeRounded)))))
theorem al_wsX0_makeSize : wsX0_makeSize.all goodWord = true := wa_a aloX0_makeSize (wa_a al_wsX0_store (wa_a al_wsX0_tell (wa_a al_wsX0_isMasked (wa_a al_wsX0_makeSmall al_wsX0_makeRounded))))
theorem ti_wsX0_makeSize : ∀ w ∈ wsX0_makeSize, w ∈ lw_tbl := wi_a tioX0_makeSize (wi_a ti_wsX0_store (wi_a ti_wsX0_tell (wi_a ti_wsX0_isMasked (wi_a ti_wsX0_makeSmall ti_wsX0_makeRounded))))
def owX0_make : List Cond := [Cond.code yX0_make cX0_make 21 (some .int), Cond.methodLink RX0 32 yX0_isNoRegister, Cond.static yX0_isNoRegister, Cond.initialized RX0, Cond.classLink RX0 35 "java/lang/IndexOutOfBoundsException", Cond.initialized "java/lang/IndexOutOfBoundsException", Cond.constant RX0 58 (-33000), Cond.constant RX0 59 (33000), Cond.classLink RX0 25 "java/lang/IllegalArgumentException", Cond.initialized "java/lang/IllegalArgumentException", Cond.methodLink RX0 42 yX0_join, Cond.static yX0_join, Cond.constantLong RX0 62 (-9223372036854775808), Cond.methodLink RX0 50 yJL_numberOfLeadingZeros, Cond.static yJL_numberOfLeadingZeros, Cond.initialized RJL, Cond.methodLink RX0 64 yX0_shiftIn, Cond.static yX0_shiftIn, Cond.methodLink RX0 68 yX0_makeSize, Cond.instanceMethod yX0_makeSize, Cond.selects RX0 yX0_makeSize yX0_makeSize]
set_option maxRecDepth 20000 in
theorem aloX0_make : owX0_make.all goodWord = true := by decide +kernel
set_option maxRecDepth 20000 in
theorem tihX0_make : Cond.code yX0_make cX0_make 21 (some .int) ∈ lw_tbl := List.mem_append_right _ (List.mem_of_getElem? (i := 181) rfl)
set_option maxRecDepth 20000 in
theorem tioX0_make : ∀ w ∈ owX0_make, w ∈ lw_tbl := List.forall_mem_cons.mpr ⟨tihX0_make, by decide +kernel⟩
def wsX0_make : List Cond := owX0_make ++ (xT2 ++ (xT1 ++ (wsX0_isNoRegister ++ (wsX0_join ++ (wsJL_numberOfLeadingZeros ++ (wsX0_shiftIn ++ (wsX0_makeSize)))))))
theorem al_wsX0_make : wsX0_make.all goodWord = true := wa_a aloX0_make (wa_a al_xT2 (wa_a al_xT1 (wa_a al_wsX0_isNoRegister (wa_a al_wsX0_join (wa_a al_wsJL_numberOfLeadingZeros (wa_a al_wsX0_shiftIn al_wsX0_makeSize))))))
theorem ti_wsX0_make : ∀ w ∈ wsX0_make, w ∈ lw_tbl := wi_a tioX0_make (wi_a ti_xT2 (wi_a ti_xT1 (wi_a ti_wsX0_isNoRegister (wi_a ti_wsX0_join (wi_a ti_wsJL_numberOfLeadingZeros (wi_a ti_wsX0_shiftIn ti_wsX0_makeSize))))))
def owL_make : List Cond := [Cond.codeWith yL_make cL_make 11 (some .int) [(0, 22, 25, 19), (0, 22, 29, 13)], Cond.classLink RL 19 "java/lang/IndexOutOfBoundsException", Cond.classLink RL 13 "java/lang/IllegalArgumentException", Cond.methodLink RL 25 yX0_make, Cond.instanceMethod yX0_make, Cond.selects RX0 yX0_make yX0_make, Cond.initialized RX0]
set_option maxRecDepth 20000 in
theorem aloL_make : owL_make.all goodWord = true := by decide +kernel
set_option maxRecDepth 20000 in
theorem tihL_make : Cond.codeWith yL_make cL_make 11 (some .int) [(0, 22, 25, 19), (0, 22, 29, 13)] ∈ lw_tbl := List.mem_append_right _ (List.mem_of_getElem? (i := 177) rfl)
set_option maxRecDepth 20000 in
theorem tioL_make : ∀ w ∈ owL_make, w ∈ lw_tbl := List.forall_mem_cons.mpr ⟨tihL_make, by decide +kernel⟩
def wsL_make : List Cond := owL_make ++ (wsX0_make)
theorem al_wsL_make : wsL_make.all goodWord = true := wa_a aloL_make al_wsX0_make
theorem ti_wsL_make : ∀ w ∈ wsL_make, w ∈ lw_tbl := wi_a tioL_make ti_wsX0_make
def owX0_copy : List Cond := [Cond.code yX0_copy cX0_copy 3 none, Cond.fieldLink RX0 9 "TemporaryReals" "tops" "[I", Cond.fieldLink RX0 13 "TemporaryReals" "fractions" "[J"]
set_option maxRecDepth 20000 in
theorem aloX0_copy : owX0_copy.all goodWord = true := by decide +kernel
set_option maxRecDepth 20000 in
theorem tihX0_copy : Cond.code yX0_copy cX0_copy 3 none ∈ lw_tbl := List.mem_append_right _ (List.mem_of_getElem? (i := 254) rfl)
set_option maxRecDepth 20000 in
theorem tioX0_copy : ∀ w ∈ owX0_copy, w ∈ lw_tbl := List.forall_mem_cons.mpr ⟨tihX0_copy, by decide +kernel⟩
def wsX0_copy : List Cond := owX0_copy ++ (wsX00)
theorem al_wsX0_copy : wsX0_copy.all goodWord = true := wa_a aloX0_copy al_wsX00
theorem ti_wsX0_copy : ∀ w ∈ wsX0_copy, w ∈ lw_tbl := wi_a tioX0_copy ti_wsX00
def owX0_isNegative : List Cond := [Cond.code yX0_isNegative cX0_isNegative 2 (some .boolean), Cond.fieldLink RX0 9 "TemporaryReals" "tops" "[I", Cond.constant RX0 129 (32768)]
set_option maxRecDepth 20000 in
theorem aloX0_isNegative : owX0_isNegative.all goodWord = true := by decide +kernel
set_option maxRecDepth 20000 in
theorem tihX0_isNegative : Cond.code yX0_isNegative cX0_isNegative 2 (some .boolean) ∈ lw_tbl := List.mem_append_right _ (List.mem_of_getElem? (i := 261) rfl)
set_option maxRecDepth 20000 in
theorem tioX0_isNegative : ∀ w ∈ owX0_isNegative, w ∈ lw_tbl := List.forall_mem_cons.mpr ⟨tihX0_isNegative, by decide +kernel⟩
def wsX0_isNegative : List Cond := owX0_isNegative ++ (wsX00)
theorem al_wsX0_isNegative : wsX0_isNegative.all goodWord = true := wa_a aloX0_isNegative al_wsX00
theorem ti_wsX0_isNegative : ∀ w ∈ wsX0_isNegative, w ∈ lw_tbl := wi_a tioX0_isNegative ti_wsX00
def owX0_again : List Cond := [Cond.code yX0_again cX0_again 8 (some .int), Cond.methodLink RX0 32 yX0_isNoRegister, Cond.static yX0_isNoRegister, Cond.initialized RX0, Cond.classLink RX0 35 "java/lang/IndexOutOfBoundsException", Cond.initialized "java/lang/IndexOutOfBoundsException", Cond.methodLink RX0 46 yX0_kindOf, Cond.instanceMethod yX0_kindOf, Cond.selects RX0 yX0_kindOf yX0_kindOf, Cond.methodLink RX0 72 yX0_copy, Cond.instanceMethod yX0_copy, Cond.selects RX0 yX0_copy yX0_copy, Cond.methodLink RX0 76 yX0_tell, Cond.instanceMethod yX0_tell, Cond.selects RX0 yX0_tell yX0_tell, Cond.fieldLink RX0 13 "TemporaryReals" "fractions" "[J", Cond.methodLink RX0 50 yJL_numberOfLeadingZeros, Cond.static yJL_numberOfLeadingZeros, Cond.initialized RJL, Cond.methodLink RX0 80 yX0_powerOf, Cond.instanceMethod yX0_powerOf, Cond.selects RX0 yX0_powerOf yX0_powerOf, Cond.methodLink RX0 83 Lib.Math.max.name, Cond.static Lib.Math.max.name, Cond.initialized "java/lang/Math", Cond.code Lib.Math.max.name Lib.Math.max.code 2 (some .int), Cond.methodLink RX0 89 yX0_isNegative, Cond.instanceMethod yX0_isNegative, Cond.selects RX0 yX0_isNegative yX0_isNegative, Cond.methodLink RX0 64 yX0_shiftIn, Cond.static yX0_shiftIn, Cond.methodLink RX0 68 yX0_makeSize, Cond.instanceMethod yX0_makeSize, Cond.selects RX0 yX0_makeSize yX0_makeSize]
set_option maxRecDepth 20000 in
theorem aloX0_again : owX0_again.all goodWord = true := by decide +kernel
set_option maxRecDepth 20000 in
theorem tihX0_again : Cond.code yX0_again cX0_again 8 (some .int) ∈ lw_tbl := List.mem_append_right _ (List.mem_of_getElem? (i := 250) rfl)
set_option maxRecDepth 20000 in
theorem tioX0_again : ∀ w ∈ owX0_again, w ∈ lw_tbl := List.forall_mem_cons.mpr ⟨tihX0_again, by decide +kernel⟩
def wsX0_again : List Cond := owX0_again ++ (wsX00 ++ (xT1 ++ (wsX0_isNoRegister ++ (wsX0_kindOf ++ (wsX0_copy ++ (wsX0_tell ++ (wsJL_numberOfLeadingZeros ++ (wsX0_powerOf ++ (wsX0_isNegative ++ (wsX0_shiftIn ++ (wsX0_makeSize)))))))))))
theorem al_wsX0_again : wsX0_again.all goodWord = true := wa_a aloX0_again (wa_a al_wsX00 (wa_a al_xT1 (wa_a al_wsX0_isNoRegister (wa_a al_wsX0_kindOf (wa_a al_wsX0_copy (wa_a al_wsX0_tell (wa_a al_wsJL_numberOfLeadingZeros (wa_a al_wsX0_powerOf (wa_a al_wsX0_isNegative (wa_a al_wsX0_shiftIn al_wsX0_makeSize))))))))))
theorem ti_wsX0_again : ∀ w ∈ wsX0_again, w ∈ lw_tbl := wi_a tioX0_again (wi_a ti_wsX00 (wi_a ti_xT1 (wi_a ti_wsX0_isNoRegister (wi_a ti_wsX0_kindOf (wi_a ti_wsX0_copy (wi_a ti_wsX0_tell (wi_a ti_wsJL_numberOfLeadingZeros (wi_a ti_wsX0_powerOf (wi_a ti_wsX0_isNegative (wi_a ti_wsX0_shiftIn ti_wsX0_makeSize))))))))))
def owL_again : List Cond := [Cond.codeWith yL_again cL_again 5 (some .int) [(0, 10, 13, 19)], Cond.classLink RL 19 "java/lang/IndexOutOfBoundsException", Cond.methodLink RL 29 yX0_again, Cond.instanceMethod yX0_again, Cond.selects RX0 yX0_again yX0_again, Cond.initialized RX0]
set_option maxRecDepth 20000 in
theorem aloL_again : owL_again.all goodWord = true := by decide +kernel
set_option maxRecDepth 20000 in
theorem tihL_again : Cond.codeWith yL_again cL_again 5 (some .int) [(0, 10, 13, 19)] ∈ lw_tbl := List.mem_append_right _ (List.mem_of_getElem? (i := 246) rfl)
set_option maxRecDepth 20000 in
theorem tioL_again : ∀ w ∈ owL_again, w ∈ lw_tbl := List.forall_mem_cons.mpr ⟨tihL_again, by decide +kernel⟩
def wsL_again : List Cond := owL_again ++ (wsX0_again)
theorem al_wsL_again : wsL_again.all goodWord = true := wa_a aloL_again al_wsX0_again
theorem ti_wsL_again : ∀ w ∈ wsL_again, w ∈ lw_tbl := wi_a tioL_again ti_wsX0_again
def owX0_last : List Cond := [Cond.code yX0_last cX0_last 2 (some .int), Cond.fieldLink RX0 92 "TemporaryReals" "lastTold" "I", Cond.fieldLink RX0 95 "TemporaryReals" "lastK" "I", Cond.fieldLink RX0 98 "TemporaryReals" "lastChange" "I", Cond.classLink RX0 25 "java/lang/IllegalArgumentException", Cond.initialized "java/lang/IllegalArgumentException"]
set_option maxRecDepth 20000 in
theorem aloX0_last : owX0_last.all goodWord = true := by decide +kernel
set_option maxRecDepth 20000 in
theorem tihX0_last : Cond.code yX0_last cX0_last 2 (some .int) ∈ lw_tbl := List.mem_append_right _ (List.mem_of_getElem? (i := 268) rfl)
set_option maxRecDepth 20000 in
theorem tioX0_last : ∀ w ∈ owX0_last, w ∈ lw_tbl := List.forall_mem_cons.mpr ⟨tihX0_last, by decide +kernel⟩
def wsX0_last : List Cond := owX0_last ++ (wsX00 ++ (xT2))
theorem al_wsX0_last : wsX0_last.all goodWord = true := wa_a aloX0_last (wa_a al_wsX00 al_xT2)
theorem ti_wsX0_last : ∀ w ∈ wsX0_last, w ∈ lw_tbl := wi_a tioX0_last (wi_a ti_wsX00 ti_xT2)
def owL_last : List Cond := [Cond.codeWith yL_last cL_last 4 (some .int) [(0, 9, 12, 13)], Cond.classLink RL 13 "java/lang/IllegalArgumentException", Cond.methodLink RL 32 yX0_last, Cond.instanceMethod yX0_last, Cond.selects RX0 yX0_last yX0_last, Cond.initialized RX0]
set_option maxRecDepth 20000 in
theorem aloL_last : owL_last.all goodWord = true := by decide +kernel
set_option maxRecDepth 20000 in
theorem tihL_last : Cond.codeWith yL_last cL_last 4 (some .int) [(0, 9, 12, 13)] ∈ lw_tbl := List.mem_append_right _ (List.mem_of_getElem? (i := 264) rfl)
set_option maxRecDepth 20000 in
theorem tioL_last : ∀ w ∈ owL_last, w ∈ lw_tbl := List.forall_mem_cons.mpr ⟨tihL_last, by decide +kernel⟩
def wsL_last : List Cond := owL_last ++ (wsX0_last)
theorem al_wsL_last : wsL_last.all goodWord = true := wa_a aloL_last al_wsX0_last
theorem ti_wsL_last : ∀ w ∈ wsL_last, w ∈ lw_tbl := wi_a tioL_last ti_wsX0_last
def owX0_signum : List Cond := [Cond.code yX0_signum cX0_signum 2 (some .int), Cond.methodLink RX0 46 yX0_kindOf, Cond.instanceMethod yX0_kindOf, Cond.selects RX0 yX0_kindOf yX0_kindOf, Cond.initialized RX0, Cond.fieldLink RX0 13 "TemporaryReals" "fractions" "[J", Cond.methodLink RX0 89 yX0_isNegative, Cond.instanceMethod yX0_isNegative, Cond.selects RX0 yX0_isNegative yX0_isNegative]
set_option maxRecDepth 20000 in
theorem aloX0_signum : owX0_signum.all goodWord = true := by decide +kernel
set_option maxRecDepth 20000 in
theorem tihX0_signum : Cond.code yX0_signum cX0_signum 2 (some .int) ∈ lw_tbl := List.mem_append_right _ (List.mem_of_getElem? (i := 280) rfl)
set_option maxRecDepth 20000 in
theorem tioX0_signum : ∀ w ∈ owX0_signum, w ∈ lw_tbl := List.forall_mem_cons.mpr ⟨tihX0_signum, by decide +kernel⟩
def wsX0_signum : List Cond := owX0_signum ++ (wsX00 ++ (wsX0_kindOf ++ (wsX0_isNegative)))
theorem al_wsX0_signum : wsX0_signum.all goodWord = true := wa_a aloX0_signum (wa_a al_wsX00 (wa_a al_wsX0_kindOf al_wsX0_isNegative))
theorem ti_wsX0_signum : ∀ w ∈ wsX0_signum, w ∈ lw_tbl := wi_a tioX0_signum (wi_a ti_wsX00 (wi_a ti_wsX0_kindOf ti_wsX0_isNegative))
def owX0_plainShift : List Cond := [Cond.code yX0_plainShift cX0_plainShift 2 (some .int), Cond.fieldLink RX0 13 "TemporaryReals" "fractions" "[J", Cond.methodLink RX0 50 yJL_numberOfLeadingZeros, Cond.static yJL_numberOfLeadingZeros, Cond.initialized RJL, Cond.methodLink RX0 80 yX0_powerOf, Cond.instanceMethod yX0_powerOf, Cond.selects RX0 yX0_powerOf yX0_powerOf, Cond.initialized RX0, Cond.methodLink RX0 83 Lib.Math.max.name, Cond.static Lib.Math.max.name, Cond.initialized "java/lang/Math", Cond.code Lib.Math.max.name Lib.Math.max.code 2 (some .int), Cond.methodLink RX0 180 Lib.Math.min.name, Cond.static Lib.Math.min.name, Cond.code Lib.Math.min.name Lib.Math.min.code 2 (some .int)]
set_option maxRecDepth 20000 in
theorem aloX0_plainShift : owX0_plainShift.all goodWord = true := by decide +kernel
set_option maxRecDepth 20000 in
theorem tihX0_plainShift : Cond.code yX0_plainShift cX0_plainShift 2 (some .int) ∈ lw_tbl := List.mem_append_right _ (List.mem_of_getElem? (i := 296) rfl)
set_option maxRecDepth 20000 in
theorem tioX0_plainShift : ∀ w ∈ owX0_plainShift, w ∈ lw_tbl := List.forall_mem_cons.mpr ⟨tihX0_plainShift, by decide +kernel⟩
def wsX0_plainShift : List Cond := owX0_plainShift ++ (wsX00 ++ (wsJL_numberOfLeadingZeros ++ (wsX0_powerOf)))
theorem al_wsX0_plainShift : wsX0_plainShift.all goodWord = true := wa_a aloX0_plainShift (wa_a al_wsX00 (wa_a al_wsJL_numberOfLeadingZeros al_wsX0_powerOf))
theorem ti_wsX0_plainShift : ∀ w ∈ wsX0_plainShift, w ∈ lw_tbl := wi_a tioX0_plainShift (wi_a ti_wsX00 (wi_a ti_wsJL_numberOfLeadingZeros ti_wsX0_powerOf))
def owX0_plainFraction : List Cond := [Cond.code yX0_plainFraction cX0_plainFraction 2 (some .long), Cond.methodLink RX0 80 yX0_powerOf, Cond.instanceMethod yX0_powerOf, Cond.selects RX0 yX0_powerOf yX0_powerOf, Cond.initialized RX0, Cond.constantLong RX0 62 (-9223372036854775808), Cond.fieldLink RX0 13 "TemporaryReals" "fractions" "[J", Cond.methodLink RX0 183 yX0_plainShift, Cond.instanceMethod yX0_plainShift, Cond.selects RX0 yX0_plainShift yX0_plainShift, Cond.methodLink RX0 64 yX0_shiftIn, Cond.static yX0_shiftIn]
set_option maxRecDepth 20000 in
theorem aloX0_plainFraction : owX0_plainFraction.all goodWord = true := by decide +kernel
set_option maxRecDepth 20000 in
theorem tihX0_plainFraction : Cond.code yX0_plainFraction cX0_plainFraction 2 (some .long) ∈ lw_tbl := List.mem_append_right _ (List.mem_of_getElem? (i := 292) rfl)
set_option maxRecDepth 20000 in
theorem tioX0_plainFraction : ∀ w ∈ owX0_plainFraction, w ∈ lw_tbl := List.forall_mem_cons.mpr ⟨tihX0_plainFraction, by decide +kernel⟩
def wsX0_plainFraction : List Cond := owX0_plainFraction ++ (wsX00 ++ (wsX0_powerOf ++ (wsX0_plainShift ++ (wsX0_shiftIn))))
theorem al_wsX0_plainFraction : wsX0_plainFraction.all goodWord = true := wa_a aloX0_plainFraction (wa_a al_wsX00 (wa_a al_wsX0_powerOf (wa_a al_wsX0_plainShift al_wsX0_shiftIn)))
theorem ti_wsX0_plainFraction : ∀ w ∈ wsX0_plainFraction, w ∈ lw_tbl := wi_a tioX0_plainFraction (wi_a ti_wsX00 (wi_a ti_wsX0_powerOf (wi_a ti_wsX0_plainShift ti_wsX0_shiftIn)))
def owX0_plainPower : List Cond := [Cond.code yX0_plainPower cX0_plainPower 2 (some .int), Cond.methodLink RX0 80 yX0_powerOf, Cond.instanceMethod yX0_powerOf, Cond.selects RX0 yX0_powerOf yX0_powerOf, Cond.initialized RX0, Cond.methodLink RX0 116 yX0_plainFraction, Cond.instanceMethod yX0_plainFraction, Cond.selects RX0 yX0_plainFraction yX0_plainFraction, Cond.methodLink RX0 83 Lib.Math.max.name, Cond.static Lib.Math.max.name, Cond.initialized "java/lang/Math", Cond.code Lib.Math.max.name Lib.Math.max.code 2 (some .int), Cond.methodLink RX0 183 yX0_plainShift, Cond.instanceMethod yX0_plainShift, Cond.selects RX0 yX0_plainShift yX0_plainShift]
set_option maxRecDepth 20000 in
theorem aloX0_plainPower : owX0_plainPower.all goodWord = true := by decide +kernel
set_option maxRecDepth 20000 in
theorem tihX0_plainPower : Cond.code yX0_plainPower cX0_plainPower 2 (some .int) ∈ lw_tbl := List.mem_append_right _ (List.mem_of_getElem? (i := 288) rfl)
set_option maxRecDepth 20000 in
theorem tioX0_plainPower : ∀ w ∈ owX0_plainPower, w ∈ lw_tbl := List.forall_mem_cons.mpr ⟨tihX0_plainPower, by decide +kernel⟩
def wsX0_plainPower : List Cond := owX0_plainPower ++ (wsX0_powerOf ++ (wsX0_plainFraction ++ (wsX0_plainShift)))
theorem al_wsX0_plainPower : wsX0_plainPower.all goodWord = true := wa_a aloX0_plainPower (wa_a al_wsX0_powerOf (wa_a al_wsX0_plainFraction al_wsX0_plainShift))
theorem ti_wsX0_plainPower : ∀ w ∈ wsX0_plainPower, w ∈ lw_tbl := wi_a tioX0_plainPower (wi_a ti_wsX0_powerOf (wi_a ti_wsX0_plainFraction ti_wsX0_plainShift))
def owJL_compare : List Cond := [Cond.code yJL_compare cJL_compare 4 (some .int)]
set_option maxRecDepth 20000 in
theorem aloJL_compare : owJL_compare.all goodWord = true := by decide +kernel
set_option maxRecDepth 20000 in
theorem tihJL_compare : Cond.code yJL_compare cJL_compare 4 (some .int) ∈ lw_tbl := List.mem_append_right _ (List.mem_of_getElem? (i := 306) rfl)
set_option maxRecDepth 20000 in
theorem tioJL_compare : ∀ w ∈ owJL_compare, w ∈ lw_tbl := List.forall_mem_cons.mpr ⟨tihJL_compare, by decide +kernel⟩
def wsJL_compare : List Cond := owJL_compare
theorem al_wsJL_compare : wsJL_compare.all goodWord = true := aloJL_compare
theorem ti_wsJL_compare : ∀ w ∈ wsJL_compare, w ∈ lw_tbl := tioJL_compare
def owJL_compareUnsigned : List Cond := [Cond.code yJL_compareUnsigned cJL_compareUnsigned 4 (some .int), Cond.constantLong RJL 168 (-9223372036854775808), Cond.methodLink RJL 302 yJL_compare, Cond.static yJL_compare, Cond.initialized RJL]
set_option maxRecDepth 20000 in
theorem aloJL_compareUnsigned : owJL_compareUnsigned.all goodWord = true := by decide +kernel
set_option maxRecDepth 20000 in
theorem tihJL_compareUnsigned : Cond.code yJL_compareUnsigned cJL_compareUnsigned 4 (some .int) ∈ lw_tbl := List.mem_append_right _ (List.mem_of_getElem? (i := 302) rfl)
set_option maxRecDepth 20000 in
theorem tioJL_compareUnsigned : ∀ w ∈ owJL_compareUnsigned, w ∈ lw_tbl := List.forall_mem_cons.mpr ⟨tihJL_compareUnsigned, by decide +kernel⟩
def wsJL_compareUnsigned : List Cond := owJL_compareUnsigned ++ (wsJL_compare)
theorem al_wsJL_compareUnsigned : wsJL_compareUnsigned.all goodWord = true := wa_a aloJL_compareUnsigned al_wsJL_compare
theorem ti_wsJL_compareUnsigned : ∀ w ∈ wsJL_compareUnsigned, w ∈ lw_tbl := wi_a tioJL_compareUnsigned ti_wsJL_compare
def owJI_signum : List Cond := [Cond.code yJI_signum cJI_signum 1 (some .int)]
set_option maxRecDepth 20000 in
theorem aloJI_signum : owJI_signum.all goodWord = true := by decide +kernel
set_option maxRecDepth 20000 in
theorem tihJI_signum : Cond.code yJI_signum cJI_signum 1 (some .int) ∈ lw_tbl := List.mem_append_right _ (List.mem_of_getElem? (i := 309) rfl)
set_option maxRecDepth 20000 in
theorem tioJI_signum : ∀ w ∈ owJI_signum, w ∈ lw_tbl := List.forall_mem_cons.mpr ⟨tihJI_signum, by decide +kernel⟩
def wsJI_signum : List Cond := owJI_signum
theorem al_wsJI_signum : wsJI_signum.all goodWord = true := aloJI_signum
theorem ti_wsJI_signum : ∀ w ∈ wsJI_signum, w ∈ lw_tbl := tioJI_signum
def owX0_compareSizes : List Cond := [Cond.code yX0_compareSizes cX0_compareSizes 5 (some .int), Cond.methodLink RX0 113 yX0_plainPower, Cond.instanceMethod yX0_plainPower, Cond.selects RX0 yX0_plainPower yX0_plainPower, Cond.initialized RX0, Cond.methodLink RX0 116 yX0_plainFraction, Cond.instanceMethod yX0_plainFraction, Cond.selects RX0 yX0_plainFraction yX0_plainFraction, Cond.methodLink RX0 173 yJL_compareUnsigned, Cond.static yJL_compareUnsigned, Cond.initialized RJL, Cond.methodLink RX0 177 yJI_signum, Cond.static yJI_signum, Cond.initialized RJI]
set_option maxRecDepth 20000 in
theorem aloX0_compareSizes : owX0_compareSizes.all goodWord = true := by decide +kernel
set_option maxRecDepth 20000 in
theorem tihX0_compareSizes : Cond.code yX0_compareSizes cX0_compareSizes 5 (some .int) ∈ lw_tbl := List.mem_append_right _ (List.mem_of_getElem? (i := 284) rfl)
set_option maxRecDepth 20000 in
theorem tioX0_compareSizes : ∀ w ∈ owX0_compareSizes, w ∈ lw_tbl := List.forall_mem_cons.mpr ⟨tihX0_compareSizes, by decide +kernel⟩
def wsX0_compareSizes : List Cond := owX0_compareSizes ++ (wsX0_plainPower ++ (wsX0_plainFraction ++ (wsJL_compareUnsigned ++ (wsJI_signum))))
theorem al_wsX0_compareSizes : wsX0_compareSizes.all goodWord = true := wa_a aloX0_compareSizes (wa_a al_wsX0_plainPower (wa_a al_wsX0_plainFraction (wa_a al_wsJL_compareUnsigned al_wsJI_signum)))
theorem ti_wsX0_compareSizes : ∀ w ∈ wsX0_compareSizes, w ∈ lw_tbl := wi_a tioX0_compareSizes (wi_a ti_wsX0_plainPower (wi_a ti_wsX0_plainFraction (wi_a ti_wsJL_compareUnsigned ti_wsJI_signum)))
def owX0_compare : List Cond := [Cond.code yX0_compare cX0_compare 5 (some .int), Cond.methodLink RX0 32 yX0_isNoRegister, Cond.static yX0_isNoRegister, Cond.initialized RX0, Cond.classLink RX0 35 "java/lang/IndexOutOfBoundsException", Cond.initialized "java/lang/IndexOutOfBoundsException", Cond.methodLink RX0 46 yX0_kindOf, Cond.instanceMethod yX0_kindOf, Cond.selects RX0 yX0_kindOf yX0_kindOf, Cond.methodLink RX0 103 yX0_signum, Cond.instanceMethod yX0_signum, Cond.selects RX0 yX0_signum yX0_signum, Cond.methodLink RX0 106 yX0_compareSizes, Cond.instanceMethod yX0_compareSizes, Cond.selects RX0 yX0_compareSizes yX0_compareSizes]
set_option maxRecDepth 20000 in
theorem aloX0_compare : owX0_compare.all goodWord = true := by decide +kernel
set_option maxRecDepth 20000 in
theorem tihX0_compare : Cond.code yX0_compare cX0_compare 5 (some .int) ∈ lw_tbl := List.mem_append_right _ (List.mem_of_getElem? (i := 276) rfl)
set_option maxRecDepth 20000 in
theorem tioX0_compare : ∀ w ∈ owX0_compare, w ∈ lw_tbl := List.forall_mem_cons.mpr ⟨tihX0_compare, by decide +kernel⟩
def wsX0_compare : List Cond := owX0_compare ++ (xT1 ++ (wsX0_isNoRegister ++ (wsX0_kindOf ++ (wsX0_signum ++ (wsX0_compareSizes)))))
theorem al_wsX0_compare : wsX0_compare.all goodWord = true := wa_a aloX0_compare (wa_a al_xT1 (wa_a al_wsX0_isNoRegister (wa_a al_wsX0_kindOf (wa_a al_wsX0_signum al_wsX0_compareSizes))))
theorem ti_wsX0_compare : ∀ w ∈ wsX0_compare, w ∈ lw_tbl := wi_a tioX0_compare (wi_a ti_xT1 (wi_a ti_wsX0_isNoRegister (wi_a ti_wsX0_kindOf (wi_a ti_wsX0_signum ti_wsX0_compareSizes))))
def owL_compare : List Cond := [Cond.codeWith yL_compare cL_compare 5 (some .int) [(0, 10, 13, 19)], Cond.classLink RL 19 "java/lang/IndexOutOfBoundsException", Cond.methodLink RL 36 yX0_compare, Cond.instanceMethod yX0_compare, Cond.selects RX0 yX0_compare yX0_compare, Cond.initialized RX0]
set_option maxRecDepth 20000 in
theorem aloL_compare : owL_compare.all goodWord = true := by decide +kernel
set_option maxRecDepth 20000 in
theorem tihL_compare : Cond.codeWith yL_compare cL_compare 5 (some .int) [(0, 10, 13, 19)] ∈ lw_tbl := List.mem_append_right _ (List.mem_of_getElem? (i := 272) rfl)
set_option maxRecDepth 20000 in
theorem tioL_compare : ∀ w ∈ owL_compare, w ∈ lw_tbl := List.forall_mem_cons.mpr ⟨tihL_compare, by decide +kernel⟩
def wsL_compare : List Cond := owL_compare ++ (wsX0_compare)
theorem al_wsL_compare : wsL_compare.all goodWord = true := wa_a aloL_compare al_wsX0_compare
theorem ti_wsL_compare : ∀ w ∈ wsL_compare, w ∈ lw_tbl := wi_a tioL_compare ti_wsX0_compare
def owX0_storeNextGreater : List Cond := [Cond.code yX0_storeNextGreater cX0_storeNextGreater 8 none, Cond.constantLong RX0 171 (-1), Cond.constantLong RX0 62 (-9223372036854775808), Cond.methodLink RX0 109 yX0_store, Cond.instanceMethod yX0_store, Cond.selects RX0 yX0_store yX0_store, Cond.initialized RX0, Cond.methodLink RX0 83 Lib.Math.max.name, Cond.static Lib.Math.max.name, Cond.initialized "java/lang/Math", Cond.code Lib.Math.max.name Lib.Math.max.code 2 (some .int)]
set_option maxRecDepth 20000 in
theorem aloX0_storeNextGreater : owX0_storeNextGreater.all goodWord = true := by decide +kernel
set_option maxRecDepth 20000 in
theorem tihX0_storeNextGreater : Cond.code yX0_storeNextGreater cX0_storeNextGreater 8 none ∈ lw_tbl := List.mem_append_right _ (List.mem_of_getElem? (i := 320) rfl)
set_option maxRecDepth 20000 in
theorem tioX0_storeNextGreater : ∀ w ∈ owX0_storeNextGreater, w ∈ lw_tbl := List.forall_mem_cons.mpr ⟨tihX0_storeNextGreater, by decide +kernel⟩
def wsX0_storeNextGreater : List Cond := owX0_storeNextGreater ++ (wsX0_store)
theorem al_wsX0_storeNextGreater : wsX0_storeNextGreater.all goodWord = true := wa_a aloX0_storeNextGreater al_wsX0_store
theorem ti_wsX0_storeNextGreater : ∀ w ∈ wsX0_storeNextGreater, w ∈ lw_tbl := wi_a tioX0_storeNextGreater ti_wsX0_store
def owX0_storeNextLesser : List Cond := [Cond.code yX0_storeNextLesser cX0_storeNextLesser 8 none, Cond.constantLong RX0 62 (-9223372036854775808), Cond.constantLong RX0 171 (-1), Cond.methodLink RX0 109 yX0_store, Cond.instanceMethod yX0_store, Cond.selects RX0 yX0_store yX0_store, Cond.initialized RX0]
set_option maxRecDepth 20000 in
theorem aloX0_storeNextLesser : owX0_storeNextLesser.all goodWord = true := by decide +kernel
set_option maxRecDepth 20000 in
theorem tihX0_storeNextLesser : Cond.code yX0_storeNextLesser cX0_storeNextLesser 8 none ∈ lw_tbl := List.mem_append_right _ (List.mem_of_getElem? (i := 324) rfl)
set_option maxRecDepth 20000 in
theorem tioX0_storeNextLesser : ∀ w ∈ owX0_storeNextLesser, w ∈ lw_tbl := List.forall_mem_cons.mpr ⟨tihX0_storeNextLesser, by decide +kernel⟩
def wsX0_storeNextLesser : List Cond := owX0_storeNextLesser ++ (wsX0_store)
theorem al_wsX0_storeNextLesser : wsX0_storeNextLesser.all goodWord = true := wa_a aloX0_storeNextLesser al_wsX0_store
theorem ti_wsX0_storeNextLesser : ∀ w ∈ wsX0_storeNextLesser, w ∈ lw_tbl := wi_a tioX0_storeNextLesser ti_wsX0_store
def owX0_neighbour : List Cond := [Cond.code yX0_neighbour cX0_neighbour 7 none, Cond.methodLink RX0 32 yX0_isNoRegister, Cond.static yX0_isNoRegister, Cond.initialized RX0, Cond.classLink RX0 35 "java/lang/IndexOutOfBoundsException", Cond.initialized "java/lang/IndexOutOfBoundsException", Cond.methodLink RX0 46 yX0_kindOf, Cond.instanceMethod yX0_kindOf, Cond.selects RX0 yX0_kindOf yX0_kindOf, Cond.methodLink RX0 89 yX0_isNegative, Cond.instanceMethod yX0_isNegative, Cond.selects RX0 yX0_isNegative yX0_isNegative, Cond.methodLink RX0 72 yX0_copy, Cond.instanceMethod yX0_copy, Cond.selects RX0 yX0_copy yX0_copy, Cond.methodLink RX0 103 yX0_signum, Cond.instanceMethod yX0_signum, Cond.selects RX0 yX0_signum yX0_signum, Cond.methodLink RX0 109 yX0_store, Cond.instanceMethod yX0_store, Cond.selects RX0 yX0_store yX0_store, Cond.methodLink RX0 113 yX0_plainPower, Cond.instanceMethod yX0_plainPower, Cond.selects RX0 yX0_plainPower yX0_plainPower, Cond.methodLink RX0 116 yX0_plainFraction, Cond.instanceMethod yX0_plainFraction, Cond.selects RX0 yX0_plainFraction yX0_plainFraction, Cond.methodLink RX0 120 yX0_storeNextGreater, Cond.instanceMethod yX0_storeNextGreater, Cond.selects RX0 yX0_storeNextGreater yX0_storeNextGreater, Cond.methodLink RX0 123 yX0_storeNextLesser, Cond.instanceMethod yX0_storeNextLesser, Cond.selects RX0 yX0_storeNextLesser yX0_storeNextLesser]
set_option maxRecDepth 20000 in
theorem aloX0_neighbour : owX0_neighbour.all goodWord = true := by decide +kernel
set_option maxRecDepth 20000 in
theorem tihX0_neighbour : Cond.code yX0_neighbour cX0_neighbour 7 none ∈ lw_tbl := List.mem_append_right _ (List.mem_of_getElem? (i := 316) rfl)
set_option maxRecDepth 20000 in
theorem tioX0_neighbour : ∀ w ∈ owX0_neighbour, w ∈ lw_tbl := List.forall_mem_cons.mpr ⟨tihX0_neighbour, by decide +kernel⟩
def wsX0_neighbour : List Cond := owX0_neighbour ++ (xT1 ++ (wsX0_isNoRegister ++ (wsX0_kindOf ++ (wsX0_isNegative ++ (wsX0_copy ++ (wsX0_signum ++ (wsX0_store ++ (wsX0_plainPower ++ (wsX0_plainFraction ++ (wsX0_storeNextGreater ++ (wsX0_storeNextLesser)))))))))))
theorem al_wsX0_neighbour : wsX0_neighbour.all goodWord = true := wa_a aloX0_neighbour (wa_a al_xT1 (wa_a al_wsX0_isNoRegister (wa_a al_wsX0_kindOf (wa_a al_wsX0_isNegative (wa_a al_wsX0_copy (wa_a al_wsX0_signum (wa_a al_wsX0_store (wa_a al_wsX0_plainPower (wa_a al_wsX0_plainFraction (wa_a al_wsX0_storeNextGreater al_wsX0_storeNextLesser))))))))))
theorem ti_wsX0_neighbour : ∀ w ∈ wsX0_neighbour, w ∈ lw_tbl := wi_a tioX0_neighbour (wi_a ti_xT1 (wi_a ti_wsX0_isNoRegister (wi_a ti_wsX0_kindOf (wi_a ti_wsX0_isNegative (wi_a ti_wsX0_copy (wi_a ti_wsX0_signum (wi_a ti_wsX0_store (wi_a ti_wsX0_plainPower (wi_a ti_wsX0_plainFraction (wi_a ti_wsX0_storeNextGreater ti_wsX0_storeNextLesser))))))))))
def owL_neighbour : List Cond := [Cond.codeWith yL_neighbour cL_neighbour 5 (some .int) [(0, 7, 10, 19)], Cond.classLink RL 19 "java/lang/IndexOutOfBoundsException", Cond.methodLink RL 39 yX0_neighbour, Cond.instanceMethod yX0_neighbour, Cond.selects RX0 yX0_neighbour yX0_neighbour, Cond.initialized RX0]
set_option maxRecDepth 20000 in
theorem aloL_neighbour : owL_neighbour.all goodWord = true := by decide +kernel
set_option maxRecDepth 20000 in
theorem tihL_neighbour : Cond.codeWith yL_neighbour cL_neighbour 5 (some .int) [(0, 7, 10, 19)] ∈ lw_tbl := List.mem_append_right _ (List.mem_of_getElem? (i := 312) rfl)
set_option maxRecDepth 20000 in
theorem tioL_neighbour : ∀ w ∈ owL_neighbour, w ∈ lw_tbl := List.forall_mem_cons.mpr ⟨tihL_neighbour, by decide +kernel⟩
def wsL_neighbour : List Cond := owL_neighbour ++ (wsX0_neighbour)
theorem al_wsL_neighbour : wsL_neighbour.all goodWord = true := wa_a aloL_neighbour al_wsX0_neighbour
theorem ti_wsL_neighbour : ∀ w ∈ wsL_neighbour, w ∈ lw_tbl := wi_a tioL_neighbour ti_wsX0_neighbour
def owX1_init : List Cond := [Cond.code yX1_init cX1_init 1 none, Cond.methodLink RX1 1 objectInit, Cond.instanceMethod objectInit, Cond.code objectInit ⟨#[0xb1]⟩ 1 none, Cond.fieldLink RX1 7 "TemporaryRealsModel" "control" "I", Cond.arrayClass .int, Cond.fieldLink RX1 13 "TemporaryRealsModel" "top" "[I", Cond.arrayClass .long, Cond.fieldLink RX1 17 "TemporaryRealsModel" "fraction" "[J", Cond.fieldLink RX1 21 "TemporaryRealsModel" "bits" "[I"]
set_option maxRecDepth 20000 in
theorem aloX1_init : owX1_init.all goodWord = true := by decide +kernel
set_option maxRecDepth 20000 in
theorem tihX1_init : Cond.code yX1_init cX1_init 1 none ∈ lw_tbl := List.mem_append_right _ (List.mem_of_getElem? (i := 329) rfl)
set_option maxRecDepth 20000 in
theorem tioX1_init : ∀ w ∈ owX1_init, w ∈ lw_tbl := List.forall_mem_cons.mpr ⟨tihX1_init, by decide +kernel⟩
def wsX1_init : List Cond := owX1_init ++ (wsX10)
theorem al_wsX1_init : wsX1_init.all goodWord = true := wa_a aloX1_init al_wsX10
theorem ti_wsX1_init : ∀ w ∈ wsX1_init, w ∈ lw_tbl := wi_a tioX1_init ti_wsX10
def owX1_thrown : List Cond := [Cond.code yX1_thrown cX1_thrown 1 (some .int), Cond.fieldLink RX1 24 "TemporaryRealsModel" "code" "I"]
set_option maxRecDepth 20000 in
theorem aloX1_thrown : owX1_thrown.all goodWord = true := by decide +kernel
set_option maxRecDepth 20000 in
theorem tihX1_thrown : Cond.code yX1_thrown cX1_thrown 1 (some .int) ∈ lw_tbl := List.mem_append_right _ (List.mem_of_getElem? (i := 380) rfl)
set_option maxRecDepth 20000 in
theorem tioX1_thrown : ∀ w ∈ owX1_thrown, w ∈ lw_tbl := List.forall_mem_cons.mpr ⟨tihX1_thrown, by decide +kernel⟩
def wsX1_thrown : List Cond := owX1_thrown ++ (wsX10)
theorem al_wsX1_thrown : wsX1_thrown.all goodWord = true := wa_a aloX1_thrown al_wsX10
theorem ti_wsX1_thrown : ∀ w ∈ wsX1_thrown, w ∈ lw_tbl := wi_a tioX1_thrown ti_wsX10
def owX1_control : List Cond := [Cond.code yX1_control cX1_control 2 none, Cond.constant RX1 27 (65535), Cond.fieldLink RX1 24 "TemporaryRealsModel" "code" "I", Cond.fieldLink RX1 7 "TemporaryRealsModel" "control" "I"]
set_option maxRecDepth 20000 in
theorem aloX1_control : owX1_control.all goodWord = true := by decide +kernel
set_option maxRecDepth 20000 in
theorem tihX1_control : Cond.code yX1_control cX1_control 2 none ∈ lw_tbl := List.mem_append_right _ (List.mem_of_getElem? (i := 384) rfl)
set_option maxRecDepth 20000 in
theorem tioX1_control : ∀ w ∈ owX1_control, w ∈ lw_tbl := List.forall_mem_cons.mpr ⟨tihX1_control, by decide +kernel⟩
def wsX1_control : List Cond := owX1_control ++ (wsX10)
theorem al_wsX1_control : wsX1_control.all goodWord = true := wa_a aloX1_control al_wsX10
theorem ti_wsX1_control : ∀ w ∈ wsX1_control, w ∈ lw_tbl := wi_a tioX1_control ti_wsX10
def owX1_none : List Cond := [Cond.code yX1_none cX1_none 1 (some .boolean)]
set_option maxRecDepth 20000 in
theorem aloX1_none : owX1_none.all goodWord = true := by decide +kernel
set_option maxRecDepth 20000 in
theorem tihX1_none : Cond.code yX1_none cX1_none 1 (some .boolean) ∈ lw_tbl := List.mem_append_right _ (List.mem_of_getElem? (i := 392) rfl)
set_option maxRecDepth 20000 in
theorem tioX1_none : ∀ w ∈ owX1_none, w ∈ lw_tbl := List.forall_mem_cons.mpr ⟨tihX1_none, by decide +kernel⟩
def wsX1_none : List Cond := owX1_none
theorem al_wsX1_none : wsX1_none.all goodWord = true := aloX1_none
theorem ti_wsX1_none : ∀ w ∈ wsX1_none, w ∈ lw_tbl := tioX1_none
def owX1_set : List Cond := [Cond.code yX1_set cX1_set 5 none, Cond.methodLink RX1 28 yX1_none, Cond.static yX1_none, Cond.initialized RX1, Cond.constant RX1 27 (65535), Cond.fieldLink RX1 24 "TemporaryRealsModel" "code" "I", Cond.fieldLink RX1 13 "TemporaryRealsModel" "top" "[I", Cond.fieldLink RX1 17 "TemporaryRealsModel" "fraction" "[J", Cond.constantLong RX1 32 (4294967296), Cond.constantLong RX1 34 (4294967295)]
set_option maxRecDepth 20000 in
theorem aloX1_set : owX1_set.all goodWord = true := by decide +kernel
set_option maxRecDepth 20000 in
theorem tihX1_set : Cond.code yX1_set cX1_set 5 none ∈ lw_tbl := List.mem_append_right _ (List.mem_of_getElem? (i := 389) rfl)
set_option maxRecDepth 20000 in
theorem tioX1_set : ∀ w ∈ owX1_set, w ∈ lw_tbl := List.forall_mem_cons.mpr ⟨tihX1_set, by decide +kernel⟩
def wsX1_set : List Cond := owX1_set ++ (wsX10 ++ (wsX1_none))
theorem al_wsX1_set : wsX1_set.all goodWord = true := wa_a aloX1_set (wa_a al_wsX10 al_wsX1_none)
theorem ti_wsX1_set : ∀ w ∈ wsX1_set, w ∈ lw_tbl := wi_a tioX1_set (wi_a ti_wsX10 ti_wsX1_none)
def owX1_kind : List Cond := [Cond.code yX1_kind cX1_kind 4 (some .int), Cond.fieldLink RX1 13 "TemporaryRealsModel" "top" "[I", Cond.constant RX1 36 (32768), Cond.fieldLink RX1 17 "TemporaryRealsModel" "fraction" "[J", Cond.constantLong RX1 37 (-9223372036854775808)]
set_option maxRecDepth 20000 in
theorem aloX1_kind : owX1_kind.all goodWord = true := by decide +kernel
set_option maxRecDepth 20000 in
theorem tihX1_kind : Cond.code yX1_kind cX1_kind 4 (some .int) ∈ lw_tbl := List.mem_append_right _ (List.mem_of_getElem? (i := 402) rfl)
set_option maxRecDepth 20000 in
theorem tioX1_kind : ∀ w ∈ owX1_kind, w ∈ lw_tbl := List.forall_mem_cons.mpr ⟨tihX1_kind, by decide +kernel⟩
def wsX1_kind : List Cond := owX1_kind ++ (wsX10)
theorem al_wsX1_kind : wsX1_kind.all goodWord = true := wa_a aloX1_kind al_wsX10
theorem ti_wsX1_kind : ∀ w ∈ wsX1_kind, w ∈ lw_tbl := wi_a tioX1_kind ti_wsX10
def owX1_part : List Cond := [Cond.code yX1_part cX1_part 4 (some .int), Cond.methodLink RX1 28 yX1_none, Cond.static yX1_none, Cond.initialized RX1, Cond.fieldLink RX1 24 "TemporaryRealsModel" "code" "I", Cond.fieldLink RX1 13 "TemporaryRealsModel" "top" "[I", Cond.fieldLink RX1 17 "TemporaryRealsModel" "fraction" "[J", Cond.methodLink RX1 39 yX1_kind, Cond.instanceMethod yX1_kind, Cond.selects RX1 yX1_kind yX1_kind]
set_option maxRecDepth 20000 in
theorem aloX1_part : owX1_part.all goodWord = true := by decide +kernel
set_option maxRecDepth 20000 in
theorem tihX1_part : Cond.code yX1_part cX1_part 4 (some .int) ∈ lw_tbl := List.mem_append_right _ (List.mem_of_getElem? (i := 398) rfl)
set_option maxRecDepth 20000 in
theorem tioX1_part : ∀ w ∈ owX1_part, w ∈ lw_tbl := List.forall_mem_cons.mpr ⟨tihX1_part, by decide +kernel⟩
def wsX1_part : List Cond := owX1_part ++ (wsX10 ++ (wsX1_none ++ (wsX1_kind)))
theorem al_wsX1_part : wsX1_part.all goodWord = true := wa_a aloX1_part (wa_a al_wsX10 (wa_a al_wsX1_none al_wsX1_kind))
theorem ti_wsX1_part : ∀ w ∈ wsX1_part, w ∈ lw_tbl := wi_a tioX1_part (wi_a ti_wsX10 (wi_a ti_wsX1_none ti_wsX1_kind))
def owX1_result : List Cond := [Cond.code yX1_result cX1_result 4 none, Cond.fieldLink RX1 55 "TemporaryRealsModel" "minus" "Z", Cond.constant RX1 36 (32768), Cond.fieldLink RX1 67 "TemporaryRealsModel" "madeTop" "I", Cond.fieldLink RX1 70 "TemporaryRealsModel" "madeFraction" "J"]
set_option maxRecDepth 20000 in
theorem aloX1_result : owX1_result.all goodWord = true := by decide +kernel
set_option maxRecDepth 20000 in
theorem tihX1_result : Cond.code yX1_result cX1_result 4 none ∈ lw_tbl := List.mem_append_right _ (List.mem_of_getElem? (i := 418) rfl)
set_option maxRecDepth 20000 in
theorem tioX1_result : ∀ w ∈ owX1_result, w ∈ lw_tbl := List.forall_mem_cons.mpr ⟨tihX1_result, by decide +kernel⟩
def wsX1_result : List Cond := owX1_result ++ (wsX10)
theorem al_wsX1_result : wsX1_result.all goodWord = true := wa_a aloX1_result al_wsX10
theorem ti_wsX1_result : ∀ w ∈ wsX1_result, w ∈ lw_tbl := wi_a tioX1_result ti_wsX10
def owX1_round : List Cond := [Cond.code yX1_round cX1_round 7 none, Cond.fieldLink RX1 7 "TemporaryRealsModel" "control" "I", Cond.fieldLink RX1 43 "TemporaryRealsModel" "whole" "J", Cond.fieldLink RX1 47 "TemporaryRealsModel" "first" "I", Cond.fieldLink RX1 50 "TemporaryRealsModel" "weight" "I", Cond.constantLong RX1 53 (2), Cond.fieldLink RX1 21 "TemporaryRealsModel" "bits" "[I", Cond.fieldLink RX1 55 "TemporaryRealsModel" "minus" "Z", Cond.fieldLink RX1 59 "TemporaryRealsModel" "side" "I", Cond.constantLong RX1 62 (-1), Cond.fieldLink RX1 64 "TemporaryRealsModel" "full" "Z"]
set_option maxRecDepth 20000 in
theorem aloX1_round : owX1_round.all goodWord = true := by decide +kernel
set_option maxRecDepth 20000 in
theorem tihX1_round : Cond.code yX1_round cX1_round 7 none ∈ lw_tbl := List.mem_append_right _ (List.mem_of_getElem? (i := 422) rfl)
set_option maxRecDepth 20000 in
theorem tioX1_round : ∀ w ∈ owX1_round, w ∈ lw_tbl := List.forall_mem_cons.mpr ⟨tihX1_round, by decide +kernel⟩
def wsX1_round : List Cond := owX1_round ++ (wsX10)
theorem al_wsX1_round : wsX1_round.all goodWord = true := wa_a aloX1_round al_wsX10
theorem ti_wsX1_round : ∀ w ∈ wsX1_round, w ∈ lw_tbl := wi_a tioX1_round ti_wsX10
def owX1_make0 : List Cond := [Cond.code yX1_make0 cX1_make0 13 none, Cond.fieldLink RX1 73 "TemporaryRealsModel" "told" "I", Cond.fieldLink RX1 59 "TemporaryRealsModel" "side" "I", Cond.fieldLink RX1 76 "TemporaryRealsModel" "greatest" "I", Cond.fieldLink RX1 47 "TemporaryRealsModel" "first" "I", Cond.fieldLink RX1 21 "TemporaryRealsModel" "bits" "[I", Cond.methodLink RX1 79 yX1_result, Cond.instanceMethod yX1_result, Cond.selects RX1 yX1_result yX1_result, Cond.initialized RX1, Cond.fieldLink RX1 7 "TemporaryRealsModel" "control" "I", Cond.fieldLink RX1 50 "TemporaryRealsModel" "weight" "I", Cond.methodLink RX1 83 yX1_round, Cond.instanceMethod yX1_round, Cond.selects RX1 yX1_round yX1_round, Cond.fieldLink RX1 43 "TemporaryRealsModel" "whole" "J", Cond.constantLong RX1 53 (2), Cond.fieldLink RX1 64 "TemporaryRealsModel" "full" "Z", Cond.constantLong RX1 37 (-9223372036854775808), Cond.fieldLink RX1 55 "TemporaryRealsModel" "minus" "Z"]
set_option maxRecDepth 20000 in
theorem aloX1_make0 : owX1_make0.all goodWord = true := by decide +kernel
set_option maxRecDepth 20000 in
theorem tihX1_make0 : Cond.code yX1_make0 cX1_make0 13 none ∈ lw_tbl := List.mem_append_right _ (List.mem_of_getElem? (i := 414) rfl)
set_option maxRecDepth 20000 in
theorem tioX1_make0 : ∀ w ∈ owX1_make0, w ∈ lw_tbl := List.forall_mem_cons.mpr ⟨tihX1_make0, by decide +kernel⟩
def wsX1_make0 : List Cond := owX1_make0 ++ (wsX10 ++ (wsX1_result ++ (wsX1_round)))
theorem al_wsX1_make0 : wsX1_make0.all goodWord = true := wa_a aloX1_make0 (wa_a al_wsX10 (wa_a al_wsX1_result al_wsX1_round))
theorem ti_wsX1_make0 : ∀ w ∈ wsX1_make0, w ∈ lw_tbl := wi_a tioX1_make0 (wi_a ti_wsX10 (wi_a ti_wsX1_result ti_wsX1_round))
def owX1_keep : List Cond := [Cond.code yX1_keep cX1_keep 2 (some .int), Cond.fieldLink RX1 13 "TemporaryRealsModel" "top" "[I", Cond.fieldLink RX1 67 "TemporaryRealsModel" "madeTop" "I", Cond.fieldLink RX1 17 "TemporaryRealsModel" "fraction" "[J", Cond.fieldLink RX1 70 "TemporaryRealsModel" "madeFraction" "J", Cond.fieldLink RX1 73 "TemporaryRealsModel" "told" "I"]
set_option maxRecDepth 20000 in
theorem aloX1_keep : owX1_keep.all goodWord = true := by decide +kernel
set_option maxRecDepth 20000 in
theorem tihX1_keep : Cond.code yX1_keep cX1_keep 2 (some .int) ∈ lw_tbl := List.mem_append_right _ (List.mem_of_getElem? (i := 428) rfl)
set_option maxRecDepth 20000 in
theorem tioX1_keep : ∀ w ∈ owX1_keep, w ∈ lw_tbl := List.forall_mem_cons.mpr ⟨tihX1_keep, by decide +kernel⟩
def wsX1_keep : List Cond := owX1_keep ++ (wsX10)
theorem al_wsX1_keep : wsX1_keep.all goodWord = true := wa_a aloX1_keep al_wsX10
theorem ti_wsX1_keep : ∀ w ∈ wsX1_keep, w ∈ lw_tbl := wi_a tioX1_keep ti_wsX10
def owX1_make : List Cond := [Cond.code yX1_make cX1_make 11 (some .int), Cond.methodLink RX1 28 yX1_none, Cond.static yX1_none, Cond.initialized RX1, Cond.constant RX1 87 (-33000), Cond.constant RX1 88 (33000), Cond.fieldLink RX1 24 "TemporaryRealsModel" "code" "I", Cond.fieldLink RX1 21 "TemporaryRealsModel" "bits" "[I", Cond.fieldLink RX1 50 "TemporaryRealsModel" "weight" "I", Cond.fieldLink RX1 55 "TemporaryRealsModel" "minus" "Z", Cond.methodLink RX1 89 yX1_make0, Cond.instanceMethod yX1_make0, Cond.selects RX1 yX1_make0 yX1_make0, Cond.methodLink RX1 92 yX1_keep, Cond.instanceMethod yX1_keep, Cond.selects RX1 yX1_keep yX1_keep]
set_option maxRecDepth 20000 in
theorem aloX1_make : owX1_make.all goodWord = true := by decide +kernel
set_option maxRecDepth 20000 in
theorem tihX1_make : Cond.code yX1_make cX1_make 11 (some .int) ∈ lw_tbl := List.mem_append_right _ (List.mem_of_getElem? (i := 408) rfl)
set_option maxRecDepth 20000 in
theorem tioX1_make : ∀ w ∈ owX1_make, w ∈ lw_tbl := List.forall_mem_cons.mpr ⟨tihX1_make, by decide +kernel⟩
def wsX1_make : List Cond := owX1_make ++ (wsX10 ++ (wsX1_none ++ (wsX1_make0 ++ (wsX1_keep))))
theorem al_wsX1_make : wsX1_make.all goodWord = true := wa_a aloX1_make (wa_a al_wsX10 (wa_a al_wsX1_none (wa_a al_wsX1_make0 al_wsX1_keep)))
theorem ti_wsX1_make : ∀ w ∈ wsX1_make, w ∈ lw_tbl := wi_a tioX1_make (wi_a ti_wsX10 (wi_a ti_wsX1_none (wi_a ti_wsX1_make0 ti_wsX1_keep)))
def owX1_powerOf : List Cond := [Cond.code yX1_powerOf cX1_powerOf 3 (some .int), Cond.fieldLink RX1 13 "TemporaryRealsModel" "top" "[I", Cond.constant RX1 36 (32768)]
set_option maxRecDepth 20000 in
theorem aloX1_powerOf : owX1_powerOf.all goodWord = true := by decide +kernel
set_option maxRecDepth 20000 in
theorem tihX1_powerOf : Cond.code yX1_powerOf cX1_powerOf 3 (some .int) ∈ lw_tbl := List.mem_append_right _ (List.mem_of_getElem? (i := 436) rfl)
set_option maxRecDepth 20000 in
theorem tioX1_powerOf : ∀ w ∈ owX1_powerOf, w ∈ lw_tbl := List.forall_mem_cons.mpr ⟨tihX1_powerOf, by decide +kernel⟩
def wsX1_powerOf : List Cond := owX1_powerOf ++ (wsX10)
theorem al_wsX1_powerOf : wsX1_powerOf.all goodWord = true := wa_a aloX1_powerOf al_wsX10
theorem ti_wsX1_powerOf : ∀ w ∈ wsX1_powerOf, w ∈ lw_tbl := wi_a tioX1_powerOf ti_wsX10
def owX1_again : List Cond := [Cond.code yX1_again cX1_again 4 (some .int), Cond.methodLink RX1 28 yX1_none, Cond.static yX1_none, Cond.initialized RX1, Cond.fieldLink RX1 24 "TemporaryRealsModel" "code" "I", Cond.methodLink RX1 39 yX1_kind, Cond.instanceMethod yX1_kind, Cond.selects RX1 yX1_kind yX1_kind, Cond.fieldLink RX1 13 "TemporaryRealsModel" "top" "[I", Cond.fieldLink RX1 67 "TemporaryRealsModel" "madeTop" "I", Cond.fieldLink RX1 17 "TemporaryRealsModel" "fraction" "[J", Cond.fieldLink RX1 70 "TemporaryRealsModel" "madeFraction" "J", Cond.fieldLink RX1 73 "TemporaryRealsModel" "told" "I", Cond.fieldLink RX1 59 "TemporaryRealsModel" "side" "I", Cond.fieldLink RX1 76 "TemporaryRealsModel" "greatest" "I", Cond.methodLink RX1 92 yX1_keep, Cond.instanceMethod yX1_keep, Cond.selects RX1 yX1_keep yX1_keep, Cond.fieldLink RX1 21 "TemporaryRealsModel" "bits" "[I", Cond.methodLink RX1 95 yX1_powerOf, Cond.instanceMethod yX1_powerOf, Cond.selects RX1 yX1_powerOf yX1_powerOf, Cond.fieldLink RX1 50 "TemporaryRealsModel" "weight" "I", Cond.fieldLink RX1 55 "TemporaryRealsModel" "minus" "Z", Cond.methodLink RX1 89 yX1_make0, Cond.instanceMethod yX1_make0, Cond.selects RX1 yX1_make0 yX1_make0]
set_option maxRecDepth 20000 in
theorem aloX1_again : owX1_again.all goodWord = true := by decide +kernel
set_option maxRecDepth 20000 in
theorem tihX1_again : Cond.code yX1_again cX1_again 4 (some .int) ∈ lw_tbl := List.mem_append_right _ (List.mem_of_getElem? (i := 432) rfl)
set_option maxRecDepth 20000 in
theorem tioX1_again : ∀ w ∈ owX1_again, w ∈ lw_tbl := List.forall_mem_cons.mpr ⟨tihX1_again, by decide +kernel⟩
def wsX1_again : List Cond := owX1_again ++ (wsX10 ++ (wsX1_none ++ (wsX1_kind ++ (wsX1_keep ++ (wsX1_powerOf ++ (wsX1_make0))))))
theorem al_wsX1_again : wsX1_again.all goodWord = true := wa_a aloX1_again (wa_a al_wsX10 (wa_a al_wsX1_none (wa_a al_wsX1_kind (wa_a al_wsX1_keep (wa_a al_wsX1_powerOf al_wsX1_make0)))))
theorem ti_wsX1_again : ∀ w ∈ wsX1_again, w ∈ lw_tbl := wi_a tioX1_again (wi_a ti_wsX10 (wi_a ti_wsX1_none (wi_a ti_wsX1_kind (wi_a ti_wsX1_keep (wi_a ti_wsX1_powerOf ti_wsX1_make0)))))
def owX1_last : List Cond := [Cond.code yX1_last cX1_last 2 (some .int), Cond.fieldLink RX1 24 "TemporaryRealsModel" "code" "I", Cond.fieldLink RX1 73 "TemporaryRealsModel" "told" "I", Cond.fieldLink RX1 76 "TemporaryRealsModel" "greatest" "I", Cond.fieldLink RX1 59 "TemporaryRealsModel" "side" "I"]
set_option maxRecDepth 20000 in
theorem aloX1_last : owX1_last.all goodWord = true := by decide +kernel
set_option maxRecDepth 20000 in
theorem tihX1_last : Cond.code yX1_last cX1_last 2 (some .int) ∈ lw_tbl := List.mem_append_right _ (List.mem_of_getElem? (i := 440) rfl)
set_option maxRecDepth 20000 in
theorem tioX1_last : ∀ w ∈ owX1_last, w ∈ lw_tbl := List.forall_mem_cons.mpr ⟨tihX1_last, by decide +kernel⟩
def wsX1_last : List Cond := owX1_last ++ (wsX10)
theorem al_wsX1_last : wsX1_last.all goodWord = true := wa_a aloX1_last al_wsX10
theorem ti_wsX1_last : ∀ w ∈ wsX1_last, w ∈ lw_tbl := wi_a tioX1_last ti_wsX10
def owX1_isNothing : List Cond := [Cond.code yX1_isNothing cX1_isNothing 2 (some .boolean), Cond.methodLink RX1 39 yX1_kind, Cond.instanceMethod yX1_kind, Cond.selects RX1 yX1_kind yX1_kind, Cond.initialized RX1, Cond.fieldLink RX1 17 "TemporaryRealsModel" "fraction" "[J"]
set_option maxRecDepth 20000 in
theorem aloX1_isNothing : owX1_isNothing.all goodWord = true := by decide +kernel
set_option maxRecDepth 20000 in
theorem tihX1_isNothing : Cond.code yX1_isNothing cX1_isNothing 2 (some .boolean) ∈ lw_tbl := List.mem_append_right _ (List.mem_of_getElem? (i := 448) rfl)
set_option maxRecDepth 20000 in
theorem tioX1_isNothing : ∀ w ∈ owX1_isNothing, w ∈ lw_tbl := List.forall_mem_cons.mpr ⟨tihX1_isNothing, by decide +kernel⟩
def wsX1_isNothing : List Cond := owX1_isNothing ++ (wsX10 ++ (wsX1_kind))
theorem al_wsX1_isNothing : wsX1_isNothing.all goodWord = true := wa_a aloX1_isNothing (wa_a al_wsX10 al_wsX1_kind)
theorem ti_wsX1_isNothing : ∀ w ∈ wsX1_isNothing, w ∈ lw_tbl := wi_a tioX1_isNothing (wi_a ti_wsX10 ti_wsX1_kind)
def owX1_compareSizes : List Cond := [Cond.code yX1_compareSizes cX1_compareSizes 9 (some .int), Cond.methodLink RX1 39 yX1_kind, Cond.instanceMethod yX1_kind, Cond.selects RX1 yX1_kind yX1_kind, Cond.initialized RX1, Cond.methodLink RX1 98 yX1_isNothing, Cond.instanceMethod yX1_isNothing, Cond.selects RX1 yX1_isNothing yX1_isNothing, Cond.fieldLink RX1 17 "TemporaryRealsModel" "fraction" "[J", Cond.methodLink RX1 95 yX1_powerOf, Cond.instanceMethod yX1_powerOf, Cond.selects RX1 yX1_powerOf yX1_powerOf, Cond.constantLong RX1 53 (2)]
set_option maxRecDepth 20000 in
theorem aloX1_compareSizes : owX1_compareSizes.all goodWord = true := by decide +kernel
set_option maxRecDepth 20000 in
theorem tihX1_compareSizes : Cond.code yX1_compareSizes cX1_compareSizes 9 (some .int) ∈ lw_tbl := List.mem_append_right _ (List.mem_of_getElem? (i := 452) rfl)
set_option maxRecDepth 20000 in
theorem tioX1_compareSizes : ∀ w ∈ owX1_compareSizes, w ∈ lw_tbl := List.forall_mem_cons.mpr ⟨tihX1_compareSizes, by decide +kernel⟩
def wsX1_compareSizes : List Cond := owX1_compareSizes ++ (wsX10 ++ (wsX1_kind ++ (wsX1_isNothing ++ (wsX1_powerOf))))
theorem al_wsX1_compareSizes : wsX1_compareSizes.all goodWord = true := wa_a aloX1_compareSizes (wa_a al_wsX10 (wa_a al_wsX1_kind (wa_a al_wsX1_isNothing al_wsX1_powerOf)))
theorem ti_wsX1_compareSizes : ∀ w ∈ wsX1_compareSizes, w ∈ lw_tbl := wi_a tioX1_compareSizes (wi_a ti_wsX10 (wi_a ti_wsX1_kind (wi_a ti_wsX1_isNothing ti_wsX1_powerOf)))
def owX1_compare : List Cond := [Cond.code yX1_compare cX1_compare 5 (some .int), Cond.methodLink RX1 28 yX1_none, Cond.static yX1_none, Cond.initialized RX1, Cond.fieldLink RX1 24 "TemporaryRealsModel" "code" "I", Cond.methodLink RX1 39 yX1_kind, Cond.instanceMethod yX1_kind, Cond.selects RX1 yX1_kind yX1_kind, Cond.methodLink RX1 98 yX1_isNothing, Cond.instanceMethod yX1_isNothing, Cond.selects RX1 yX1_isNothing yX1_isNothing, Cond.fieldLink RX1 13 "TemporaryRealsModel" "top" "[I", Cond.methodLink RX1 101 yX1_compareSizes, Cond.instanceMethod yX1_compareSizes, Cond.selects RX1 yX1_compareSizes yX1_compareSizes]
set_option maxRecDepth 20000 in
theorem aloX1_compare : owX1_compare.all goodWord = true := by decide +kernel
set_option maxRecDepth 20000 in
theorem tihX1_compare : Cond.code yX1_compare cX1_compare 5 (some .int) ∈ lw_tbl := List.mem_append_right _ (List.mem_of_getElem? (i := 444) rfl)
set_option maxRecDepth 20000 in
theorem tioX1_compare : ∀ w ∈ owX1_compare, w ∈ lw_tbl := List.forall_mem_cons.mpr ⟨tihX1_compare, by decide +kernel⟩
def wsX1_compare : List Cond := owX1_compare ++ (wsX10 ++ (wsX1_none ++ (wsX1_kind ++ (wsX1_isNothing ++ (wsX1_compareSizes)))))
theorem al_wsX1_compare : wsX1_compare.all goodWord = true := wa_a aloX1_compare (wa_a al_wsX10 (wa_a al_wsX1_none (wa_a al_wsX1_kind (wa_a al_wsX1_isNothing al_wsX1_compareSizes))))
theorem ti_wsX1_compare : ∀ w ∈ wsX1_compare, w ∈ lw_tbl := wi_a tioX1_compare (wi_a ti_wsX10 (wi_a ti_wsX1_none (wi_a ti_wsX1_kind (wi_a ti_wsX1_isNothing ti_wsX1_compareSizes))))
def owX1_neighbour : List Cond := [Cond.code yX1_neighbour cX1_neighbour 9 none, Cond.methodLink RX1 28 yX1_none, Cond.static yX1_none, Cond.initialized RX1, Cond.fieldLink RX1 24 "TemporaryRealsModel" "code" "I", Cond.fieldLink RX1 13 "TemporaryRealsModel" "top" "[I", Cond.constant RX1 36 (32768), Cond.fieldLink RX1 17 "TemporaryRealsModel" "fraction" "[J", Cond.methodLink RX1 39 yX1_kind, Cond.instanceMethod yX1_kind, Cond.selects RX1 yX1_kind yX1_kind, Cond.methodLink RX1 98 yX1_isNothing, Cond.instanceMethod yX1_isNothing, Cond.selects RX1 yX1_isNothing yX1_isNothing, Cond.constantLong RX1 37 (-9223372036854775808), Cond.constantLong RX1 53 (2)]
set_option maxRecDepth 20000 in
theorem aloX1_neighbour : owX1_neighbour.all goodWord = true := by decide +kernel
set_option maxRecDepth 20000 in
theorem tihX1_neighbour : Cond.code yX1_neighbour cX1_neighbour 9 none ∈ lw_tbl := List.mem_append_right _ (List.mem_of_getElem? (i := 456) rfl)
set_option maxRecDepth 20000 in
theorem tioX1_neighbour : ∀ w ∈ owX1_neighbour, w ∈ lw_tbl := List.forall_mem_cons.mpr ⟨tihX1_neighbour, by decide +kernel⟩
def wsX1_neighbour : List Cond := owX1_neighbour ++ (wsX10 ++ (wsX1_none ++ (wsX1_kind ++ (wsX1_isNothing))))
theorem al_wsX1_neighbour : wsX1_neighbour.all goodWord = true := wa_a aloX1_neighbour (wa_a al_wsX10 (wa_a al_wsX1_none (wa_a al_wsX1_kind al_wsX1_isNothing)))
theorem ti_wsX1_neighbour : ∀ w ∈ wsX1_neighbour, w ∈ lw_tbl := wi_a tioX1_neighbour (wi_a ti_wsX10 (wi_a ti_wsX1_none (wi_a ti_wsX1_kind ti_wsX1_isNothing)))
def owL_law : List Cond := [Cond.classLink RL 8 RX0, Cond.instantiable RX0 6, Cond.initialized RX0, Cond.methodLink RL 43 yX0_init, Cond.instanceMethod yX0_init, Cond.classLink RL 44 RX1, Cond.instantiable RX1 15, Cond.initialized RX1, Cond.methodLink RL 46 yX1_init, Cond.instanceMethod yX1_init, Cond.arrayClass .long, Cond.methodLink RL 47 yL_control, Cond.static yL_control, Cond.initialized RL, Cond.methodLink RL 52 yX1_control, Cond.instanceMethod yX1_control, Cond.selects RX1 yX1_control yX1_control, Cond.methodLink RL 53 yX1_thrown, Cond.instanceMethod yX1_thrown, Cond.selects RX1 yX1_thrown yX1_thrown, Cond.methodLink RL 57 yL_set, Cond.static yL_set, Cond.methodLink RL 60 yX1_set, Cond.instanceMethod yX1_set, Cond.selects RX1 yX1_set yX1_set, Cond.methodLink RL 61 yL_part, Cond.static yL_part, Cond.methodLink RL 64 yX1_part, Cond.instanceMethod yX1_part, Cond.selects RX1 yX1_part yX1_part, Cond.methodLink RL 65 yL_make, Cond.static yL_make, Cond.methodLink RL 68 yX1_make, Cond.instanceMethod yX1_make, Cond.selects RX1 yX1_make yX1_make, Cond.methodLink RL 69 yL_again, Cond.static yL_again, Cond.methodLink RL 71 yX1_again, Cond.instanceMethod yX1_again, Cond.selects RX1 yX1_again yX1_again, Cond.methodLink RL 72 yL_last, Cond.static yL_last, Cond.methodLink RL 75 yX1_last, Cond.instanceMethod yX1_last, Cond.selects RX1 yX1_last yX1_last, Cond.methodLink RL 76 yL_compare, Cond.static yL_compare, Cond.methodLink RL 78 yX1_compare, Cond.instanceMethod yX1_compare, Cond.selects RX1 yX1_compare yX1_compare, Cond.methodLink RL 79 yL_neighbour, Cond.static yL_neighbour, Cond.methodLink RL 82 yX1_neighbour, Cond.instanceMethod yX1_neighbour, Cond.selects RX1 yX1_neighbour yX1_neighbour]
set_option maxRecDepth 20000 in
theorem aloL_law : owL_law.all goodWord = true := by decide +kernel
set_option maxRecDepth 20000 in
theorem tioL_law : ∀ w ∈ owL_law, w ∈ lw_tbl := by decide +kernel
def wsL_law : List Cond := owL_law ++ (wsX00 ++ (wsX10 ++ (wsX0_init ++ (wsX1_init ++ (wsL_control ++ (wsX1_control ++ (wsX1_thrown ++ (wsL_set ++ (wsX1_set ++ (wsL_part ++ (wsX1_part ++ (wsL_make ++ (wsX1_make ++ (wsL_again ++ (wsX1_again ++ (wsL_last ++ (wsX1_last ++ (wsL_compare ++ (wsX1_compare ++ (wsL_neighbour ++ (wsX1_neighbour)))))))))))))))))))))
theorem al_wsL_law : wsL_law.all goodWord = true := wa_a aloL_law (wa_a al_wsX00 (wa_a al_wsX10 (wa_a al_wsX0_init (wa_a al_wsX1_init (wa_a al_wsL_control (wa_a al_wsX1_control (wa_a al_wsX1_thrown (wa_a al_wsL_set (wa_a al_wsX1_set (wa_a al_wsL_part (wa_a al_wsX1_part (wa_a al_wsL_make (wa_a al_wsX1_make (wa_a al_wsL_again (wa_a al_wsX1_again (wa_a al_wsL_last (wa_a al_wsX1_last (wa_a al_wsL_compare (wa_a al_wsX1_compare (wa_a al_wsL_neighbour al_wsX1_neighbour))))))))))))))))))))
theorem ti_wsL_law : ∀ w ∈ wsL_law, w ∈ lw_tbl := wi_a tioL_law (wi_a ti_wsX00 (wi_a ti_wsX10 (wi_a ti_wsX0_init (wi_a ti_wsX1_init (wi_a ti_wsL_control (wi_a ti_wsX1_control (wi_a ti_wsX1_thrown (wi_a ti_wsL_set (wi_a ti_wsX1_set (wi_a ti_wsL_part (wi_a ti_wsX1_part (wi_a ti_wsL_make (wi_a ti_wsX1_make (wi_a ti_wsL_again (wi_a ti_wsX1_again (wi_a ti_wsL_last (wi_a ti_wsX1_last (wi_a ti_wsL_compare (wi_a ti_wsX1_compare (wi_a ti_wsL_neighbour ti_wsX1_neighbour))))))))))))))))))))
