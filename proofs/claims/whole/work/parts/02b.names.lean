def wsX3_willBeWet_r4 : List Cond := [Cond.methodLink RX3 75 yX3_setPiano, Cond.instanceMethod yX3_setPiano, Cond.selects RX3 yX3_setPiano yX3_setPiano, Cond.code yX3_setPiano cX3_setPiano 4 none, Cond.methodLink RX3 78 yX3_held, Cond.static yX3_held, Cond.code yX3_held cX3_held 1 (some .int), Cond.methodLink RX3 101 yX3_rainsOn, Cond.instanceMethod yX3_rainsOn, Cond.selects RX3 yX3_rainsOn yX3_rainsOn, Cond.code yX3_rainsOn cX3_rainsOn 2 none, Cond.methodLink RX3 105 yX3_dries, Cond.instanceMethod yX3_dries, Cond.selects RX3 yX3_dries yX3_dries, Cond.code yX3_dries cX3_dries 4 none, Cond.methodLink RX3 109 yX3_thieves, Cond.instanceMethod yX3_thieves, Cond.selects RX3 yX3_thieves yX3_thieves, Cond.code yX3_thieves cX3_thieves 3 none, Cond.methodLink RX3 95 yX3_keepersAt, Cond.instanceMethod yX3_keepersAt, Cond.selects RX3 yX3_keepersAt yX3_keepersAt, Cond.code yX3_keepersAt cX3_keepersAt 4 (some .int)]
def wsX3_willBeWet : List Cond := .code yX3_willBeWet cX3_willBeWet 4 (some .int) :: ((wsX3_willBeWet_r1 ++ (wsX3_willBeWet_r2 ++ (wsX3_willBeWet_r3 ++ wsX3_willBeWet_r4))) ++ wsX30)
def wsX3_bestPlace_r1 : List Cond := [Cond.fieldLink RX3 7 "PianoCoversModel" "state" "[I", Cond.fieldLink RX3 13 "PianoCoversModel" "kept" "[I", Cond.methodLink RX3 36 yX3_within, Cond.static yX3_within, Cond.initialized RX3, Cond.code yX3_within cX3_within 3 (some .boolean), Cond.methodLink RX3 32 yX3_moves, Cond.static yX3_moves, Cond.code yX3_moves cX3_moves 5 none, Cond.methodLink RX3 135 yX3_keeperComes, Cond.instanceMethod yX3_keeperComes, Cond.selects RX3 yX3_keeperComes yX3_keeperComes, Cond.code yX3_keeperComes cX3_keeperComes 4 (some .int), Cond.methodLink RX3 147 yX3_passes, Cond.instanceMethod yX3_passes, Cond.selects RX3 yX3_passes yX3_passes, Cond.code yX3_passes cX3_passes 4 (some .int), Cond.methodLink RX3 112 yX3_hour, Cond.instanceMethod yX3_hour, Cond.selects RX3 yX3_hour yX3_hour, Cond.code yX3_hour cX3_hour 4 none, Cond.methodLink RX3 51 yX3_rainsIn, Cond.instanceMethod yX3_rainsIn, Cond.selects RX3 yX3_rainsIn yX3_rainsIn]
def wsX3_bestPlace_r2 : List Cond := [Cond.code yX3_rainsIn cX3_rainsIn 2 (some .boolean), Cond.methodLink RX3 98 yX3_keepersGo, Cond.instanceMethod yX3_keepersGo, Cond.selects RX3 yX3_keepersGo yX3_keepersGo, Cond.code yX3_keepersGo cX3_keepersGo 3 none, Cond.fieldLink RX3 57 "PianoCoversModel" "chosen" "I", Cond.methodLink RX3 87 yX3_isRainAhead, Cond.instanceMethod yX3_isRainAhead, Cond.selects RX3 yX3_isRainAhead yX3_isRainAhead, Cond.code yX3_isRainAhead cX3_isRainAhead 3 (some .boolean), Cond.methodLink RX3 91 yX3_keeperGoes, Cond.instanceMethod yX3_keeperGoes, Cond.selects RX3 yX3_keeperGoes yX3_keeperGoes, Cond.code yX3_keeperGoes cX3_keeperGoes 5 none, Cond.methodLink RX3 81 yX3_nearest, Cond.instanceMethod yX3_nearest, Cond.selects RX3 yX3_nearest yX3_nearest, Cond.code yX3_nearest cX3_nearest 6 (some .int), Cond.methodLink RX3 63 yX3_isWanted, Cond.instanceMethod yX3_isWanted, Cond.selects RX3 yX3_isWanted yX3_isWanted, Cond.code yX3_isWanted cX3_isWanted 3 (some .boolean), Cond.methodLink RX3 48 yX3_isPiano, Cond.instanceMethod yX3_isPiano]
def wsX3_bestPlace_r3 : List Cond := [Cond.selects RX3 yX3_isPiano yX3_isPiano, Cond.code yX3_isPiano cX3_isPiano 2 (some .boolean), Cond.methodLink RX3 40 yX3_isPlace, Cond.static yX3_isPlace, Cond.code yX3_isPlace cX3_isPlace 1 (some .boolean), Cond.methodLink RX3 44 yX3_pianoPart, Cond.instanceMethod yX3_pianoPart, Cond.selects RX3 yX3_pianoPart yX3_pianoPart, Cond.code yX3_pianoPart cX3_pianoPart 3 (some .int), Cond.methodLink RX3 60 yX3_isOpen, Cond.instanceMethod yX3_isOpen, Cond.selects RX3 yX3_isOpen yX3_isOpen, Cond.code yX3_isOpen cX3_isOpen 2 (some .boolean), Cond.methodLink RX3 54 yX3_keeperPart, Cond.instanceMethod yX3_keeperPart, Cond.selects RX3 yX3_keeperPart yX3_keeperPart, Cond.code yX3_keeperPart cX3_keeperPart 3 (some .int), Cond.methodLink RX3 67 yX3_size, Cond.static yX3_size, Cond.code yX3_size cX3_size 1 (some .int), Cond.methodLink RX3 84 yX3_does, Cond.instanceMethod yX3_does, Cond.selects RX3 yX3_does yX3_does, Cond.code yX3_does cX3_does 4 none]
def wsX3_bestPlace_r4 : List Cond := [Cond.methodLink RX3 71 yX3_adds, Cond.instanceMethod yX3_adds, Cond.selects RX3 yX3_adds yX3_adds, Cond.code yX3_adds cX3_adds 4 none, Cond.methodLink RX3 75 yX3_setPiano, Cond.instanceMethod yX3_setPiano, Cond.selects RX3 yX3_setPiano yX3_setPiano, Cond.code yX3_setPiano cX3_setPiano 4 none, Cond.methodLink RX3 78 yX3_held, Cond.static yX3_held, Cond.code yX3_held cX3_held 1 (some .int), Cond.methodLink RX3 101 yX3_rainsOn, Cond.instanceMethod yX3_rainsOn, Cond.selects RX3 yX3_rainsOn yX3_rainsOn, Cond.code yX3_rainsOn cX3_rainsOn 2 none, Cond.methodLink RX3 105 yX3_dries, Cond.instanceMethod yX3_dries, Cond.selects RX3 yX3_dries yX3_dries, Cond.code yX3_dries cX3_dries 4 none, Cond.methodLink RX3 109 yX3_thieves, Cond.instanceMethod yX3_thieves, Cond.selects RX3 yX3_thieves yX3_thieves, Cond.code yX3_thieves cX3_thieves 3 none, Cond.methodLink RX3 95 yX3_keepersAt]
def wsX3_bestPlace_r5 : List Cond := [Cond.instanceMethod yX3_keepersAt, Cond.selects RX3 yX3_keepersAt yX3_keepersAt, Cond.code yX3_keepersAt cX3_keepersAt 4 (some .int)]
def wsX3_bestPlace : List Cond := .code yX3_bestPlace cX3_bestPlace 7 (some .int) :: ((wsX3_bestPlace_r1 ++ (wsX3_bestPlace_r2 ++ (wsX3_bestPlace_r3 ++ (wsX3_bestPlace_r4 ++ wsX3_bestPlace_r5)))) ++ wsX30)
def wsX3_put : List Cond := .code yX3_put cX3_put 8 (some .int) :: ([.constantLong RX3 159 (255), .fieldLink RX3 153 "PianoCoversModel" "padLength" "I", .fieldLink RX3 25 "PianoCoversModel" "pad" "[I", .methodLink RX3 36 yX3_within, .static yX3_within, .initialized RX3, .code yX3_within cX3_within 3 (some .boolean)] ++ wsX30)
def wsX3_wipe : List Cond := .code yX3_wipe cX3_wipe 2 (some .int) :: ([.fieldLink RX3 153 "PianoCoversModel" "padLength" "I"] ++ wsX30)
def wsX3_character : List Cond := .code yX3_character cX3_character 2 (some .int) :: ([.fieldLink RX3 153 "PianoCoversModel" "padLength" "I", .fieldLink RX3 25 "PianoCoversModel" "pad" "[I"] ++ wsX30)
def wsX3_isNext : List Cond := .code yX3_isNext cX3_isNext 3 (some .boolean) :: ([.fieldLink RX3 161 "PianoCoversModel" "at" "I", .methodLink RX3 164 yX3_character, .instanceMethod yX3_character, .selects RX3 yX3_character yX3_character, .initialized RX3, .code yX3_character cX3_character 2 (some .int), .fieldLink RX3 153 "PianoCoversModel" "padLength" "I", .fieldLink RX3 25 "PianoCoversModel" "pad" "[I"] ++ wsX30)
def wsX3_isDigit : List Cond := .code yX3_isDigit cX3_isDigit 1 (some .boolean) :: ([.fieldLink RX3 161 "PianoCoversModel" "at" "I", .methodLink RX3 164 yX3_character, .instanceMethod yX3_character, .selects RX3 yX3_character yX3_character, .initialized RX3, .code yX3_character cX3_character 2 (some .int), .fieldLink RX3 153 "PianoCoversModel" "padLength" "I", .fieldLink RX3 25 "PianoCoversModel" "pad" "[I", .methodLink RX3 36 yX3_within, .static yX3_within, .code yX3_within cX3_within 3 (some .boolean)] ++ wsX30)
def wsX3_takeNumber : List Cond := .code yX3_takeNumber cX3_takeNumber 3 (some .int) :: ([.fieldLink RX3 161 "PianoCoversModel" "at" "I", .methodLink RX3 167 yX3_isDigit, .instanceMethod yX3_isDigit, .selects RX3 yX3_isDigit yX3_isDigit, .initialized RX3, .code yX3_isDigit cX3_isDigit 1 (some .boolean), .methodLink RX3 164 yX3_character, .instanceMethod yX3_character, .selects RX3 yX3_character yX3_character, .code yX3_character cX3_character 2 (some .int), .fieldLink RX3 153 "PianoCoversModel" "padLength" "I", .fieldLink RX3 25 "PianoCoversModel" "pad" "[I", .methodLink RX3 36 yX3_within, .static yX3_within, .code yX3_within cX3_within 3 (some .boolean)] ++ wsX30)
def wsX3_takesNumber : List Cond := .code yX3_takesNumber cX3_takesNumber 1 (some .boolean) :: ([.fieldLink RX3 173 "PianoCoversModel" "number" "I", .methodLink RX3 170 yX3_takeNumber, .instanceMethod yX3_takeNumber, .selects RX3 yX3_takeNumber yX3_takeNumber, .initialized RX3, .code yX3_takeNumber cX3_takeNumber 3 (some .int), .fieldLink RX3 161 "PianoCoversModel" "at" "I", .methodLink RX3 167 yX3_isDigit, .instanceMethod yX3_isDigit, .selects RX3 yX3_isDigit yX3_isDigit, .code yX3_isDigit cX3_isDigit 1 (some .boolean), .methodLink RX3 164 yX3_character, .instanceMethod yX3_character, .selects RX3 yX3_character yX3_character, .code yX3_character cX3_character 2 (some .int), .fieldLink RX3 153 "PianoCoversModel" "padLength" "I", .fieldLink RX3 25 "PianoCoversModel" "pad" "[I", .methodLink RX3 36 yX3_within, .static yX3_within, .code yX3_within cX3_within 3 (some .boolean)] ++ wsX30)
def wsX3_takesHours : List Cond := .code yX3_takesHours cX3_takesHours 2 (some .boolean) :: ([.fieldLink RX3 173 "PianoCoversModel" "number" "I", .methodLink RX3 176 yX3_isNext, .instanceMethod yX3_isNext, .selects RX3 yX3_isNext yX3_isNext, .initialized RX3, .code yX3_isNext cX3_isNext 3 (some .boolean), .fieldLink RX3 161 "PianoCoversModel" "at" "I", .methodLink RX3 164 yX3_character, .instanceMethod yX3_character, .selects RX3 yX3_character yX3_character, .code yX3_character cX3_character 2 (some .int), .fieldLink RX3 153 "PianoCoversModel" "padLength" "I", .fieldLink RX3 25 "PianoCoversModel" "pad" "[I", .methodLink RX3 170 yX3_takeNumber, .instanceMethod yX3_takeNumber, .selects RX3 yX3_takeNumber yX3_takeNumber, .code yX3_takeNumber cX3_takeNumber 3 (some .int), .methodLink RX3 167 yX3_isDigit, .instanceMethod yX3_isDigit, .selects RX3 yX3_isDigit yX3_isDigit, .code yX3_isDigit cX3_isDigit 1 (some .boolean), .methodLink RX3 36 yX3_within, .static yX3_within, .code yX3_within cX3_within 3 (some .boolean)] ++ wsX30)
def wsX3_readsOrder_r1 : List Cond := [Cond.fieldLink RX3 161 "PianoCoversModel" "at" "I", Cond.fieldLink RX3 179 "PianoCoversModel" "letter" "I", Cond.fieldLink RX3 182 "PianoCoversModel" "hasCover" "Z", Cond.methodLink RX3 164 yX3_character, Cond.instanceMethod yX3_character, Cond.selects RX3 yX3_character yX3_character, Cond.initialized RX3, Cond.code yX3_character cX3_character 2 (some .int), Cond.fieldLink RX3 153 "PianoCoversModel" "padLength" "I", Cond.fieldLink RX3 25 "PianoCoversModel" "pad" "[I", Cond.methodLink RX3 186 yX3_takesNumber, Cond.instanceMethod yX3_takesNumber, Cond.selects RX3 yX3_takesNumber yX3_takesNumber, Cond.code yX3_takesNumber cX3_takesNumber 1 (some .boolean), Cond.fieldLink RX3 173 "PianoCoversModel" "number" "I", Cond.methodLink RX3 170 yX3_takeNumber, Cond.instanceMethod yX3_takeNumber, Cond.selects RX3 yX3_takeNumber yX3_takeNumber, Cond.code yX3_takeNumber cX3_takeNumber 3 (some .int), Cond.methodLink RX3 167 yX3_isDigit, Cond.instanceMethod yX3_isDigit, Cond.selects RX3 yX3_isDigit yX3_isDigit, Cond.code yX3_isDigit cX3_isDigit 1 (some .boolean), Cond.methodLink RX3 36 yX3_within]
def wsX3_readsOrder_r2 : List Cond := [Cond.static yX3_within, Cond.code yX3_within cX3_within 3 (some .boolean), Cond.methodLink RX3 176 yX3_isNext, Cond.instanceMethod yX3_isNext, Cond.selects RX3 yX3_isNext yX3_isNext, Cond.code yX3_isNext cX3_isNext 3 (some .boolean), Cond.methodLink RX3 189 yX3_takesHours, Cond.instanceMethod yX3_takesHours, Cond.selects RX3 yX3_takesHours yX3_takesHours, Cond.code yX3_takesHours cX3_takesHours 2 (some .boolean)]
def wsX3_readsOrder : List Cond := .code yX3_readsOrder cX3_readsOrder 2 (some .boolean) :: ((wsX3_readsOrder_r1 ++ wsX3_readsOrder_r2) ++ wsX30)
def wsX3_findFault_r1 : List Cond := [Cond.fieldLink RX3 161 "PianoCoversModel" "at" "I", Cond.fieldLink RX3 153 "PianoCoversModel" "padLength" "I", Cond.methodLink RX3 192 yX3_readsOrder, Cond.instanceMethod yX3_readsOrder, Cond.selects RX3 yX3_readsOrder yX3_readsOrder, Cond.initialized RX3, Cond.code yX3_readsOrder cX3_readsOrder 2 (some .boolean), Cond.fieldLink RX3 179 "PianoCoversModel" "letter" "I", Cond.fieldLink RX3 182 "PianoCoversModel" "hasCover" "Z", Cond.methodLink RX3 164 yX3_character, Cond.instanceMethod yX3_character, Cond.selects RX3 yX3_character yX3_character, Cond.code yX3_character cX3_character 2 (some .int), Cond.fieldLink RX3 25 "PianoCoversModel" "pad" "[I", Cond.methodLink RX3 186 yX3_takesNumber, Cond.instanceMethod yX3_takesNumber, Cond.selects RX3 yX3_takesNumber yX3_takesNumber, Cond.code yX3_takesNumber cX3_takesNumber 1 (some .boolean), Cond.fieldLink RX3 173 "PianoCoversModel" "number" "I", Cond.methodLink RX3 170 yX3_takeNumber, Cond.instanceMethod yX3_takeNumber, Cond.selects RX3 yX3_takeNumber yX3_takeNumber, Cond.code yX3_takeNumber cX3_takeNumber 3 (some .int), Cond.methodLink RX3 167 yX3_isDigit]
def wsX3_findFault_r2 : List Cond := [Cond.instanceMethod yX3_isDigit, Cond.selects RX3 yX3_isDigit yX3_isDigit, Cond.code yX3_isDigit cX3_isDigit 1 (some .boolean), Cond.methodLink RX3 36 yX3_within, Cond.static yX3_within, Cond.code yX3_within cX3_within 3 (some .boolean), Cond.methodLink RX3 176 yX3_isNext, Cond.instanceMethod yX3_isNext, Cond.selects RX3 yX3_isNext yX3_isNext, Cond.code yX3_isNext cX3_isNext 3 (some .boolean), Cond.methodLink RX3 189 yX3_takesHours, Cond.instanceMethod yX3_takesHours, Cond.selects RX3 yX3_takesHours yX3_takesHours, Cond.code yX3_takesHours cX3_takesHours 2 (some .boolean)]
def wsX3_findFault : List Cond := .code yX3_findFault cX3_findFault 1 (some .int) :: ((wsX3_findFault_r1 ++ wsX3_findFault_r2) ++ wsX30)
def wsX3_fault_r1 : List Cond := [Cond.methodLink RX3 195 yX3_findFault, Cond.instanceMethod yX3_findFault, Cond.selects RX3 yX3_findFault yX3_findFault, Cond.initialized RX3, Cond.code yX3_findFault cX3_findFault 1 (some .int), Cond.fieldLink RX3 161 "PianoCoversModel" "at" "I", Cond.fieldLink RX3 153 "PianoCoversModel" "padLength" "I", Cond.methodLink RX3 192 yX3_readsOrder, Cond.instanceMethod yX3_readsOrder, Cond.selects RX3 yX3_readsOrder yX3_readsOrder, Cond.code yX3_readsOrder cX3_readsOrder 2 (some .boolean), Cond.fieldLink RX3 179 "PianoCoversModel" "letter" "I", Cond.fieldLink RX3 182 "PianoCoversModel" "hasCover" "Z", Cond.methodLink RX3 164 yX3_character, Cond.instanceMethod yX3_character, Cond.selects RX3 yX3_character yX3_character, Cond.code yX3_character cX3_character 2 (some .int), Cond.fieldLink RX3 25 "PianoCoversModel" "pad" "[I", Cond.methodLink RX3 186 yX3_takesNumber, Cond.instanceMethod yX3_takesNumber, Cond.selects RX3 yX3_takesNumber yX3_takesNumber, Cond.code yX3_takesNumber cX3_takesNumber 1 (some .boolean), Cond.fieldLink RX3 173 "PianoCoversModel" "number" "I", Cond.methodLink RX3 170 yX3_takeNumber]
def wsX3_fault_r2 : List Cond := [Cond.instanceMethod yX3_takeNumber, Cond.selects RX3 yX3_takeNumber yX3_takeNumber, Cond.code yX3_takeNumber cX3_takeNumber 3 (some .int), Cond.methodLink RX3 167 yX3_isDigit, Cond.instanceMethod yX3_isDigit, Cond.selects RX3 yX3_isDigit yX3_isDigit, Cond.code yX3_isDigit cX3_isDigit 1 (some .boolean), Cond.methodLink RX3 36 yX3_within, Cond.static yX3_within, Cond.code yX3_within cX3_within 3 (some .boolean), Cond.methodLink RX3 176 yX3_isNext, Cond.instanceMethod yX3_isNext, Cond.selects RX3 yX3_isNext yX3_isNext, Cond.code yX3_isNext cX3_isNext 3 (some .boolean), Cond.methodLink RX3 189 yX3_takesHours, Cond.instanceMethod yX3_takesHours, Cond.selects RX3 yX3_takesHours yX3_takesHours, Cond.code yX3_takesHours cX3_takesHours 2 (some .boolean)]
def wsX3_fault : List Cond := .code yX3_fault cX3_fault 1 (some .int) :: ((wsX3_fault_r1 ++ wsX3_fault_r2) ++ wsX30)
def wsX3_whyNotDone_r1 : List Cond := [Cond.fieldLink RX3 179 "PianoCoversModel" "letter" "I", Cond.fieldLink RX3 173 "PianoCoversModel" "number" "I", Cond.fieldLink RX3 182 "PianoCoversModel" "hasCover" "Z", Cond.methodLink RX3 122 yX3_whyNoPiano, Cond.instanceMethod yX3_whyNoPiano, Cond.selects RX3 yX3_whyNoPiano yX3_whyNoPiano, Cond.initialized RX3, Cond.code yX3_whyNoPiano cX3_whyNoPiano 3 (some .int), Cond.methodLink RX3 40 yX3_isPlace, Cond.static yX3_isPlace, Cond.code yX3_isPlace cX3_isPlace 1 (some .boolean), Cond.methodLink RX3 36 yX3_within, Cond.static yX3_within, Cond.code yX3_within cX3_within 3 (some .boolean), Cond.methodLink RX3 48 yX3_isPiano, Cond.instanceMethod yX3_isPiano, Cond.selects RX3 yX3_isPiano yX3_isPiano, Cond.code yX3_isPiano cX3_isPiano 2 (some .boolean), Cond.methodLink RX3 44 yX3_pianoPart, Cond.instanceMethod yX3_pianoPart, Cond.selects RX3 yX3_pianoPart yX3_pianoPart, Cond.code yX3_pianoPart cX3_pianoPart 3 (some .int), Cond.fieldLink RX3 7 "PianoCoversModel" "state" "[I", Cond.methodLink RX3 132 yX3_whyNoKeeper]
def wsX3_whyNotDone_r2 : List Cond := [Cond.instanceMethod yX3_whyNoKeeper, Cond.selects RX3 yX3_whyNoKeeper yX3_whyNoKeeper, Cond.code yX3_whyNoKeeper cX3_whyNoKeeper 2 (some .int), Cond.methodLink RX3 138 yX3_whyNoCover, Cond.instanceMethod yX3_whyNoCover, Cond.selects RX3 yX3_whyNoCover yX3_whyNoCover, Cond.code yX3_whyNoCover cX3_whyNoCover 2 (some .int), Cond.methodLink RX3 144 yX3_whyNotPassed, Cond.instanceMethod yX3_whyNotPassed, Cond.selects RX3 yX3_whyNotPassed yX3_whyNotPassed, Cond.code yX3_whyNotPassed cX3_whyNotPassed 2 (some .int)]
def wsX3_whyNotDone : List Cond := .code yX3_whyNotDone cX3_whyNotDone 1 (some .int) :: ((wsX3_whyNotDone_r1 ++ wsX3_whyNotDone_r2) ++ wsX30)
def wsX3_doesOrder_r1 : List Cond := [Cond.fieldLink RX3 179 "PianoCoversModel" "letter" "I", Cond.fieldLink RX3 173 "PianoCoversModel" "number" "I", Cond.fieldLink RX3 182 "PianoCoversModel" "hasCover" "Z", Cond.fieldLink RX3 7 "PianoCoversModel" "state" "[I", Cond.methodLink RX3 125 yX3_pianoComes, Cond.instanceMethod yX3_pianoComes, Cond.selects RX3 yX3_pianoComes yX3_pianoComes, Cond.initialized RX3, Cond.code yX3_pianoComes cX3_pianoComes 3 none, Cond.methodLink RX3 75 yX3_setPiano, Cond.instanceMethod yX3_setPiano, Cond.selects RX3 yX3_setPiano yX3_setPiano, Cond.code yX3_setPiano cX3_setPiano 4 none, Cond.methodLink RX3 135 yX3_keeperComes, Cond.instanceMethod yX3_keeperComes, Cond.selects RX3 yX3_keeperComes yX3_keeperComes, Cond.code yX3_keeperComes cX3_keeperComes 4 (some .int), Cond.methodLink RX3 147 yX3_passes, Cond.instanceMethod yX3_passes, Cond.selects RX3 yX3_passes yX3_passes, Cond.code yX3_passes cX3_passes 4 (some .int), Cond.methodLink RX3 112 yX3_hour, Cond.instanceMethod yX3_hour, Cond.selects RX3 yX3_hour yX3_hour]
def wsX3_doesOrder_r2 : List Cond := [Cond.code yX3_hour cX3_hour 4 none, Cond.methodLink RX3 51 yX3_rainsIn, Cond.instanceMethod yX3_rainsIn, Cond.selects RX3 yX3_rainsIn yX3_rainsIn, Cond.code yX3_rainsIn cX3_rainsIn 2 (some .boolean), Cond.methodLink RX3 98 yX3_keepersGo, Cond.instanceMethod yX3_keepersGo, Cond.selects RX3 yX3_keepersGo yX3_keepersGo, Cond.code yX3_keepersGo cX3_keepersGo 3 none, Cond.fieldLink RX3 57 "PianoCoversModel" "chosen" "I", Cond.methodLink RX3 87 yX3_isRainAhead, Cond.instanceMethod yX3_isRainAhead, Cond.selects RX3 yX3_isRainAhead yX3_isRainAhead, Cond.code yX3_isRainAhead cX3_isRainAhead 3 (some .boolean), Cond.methodLink RX3 91 yX3_keeperGoes, Cond.instanceMethod yX3_keeperGoes, Cond.selects RX3 yX3_keeperGoes yX3_keeperGoes, Cond.code yX3_keeperGoes cX3_keeperGoes 5 none, Cond.methodLink RX3 81 yX3_nearest, Cond.instanceMethod yX3_nearest, Cond.selects RX3 yX3_nearest yX3_nearest, Cond.code yX3_nearest cX3_nearest 6 (some .int), Cond.methodLink RX3 63 yX3_isWanted, Cond.instanceMethod yX3_isWanted]
def wsX3_doesOrder_r3 : List Cond := [Cond.selects RX3 yX3_isWanted yX3_isWanted, Cond.code yX3_isWanted cX3_isWanted 3 (some .boolean), Cond.methodLink RX3 48 yX3_isPiano, Cond.instanceMethod yX3_isPiano, Cond.selects RX3 yX3_isPiano yX3_isPiano, Cond.code yX3_isPiano cX3_isPiano 2 (some .boolean), Cond.methodLink RX3 40 yX3_isPlace, Cond.static yX3_isPlace, Cond.code yX3_isPlace cX3_isPlace 1 (some .boolean), Cond.methodLink RX3 36 yX3_within, Cond.static yX3_within, Cond.code yX3_within cX3_within 3 (some .boolean), Cond.methodLink RX3 44 yX3_pianoPart, Cond.instanceMethod yX3_pianoPart, Cond.selects RX3 yX3_pianoPart yX3_pianoPart, Cond.code yX3_pianoPart cX3_pianoPart 3 (some .int), Cond.methodLink RX3 60 yX3_isOpen, Cond.instanceMethod yX3_isOpen, Cond.selects RX3 yX3_isOpen yX3_isOpen, Cond.code yX3_isOpen cX3_isOpen 2 (some .boolean), Cond.methodLink RX3 54 yX3_keeperPart, Cond.instanceMethod yX3_keeperPart, Cond.selects RX3 yX3_keeperPart yX3_keeperPart, Cond.code yX3_keeperPart cX3_keeperPart 3 (some .int)]
def wsX3_doesOrder_r4 : List Cond := [Cond.methodLink RX3 67 yX3_size, Cond.static yX3_size, Cond.code yX3_size cX3_size 1 (some .int), Cond.methodLink RX3 84 yX3_does, Cond.instanceMethod yX3_does, Cond.selects RX3 yX3_does yX3_does, Cond.code yX3_does cX3_does 4 none, Cond.methodLink RX3 71 yX3_adds, Cond.instanceMethod yX3_adds, Cond.selects RX3 yX3_adds yX3_adds, Cond.code yX3_adds cX3_adds 4 none, Cond.methodLink RX3 78 yX3_held, Cond.static yX3_held, Cond.code yX3_held cX3_held 1 (some .int), Cond.methodLink RX3 101 yX3_rainsOn, Cond.instanceMethod yX3_rainsOn, Cond.selects RX3 yX3_rainsOn yX3_rainsOn, Cond.code yX3_rainsOn cX3_rainsOn 2 none, Cond.methodLink RX3 105 yX3_dries, Cond.instanceMethod yX3_dries, Cond.selects RX3 yX3_dries yX3_dries, Cond.code yX3_dries cX3_dries 4 none, Cond.methodLink RX3 109 yX3_thieves, Cond.instanceMethod yX3_thieves]
def wsX3_doesOrder_r5 : List Cond := [Cond.selects RX3 yX3_thieves yX3_thieves, Cond.code yX3_thieves cX3_thieves 3 none, Cond.methodLink RX3 95 yX3_keepersAt, Cond.instanceMethod yX3_keepersAt, Cond.selects RX3 yX3_keepersAt yX3_keepersAt, Cond.code yX3_keepersAt cX3_keepersAt 4 (some .int)]
def wsX3_doesOrder : List Cond := .code yX3_doesOrder cX3_doesOrder 1 none :: ((wsX3_doesOrder_r1 ++ (wsX3_doesOrder_r2 ++ (wsX3_doesOrder_r3 ++ (wsX3_doesOrder_r4 ++ wsX3_doesOrder_r5)))) ++ wsX30)
def wsX3_carryOut_r1 : List Cond := [Cond.fieldLink RX3 161 "PianoCoversModel" "at" "I", Cond.fieldLink RX3 153 "PianoCoversModel" "padLength" "I", Cond.methodLink RX3 195 yX3_findFault, Cond.instanceMethod yX3_findFault, Cond.selects RX3 yX3_findFault yX3_findFault, Cond.initialized RX3, Cond.code yX3_findFault cX3_findFault 1 (some .int), Cond.methodLink RX3 192 yX3_readsOrder, Cond.instanceMethod yX3_readsOrder, Cond.selects RX3 yX3_readsOrder yX3_readsOrder, Cond.code yX3_readsOrder cX3_readsOrder 2 (some .boolean), Cond.fieldLink RX3 179 "PianoCoversModel" "letter" "I", Cond.fieldLink RX3 182 "PianoCoversModel" "hasCover" "Z", Cond.methodLink RX3 164 yX3_character, Cond.instanceMethod yX3_character, Cond.selects RX3 yX3_character yX3_character, Cond.code yX3_character cX3_character 2 (some .int), Cond.fieldLink RX3 25 "PianoCoversModel" "pad" "[I", Cond.methodLink RX3 186 yX3_takesNumber, Cond.instanceMethod yX3_takesNumber, Cond.selects RX3 yX3_takesNumber yX3_takesNumber, Cond.code yX3_takesNumber cX3_takesNumber 1 (some .boolean), Cond.fieldLink RX3 173 "PianoCoversModel" "number" "I", Cond.methodLink RX3 170 yX3_takeNumber]
def wsX3_carryOut_r2 : List Cond := [Cond.instanceMethod yX3_takeNumber, Cond.selects RX3 yX3_takeNumber yX3_takeNumber, Cond.code yX3_takeNumber cX3_takeNumber 3 (some .int), Cond.methodLink RX3 167 yX3_isDigit, Cond.instanceMethod yX3_isDigit, Cond.selects RX3 yX3_isDigit yX3_isDigit, Cond.code yX3_isDigit cX3_isDigit 1 (some .boolean), Cond.methodLink RX3 36 yX3_within, Cond.static yX3_within, Cond.code yX3_within cX3_within 3 (some .boolean), Cond.methodLink RX3 176 yX3_isNext, Cond.instanceMethod yX3_isNext, Cond.selects RX3 yX3_isNext yX3_isNext, Cond.code yX3_isNext cX3_isNext 3 (some .boolean), Cond.methodLink RX3 189 yX3_takesHours, Cond.instanceMethod yX3_takesHours, Cond.selects RX3 yX3_takesHours yX3_takesHours, Cond.code yX3_takesHours cX3_takesHours 2 (some .boolean), Cond.methodLink RX3 118 yX3_record, Cond.instanceMethod yX3_record, Cond.selects RX3 yX3_record yX3_record, Cond.code yX3_record cX3_record 2 none, Cond.fieldLink RX3 28 "PianoCoversModel" "recorded" "I", Cond.fieldLink RX3 16 "PianoCoversModel" "history" "[I"]
def wsX3_carryOut_r3 : List Cond := [Cond.fieldLink RX3 7 "PianoCoversModel" "state" "[I", Cond.methodLink RX3 32 yX3_moves, Cond.static yX3_moves, Cond.code yX3_moves cX3_moves 5 none, Cond.methodLink RX3 198 yX3_whyNotDone, Cond.instanceMethod yX3_whyNotDone, Cond.selects RX3 yX3_whyNotDone yX3_whyNotDone, Cond.code yX3_whyNotDone cX3_whyNotDone 1 (some .int), Cond.methodLink RX3 122 yX3_whyNoPiano, Cond.instanceMethod yX3_whyNoPiano, Cond.selects RX3 yX3_whyNoPiano yX3_whyNoPiano, Cond.code yX3_whyNoPiano cX3_whyNoPiano 3 (some .int), Cond.methodLink RX3 40 yX3_isPlace, Cond.static yX3_isPlace, Cond.code yX3_isPlace cX3_isPlace 1 (some .boolean), Cond.methodLink RX3 48 yX3_isPiano, Cond.instanceMethod yX3_isPiano, Cond.selects RX3 yX3_isPiano yX3_isPiano, Cond.code yX3_isPiano cX3_isPiano 2 (some .boolean), Cond.methodLink RX3 44 yX3_pianoPart, Cond.instanceMethod yX3_pianoPart, Cond.selects RX3 yX3_pianoPart yX3_pianoPart, Cond.code yX3_pianoPart cX3_pianoPart 3 (some .int), Cond.methodLink RX3 132 yX3_whyNoKeeper]
def wsX3_carryOut_r4 : List Cond := [Cond.instanceMethod yX3_whyNoKeeper, Cond.selects RX3 yX3_whyNoKeeper yX3_whyNoKeeper, Cond.code yX3_whyNoKeeper cX3_whyNoKeeper 2 (some .int), Cond.methodLink RX3 138 yX3_whyNoCover, Cond.instanceMethod yX3_whyNoCover, Cond.selects RX3 yX3_whyNoCover yX3_whyNoCover, Cond.code yX3_whyNoCover cX3_whyNoCover 2 (some .int), Cond.methodLink RX3 144 yX3_whyNotPassed, Cond.instanceMethod yX3_whyNotPassed, Cond.selects RX3 yX3_whyNotPassed yX3_whyNotPassed, Cond.code yX3_whyNotPassed cX3_whyNotPassed 2 (some .int), Cond.methodLink RX3 201 yX3_doesOrder, Cond.instanceMethod yX3_doesOrder, Cond.selects RX3 yX3_doesOrder yX3_doesOrder, Cond.code yX3_doesOrder cX3_doesOrder 1 none, Cond.methodLink RX3 125 yX3_pianoComes, Cond.instanceMethod yX3_pianoComes, Cond.selects RX3 yX3_pianoComes yX3_pianoComes, Cond.code yX3_pianoComes cX3_pianoComes 3 none, Cond.methodLink RX3 75 yX3_setPiano, Cond.instanceMethod yX3_setPiano, Cond.selects RX3 yX3_setPiano yX3_setPiano, Cond.code yX3_setPiano cX3_setPiano 4 none, Cond.methodLink RX3 135 yX3_keeperComes]
def wsX3_carryOut_r5 : List Cond := [Cond.instanceMethod yX3_keeperComes, Cond.selects RX3 yX3_keeperComes yX3_keeperComes, Cond.code yX3_keeperComes cX3_keeperComes 4 (some .int), Cond.methodLink RX3 147 yX3_passes, Cond.instanceMethod yX3_passes, Cond.selects RX3 yX3_passes yX3_passes, Cond.code yX3_passes cX3_passes 4 (some .int), Cond.methodLink RX3 112 yX3_hour, Cond.instanceMethod yX3_hour, Cond.selects RX3 yX3_hour yX3_hour, Cond.code yX3_hour cX3_hour 4 none, Cond.methodLink RX3 51 yX3_rainsIn, Cond.instanceMethod yX3_rainsIn, Cond.selects RX3 yX3_rainsIn yX3_rainsIn, Cond.code yX3_rainsIn cX3_rainsIn 2 (some .boolean), Cond.methodLink RX3 98 yX3_keepersGo, Cond.instanceMethod yX3_keepersGo, Cond.selects RX3 yX3_keepersGo yX3_keepersGo, Cond.code yX3_keepersGo cX3_keepersGo 3 none, Cond.fieldLink RX3 57 "PianoCoversModel" "chosen" "I", Cond.methodLink RX3 87 yX3_isRainAhead, Cond.instanceMethod yX3_isRainAhead, Cond.selects RX3 yX3_isRainAhead yX3_isRainAhead, Cond.code yX3_isRainAhead cX3_isRainAhead 3 (some .boolean)]
def wsX3_carryOut_r6 : List Cond := [Cond.methodLink RX3 91 yX3_keeperGoes, Cond.instanceMethod yX3_keeperGoes, Cond.selects RX3 yX3_keeperGoes yX3_keeperGoes, Cond.code yX3_keeperGoes cX3_keeperGoes 5 none, Cond.methodLink RX3 81 yX3_nearest, Cond.instanceMethod yX3_nearest, Cond.selects RX3 yX3_nearest yX3_nearest, Cond.code yX3_nearest cX3_nearest 6 (some .int), Cond.methodLink RX3 63 yX3_isWanted, Cond.instanceMethod yX3_isWanted, Cond.selects RX3 yX3_isWanted yX3_isWanted, Cond.code yX3_isWanted cX3_isWanted 3 (some .boolean), Cond.methodLink RX3 60 yX3_isOpen, Cond.instanceMethod yX3_isOpen, Cond.selects RX3 yX3_isOpen yX3_isOpen, Cond.code yX3_isOpen cX3_isOpen 2 (some .boolean), Cond.methodLink RX3 54 yX3_keeperPart, Cond.instanceMethod yX3_keeperPart, Cond.selects RX3 yX3_keeperPart yX3_keeperPart, Cond.code yX3_keeperPart cX3_keeperPart 3 (some .int), Cond.methodLink RX3 67 yX3_size, Cond.static yX3_size, Cond.code yX3_size cX3_size 1 (some .int), Cond.methodLink RX3 84 yX3_does]
def wsX3_carryOut_r7 : List Cond := [Cond.instanceMethod yX3_does, Cond.selects RX3 yX3_does yX3_does, Cond.code yX3_does cX3_does 4 none, Cond.methodLink RX3 71 yX3_adds, Cond.instanceMethod yX3_adds, Cond.selects RX3 yX3_adds yX3_adds, Cond.code yX3_adds cX3_adds 4 none, Cond.methodLink RX3 78 yX3_held, Cond.static yX3_held, Cond.code yX3_held cX3_held 1 (some .int), Cond.methodLink RX3 101 yX3_rainsOn, Cond.instanceMethod yX3_rainsOn, Cond.selects RX3 yX3_rainsOn yX3_rainsOn, Cond.code yX3_rainsOn cX3_rainsOn 2 none, Cond.methodLink RX3 105 yX3_dries, Cond.instanceMethod yX3_dries, Cond.selects RX3 yX3_dries yX3_dries, Cond.code yX3_dries cX3_dries 4 none, Cond.methodLink RX3 109 yX3_thieves, Cond.instanceMethod yX3_thieves, Cond.selects RX3 yX3_thieves yX3_thieves, Cond.code yX3_thieves cX3_thieves 3 none, Cond.methodLink RX3 95 yX3_keepersAt, Cond.instanceMethod yX3_keepersAt]
def wsX3_carryOut_r8 : List Cond := [Cond.selects RX3 yX3_keepersAt yX3_keepersAt, Cond.code yX3_keepersAt cX3_keepersAt 4 (some .int)]
def wsX3_carryOut : List Cond := .code yX3_carryOut cX3_carryOut 3 (some .int) :: ((wsX3_carryOut_r1 ++ (wsX3_carryOut_r2 ++ (wsX3_carryOut_r3 ++ (wsX3_carryOut_r4 ++ (wsX3_carryOut_r5 ++ (wsX3_carryOut_r6 ++ (wsX3_carryOut_r7 ++ wsX3_carryOut_r8))))))) ++ wsX30)
def wsX3_undo : List Cond := .code yX3_undo cX3_undo 1 (some .int) :: ([.fieldLink RX3 28 "PianoCoversModel" "recorded" "I", .fieldLink RX3 16 "PianoCoversModel" "history" "[I", .fieldLink RX3 7 "PianoCoversModel" "state" "[I", .methodLink RX3 32 yX3_moves, .static yX3_moves, .initialized RX3, .code yX3_moves cX3_moves 5 none] ++ wsX30)
def wsX3_save : List Cond := .code yX3_save cX3_save 2 (some .int) :: ([.fieldLink RX3 7 "PianoCoversModel" "state" "[I", .fieldLink RX3 19 "PianoCoversModel" "slots" "[I", .fieldLink RX3 22 "PianoCoversModel" "isSaved" "[I", .methodLink RX3 36 yX3_within, .static yX3_within, .initialized RX3, .code yX3_within cX3_within 3 (some .boolean), .methodLink RX3 32 yX3_moves, .static yX3_moves, .code yX3_moves cX3_moves 5 none, .methodLink RX3 128 yX3_pianosThere, .instanceMethod yX3_pianosThere, .selects RX3 yX3_pianosThere yX3_pianosThere, .code yX3_pianosThere cX3_pianosThere 3 (some .int), .methodLink RX3 44 yX3_pianoPart, .instanceMethod yX3_pianoPart, .selects RX3 yX3_pianoPart yX3_pianoPart, .code yX3_pianoPart cX3_pianoPart 3 (some .int)] ++ wsX30)
def wsX3_restore : List Cond := .code yX3_restore cX3_restore 2 (some .int) :: ([.fieldLink RX3 22 "PianoCoversModel" "isSaved" "[I", .fieldLink RX3 19 "PianoCoversModel" "slots" "[I", .fieldLink RX3 7 "PianoCoversModel" "state" "[I", .methodLink RX3 36 yX3_within, .static yX3_within, .initialized RX3, .code yX3_within cX3_within 3 (some .boolean), .methodLink RX3 118 yX3_record, .instanceMethod yX3_record, .selects RX3 yX3_record yX3_record, .code yX3_record cX3_record 2 none, .fieldLink RX3 28 "PianoCoversModel" "recorded" "I", .fieldLink RX3 16 "PianoCoversModel" "history" "[I", .methodLink RX3 32 yX3_moves, .static yX3_moves, .code yX3_moves cX3_moves 5 none, .methodLink RX3 128 yX3_pianosThere, .instanceMethod yX3_pianosThere, .selects RX3 yX3_pianosThere yX3_pianosThere, .code yX3_pianosThere cX3_pianosThere 3 (some .int), .methodLink RX3 44 yX3_pianoPart, .instanceMethod yX3_pianoPart, .selects RX3 yX3_pianoPart yX3_pianoPart, .code yX3_pianoPart cX3_pianoPart 3 (some .int)] ++ wsX30)
def wsJ9_max_7cf53 : List Cond := .code yJ9_max_7cf53 cJ9_max_7cf53 2 (some .int) :: ([])
def wsJ9_min_7cf53 : List Cond := .code yJ9_min_7cf53 cJ9_min_7cf53 2 (some .int) :: ([])
def wsL_law_r1 : List Cond := [Cond.classLink RL 7 RX2, Cond.instantiable RX2 8, Cond.initialized RX2, Cond.classLink RL 10 RX3, Cond.instantiable RX3 13, Cond.initialized RX3, Cond.constantLong RL 80 (4294967295), Cond.methodLink RL 9 yX2_init, Cond.instanceMethod yX2_init, Cond.code yX2_init cX2_init 2 none, Cond.methodLink RX2 1 objectInit, Cond.instanceMethod objectInit, Cond.code objectInit ⟨#[0xb1]⟩ 1 none, Cond.classLink RX2 7 RX1, Cond.instantiable RX1 18, Cond.initialized RX1, Cond.fieldLink RX2 10 "PianoCovers" "now" "LPianoCovers$Street;", Cond.fieldLink RX2 16 "PianoCovers" "before" "LPianoCovers$Street;", Cond.fieldLink RX2 19 "PianoCovers" "trial" "LPianoCovers$Street;", Cond.fieldLink RX2 22 "PianoCovers" "history" "[LPianoCovers$Street;", Cond.fieldLink RX2 26 "PianoCovers" "undoable" "I", Cond.fieldLink RX2 30 "PianoCovers" "slots" "[LPianoCovers$Street;", Cond.arrayClass .boolean, Cond.fieldLink RX2 33 "PianoCovers" "saved" "[Z"]
def wsL_law_r2 : List Cond := [Cond.classLink RX2 37 RX0, Cond.instantiable RX0 8, Cond.initialized RX0, Cond.fieldLink RX2 40 "PianoCovers" "pad" "LPianoCovers$Pad;", Cond.instanceMethod yX1_init, Cond.code yX1_init cX1_init 1 none, Cond.methodLink RX1 3 objectInit, Cond.arrayClass .int, Cond.fieldLink RX1 9 "PianoCovers$Street" "settings" "[I", Cond.fieldLink RX1 15 "PianoCovers$Street" "pianos" "I", Cond.fieldLink RX1 19 "PianoCovers$Street" "lying" "I", Cond.fieldLink RX1 22 "PianoCovers$Street" "covered" "I", Cond.fieldLink RX1 25 "PianoCovers$Street" "pitch" "[I", Cond.fieldLink RX1 28 "PianoCovers$Street" "damp" "[I", Cond.fieldLink RX1 31 "PianoCovers$Street" "earned" "[I", Cond.fieldLink RX1 34 "PianoCovers$Street" "rainedOn" "[I", Cond.fieldLink RX1 37 "PianoCovers$Street" "keepers" "I", Cond.fieldLink RX1 40 "PianoCovers$Street" "keeperAt" "[I", Cond.fieldLink RX1 43 "PianoCovers$Street" "timesCovered" "[I", Cond.fieldLink RX1 46 "PianoCovers$Street" "timesOpened" "[I", Cond.fieldLink RX1 49 "PianoCovers$Street" "timesTuned" "[I", Cond.fieldLink RX1 52 "PianoCovers$Street" "placesWent" "[I", Cond.fieldLink RX1 55 "PianoCovers$Street" "rainHours" "I", Cond.fieldLink RX1 58 "PianoCovers$Street" "hours" "I"]
def wsL_law_r3 : List Cond := [Cond.fieldLink RX1 61 "PianoCovers$Street" "coins" "I", Cond.fieldLink RX1 64 "PianoCovers$Street" "stolen" "I", Cond.methodLink RX1 70 arraycopyName, Cond.native arraycopyName, Cond.static arraycopyName, Cond.initialized "java/lang/System", Cond.instanceMethod yX0_init, Cond.code yX0_init cX0_init 1 none, Cond.methodLink RX0 3 objectInit, Cond.arrayClass .char, Cond.fieldLink RX0 9 "PianoCovers$Pad" "text" "[C", Cond.fieldLink RX0 15 "PianoCovers$Pad" "length" "I", Cond.fieldLink RX0 19 "PianoCovers$Pad" "at" "I", Cond.fieldLink RX0 22 "PianoCovers$Pad" "kind" "C", Cond.fieldLink RX0 26 "PianoCovers$Pad" "number" "I", Cond.fieldLink RX0 29 "PianoCovers$Pad" "cover" "I", Cond.fieldLink RX0 32 "PianoCovers$Pad" "hours" "I", Cond.fieldLink RX0 35 "PianoCovers$Pad" "more" "Z", Cond.methodLink RL 12 yX3_init, Cond.instanceMethod yX3_init, Cond.code yX3_init cX3_init 1 none, Cond.methodLink RX3 1 objectInit, Cond.fieldLink RX3 7 "PianoCoversModel" "state" "[I", Cond.fieldLink RX3 13 "PianoCoversModel" "kept" "[I"]
def wsL_law_r4 : List Cond := [Cond.fieldLink RX3 16 "PianoCoversModel" "history" "[I", Cond.fieldLink RX3 19 "PianoCoversModel" "slots" "[I", Cond.fieldLink RX3 22 "PianoCoversModel" "isSaved" "[I", Cond.fieldLink RX3 25 "PianoCoversModel" "pad" "[I", Cond.methodLink RL 13 yX2_set, Cond.instanceMethod yX2_set, Cond.selects RX2 yX2_set yX2_set, Cond.code yX2_set cX2_set 3 (some .int), Cond.methodLink RX2 44 yX2_copy, Cond.static yX2_copy, Cond.code yX2_copy cX2_copy 2 none, Cond.methodLink RX2 216 arraycopyName, Cond.instanceMethod yX1_changeSetting, Cond.selects RX1 yX1_changeSetting yX1_changeSetting, Cond.code yX1_changeSetting cX1_changeSetting 4 (some .int), Cond.methodLink RX2 52 yX2_recorded, Cond.instanceMethod yX2_recorded, Cond.selects RX2 yX2_recorded yX2_recorded, Cond.code yX2_recorded cX2_recorded 2 (some .int), Cond.methodLink RX2 213 yX2_dropOldest, Cond.instanceMethod yX2_dropOldest, Cond.selects RX2 yX2_dropOldest yX2_dropOldest, Cond.code yX2_dropOldest cX2_dropOldest 3 none, Cond.methodLink RL 17 yX3_set]
def wsL_law_r5 : List Cond := [Cond.instanceMethod yX3_set, Cond.selects RX3 yX3_set yX3_set, Cond.code yX3_set cX3_set 4 (some .int), Cond.methodLink RX3 115 yX3_isValue, Cond.static yX3_isValue, Cond.code yX3_isValue cX3_isValue 2 (some .boolean), Cond.methodLink RX3 36 yX3_within, Cond.static yX3_within, Cond.code yX3_within cX3_within 3 (some .boolean), Cond.methodLink RX3 118 yX3_record, Cond.instanceMethod yX3_record, Cond.selects RX3 yX3_record yX3_record, Cond.code yX3_record cX3_record 2 none, Cond.fieldLink RX3 28 "PianoCoversModel" "recorded" "I", Cond.methodLink RX3 32 yX3_moves, Cond.static yX3_moves, Cond.code yX3_moves cX3_moves 5 none, Cond.methodLink RL 18 yX2_rain, Cond.instanceMethod yX2_rain, Cond.selects RX2 yX2_rain yX2_rain, Cond.code yX2_rain cX2_rain 2 (some .int), Cond.instanceMethod yX1_changeRain, Cond.selects RX1 yX1_changeRain yX1_changeRain, Cond.code yX1_changeRain cX1_changeRain 3 (some .int)]
def wsL_law_r6 : List Cond := [Cond.constant RX1 82 (16777215), Cond.methodLink RL 22 yX3_rain, Cond.instanceMethod yX3_rain, Cond.selects RX3 yX3_rain yX3_rain, Cond.code yX3_rain cX3_rain 3 (some .int), Cond.constant RX3 121 (16777215), Cond.methodLink RL 23 yX2_piano, Cond.instanceMethod yX2_piano, Cond.selects RX2 yX2_piano yX2_piano, Cond.code yX2_piano cX2_piano 3 (some .int), Cond.instanceMethod yX1_addPiano, Cond.selects RX1 yX1_addPiano yX1_addPiano, Cond.code yX1_addPiano cX1_addPiano 3 (some .int), Cond.static yX2_isPlace, Cond.code yX2_isPlace cX2_isPlace 1 (some .boolean), Cond.static yX2_has, Cond.code yX2_has cX2_has 2 (some .boolean), Cond.methodLink RX1 91 yJ6_bitCount_0f7a4, Cond.static yJ6_bitCount_0f7a4, Cond.initialized RJ6, Cond.code yJ6_bitCount_0f7a4 cJ6_bitCount_0f7a4 1 (some .int), Cond.constant RJ6 265 (1431655765), Cond.constant RJ6 266 (858993459), Cond.constant RJ6 267 (252645135)]
def wsL_law_r7 : List Cond := [Cond.methodLink RL 26 yX3_piano, Cond.instanceMethod yX3_piano, Cond.selects RX3 yX3_piano yX3_piano, Cond.code yX3_piano cX3_piano 4 (some .int), Cond.methodLink RX3 122 yX3_whyNoPiano, Cond.instanceMethod yX3_whyNoPiano, Cond.selects RX3 yX3_whyNoPiano yX3_whyNoPiano, Cond.code yX3_whyNoPiano cX3_whyNoPiano 3 (some .int), Cond.methodLink RX3 40 yX3_isPlace, Cond.static yX3_isPlace, Cond.code yX3_isPlace cX3_isPlace 1 (some .boolean), Cond.methodLink RX3 48 yX3_isPiano, Cond.instanceMethod yX3_isPiano, Cond.selects RX3 yX3_isPiano yX3_isPiano, Cond.code yX3_isPiano cX3_isPiano 2 (some .boolean), Cond.methodLink RX3 44 yX3_pianoPart, Cond.instanceMethod yX3_pianoPart, Cond.selects RX3 yX3_pianoPart yX3_pianoPart, Cond.code yX3_pianoPart cX3_pianoPart 3 (some .int), Cond.methodLink RX3 125 yX3_pianoComes, Cond.instanceMethod yX3_pianoComes, Cond.selects RX3 yX3_pianoComes yX3_pianoComes, Cond.code yX3_pianoComes cX3_pianoComes 3 none, Cond.methodLink RX3 75 yX3_setPiano]
def wsL_law_r8 : List Cond := [Cond.instanceMethod yX3_setPiano, Cond.selects RX3 yX3_setPiano yX3_setPiano, Cond.code yX3_setPiano cX3_setPiano 4 none, Cond.methodLink RX3 128 yX3_pianosThere, Cond.instanceMethod yX3_pianosThere, Cond.selects RX3 yX3_pianosThere yX3_pianosThere, Cond.code yX3_pianosThere cX3_pianosThere 3 (some .int), Cond.methodLink RL 27 yX2_take, Cond.instanceMethod yX2_take, Cond.selects RX2 yX2_take yX2_take, Cond.code yX2_take cX2_take 2 (some .int), Cond.instanceMethod yX1_removePiano, Cond.selects RX1 yX1_removePiano yX1_removePiano, Cond.code yX1_removePiano cX1_removePiano 3 (some .int), Cond.methodLink RL 30 yX3_take, Cond.instanceMethod yX3_take, Cond.selects RX3 yX3_take yX3_take, Cond.code yX3_take cX3_take 3 (some .int), Cond.methodLink RL 31 yX2_keeper, Cond.instanceMethod yX2_keeper, Cond.selects RX2 yX2_keeper yX2_keeper, Cond.code yX2_keeper cX2_keeper 2 (some .int), Cond.instanceMethod yX1_hireKeeper, Cond.selects RX1 yX1_hireKeeper yX1_hireKeeper]
def wsL_law_r9 : List Cond := [Cond.code yX1_hireKeeper cX1_hireKeeper 2 (some .int), Cond.methodLink RX1 97 yX1_addKeeper, Cond.instanceMethod yX1_addKeeper, Cond.selects RX1 yX1_addKeeper yX1_addKeeper, Cond.code yX1_addKeeper cX1_addKeeper 2 none, Cond.methodLink RL 34 yX3_keeper, Cond.instanceMethod yX3_keeper, Cond.selects RX3 yX3_keeper yX3_keeper, Cond.code yX3_keeper cX3_keeper 3 (some .int), Cond.methodLink RX3 132 yX3_whyNoKeeper, Cond.instanceMethod yX3_whyNoKeeper, Cond.selects RX3 yX3_whyNoKeeper yX3_whyNoKeeper, Cond.code yX3_whyNoKeeper cX3_whyNoKeeper 2 (some .int), Cond.methodLink RX3 135 yX3_keeperComes, Cond.instanceMethod yX3_keeperComes, Cond.selects RX3 yX3_keeperComes yX3_keeperComes, Cond.code yX3_keeperComes cX3_keeperComes 4 (some .int), Cond.methodLink RL 35 yX2_cover, Cond.instanceMethod yX2_cover, Cond.selects RX2 yX2_cover yX2_cover, Cond.code yX2_cover cX2_cover 2 (some .int), Cond.instanceMethod yX1_layCover, Cond.selects RX1 yX1_layCover yX1_layCover, Cond.code yX1_layCover cX1_layCover 2 (some .int)]
def wsL_law_r10 : List Cond := [Cond.methodLink RL 38 yX3_cover, Cond.instanceMethod yX3_cover, Cond.selects RX3 yX3_cover yX3_cover, Cond.code yX3_cover cX3_cover 3 (some .int), Cond.methodLink RX3 138 yX3_whyNoCover, Cond.instanceMethod yX3_whyNoCover, Cond.selects RX3 yX3_whyNoCover yX3_whyNoCover, Cond.code yX3_whyNoCover cX3_whyNoCover 2 (some .int), Cond.methodLink RX3 141 yX3_withCovers, Cond.instanceMethod yX3_withCovers, Cond.selects RX3 yX3_withCovers yX3_withCovers, Cond.code yX3_withCovers cX3_withCovers 3 (some .int), Cond.methodLink RL 39 yX2_pass, Cond.instanceMethod yX2_pass, Cond.selects RX2 yX2_pass yX2_pass, Cond.code yX2_pass cX2_pass 2 (some .int), Cond.instanceMethod yX1_passCounted, Cond.selects RX1 yX1_passCounted yX1_passCounted, Cond.code yX1_passCounted cX1_passCounted 2 (some .int), Cond.methodLink RX1 101 yX1_passHours, Cond.instanceMethod yX1_passHours, Cond.selects RX1 yX1_passHours yX1_passHours, Cond.code yX1_passHours cX1_passHours 4 (some .int), Cond.methodLink RX1 107 yX1_letKeepersAct]
def wsL_law_r11 : List Cond := [Cond.instanceMethod yX1_letKeepersAct, Cond.selects RX1 yX1_letKeepersAct yX1_letKeepersAct, Cond.code yX1_letKeepersAct cX1_letKeepersAct 6 none, Cond.methodLink RX1 122 yX1_rainIsAhead, Cond.instanceMethod yX1_rainIsAhead, Cond.selects RX1 yX1_rainIsAhead yX1_rainIsAhead, Cond.code yX1_rainIsAhead cX1_rainIsAhead 2 (some .boolean), Cond.methodLink RX1 104 yX1_rainsAfter, Cond.instanceMethod yX1_rainsAfter, Cond.selects RX1 yX1_rainsAfter yX1_rainsAfter, Cond.code yX1_rainsAfter cX1_rainsAfter 2 (some .boolean), Cond.methodLink RX1 126 yX1_nearest, Cond.static yX1_nearest, Cond.code yX1_nearest cX1_nearest 3 (some .int), Cond.methodLink RX1 130 yX1_outOfTune, Cond.instanceMethod yX1_outOfTune, Cond.selects RX1 yX1_outOfTune yX1_outOfTune, Cond.code yX1_outOfTune cX1_outOfTune 3 (some .int), Cond.methodLink RX1 147 yX1_openOnes, Cond.instanceMethod yX1_openOnes, Cond.selects RX1 yX1_openOnes yX1_openOnes, Cond.code yX1_openOnes cX1_openOnes 1 (some .int), Cond.methodLink RX1 134 yX1_goTowards, Cond.instanceMethod yX1_goTowards]
def wsL_law_r12 : List Cond := [Cond.selects RX1 yX1_goTowards yX1_goTowards, Cond.code yX1_goTowards cX1_goTowards 3 none, Cond.methodLink RX1 138 yX1_tune, Cond.instanceMethod yX1_tune, Cond.selects RX1 yX1_tune yX1_tune, Cond.code yX1_tune cX1_tune 3 none, Cond.methodLink RX1 150 Lib.Math.min.name, Cond.static Lib.Math.min.name, Cond.initialized "java/lang/Math", Cond.code Lib.Math.min.name Lib.Math.min.code 2 (some .int), Cond.methodLink RX1 141 yX1_putCoverOn, Cond.instanceMethod yX1_putCoverOn, Cond.selects RX1 yX1_putCoverOn yX1_putCoverOn, Cond.code yX1_putCoverOn cX1_putCoverOn 3 none, Cond.methodLink RX1 144 yX1_takeCoverOff, Cond.instanceMethod yX1_takeCoverOff, Cond.selects RX1 yX1_takeCoverOff yX1_takeCoverOff, Cond.code yX1_takeCoverOff cX1_takeCoverOff 3 none, Cond.methodLink RX1 110 yX1_letRainFall, Cond.instanceMethod yX1_letRainFall, Cond.selects RX1 yX1_letRainFall yX1_letRainFall, Cond.code yX1_letRainFall cX1_letRainFall 2 none, Cond.methodLink RX1 155 Lib.Math.max.name, Cond.static Lib.Math.max.name]
def wsL_law_r13 : List Cond := [Cond.code Lib.Math.max.name Lib.Math.max.code 2 (some .int), Cond.methodLink RX1 113 yX1_letPianosDry, Cond.instanceMethod yX1_letPianosDry, Cond.selects RX1 yX1_letPianosDry yX1_letPianosDry, Cond.code yX1_letPianosDry cX1_letPianosDry 2 none, Cond.methodLink RX1 116 yX1_letPianosBePlayed, Cond.instanceMethod yX1_letPianosBePlayed, Cond.selects RX1 yX1_letPianosBePlayed yX1_letPianosBePlayed, Cond.code yX1_letPianosBePlayed cX1_letPianosBePlayed 4 none, Cond.methodLink RX1 119 yX1_letThievesCome, Cond.instanceMethod yX1_letThievesCome, Cond.selects RX1 yX1_letThievesCome yX1_letThievesCome, Cond.code yX1_letThievesCome cX1_letThievesCome 6 none, Cond.methodLink RX1 158 yX1_keepersAt, Cond.instanceMethod yX1_keepersAt, Cond.selects RX1 yX1_keepersAt yX1_keepersAt, Cond.code yX1_keepersAt cX1_keepersAt 4 (some .int), Cond.methodLink RL 42 yX3_pass, Cond.instanceMethod yX3_pass, Cond.selects RX3 yX3_pass yX3_pass, Cond.code yX3_pass cX3_pass 3 (some .int), Cond.methodLink RX3 144 yX3_whyNotPassed, Cond.instanceMethod yX3_whyNotPassed, Cond.selects RX3 yX3_whyNotPassed yX3_whyNotPassed]
def wsL_law_r14 : List Cond := [Cond.code yX3_whyNotPassed cX3_whyNotPassed 2 (some .int), Cond.methodLink RX3 147 yX3_passes, Cond.instanceMethod yX3_passes, Cond.selects RX3 yX3_passes yX3_passes, Cond.code yX3_passes cX3_passes 4 (some .int), Cond.methodLink RX3 112 yX3_hour, Cond.instanceMethod yX3_hour, Cond.selects RX3 yX3_hour yX3_hour, Cond.code yX3_hour cX3_hour 4 none, Cond.methodLink RX3 51 yX3_rainsIn, Cond.instanceMethod yX3_rainsIn, Cond.selects RX3 yX3_rainsIn yX3_rainsIn, Cond.code yX3_rainsIn cX3_rainsIn 2 (some .boolean), Cond.methodLink RX3 98 yX3_keepersGo, Cond.instanceMethod yX3_keepersGo, Cond.selects RX3 yX3_keepersGo yX3_keepersGo, Cond.code yX3_keepersGo cX3_keepersGo 3 none, Cond.fieldLink RX3 57 "PianoCoversModel" "chosen" "I", Cond.methodLink RX3 87 yX3_isRainAhead, Cond.instanceMethod yX3_isRainAhead, Cond.selects RX3 yX3_isRainAhead yX3_isRainAhead, Cond.code yX3_isRainAhead cX3_isRainAhead 3 (some .boolean), Cond.methodLink RX3 91 yX3_keeperGoes, Cond.instanceMethod yX3_keeperGoes]
def wsL_law_r15 : List Cond := [Cond.selects RX3 yX3_keeperGoes yX3_keeperGoes, Cond.code yX3_keeperGoes cX3_keeperGoes 5 none, Cond.methodLink RX3 81 yX3_nearest, Cond.instanceMethod yX3_nearest, Cond.selects RX3 yX3_nearest yX3_nearest, Cond.code yX3_nearest cX3_nearest 6 (some .int), Cond.methodLink RX3 63 yX3_isWanted, Cond.instanceMethod yX3_isWanted, Cond.selects RX3 yX3_isWanted yX3_isWanted, Cond.code yX3_isWanted cX3_isWanted 3 (some .boolean), Cond.methodLink RX3 60 yX3_isOpen, Cond.instanceMethod yX3_isOpen, Cond.selects RX3 yX3_isOpen yX3_isOpen, Cond.code yX3_isOpen cX3_isOpen 2 (some .boolean), Cond.methodLink RX3 54 yX3_keeperPart, Cond.instanceMethod yX3_keeperPart, Cond.selects RX3 yX3_keeperPart yX3_keeperPart, Cond.code yX3_keeperPart cX3_keeperPart 3 (some .int), Cond.methodLink RX3 67 yX3_size, Cond.static yX3_size, Cond.code yX3_size cX3_size 1 (some .int), Cond.methodLink RX3 84 yX3_does, Cond.instanceMethod yX3_does, Cond.selects RX3 yX3_does yX3_does]
def wsL_law_r16 : List Cond := [Cond.code yX3_does cX3_does 4 none, Cond.methodLink RX3 71 yX3_adds, Cond.instanceMethod yX3_adds, Cond.selects RX3 yX3_adds yX3_adds, Cond.code yX3_adds cX3_adds 4 none, Cond.methodLink RX3 78 yX3_held, Cond.static yX3_held, Cond.code yX3_held cX3_held 1 (some .int), Cond.methodLink RX3 101 yX3_rainsOn, Cond.instanceMethod yX3_rainsOn, Cond.selects RX3 yX3_rainsOn yX3_rainsOn, Cond.code yX3_rainsOn cX3_rainsOn 2 none, Cond.methodLink RX3 105 yX3_dries, Cond.instanceMethod yX3_dries, Cond.selects RX3 yX3_dries yX3_dries, Cond.code yX3_dries cX3_dries 4 none, Cond.methodLink RX3 109 yX3_thieves, Cond.instanceMethod yX3_thieves, Cond.selects RX3 yX3_thieves yX3_thieves, Cond.code yX3_thieves cX3_thieves 3 none, Cond.methodLink RX3 95 yX3_keepersAt, Cond.instanceMethod yX3_keepersAt, Cond.selects RX3 yX3_keepersAt yX3_keepersAt, Cond.code yX3_keepersAt cX3_keepersAt 4 (some .int)]
def wsL_law_r17 : List Cond := [Cond.methodLink RL 43 yX2_of, Cond.instanceMethod yX2_of, Cond.selects RX2 yX2_of yX2_of, Cond.code yX2_of cX2_of 3 (some .int), Cond.methodLink RX2 77 yX2_has, Cond.instanceMethod yX1_coverAt, Cond.selects RX1 yX1_coverAt yX1_coverAt, Cond.code yX1_coverAt cX1_coverAt 2 (some .int), Cond.methodLink RL 46 yX3_of, Cond.instanceMethod yX3_of, Cond.selects RX3 yX3_of yX3_of, Cond.code yX3_of cX3_of 3 (some .int), Cond.methodLink RL 47 yX2_ofKeeper, Cond.instanceMethod yX2_ofKeeper, Cond.selects RX2 yX2_ofKeeper yX2_ofKeeper, Cond.code yX2_ofKeeper cX2_ofKeeper 3 (some .int), Cond.methodLink RL 50 yX3_ofKeeper, Cond.instanceMethod yX3_ofKeeper, Cond.selects RX3 yX3_ofKeeper yX3_ofKeeper, Cond.code yX3_ofKeeper cX3_ofKeeper 3 (some .int), Cond.methodLink RL 51 yX2_count, Cond.instanceMethod yX2_count, Cond.selects RX2 yX2_count yX2_count, Cond.code yX2_count cX2_count 2 (some .int)]
def wsL_law_r18 : List Cond := [Cond.methodLink RL 54 yX3_count, Cond.instanceMethod yX3_count, Cond.selects RX3 yX3_count yX3_count, Cond.code yX3_count cX3_count 2 (some .int), Cond.fieldLink RX3 153 "PianoCoversModel" "padLength" "I", Cond.methodLink RX3 150 yX3_pianosWith, Cond.instanceMethod yX3_pianosWith, Cond.selects RX3 yX3_pianosWith yX3_pianosWith, Cond.code yX3_pianosWith cX3_pianosWith 4 (some .int), Cond.methodLink RL 55 yX2_worst, Cond.instanceMethod yX2_worst, Cond.selects RX2 yX2_worst yX2_worst, Cond.code yX2_worst cX2_worst 5 (some .int), Cond.methodLink RL 59 yX3_worst, Cond.instanceMethod yX3_worst, Cond.selects RX3 yX3_worst yX3_worst, Cond.code yX3_worst cX3_worst 3 (some .int), Cond.methodLink RX3 156 yX3_worth, Cond.instanceMethod yX3_worth, Cond.selects RX3 yX3_worth yX3_worth, Cond.code yX3_worth cX3_worth 2 (some .int), Cond.methodLink RL 60 yX2_why, Cond.instanceMethod yX2_why, Cond.selects RX2 yX2_why yX2_why]
def wsL_law_r19 : List Cond := [Cond.code yX2_why cX2_why 2 (some .int), Cond.methodLink RL 63 yX3_why, Cond.instanceMethod yX3_why, Cond.selects RX3 yX3_why yX3_why, Cond.code yX3_why cX3_why 2 (some .int), Cond.methodLink RL 64 yX2_rainIn, Cond.instanceMethod yX2_rainIn, Cond.selects RX2 yX2_rainIn yX2_rainIn, Cond.code yX2_rainIn cX2_rainIn 1 (some .int), Cond.instanceMethod yX1_hoursUntilRain, Cond.selects RX1 yX1_hoursUntilRain yX1_hoursUntilRain, Cond.code yX1_hoursUntilRain cX1_hoursUntilRain 2 (some .int), Cond.methodLink RL 67 yX3_rainIn, Cond.instanceMethod yX3_rainIn, Cond.selects RX3 yX3_rainIn yX3_rainIn, Cond.code yX3_rainIn cX3_rainIn 3 (some .int), Cond.methodLink RL 68 yX2_coveredIn, Cond.instanceMethod yX2_coveredIn, Cond.selects RX2 yX2_coveredIn yX2_coveredIn, Cond.code yX2_coveredIn cX2_coveredIn 3 (some .int), Cond.methodLink RL 71 yX3_coveredIn, Cond.instanceMethod yX3_coveredIn, Cond.selects RX3 yX3_coveredIn yX3_coveredIn, Cond.code yX3_coveredIn cX3_coveredIn 4 (some .int)]
def wsL_law_r20 : List Cond := [Cond.methodLink RL 72 yX2_willBeWet, Cond.instanceMethod yX2_willBeWet, Cond.selects RX2 yX2_willBeWet yX2_willBeWet, Cond.code yX2_willBeWet cX2_willBeWet 4 (some .int), Cond.methodLink RL 75 yX3_willBeWet, Cond.instanceMethod yX3_willBeWet, Cond.selects RX3 yX3_willBeWet yX3_willBeWet, Cond.code yX3_willBeWet cX3_willBeWet 4 (some .int), Cond.methodLink RL 76 yX2_bestPlace, Cond.instanceMethod yX2_bestPlace, Cond.selects RX2 yX2_bestPlace yX2_bestPlace, Cond.code yX2_bestPlace cX2_bestPlace 7 (some .int), Cond.methodLink RX2 157 yX2_coinsWithOneMoreAt, Cond.instanceMethod yX2_coinsWithOneMoreAt, Cond.selects RX2 yX2_coinsWithOneMoreAt yX2_coinsWithOneMoreAt, Cond.code yX2_coinsWithOneMoreAt cX2_coinsWithOneMoreAt 3 (some .int), Cond.methodLink RL 79 yX3_bestPlace, Cond.instanceMethod yX3_bestPlace, Cond.selects RX3 yX3_bestPlace yX3_bestPlace, Cond.code yX3_bestPlace cX3_bestPlace 7 (some .int), Cond.methodLink RL 82 yX2_put, Cond.instanceMethod yX2_put, Cond.selects RX2 yX2_put yX2_put, Cond.code yX2_put cX2_put 5 (some .int)]
def wsL_law_r21 : List Cond := [Cond.constantLong RX2 168 (255), Cond.methodLink RX2 164 yX2_charactersIn, Cond.static yX2_charactersIn, Cond.code yX2_charactersIn cX2_charactersIn 7 (some .int), Cond.constantLong RX2 174 (33), Cond.constantLong RX2 176 (126), Cond.instanceMethod yX0_append, Cond.selects RX0 yX0_append yX0_append, Cond.code yX0_append cX0_append 2 none, Cond.methodLink RL 86 yX3_put, Cond.instanceMethod yX3_put, Cond.selects RX3 yX3_put yX3_put, Cond.code yX3_put cX3_put 8 (some .int), Cond.constantLong RX3 159 (255), Cond.methodLink RL 87 yX2_wipe, Cond.instanceMethod yX2_wipe, Cond.selects RX2 yX2_wipe yX2_wipe, Cond.code yX2_wipe cX2_wipe 2 (some .int), Cond.instanceMethod yX0_clear, Cond.selects RX0 yX0_clear yX0_clear, Cond.code yX0_clear cX0_clear 1 none, Cond.methodLink RL 90 yX3_wipe, Cond.instanceMethod yX3_wipe, Cond.selects RX3 yX3_wipe yX3_wipe]
def wsL_law_r22 : List Cond := [Cond.code yX3_wipe cX3_wipe 2 (some .int), Cond.methodLink RL 91 yX2_fault, Cond.instanceMethod yX2_fault, Cond.selects RX2 yX2_fault yX2_fault, Cond.code yX2_fault cX2_fault 1 (some .int), Cond.instanceMethod yX0_findFault, Cond.selects RX0 yX0_findFault yX0_findFault, Cond.code yX0_findFault cX0_findFault 2 (some .int), Cond.methodLink RX0 39 yX0_rewind, Cond.instanceMethod yX0_rewind, Cond.selects RX0 yX0_rewind yX0_rewind, Cond.code yX0_rewind cX0_rewind 1 none, Cond.methodLink RX0 42 yX0_readOrder, Cond.instanceMethod yX0_readOrder, Cond.selects RX0 yX0_readOrder yX0_readOrder, Cond.code yX0_readOrder cX0_readOrder 1 (some .boolean), Cond.methodLink RX0 46 yX0_next, Cond.instanceMethod yX0_next, Cond.selects RX0 yX0_next yX0_next, Cond.code yX0_next cX0_next 1 (some .char), Cond.methodLink RX0 50 yX0_readBody, Cond.instanceMethod yX0_readBody, Cond.selects RX0 yX0_readBody yX0_readBody, Cond.code yX0_readBody cX0_readBody 1 (some .boolean)]
def wsL_law_r23 : List Cond := [Cond.methodLink RX0 57 yX0_readNumber, Cond.instanceMethod yX0_readNumber, Cond.selects RX0 yX0_readNumber yX0_readNumber, Cond.code yX0_readNumber cX0_readNumber 3 (some .boolean), Cond.methodLink RX0 64 yX0_isDigit, Cond.static yX0_isDigit, Cond.code yX0_isDigit cX0_isDigit 1 (some .boolean), Cond.methodLink RX0 53 yX0_skip, Cond.instanceMethod yX0_skip, Cond.selects RX0 yX0_skip yX0_skip, Cond.code yX0_skip cX0_skip 2 (some .boolean), Cond.methodLink RX0 61 yX0_readHours, Cond.instanceMethod yX0_readHours, Cond.selects RX0 yX0_readHours yX0_readHours, Cond.code yX0_readHours cX0_readHours 2 (some .boolean), Cond.methodLink RL 94 yX3_fault, Cond.instanceMethod yX3_fault, Cond.selects RX3 yX3_fault yX3_fault, Cond.code yX3_fault cX3_fault 1 (some .int), Cond.methodLink RX3 195 yX3_findFault, Cond.instanceMethod yX3_findFault, Cond.selects RX3 yX3_findFault yX3_findFault, Cond.code yX3_findFault cX3_findFault 1 (some .int), Cond.fieldLink RX3 161 "PianoCoversModel" "at" "I"]
def wsL_law_r24 : List Cond := [Cond.methodLink RX3 192 yX3_readsOrder, Cond.instanceMethod yX3_readsOrder, Cond.selects RX3 yX3_readsOrder yX3_readsOrder, Cond.code yX3_readsOrder cX3_readsOrder 2 (some .boolean), Cond.fieldLink RX3 179 "PianoCoversModel" "letter" "I", Cond.fieldLink RX3 182 "PianoCoversModel" "hasCover" "Z", Cond.methodLink RX3 164 yX3_character, Cond.instanceMethod yX3_character, Cond.selects RX3 yX3_character yX3_character, Cond.code yX3_character cX3_character 2 (some .int), Cond.methodLink RX3 186 yX3_takesNumber, Cond.instanceMethod yX3_takesNumber, Cond.selects RX3 yX3_takesNumber yX3_takesNumber, Cond.code yX3_takesNumber cX3_takesNumber 1 (some .boolean), Cond.fieldLink RX3 173 "PianoCoversModel" "number" "I", Cond.methodLink RX3 170 yX3_takeNumber, Cond.instanceMethod yX3_takeNumber, Cond.selects RX3 yX3_takeNumber yX3_takeNumber, Cond.code yX3_takeNumber cX3_takeNumber 3 (some .int), Cond.methodLink RX3 167 yX3_isDigit, Cond.instanceMethod yX3_isDigit, Cond.selects RX3 yX3_isDigit yX3_isDigit, Cond.code yX3_isDigit cX3_isDigit 1 (some .boolean), Cond.methodLink RX3 176 yX3_isNext]
def wsL_law_r25 : List Cond := [Cond.instanceMethod yX3_isNext, Cond.selects RX3 yX3_isNext yX3_isNext, Cond.code yX3_isNext cX3_isNext 3 (some .boolean), Cond.methodLink RX3 189 yX3_takesHours, Cond.instanceMethod yX3_takesHours, Cond.selects RX3 yX3_takesHours yX3_takesHours, Cond.code yX3_takesHours cX3_takesHours 2 (some .boolean), Cond.methodLink RL 95 yX2_carryOut, Cond.instanceMethod yX2_carryOut, Cond.selects RX2 yX2_carryOut yX2_carryOut, Cond.code yX2_carryOut cX2_carryOut 2 (some .int), Cond.methodLink RX2 194 yX2_answerToOrder, Cond.instanceMethod yX2_answerToOrder, Cond.selects RX2 yX2_answerToOrder yX2_answerToOrder, Cond.code yX2_answerToOrder cX2_answerToOrder 1 (some .int), Cond.methodLink RL 98 yX3_carryOut, Cond.instanceMethod yX3_carryOut, Cond.selects RX3 yX3_carryOut yX3_carryOut, Cond.code yX3_carryOut cX3_carryOut 3 (some .int), Cond.methodLink RX3 198 yX3_whyNotDone, Cond.instanceMethod yX3_whyNotDone, Cond.selects RX3 yX3_whyNotDone yX3_whyNotDone, Cond.code yX3_whyNotDone cX3_whyNotDone 1 (some .int), Cond.methodLink RX3 201 yX3_doesOrder]
def wsL_law_r26 : List Cond := [Cond.instanceMethod yX3_doesOrder, Cond.selects RX3 yX3_doesOrder yX3_doesOrder, Cond.code yX3_doesOrder cX3_doesOrder 1 none, Cond.methodLink RL 99 yX2_undo, Cond.instanceMethod yX2_undo, Cond.selects RX2 yX2_undo yX2_undo, Cond.code yX2_undo cX2_undo 1 (some .int), Cond.methodLink RL 102 yX3_undo, Cond.instanceMethod yX3_undo, Cond.selects RX3 yX3_undo yX3_undo, Cond.code yX3_undo cX3_undo 1 (some .int), Cond.methodLink RL 103 yX2_save, Cond.instanceMethod yX2_save, Cond.selects RX2 yX2_save yX2_save, Cond.code yX2_save cX2_save 2 (some .int), Cond.methodLink RX2 208 yJ6_bitCount_0f7a4, Cond.methodLink RL 106 yX3_save, Cond.instanceMethod yX3_save, Cond.selects RX3 yX3_save yX3_save, Cond.code yX3_save cX3_save 2 (some .int), Cond.methodLink RL 107 yX2_restore, Cond.instanceMethod yX2_restore, Cond.selects RX2 yX2_restore yX2_restore, Cond.code yX2_restore cX2_restore 2 (some .int)]
def wsL_law_r27 : List Cond := [Cond.methodLink RL 110 yX3_restore, Cond.instanceMethod yX3_restore, Cond.selects RX3 yX3_restore yX3_restore, Cond.code yX3_restore cX3_restore 2 (some .int)]
def wsL_law : List Cond := (wsL_law_r1 ++ (wsL_law_r2 ++ (wsL_law_r3 ++ (wsL_law_r4 ++ (wsL_law_r5 ++ (wsL_law_r6 ++ (wsL_law_r7 ++ (wsL_law_r8 ++ (wsL_law_r9 ++ (wsL_law_r10 ++ (wsL_law_r11 ++ (wsL_law_r12 ++ (wsL_law_r13 ++ (wsL_law_r14 ++ (wsL_law_r15 ++ (wsL_law_r16 ++ (wsL_law_r17 ++ (wsL_law_r18 ++ (wsL_law_r19 ++ (wsL_law_r20 ++ (wsL_law_r21 ++ (wsL_law_r22 ++ (wsL_law_r23 ++ (wsL_law_r24 ++ (wsL_law_r25 ++ (wsL_law_r26 ++ wsL_law_r27)))))))))))))))))))))))))) ++ wsX20 ++ wsX30 ++ wsX10 ++ wsX00 ++ ([] : List Cond)
set_option maxRecDepth 20000 in
theorem wsL_law_r1_in : ∀ w ∈ wsL_law_r1, w ∈ lw_tbl := fun w h => (goodIn_p wsL_law_r1 [91, 94] (by decide +kernel) (by decide +kernel) w h).1
set_option maxRecDepth 20000 in
theorem wsL_law_r2_in : ∀ w ∈ wsL_law_r2, w ∈ lw_tbl := fun w h => (goodIn_p wsL_law_r2 [99] (by decide +kernel) (by decide +kernel) w h).1
set_option maxRecDepth 20000 in
theorem wsL_law_r3_in : ∀ w ∈ wsL_law_r3, w ∈ lw_tbl := fun w h => (goodIn_p wsL_law_r3 [185, 545] (by decide +kernel) (by decide +kernel) w h).1
set_option maxRecDepth 20000 in
theorem wsL_law_r4_in : ∀ w ∈ wsL_law_r4, w ∈ lw_tbl := fun w h => (goodIn_p wsL_law_r4 [248, 251, 256, 264, 268] (by decide +kernel) (by decide +kernel) w h).1
set_option maxRecDepth 20000 in
theorem wsL_law_r5_in : ∀ w ∈ wsL_law_r5, w ∈ lw_tbl := fun w h => (goodIn_p wsL_law_r5 [590, 593, 596, 600, 603, 272, 276] (by decide +kernel) (by decide +kernel) w h).1
set_option maxRecDepth 20000 in
theorem wsL_law_r6_in : ∀ w ∈ wsL_law_r6, w ∈ lw_tbl := fun w h => (goodIn_p wsL_law_r6 [607, 281, 285, 288, 291, 294] (by decide +kernel) (by decide +kernel) w h).1
set_option maxRecDepth 20000 in
theorem wsL_law_r7_in : ∀ w ∈ wsL_law_r7, w ∈ lw_tbl := fun w h => (goodIn_p wsL_law_r7 [612, 616, 619, 623, 627, 631] (by decide +kernel) (by decide +kernel) w h).1
set_option maxRecDepth 20000 in
theorem wsL_law_r8_in : ∀ w ∈ wsL_law_r8, w ∈ lw_tbl := fun w h => (goodIn_p wsL_law_r8 [635, 639, 301, 305, 643, 309] (by decide +kernel) (by decide +kernel) w h).1
set_option maxRecDepth 20000 in
theorem wsL_law_r9_in : ∀ w ∈ wsL_law_r9, w ∈ lw_tbl := fun w h => (goodIn_p wsL_law_r9 [313, 317, 647, 651, 655, 321, 325] (by decide +kernel) (by decide +kernel) w h).1
set_option maxRecDepth 20000 in
theorem wsL_law_r10_in : ∀ w ∈ wsL_law_r10, w ∈ lw_tbl := fun w h => (goodIn_p wsL_law_r10 [659, 663, 667, 329, 333, 337] (by decide +kernel) (by decide +kernel) w h).1
set_option maxRecDepth 20000 in
theorem wsL_law_r11_in : ∀ w ∈ wsL_law_r11, w ∈ lw_tbl := fun w h => (goodIn_p wsL_law_r11 [341, 345, 349, 352, 356, 360] (by decide +kernel) (by decide +kernel) w h).1
set_option maxRecDepth 20000 in
theorem wsL_law_r12_in : ∀ w ∈ wsL_law_r12, w ∈ lw_tbl := fun w h => (goodIn_p wsL_law_r12 [364, 368, 371, 375, 379, 383] (by decide +kernel) (by decide +kernel) w h).1
set_option maxRecDepth 20000 in
theorem wsL_law_r13_in : ∀ w ∈ wsL_law_r13, w ∈ lw_tbl := fun w h => (goodIn_p wsL_law_r13 [386, 390, 394, 398, 402, 671] (by decide +kernel) (by decide +kernel) w h).1
set_option maxRecDepth 20000 in
theorem wsL_law_r14_in : ∀ w ∈ wsL_law_r14, w ∈ lw_tbl := fun w h => (goodIn_p wsL_law_r14 [675, 679, 683, 687, 691, 695] (by decide +kernel) (by decide +kernel) w h).1
set_option maxRecDepth 20000 in
theorem wsL_law_r15_in : ∀ w ∈ wsL_law_r15, w ∈ lw_tbl := fun w h => (goodIn_p wsL_law_r15 [699, 703, 707, 711, 715, 718] (by decide +kernel) (by decide +kernel) w h).1
set_option maxRecDepth 20000 in
theorem wsL_law_r16_in : ∀ w ∈ wsL_law_r16, w ∈ lw_tbl := fun w h => (goodIn_p wsL_law_r16 [722, 726, 729, 733, 737, 741, 745] (by decide +kernel) (by decide +kernel) w h).1
set_option maxRecDepth 20000 in
theorem wsL_law_r17_in : ∀ w ∈ wsL_law_r17, w ∈ lw_tbl := fun w h => (goodIn_p wsL_law_r17 [406, 411, 749, 416, 753, 420] (by decide +kernel) (by decide +kernel) w h).1
set_option maxRecDepth 20000 in
theorem wsL_law_r18_in : ∀ w ∈ wsL_law_r18, w ∈ lw_tbl := fun w h => (goodIn_p wsL_law_r18 [757, 761, 426, 765, 769] (by decide +kernel) (by decide +kernel) w h).1
set_option maxRecDepth 20000 in
theorem wsL_law_r19_in : ∀ w ∈ wsL_law_r19, w ∈ lw_tbl := fun w h => (goodIn_p wsL_law_r19 [430, 773, 434, 438, 777, 442, 781] (by decide +kernel) (by decide +kernel) w h).1
set_option maxRecDepth 20000 in
theorem wsL_law_r20_in : ∀ w ∈ wsL_law_r20, w ∈ lw_tbl := fun w h => (goodIn_p wsL_law_r20 [447, 785, 451, 455, 789, 460] (by decide +kernel) (by decide +kernel) w h).1
set_option maxRecDepth 20000 in
theorem wsL_law_r21_in : ∀ w ∈ wsL_law_r21, w ∈ lw_tbl := fun w h => (goodIn_p wsL_law_r21 [463, 470, 793, 474, 478] (by decide +kernel) (by decide +kernel) w h).1
set_option maxRecDepth 20000 in
theorem wsL_law_r22_in : ∀ w ∈ wsL_law_r22, w ∈ lw_tbl := fun w h => (goodIn_p wsL_law_r22 [798, 482, 486, 490, 494, 498, 502] (by decide +kernel) (by decide +kernel) w h).1
set_option maxRecDepth 20000 in
theorem wsL_law_r23_in : ∀ w ∈ wsL_law_r23, w ∈ lw_tbl := fun w h => (goodIn_p wsL_law_r23 [506, 509, 513, 517, 802, 806] (by decide +kernel) (by decide +kernel) w h).1
set_option maxRecDepth 20000 in
theorem wsL_law_r24_in : ∀ w ∈ wsL_law_r24, w ∈ lw_tbl := fun w h => (goodIn_p wsL_law_r24 [810, 814, 818, 822, 826] (by decide +kernel) (by decide +kernel) w h).1
set_option maxRecDepth 20000 in
theorem wsL_law_r25_in : ∀ w ∈ wsL_law_r25, w ∈ lw_tbl := fun w h => (goodIn_p wsL_law_r25 [830, 834, 521, 527, 838, 842] (by decide +kernel) (by decide +kernel) w h).1
set_option maxRecDepth 20000 in
theorem wsL_law_r26_in : ∀ w ∈ wsL_law_r26, w ∈ lw_tbl := fun w h => (goodIn_p wsL_law_r26 [846, 531, 850, 535, 854, 540] (by decide +kernel) (by decide +kernel) w h).1
set_option maxRecDepth 20000 in
theorem wsL_law_r27_in : ∀ w ∈ wsL_law_r27, w ∈ lw_tbl := fun w h => (goodIn_p wsL_law_r27 [858] (by decide +kernel) (by decide +kernel) w h).1
set_option maxRecDepth 20000 in
theorem wsX20_in : ∀ w ∈ wsX20, w ∈ lw_tbl := by decide +kernel
set_option maxRecDepth 20000 in
theorem wsX30_in : ∀ w ∈ wsX30, w ∈ lw_tbl := by decide +kernel
set_option maxRecDepth 20000 in
theorem wsX10_in : ∀ w ∈ wsX10, w ∈ lw_tbl := by decide +kernel
set_option maxRecDepth 20000 in
theorem wsX00_in : ∀ w ∈ wsX00, w ∈ lw_tbl := by decide +kernel
theorem wsL_law_in : ∀ w ∈ wsL_law, w ∈ lw_tbl := by
  show ∀ w ∈ ((((((wsL_law_r1 ++ (wsL_law_r2 ++ (wsL_law_r3 ++ (wsL_law_r4 ++ (wsL_law_r5 ++ (wsL_law_r6 ++ (wsL_law_r7 ++ (wsL_law_r8 ++ (wsL_law_r9 ++ (wsL_law_r10 ++ (wsL_law_r11 ++ (wsL_law_r12 ++ (wsL_law_r13 ++ (wsL_law_r14 ++ (wsL_law_r15 ++ (wsL_law_r16 ++ (wsL_law_r17 ++ (wsL_law_r18 ++ (wsL_law_r19 ++ (wsL_law_r20 ++ (wsL_law_r21 ++ (wsL_law_r22 ++ (wsL_law_r23 ++ (wsL_law_r24 ++ (wsL_law_r25 ++ (wsL_law_r26 ++ wsL_law_r27)))))))))))))))))))))))))) ++ wsX20) ++ wsX30) ++ wsX10) ++ wsX00) ++ ([] : List Cond)), w ∈ lw_tbl
  exact List.forall_mem_append.mpr ⟨List.forall_mem_append.mpr ⟨List.forall_mem_append.mpr ⟨List.forall_mem_append.mpr ⟨List.forall_mem_append.mpr ⟨List.forall_mem_append.mpr ⟨wsL_law_r1_in, List.forall_mem_append.mpr ⟨wsL_law_r2_in, List.forall_mem_append.mpr ⟨wsL_law_r3_in, List.forall_mem_append.mpr ⟨wsL_law_r4_in, List.forall_mem_append.mpr ⟨wsL_law_r5_in, List.forall_mem_append.mpr ⟨wsL_law_r6_in, List.forall_mem_append.mpr ⟨wsL_law_r7_in, List.forall_mem_append.mpr ⟨wsL_law_r8_in, List.forall_mem_append.mpr ⟨wsL_law_r9_in, List.forall_mem_append.mpr ⟨wsL_law_r10_in, List.forall_mem_append.mpr ⟨wsL_law_r11_in, List.forall_mem_append.mpr ⟨wsL_law_r12_in, List.forall_mem_append.mpr ⟨wsL_law_r13_in, List.forall_mem_append.mpr ⟨wsL_law_r14_in, List.forall_mem_append.mpr ⟨wsL_law_r15_in, List.forall_mem_append.mpr ⟨wsL_law_r16_in, List.forall_mem_append.mpr ⟨wsL_law_r17_in, List.forall_mem_append.mpr ⟨wsL_law_r18_in, List.forall_mem_append.mpr ⟨wsL_law_r19_in, List.forall_mem_append.mpr ⟨wsL_law_r20_in, List.forall_mem_append.mpr ⟨wsL_law_r21_in, List.forall_mem_append.mpr ⟨wsL_law_r22_in, List.forall_mem_append.mpr ⟨wsL_law_r23_in, List.forall_mem_append.mpr ⟨wsL_law_r24_in, List.forall_mem_append.mpr ⟨wsL_law_r25_in, List.forall_mem_append.mpr ⟨wsL_law_r26_in, wsL_law_r27_in⟩⟩⟩⟩⟩⟩⟩⟩⟩⟩⟩⟩⟩⟩⟩⟩⟩⟩⟩⟩⟩⟩⟩⟩⟩⟩, wsX20_in⟩, wsX30_in⟩, wsX10_in⟩, wsX00_in⟩, (fun _ h => absurd h List.not_mem_nil)⟩
theorem inlX0 : ∀ w ∈ wsX00, w ∈ wsL_law := fun _ h => List.mem_append_left _ (List.mem_append_right _ h)
theorem inX0 : ∀ w ∈ wsX00, w ∈ lw_tbl := fun w h => wsL_law_in w (inlX0 w h)
theorem inlX1 : ∀ w ∈ wsX10, w ∈ wsL_law := fun _ h => List.mem_append_left _ (List.mem_append_left _ (List.mem_append_right _ h))
theorem inX1 : ∀ w ∈ wsX10, w ∈ lw_tbl := fun w h => wsL_law_in w (inlX1 w h)
theorem inlX2 : ∀ w ∈ wsX20, w ∈ wsL_law := fun _ h => List.mem_append_left _ (List.mem_append_left _ (List.mem_append_left _ (List.mem_append_left _ (List.mem_append_right _ h))))
theorem inX2 : ∀ w ∈ wsX20, w ∈ lw_tbl := fun w h => wsL_law_in w (inlX2 w h)
theorem inlX3 : ∀ w ∈ wsX30, w ∈ wsL_law := fun _ h => List.mem_append_left _ (List.mem_append_left _ (List.mem_append_left _ (List.mem_append_right _ h)))
theorem inX3 : ∀ w ∈ wsX30, w ∈ lw_tbl := fun w h => wsL_law_in w (inlX3 w h)
theorem inJ6 : ∀ w ∈ wsJ60, w ∈ lw_tbl := by decide +kernel
theorem inJ9 : ∀ w ∈ wsJ90, w ∈ lw_tbl := by decide +kernel
theorem inJ10 : ∀ w ∈ wsJ100, w ∈ lw_tbl := by decide +kernel
theorem dX0_init_0 : decode cX0_init 0 = .ok (.aload_n 0, 1) := by decide +kernel
theorem dX0_init_1 : decode cX0_init 1 = .ok (.invokespecial 3, 3) := by decide +kernel
theorem dX0_init_4 : decode cX0_init 4 = .ok (.aload_n 0, 1) := by decide +kernel
theorem dX0_init_5 : decode cX0_init 5 = .ok (.bipush 80, 2) := by decide +kernel
theorem dX0_init_7 : decode cX0_init 7 = .ok (.newarray .char, 2) := by decide +kernel
theorem dX0_init_9 : decode cX0_init 9 = .ok (.putfield 9, 3) := by decide +kernel
theorem dX0_init_12 : decode cX0_init 12 = .ok (.aload_n 0, 1) := by decide +kernel
theorem dX0_init_13 : decode cX0_init 13 = .ok (.iconst 0, 1) := by decide +kernel
theorem dX0_init_14 : decode cX0_init 14 = .ok (.putfield 15, 3) := by decide +kernel
theorem dX0_init_17 : decode cX0_init 17 = .ok (.aload_n 0, 1) := by decide +kernel
theorem dX0_init_18 : decode cX0_init 18 = .ok (.iconst 0, 1) := by decide +kernel
theorem dX0_init_19 : decode cX0_init 19 = .ok (.putfield 19, 3) := by decide +kernel
theorem dX0_init_22 : decode cX0_init 22 = .ok (.aload_n 0, 1) := by decide +kernel
theorem dX0_init_23 : decode cX0_init 23 = .ok (.iconst 0, 1) := by decide +kernel
theorem dX0_init_24 : decode cX0_init 24 = .ok (.putfield 22, 3) := by decide +kernel
theorem dX0_init_27 : decode cX0_init 27 = .ok (.aload_n 0, 1) := by decide +kernel
theorem dX0_init_28 : decode cX0_init 28 = .ok (.iconst 0, 1) := by decide +kernel
theorem dX0_init_29 : decode cX0_init 29 = .ok (.putfield 26, 3) := by decide +kernel
theorem dX0_init_32 : decode cX0_init 32 = .ok (.aload_n 0, 1) := by decide +kernel
theorem dX0_init_33 : decode cX0_init 33 = .ok (.iconst 0, 1) := by decide +kernel
theorem dX0_init_34 : decode cX0_init 34 = .ok (.putfield 29, 3) := by decide +kernel
theorem dX0_init_37 : decode cX0_init 37 = .ok (.aload_n 0, 1) := by decide +kernel
theorem dX0_init_38 : decode cX0_init 38 = .ok (.iconst 0, 1) := by decide +kernel
theorem dX0_init_39 : decode cX0_init 39 = .ok (.putfield 32, 3) := by decide +kernel
theorem dX0_init_42 : decode cX0_init 42 = .ok (.aload_n 0, 1) := by decide +kernel
theorem dX0_init_43 : decode cX0_init 43 = .ok (.iconst 0, 1) := by decide +kernel
theorem dX0_init_44 : decode cX0_init 44 = .ok (.putfield 35, 3) := by decide +kernel
theorem dX0_init_47 : decode cX0_init 47 = .ok (.return_, 1) := by decide +kernel
theorem dX0_append_0 : decode cX0_append 0 = .ok (.aload_n 0, 1) := by decide +kernel
theorem dX0_append_1 : decode cX0_append 1 = .ok (.getfield 15, 3) := by decide +kernel
theorem dX0_append_4 : decode cX0_append 4 = .ok (.ifCond .lt 32, 3) := by decide +kernel
theorem dX0_append_7 : decode cX0_append 7 = .ok (.aload_n 0, 1) := by decide +kernel
theorem dX0_append_8 : decode cX0_append 8 = .ok (.getfield 15, 3) := by decide +kernel
theorem dX0_append_11 : decode cX0_append 11 = .ok (.bipush 80, 2) := by decide +kernel
theorem dX0_append_13 : decode cX0_append 13 = .ok (.if_icmp .ge 23, 3) := by decide +kernel
theorem dX0_append_16 : decode cX0_append 16 = .ok (.aload_n 0, 1) := by decide +kernel
theorem dX0_append_17 : decode cX0_append 17 = .ok (.getfield 9, 3) := by decide +kernel
theorem dX0_append_20 : decode cX0_append 20 = .ok (.aload_n 0, 1) := by decide +kernel
theorem dX0_append_21 : decode cX0_append 21 = .ok (.getfield 15, 3) := by decide +kernel
theorem dX0_append_24 : decode cX0_append 24 = .ok (.iload_n 1, 1) := by decide +kernel
theorem dX0_append_25 : decode cX0_append 25 = .ok (.castore, 1) := by decide +kernel
theorem dX0_append_26 : decode cX0_append 26 = .ok (.aload_n 0, 1) := by decide +kernel
theorem dX0_append_27 : decode cX0_append 27 = .ok (.dup, 1) := by decide +kernel
theorem dX0_append_28 : decode cX0_append 28 = .ok (.getfield 15, 3) := by decide +kernel
theorem dX0_append_31 : decode cX0_append 31 = .ok (.iconst 1, 1) := by decide +kernel
theorem dX0_append_32 : decode cX0_append 32 = .ok (.iadd, 1) := by decide +kernel
theorem dX0_append_33 : decode cX0_append 33 = .ok (.putfield 15, 3) := by decide +kernel
theorem dX0_append_36 : decode cX0_append 36 = .ok (.return_, 1) := by decide +kernel
theorem dX0_clear_0 : decode cX0_clear 0 = .ok (.aload_n 0, 1) := by decide +kernel
theorem dX0_clear_1 : decode cX0_clear 1 = .ok (.iconst 0, 1) := by decide +kernel
theorem dX0_clear_2 : decode cX0_clear 2 = .ok (.putfield 15, 3) := by decide +kernel
theorem dX0_clear_5 : decode cX0_clear 5 = .ok (.return_, 1) := by decide +kernel
theorem dX0_rewind_0 : decode cX0_rewind 0 = .ok (.aload_n 0, 1) := by decide +kernel
theorem dX0_rewind_1 : decode cX0_rewind 1 = .ok (.iconst 0, 1) := by decide +kernel
theorem dX0_rewind_2 : decode cX0_rewind 2 = .ok (.putfield 19, 3) := by decide +kernel
theorem dX0_rewind_5 : decode cX0_rewind 5 = .ok (.aload_n 0, 1) := by decide +kernel
theorem dX0_rewind_6 : decode cX0_rewind 6 = .ok (.iconst 1, 1) := by decide +kernel
theorem dX0_rewind_7 : decode cX0_rewind 7 = .ok (.putfield 35, 3) := by decide +kernel
theorem dX0_rewind_10 : decode cX0_rewind 10 = .ok (.return_, 1) := by decide +kernel
set_option maxRecDepth 20000 in
theorem ggX0_findFault_X0_rewind : GoodIn wsX0_findFault wsX0_rewind := goodIn_r _ [7, 2, 1, 41, 42, 43, 44, 45, 46, 47, 48] (by decide +kernel) (by decide +kernel)
set_option maxRecDepth 20000 in
theorem gX0_findFault_X0_rewind : GoodIn wsX0_findFault (wsV RX0 39 RX0 yX0_rewind wsX0_rewind) := goodIn_app (goodIn_of _ (by decide +kernel)) ggX0_findFault_X0_rewind
set_option maxRecDepth 20000 in
theorem ggX0_findFault_X0_readOrder : GoodIn wsX0_findFault wsX0_readOrder := goodIn_r _ [11, 12, 13, 14, 1, 15, 2, 16, 17, 18, 19, 6, 20, 21, 22, 23, 24, 25, 26, 27, 28, 29, 30, 31, 32, 33, 34, 35, 36, 37, 38, 39, 40, 41, 42, 43, 44, 45, 46, 47, 48] (by decide +kernel) (by decide +kernel)
set_option maxRecDepth 20000 in
theorem gX0_findFault_X0_readOrder : GoodIn wsX0_findFault (wsV RX0 42 RX0 yX0_readOrder wsX0_readOrder) := goodIn_app (goodIn_of _ (by decide +kernel)) ggX0_findFault_X0_readOrder
theorem dX0_findFault_0 : decode cX0_findFault 0 = .ok (.aload_n 0, 1) := by decide +kernel
theorem dX0_findFault_1 : decode cX0_findFault 1 = .ok (.invokevirtual 39, 3) := by decide +kernel
theorem dX0_findFault_4 : decode cX0_findFault 4 = .ok (.iconst 0, 1) := by decide +kernel
theorem dX0_findFault_5 : decode cX0_findFault 5 = .ok (.istore_n 1, 1) := by decide +kernel
theorem dX0_findFault_6 : decode cX0_findFault 6 = .ok (.iload_n 1, 1) := by decide +kernel
theorem dX0_findFault_7 : decode cX0_findFault 7 = .ok (.bipush 80, 2) := by decide +kernel
theorem dX0_findFault_9 : decode cX0_findFault 9 = .ok (.if_icmp .ge 28, 3) := by decide +kernel
theorem dX0_findFault_12 : decode cX0_findFault 12 = .ok (.aload_n 0, 1) := by decide +kernel
theorem dX0_findFault_13 : decode cX0_findFault 13 = .ok (.getfield 35, 3) := by decide +kernel
theorem dX0_findFault_16 : decode cX0_findFault 16 = .ok (.ifCond .eq 21, 3) := by decide +kernel
theorem dX0_findFault_19 : decode cX0_findFault 19 = .ok (.aload_n 0, 1) := by decide +kernel
theorem dX0_findFault_20 : decode cX0_findFault 20 = .ok (.invokevirtual 42, 3) := by decide +kernel
theorem dX0_findFault_23 : decode cX0_findFault 23 = .ok (.ifCond .ne 8, 3) := by decide +kernel
theorem dX0_findFault_26 : decode cX0_findFault 26 = .ok (.aload_n 0, 1) := by decide +kernel
theorem dX0_findFault_27 : decode cX0_findFault 27 = .ok (.getfield 19, 3) := by decide +kernel
theorem dX0_findFault_30 : decode cX0_findFault 30 = .ok (.ireturn, 1) := by decide +kernel
theorem dX0_findFault_31 : decode cX0_findFault 31 = .ok (.iinc 1 1, 3) := by decide +kernel
theorem dX0_findFault_34 : decode cX0_findFault 34 = .ok (.goto (-28), 3) := by decide +kernel
theorem dX0_findFault_37 : decode cX0_findFault 37 = .ok (.bipush (-6), 2) := by decide +kernel
theorem dX0_findFault_39 : decode cX0_findFault 39 = .ok (.ireturn, 1) := by decide +kernel
set_option maxRecDepth 20000 in
theorem ggX0_readOrder_X0_next : GoodIn wsX0_readOrder wsX0_next := goodIn_r _ [12, 6, 7, 13, 33, 34, 35, 36, 37, 38, 39, 40] (by decide +kernel) (by decide +kernel)
set_option maxRecDepth 20000 in
theorem gX0_readOrder_X0_next : GoodIn wsX0_readOrder (wsV RX0 46 RX0 yX0_next wsX0_next) := goodIn_app (goodIn_of _ (by decide +kernel)) ggX0_readOrder_X0_next
set_option maxRecDepth 20000 in
theorem ggX0_readOrder_X0_readBody : GoodIn wsX0_readOrder wsX0_readBody := goodIn_r _ [17, 5, 6, 2, 18, 19, 20, 11, 21, 1, 8, 9, 10, 12, 7, 13, 22, 23, 24, 25, 26, 27, 28, 29, 30, 31, 32, 3, 33, 34, 35, 36, 37, 38, 39, 40] (by decide +kernel) (by decide +kernel)
set_option maxRecDepth 20000 in
theorem gX0_readOrder_X0_readBody : GoodIn wsX0_readOrder (wsV RX0 50 RX0 yX0_readBody wsX0_readBody) := goodIn_app (goodIn_of _ (by decide +kernel)) ggX0_readOrder_X0_readBody
set_option maxRecDepth 20000 in
theorem ggX0_readOrder_X0_skip : GoodIn wsX0_readOrder wsX0_skip := goodIn_r _ [28, 6, 8, 9, 10, 11, 12, 7, 13, 33, 34, 35, 36, 37, 38, 39, 40] (by decide +kernel) (by decide +kernel)
set_option maxRecDepth 20000 in
theorem gX0_readOrder_X0_skip : GoodIn wsX0_readOrder (wsV RX0 53 RX0 yX0_skip wsX0_skip) := goodIn_app (goodIn_of _ (by decide +kernel)) ggX0_readOrder_X0_skip
theorem dX0_readOrder_0 : decode cX0_readOrder 0 = .ok (.aload_n 0, 1) := by decide +kernel
theorem dX0_readOrder_1 : decode cX0_readOrder 1 = .ok (.iconst 0, 1) := by decide +kernel
theorem dX0_readOrder_2 : decode cX0_readOrder 2 = .ok (.putfield 26, 3) := by decide +kernel
theorem dX0_readOrder_5 : decode cX0_readOrder 5 = .ok (.aload_n 0, 1) := by decide +kernel
theorem dX0_readOrder_6 : decode cX0_readOrder 6 = .ok (.iconst 0, 1) := by decide +kernel
theorem dX0_readOrder_7 : decode cX0_readOrder 7 = .ok (.putfield 29, 3) := by decide +kernel
theorem dX0_readOrder_10 : decode cX0_readOrder 10 = .ok (.aload_n 0, 1) := by decide +kernel
theorem dX0_readOrder_11 : decode cX0_readOrder 11 = .ok (.iconst 0, 1) := by decide +kernel
theorem dX0_readOrder_12 : decode cX0_readOrder 12 = .ok (.putfield 32, 3) := by decide +kernel
theorem dX0_readOrder_15 : decode cX0_readOrder 15 = .ok (.aload_n 0, 1) := by decide +kernel
theorem dX0_readOrder_16 : decode cX0_readOrder 16 = .ok (.iconst 0, 1) := by decide +kernel
theorem dX0_readOrder_17 : decode cX0_readOrder 17 = .ok (.putfield 35, 3) := by decide +kernel
theorem dX0_readOrder_20 : decode cX0_readOrder 20 = .ok (.aload_n 0, 1) := by decide +kernel
theorem dX0_readOrder_21 : decode cX0_readOrder 21 = .ok (.aload_n 0, 1) := by decide +kernel
theorem dX0_readOrder_22 : decode cX0_readOrder 22 = .ok (.invokevirtual 46, 3) := by decide +kernel
theorem dX0_readOrder_25 : decode cX0_readOrder 25 = .ok (.putfield 22, 3) := by decide +kernel
theorem dX0_readOrder_28 : decode cX0_readOrder 28 = .ok (.aload_n 0, 1) := by decide +kernel
theorem dX0_readOrder_29 : decode cX0_readOrder 29 = .ok (.invokevirtual 50, 3) := by decide +kernel
theorem dX0_readOrder_32 : decode cX0_readOrder 32 = .ok (.ifCond .ne 5, 3) := by decide +kernel
theorem dX0_readOrder_35 : decode cX0_readOrder 35 = .ok (.iconst 0, 1) := by decide +kernel
theorem dX0_readOrder_36 : decode cX0_readOrder 36 = .ok (.ireturn, 1) := by decide +kernel
theorem dX0_readOrder_37 : decode cX0_readOrder 37 = .ok (.aload_n 0, 1) := by decide +kernel
theorem dX0_readOrder_38 : decode cX0_readOrder 38 = .ok (.aload_n 0, 1) := by decide +kernel
theorem dX0_readOrder_39 : decode cX0_readOrder 39 = .ok (.bipush 59, 2) := by decide +kernel
theorem dX0_readOrder_41 : decode cX0_readOrder 41 = .ok (.invokevirtual 53, 3) := by decide +kernel
theorem dX0_readOrder_44 : decode cX0_readOrder 44 = .ok (.putfield 35, 3) := by decide +kernel
theorem dX0_readOrder_47 : decode cX0_readOrder 47 = .ok (.aload_n 0, 1) := by decide +kernel
theorem dX0_readOrder_48 : decode cX0_readOrder 48 = .ok (.getfield 35, 3) := by decide +kernel
theorem dX0_readOrder_51 : decode cX0_readOrder 51 = .ok (.ifCond .ne 14, 3) := by decide +kernel
theorem dX0_readOrder_54 : decode cX0_readOrder 54 = .ok (.aload_n 0, 1) := by decide +kernel
theorem dX0_readOrder_55 : decode cX0_readOrder 55 = .ok (.getfield 19, 3) := by decide +kernel
theorem dX0_readOrder_58 : decode cX0_readOrder 58 = .ok (.aload_n 0, 1) := by decide +kernel
theorem dX0_readOrder_59 : decode cX0_readOrder 59 = .ok (.getfield 15, 3) := by decide +kernel
theorem dX0_readOrder_62 : decode cX0_readOrder 62 = .ok (.if_icmp .ne 7, 3) := by decide +kernel
theorem dX0_readOrder_65 : decode cX0_readOrder 65 = .ok (.iconst 1, 1) := by decide +kernel
theorem dX0_readOrder_66 : decode cX0_readOrder 66 = .ok (.goto 4, 3) := by decide +kernel
theorem dX0_readOrder_69 : decode cX0_readOrder 69 = .ok (.iconst 0, 1) := by decide +kernel
theorem dX0_readOrder_70 : decode cX0_readOrder 70 = .ok (.ireturn, 1) := by decide +kernel
set_option maxRecDepth 20000 in
theorem ggX0_readBody_X0_readNumber : GoodIn wsX0_readBody wsX0_readNumber := goodIn_r _ [8, 9, 2, 10, 11, 12, 7, 13, 14, 15, 16, 17, 18, 28, 29, 30, 31, 32, 33, 34, 35] (by decide +kernel) (by decide +kernel)
set_option maxRecDepth 20000 in
theorem gX0_readBody_X0_readNumber : GoodIn wsX0_readBody (wsV RX0 57 RX0 yX0_readNumber wsX0_readNumber) := goodIn_app (goodIn_of _ (by decide +kernel)) ggX0_readBody_X0_readNumber
set_option maxRecDepth 20000 in
theorem ggX0_readBody_X0_skip : GoodIn wsX0_readBody wsX0_skip := goodIn_r _ [22, 2, 10, 11, 12, 7, 13, 14, 15, 28, 29, 30, 31, 32, 33, 34, 35] (by decide +kernel) (by decide +kernel)
set_option maxRecDepth 20000 in
theorem gX0_readBody_X0_skip : GoodIn wsX0_readBody (wsV RX0 53 RX0 yX0_skip wsX0_skip) := goodIn_app (goodIn_of _ (by decide +kernel)) ggX0_readBody_X0_skip
set_option maxRecDepth 20000 in
theorem ggX0_readBody_X0_readHours : GoodIn wsX0_readBody wsX0_readHours := goodIn_r _ [26, 27, 9, 4, 5, 6, 7, 8, 2, 10, 11, 12, 13, 14, 15, 16, 17, 18, 19, 20, 21, 22, 28, 29, 30, 31, 32, 33, 34, 35] (by decide +kernel) (by decide +kernel)
set_option maxRecDepth 20000 in
theorem gX0_readBody_X0_readHours : GoodIn wsX0_readBody (wsV RX0 61 RX0 yX0_readHours wsX0_readHours) := goodIn_app (goodIn_of _ (by decide +kernel)) ggX0_readBody_X0_readHours
theorem dX0_readBody_0 : decode cX0_readBody 0 = .ok (.aload_n 0, 1) := by decide +kernel
theorem dX0_readBody_1 : decode cX0_readBody 1 = .ok (.getfield 22, 3) := by decide +kernel
theorem dX0_readBody_4 : decode cX0_readBody 4 = .ok (.lookupswitch 142 #[(99, 93), (107, 93), (112, 52), (114, 110), (116, 93)], 52) := by decide +kernel
theorem dX0_readBody_56 : decode cX0_readBody 56 = .ok (.aload_n 0, 1) := by decide +kernel
theorem dX0_readBody_57 : decode cX0_readBody 57 = .ok (.dup, 1) := by decide +kernel
theorem dX0_readBody_58 : decode cX0_readBody 58 = .ok (.getfield 19, 3) := by decide +kernel
theorem dX0_readBody_61 : decode cX0_readBody 61 = .ok (.iconst 1, 1) := by decide +kernel
theorem dX0_readBody_62 : decode cX0_readBody 62 = .ok (.iadd, 1) := by decide +kernel
theorem dX0_readBody_63 : decode cX0_readBody 63 = .ok (.putfield 19, 3) := by decide +kernel
theorem dX0_readBody_66 : decode cX0_readBody 66 = .ok (.aload_n 0, 1) := by decide +kernel
theorem dX0_readBody_67 : decode cX0_readBody 67 = .ok (.bipush 99, 2) := by decide +kernel
theorem dX0_readBody_69 : decode cX0_readBody 69 = .ok (.invokevirtual 57, 3) := by decide +kernel
theorem dX0_readBody_72 : decode cX0_readBody 72 = .ok (.ifCond .ne 5, 3) := by decide +kernel
theorem dX0_readBody_75 : decode cX0_readBody 75 = .ok (.iconst 0, 1) := by decide +kernel
theorem dX0_readBody_76 : decode cX0_readBody 76 = .ok (.ireturn, 1) := by decide +kernel
theorem dX0_readBody_77 : decode cX0_readBody 77 = .ok (.aload_n 0, 1) := by decide +kernel
theorem dX0_readBody_78 : decode cX0_readBody 78 = .ok (.aload_n 0, 1) := by decide +kernel
theorem dX0_readBody_79 : decode cX0_readBody 79 = .ok (.bipush 99, 2) := by decide +kernel
theorem dX0_readBody_81 : decode cX0_readBody 81 = .ok (.invokevirtual 53, 3) := by decide +kernel
theorem dX0_readBody_84 : decode cX0_readBody 84 = .ok (.ifCond .eq 7, 3) := by decide +kernel
theorem dX0_readBody_87 : decode cX0_readBody 87 = .ok (.iconst 1, 1) := by decide +kernel
theorem dX0_readBody_88 : decode cX0_readBody 88 = .ok (.goto 4, 3) := by decide +kernel
theorem dX0_readBody_91 : decode cX0_readBody 91 = .ok (.iconst 0, 1) := by decide +kernel
theorem dX0_readBody_92 : decode cX0_readBody 92 = .ok (.putfield 29, 3) := by decide +kernel
theorem dX0_readBody_95 : decode cX0_readBody 95 = .ok (.iconst 1, 1) := by decide +kernel
theorem dX0_readBody_96 : decode cX0_readBody 96 = .ok (.ireturn, 1) := by decide +kernel
theorem dX0_readBody_97 : decode cX0_readBody 97 = .ok (.aload_n 0, 1) := by decide +kernel
theorem dX0_readBody_98 : decode cX0_readBody 98 = .ok (.dup, 1) := by decide +kernel
theorem dX0_readBody_99 : decode cX0_readBody 99 = .ok (.getfield 19, 3) := by decide +kernel
theorem dX0_readBody_102 : decode cX0_readBody 102 = .ok (.iconst 1, 1) := by decide +kernel
theorem dX0_readBody_103 : decode cX0_readBody 103 = .ok (.iadd, 1) := by decide +kernel
theorem dX0_readBody_104 : decode cX0_readBody 104 = .ok (.putfield 19, 3) := by decide +kernel
theorem dX0_readBody_107 : decode cX0_readBody 107 = .ok (.aload_n 0, 1) := by decide +kernel
theorem dX0_readBody_108 : decode cX0_readBody 108 = .ok (.bipush 99, 2) := by decide +kernel
theorem dX0_readBody_110 : decode cX0_readBody 110 = .ok (.invokevirtual 57, 3) := by decide +kernel
theorem dX0_readBody_113 : decode cX0_readBody 113 = .ok (.ireturn, 1) := by decide +kernel
theorem dX0_readBody_114 : decode cX0_readBody 114 = .ok (.aload_n 0, 1) := by decide +kernel
theorem dX0_readBody_115 : decode cX0_readBody 115 = .ok (.dup, 1) := by decide +kernel
theorem dX0_readBody_116 : decode cX0_readBody 116 = .ok (.getfield 19, 3) := by decide +kernel
theorem dX0_readBody_119 : decode cX0_readBody 119 = .ok (.iconst 1, 1) := by decide +kernel
theorem dX0_readBody_120 : decode cX0_readBody 120 = .ok (.iadd, 1) := by decide +kernel
theorem dX0_readBody_121 : decode cX0_readBody 121 = .ok (.putfield 19, 3) := by decide +kernel
theorem dX0_readBody_124 : decode cX0_readBody 124 = .ok (.aload_n 0, 1) := by decide +kernel
theorem dX0_readBody_125 : decode cX0_readBody 125 = .ok (.bipush 45, 2) := by decide +kernel
theorem dX0_readBody_127 : decode cX0_readBody 127 = .ok (.invokevirtual 53, 3) := by decide +kernel
theorem dX0_readBody_130 : decode cX0_readBody 130 = .ok (.ifCond .ne 10, 3) := by decide +kernel
theorem dX0_readBody_133 : decode cX0_readBody 133 = .ok (.aload_n 0, 1) := by decide +kernel
theorem dX0_readBody_134 : decode cX0_readBody 134 = .ok (.invokevirtual 61, 3) := by decide +kernel
theorem dX0_readBody_137 : decode cX0_readBody 137 = .ok (.ifCond .eq 7, 3) := by decide +kernel
theorem dX0_readBody_140 : decode cX0_readBody 140 = .ok (.iconst 1, 1) := by decide +kernel
theorem dX0_readBody_141 : decode cX0_readBody 141 = .ok (.goto 4, 3) := by decide +kernel
theorem dX0_readBody_144 : decode cX0_readBody 144 = .ok (.iconst 0, 1) := by decide +kernel
theorem dX0_readBody_145 : decode cX0_readBody 145 = .ok (.ireturn, 1) := by decide +kernel
theorem dX0_readBody_146 : decode cX0_readBody 146 = .ok (.iconst 0, 1) := by decide +kernel
theorem dX0_readBody_147 : decode cX0_readBody 147 = .ok (.ireturn, 1) := by decide +kernel
set_option maxRecDepth 20000 in
theorem ggX0_readHours_X0_readNumber : GoodIn wsX0_readHours wsX0_readNumber := goodIn_r _ [7, 2, 8, 9, 10, 11, 6, 12, 13, 14, 15, 16, 17, 22, 23, 24, 25, 26, 27, 28, 29] (by decide +kernel) (by decide +kernel)
set_option maxRecDepth 20000 in
theorem gX0_readHours_X0_readNumber : GoodIn wsX0_readHours (wsV RX0 57 RX0 yX0_readNumber wsX0_readNumber) := goodIn_app (goodIn_of _ (by decide +kernel)) ggX0_readHours_X0_readNumber
set_option maxRecDepth 20000 in
theorem ggX0_readHours_X0_skip : GoodIn wsX0_readHours wsX0_skip := goodIn_r _ [21, 8, 9, 10, 11, 6, 12, 13, 14, 22, 23, 24, 25, 26, 27, 28, 29] (by decide +kernel) (by decide +kernel)
set_option maxRecDepth 20000 in
theorem gX0_readHours_X0_skip : GoodIn wsX0_readHours (wsV RX0 53 RX0 yX0_skip wsX0_skip) := goodIn_app (goodIn_of _ (by decide +kernel)) ggX0_readHours_X0_skip
theorem dX0_readHours_0 : decode cX0_readHours 0 = .ok (.iconst 0, 1) := by decide +kernel
theorem dX0_readHours_1 : decode cX0_readHours 1 = .ok (.istore_n 1, 1) := by decide +kernel
theorem dX0_readHours_2 : decode cX0_readHours 2 = .ok (.iload_n 1, 1) := by decide +kernel
theorem dX0_readHours_3 : decode cX0_readHours 3 = .ok (.bipush 80, 2) := by decide +kernel
theorem dX0_readHours_5 : decode cX0_readHours 5 = .ok (.if_icmp .ge 46, 3) := by decide +kernel
theorem dX0_readHours_8 : decode cX0_readHours 8 = .ok (.aload_n 0, 1) := by decide +kernel
theorem dX0_readHours_9 : decode cX0_readHours 9 = .ok (.bipush 23, 2) := by decide +kernel
theorem dX0_readHours_11 : decode cX0_readHours 11 = .ok (.invokevirtual 57, 3) := by decide +kernel
theorem dX0_readHours_14 : decode cX0_readHours 14 = .ok (.ifCond .ne 5, 3) := by decide +kernel
theorem dX0_readHours_17 : decode cX0_readHours 17 = .ok (.iconst 0, 1) := by decide +kernel
theorem dX0_readHours_18 : decode cX0_readHours 18 = .ok (.ireturn, 1) := by decide +kernel
theorem dX0_readHours_19 : decode cX0_readHours 19 = .ok (.aload_n 0, 1) := by decide +kernel
theorem dX0_readHours_20 : decode cX0_readHours 20 = .ok (.dup, 1) := by decide +kernel
theorem dX0_readHours_21 : decode cX0_readHours 21 = .ok (.getfield 32, 3) := by decide +kernel
theorem dX0_readHours_24 : decode cX0_readHours 24 = .ok (.iconst 1, 1) := by decide +kernel
theorem dX0_readHours_25 : decode cX0_readHours 25 = .ok (.aload_n 0, 1) := by decide +kernel
theorem dX0_readHours_26 : decode cX0_readHours 26 = .ok (.getfield 26, 3) := by decide +kernel
theorem dX0_readHours_29 : decode cX0_readHours 29 = .ok (.ishl, 1) := by decide +kernel
theorem dX0_readHours_30 : decode cX0_readHours 30 = .ok (.ior, 1) := by decide +kernel
theorem dX0_readHours_31 : decode cX0_readHours 31 = .ok (.putfield 32, 3) := by decide +kernel
theorem dX0_readHours_34 : decode cX0_readHours 34 = .ok (.aload_n 0, 1) := by decide +kernel
theorem dX0_readHours_35 : decode cX0_readHours 35 = .ok (.bipush 44, 2) := by decide +kernel
theorem dX0_readHours_37 : decode cX0_readHours 37 = .ok (.invokevirtual 53, 3) := by decide +kernel
theorem dX0_readHours_40 : decode cX0_readHours 40 = .ok (.ifCond .ne 5, 3) := by decide +kernel
theorem dX0_readHours_43 : decode cX0_readHours 43 = .ok (.iconst 1, 1) := by decide +kernel
theorem dX0_readHours_44 : decode cX0_readHours 44 = .ok (.ireturn, 1) := by decide +kernel
theorem dX0_readHours_45 : decode cX0_readHours 45 = .ok (.iinc 1 1, 3) := by decide +kernel
theorem dX0_readHours_48 : decode cX0_readHours 48 = .ok (.goto (-46), 3) := by decide +kernel
theorem dX0_readHours_51 : decode cX0_readHours 51 = .ok (.iconst 0, 1) := by decide +kernel
theorem dX0_readHours_52 : decode cX0_readHours 52 = .ok (.ireturn, 1) := by decide +kernel
set_option maxRecDepth 20000 in
theorem ggX0_readNumber_X0_next : GoodIn wsX0_readNumber wsX0_next := goodIn_r _ [7, 2, 8, 9, 13, 14, 15, 16, 17, 18, 19, 20] (by decide +kernel) (by decide +kernel)
set_option maxRecDepth 20000 in
theorem gX0_readNumber_X0_next : GoodIn wsX0_readNumber (wsV RX0 46 RX0 yX0_next wsX0_next) := goodIn_app (goodIn_of _ (by decide +kernel)) ggX0_readNumber_X0_next
set_option maxRecDepth 20000 in
theorem ggX0_readNumber_X0_isDigit : GoodIn wsX0_readNumber wsX0_isDigit := goodIn_r _ [12] (by decide +kernel) (by decide +kernel)
set_option maxRecDepth 20000 in
theorem gX0_readNumber_X0_isDigit : GoodIn wsX0_readNumber (va_wsS RX0 64 yX0_isDigit wsX0_isDigit) := goodIn_app (goodIn_of _ (by decide +kernel)) ggX0_readNumber_X0_isDigit
theorem dX0_readNumber_0 : decode cX0_readNumber 0 = .ok (.aload_n 0, 1) := by decide +kernel
theorem dX0_readNumber_1 : decode cX0_readNumber 1 = .ok (.invokevirtual 46, 3) := by decide +kernel
theorem dX0_readNumber_4 : decode cX0_readNumber 4 = .ok (.invokestatic 64, 3) := by decide +kernel
theorem dX0_readNumber_7 : decode cX0_readNumber 7 = .ok (.ifCond .ne 5, 3) := by decide +kernel
theorem dX0_readNumber_10 : decode cX0_readNumber 10 = .ok (.iconst 0, 1) := by decide +kernel
theorem dX0_readNumber_11 : decode cX0_readNumber 11 = .ok (.ireturn, 1) := by decide +kernel
theorem dX0_readNumber_12 : decode cX0_readNumber 12 = .ok (.aload_n 0, 1) := by decide +kernel
theorem dX0_readNumber_13 : decode cX0_readNumber 13 = .ok (.aload_n 0, 1) := by decide +kernel
theorem dX0_readNumber_14 : decode cX0_readNumber 14 = .ok (.invokevirtual 46, 3) := by decide +kernel
theorem dX0_readNumber_17 : decode cX0_readNumber 17 = .ok (.bipush 48, 2) := by decide +kernel
theorem dX0_readNumber_19 : decode cX0_readNumber 19 = .ok (.isub, 1) := by decide +kernel
theorem dX0_readNumber_20 : decode cX0_readNumber 20 = .ok (.putfield 26, 3) := by decide +kernel
theorem dX0_readNumber_23 : decode cX0_readNumber 23 = .ok (.aload_n 0, 1) := by decide +kernel
theorem dX0_readNumber_24 : decode cX0_readNumber 24 = .ok (.dup, 1) := by decide +kernel
theorem dX0_readNumber_25 : decode cX0_readNumber 25 = .ok (.getfield 19, 3) := by decide +kernel
theorem dX0_readNumber_28 : decode cX0_readNumber 28 = .ok (.iconst 1, 1) := by decide +kernel
theorem dX0_readNumber_29 : decode cX0_readNumber 29 = .ok (.iadd, 1) := by decide +kernel
theorem dX0_readNumber_30 : decode cX0_readNumber 30 = .ok (.putfield 19, 3) := by decide +kernel
theorem dX0_readNumber_33 : decode cX0_readNumber 33 = .ok (.aload_n 0, 1) := by decide +kernel
theorem dX0_readNumber_34 : decode cX0_readNumber 34 = .ok (.getfield 26, 3) := by decide +kernel
theorem dX0_readNumber_37 : decode cX0_readNumber 37 = .ok (.ifCond .le 17, 3) := by decide +kernel
theorem dX0_readNumber_40 : decode cX0_readNumber 40 = .ok (.aload_n 0, 1) := by decide +kernel
theorem dX0_readNumber_41 : decode cX0_readNumber 41 = .ok (.invokevirtual 46, 3) := by decide +kernel
theorem dX0_readNumber_44 : decode cX0_readNumber 44 = .ok (.invokestatic 64, 3) := by decide +kernel
theorem dX0_readNumber_47 : decode cX0_readNumber 47 = .ok (.ifCond .eq 7, 3) := by decide +kernel
theorem dX0_readNumber_50 : decode cX0_readNumber 50 = .ok (.iconst 1, 1) := by decide +kernel
theorem dX0_readNumber_51 : decode cX0_readNumber 51 = .ok (.goto 4, 3) := by decide +kernel
theorem dX0_readNumber_54 : decode cX0_readNumber 54 = .ok (.iconst 0, 1) := by decide +kernel
theorem dX0_readNumber_55 : decode cX0_readNumber 55 = .ok (.istore_n 2, 1) := by decide +kernel
theorem dX0_readNumber_56 : decode cX0_readNumber 56 = .ok (.iload_n 2, 1) := by decide +kernel
theorem dX0_readNumber_57 : decode cX0_readNumber 57 = .ok (.ifCond .eq 51, 3) := by decide +kernel
theorem dX0_readNumber_60 : decode cX0_readNumber 60 = .ok (.bipush 10, 2) := by decide +kernel
theorem dX0_readNumber_62 : decode cX0_readNumber 62 = .ok (.aload_n 0, 1) := by decide +kernel
theorem dX0_readNumber_63 : decode cX0_readNumber 63 = .ok (.getfield 26, 3) := by decide +kernel
theorem dX0_readNumber_66 : decode cX0_readNumber 66 = .ok (.imul, 1) := by decide +kernel
theorem dX0_readNumber_67 : decode cX0_readNumber 67 = .ok (.aload_n 0, 1) := by decide +kernel
theorem dX0_readNumber_68 : decode cX0_readNumber 68 = .ok (.invokevirtual 46, 3) := by decide +kernel
theorem dX0_readNumber_71 : decode cX0_readNumber 71 = .ok (.iadd, 1) := by decide +kernel
theorem dX0_readNumber_72 : decode cX0_readNumber 72 = .ok (.bipush 48, 2) := by decide +kernel
theorem dX0_readNumber_74 : decode cX0_readNumber 74 = .ok (.isub, 1) := by decide +kernel
theorem dX0_readNumber_75 : decode cX0_readNumber 75 = .ok (.iload_n 1, 1) := by decide +kernel
theorem dX0_readNumber_76 : decode cX0_readNumber 76 = .ok (.if_icmp .gt 32, 3) := by decide +kernel
theorem dX0_readNumber_79 : decode cX0_readNumber 79 = .ok (.aload_n 0, 1) := by decide +kernel
theorem dX0_readNumber_80 : decode cX0_readNumber 80 = .ok (.bipush 10, 2) := by decide +kernel
theorem dX0_readNumber_82 : decode cX0_readNumber 82 = .ok (.aload_n 0, 1) := by decide +kernel
theorem dX0_readNumber_83 : decode cX0_readNumber 83 = .ok (.getfield 26, 3) := by decide +kernel
theorem dX0_readNumber_86 : decode cX0_readNumber 86 = .ok (.imul, 1) := by decide +kernel
theorem dX0_readNumber_87 : decode cX0_readNumber 87 = .ok (.aload_n 0, 1) := by decide +kernel
theorem dX0_readNumber_88 : decode cX0_readNumber 88 = .ok (.invokevirtual 46, 3) := by decide +kernel
theorem dX0_readNumber_91 : decode cX0_readNumber 91 = .ok (.iadd, 1) := by decide +kernel
theorem dX0_readNumber_92 : decode cX0_readNumber 92 = .ok (.bipush 48, 2) := by decide +kernel
theorem dX0_readNumber_94 : decode cX0_readNumber 94 = .ok (.isub, 1) := by decide +kernel
theorem dX0_readNumber_95 : decode cX0_readNumber 95 = .ok (.putfield 26, 3) := by decide +kernel
theorem dX0_readNumber_98 : decode cX0_readNumber 98 = .ok (.aload_n 0, 1) := by decide +kernel
theorem dX0_readNumber_99 : decode cX0_readNumber 99 = .ok (.dup, 1) := by decide +kernel
theorem dX0_readNumber_100 : decode cX0_readNumber 100 = .ok (.getfield 19, 3) := by decide +kernel
theorem dX0_readNumber_103 : decode cX0_readNumber 103 = .ok (.iconst 1, 1) := by decide +kernel
theorem dX0_readNumber_104 : decode cX0_readNumber 104 = .ok (.iadd, 1) := by decide +kernel
theorem dX0_readNumber_105 : decode cX0_readNumber 105 = .ok (.putfield 19, 3) := by decide +kernel
theorem dX0_readNumber_108 : decode cX0_readNumber 108 = .ok (.iconst 1, 1) := by decide +kernel
theorem dX0_readNumber_109 : decode cX0_readNumber 109 = .ok (.ireturn, 1) := by decide +kernel
theorem dX0_isDigit_0 : decode cX0_isDigit 0 = .ok (.iload_n 0, 1) := by decide +kernel
theorem dX0_isDigit_1 : decode cX0_isDigit 1 = .ok (.bipush 48, 2) := by decide +kernel
theorem dX0_isDigit_3 : decode cX0_isDigit 3 = .ok (.if_icmp .lt 13, 3) := by decide +kernel
theorem dX0_isDigit_6 : decode cX0_isDigit 6 = .ok (.iload_n 0, 1) := by decide +kernel
theorem dX0_isDigit_7 : decode cX0_isDigit 7 = .ok (.bipush 57, 2) := by decide +kernel
theorem dX0_isDigit_9 : decode cX0_isDigit 9 = .ok (.if_icmp .gt 7, 3) := by decide +kernel
theorem dX0_isDigit_12 : decode cX0_isDigit 12 = .ok (.iconst 1, 1) := by decide +kernel
theorem dX0_isDigit_13 : decode cX0_isDigit 13 = .ok (.goto 4, 3) := by decide +kernel
theorem dX0_isDigit_16 : decode cX0_isDigit 16 = .ok (.iconst 0, 1) := by decide +kernel
theorem dX0_isDigit_17 : decode cX0_isDigit 17 = .ok (.ireturn, 1) := by decide +kernel
set_option maxRecDepth 20000 in
theorem ggX0_skip_X0_next : GoodIn wsX0_skip wsX0_next := goodIn_r _ [6, 1, 7, 8, 9, 10, 11, 12, 13, 14, 15, 16] (by decide +kernel) (by decide +kernel)
set_option maxRecDepth 20000 in
theorem gX0_skip_X0_next : GoodIn wsX0_skip (wsV RX0 46 RX0 yX0_next wsX0_next) := goodIn_app (goodIn_of _ (by decide +kernel)) ggX0_skip_X0_next
theorem dX0_skip_0 : decode cX0_skip 0 = .ok (.aload_n 0, 1) := by decide +kernel
theorem dX0_skip_1 : decode cX0_skip 1 = .ok (.invokevirtual 46, 3) := by decide +kernel
theorem dX0_skip_4 : decode cX0_skip 4 = .ok (.iload_n 1, 1) := by decide +kernel
theorem dX0_skip_5 : decode cX0_skip 5 = .ok (.if_icmp .eq 5, 3) := by decide +kernel
theorem dX0_skip_8 : decode cX0_skip 8 = .ok (.iconst 0, 1) := by decide +kernel
theorem dX0_skip_9 : decode cX0_skip 9 = .ok (.ireturn, 1) := by decide +kernel
theorem dX0_skip_10 : decode cX0_skip 10 = .ok (.aload_n 0, 1) := by decide +kernel
theorem dX0_skip_11 : decode cX0_skip 11 = .ok (.dup, 1) := by decide +kernel
theorem dX0_skip_12 : decode cX0_skip 12 = .ok (.getfield 19, 3) := by decide +kernel
theorem dX0_skip_15 : decode cX0_skip 15 = .ok (.iconst 1, 1) := by decide +kernel
theorem dX0_skip_16 : decode cX0_skip 16 = .ok (.iadd, 1) := by decide +kernel
theorem dX0_skip_17 : decode cX0_skip 17 = .ok (.putfield 19, 3) := by decide +kernel
theorem dX0_skip_20 : decode cX0_skip 20 = .ok (.iconst 1, 1) := by decide +kernel
theorem dX0_skip_21 : decode cX0_skip 21 = .ok (.ireturn, 1) := by decide +kernel
theorem dX0_next_0 : decode cX0_next 0 = .ok (.aload_n 0, 1) := by decide +kernel
theorem dX0_next_1 : decode cX0_next 1 = .ok (.getfield 19, 3) := by decide +kernel
theorem dX0_next_4 : decode cX0_next 4 = .ok (.ifCond .lt 35, 3) := by decide +kernel
theorem dX0_next_7 : decode cX0_next 7 = .ok (.aload_n 0, 1) := by decide +kernel
theorem dX0_next_8 : decode cX0_next 8 = .ok (.getfield 19, 3) := by decide +kernel
theorem dX0_next_11 : decode cX0_next 11 = .ok (.aload_n 0, 1) := by decide +kernel
theorem dX0_next_12 : decode cX0_next 12 = .ok (.getfield 15, 3) := by decide +kernel
theorem dX0_next_15 : decode cX0_next 15 = .ok (.if_icmp .ge 24, 3) := by decide +kernel
theorem dX0_next_18 : decode cX0_next 18 = .ok (.aload_n 0, 1) := by decide +kernel
theorem dX0_next_19 : decode cX0_next 19 = .ok (.getfield 19, 3) := by decide +kernel
theorem dX0_next_22 : decode cX0_next 22 = .ok (.bipush 80, 2) := by decide +kernel
theorem dX0_next_24 : decode cX0_next 24 = .ok (.if_icmp .ge 15, 3) := by decide +kernel
theorem dX0_next_27 : decode cX0_next 27 = .ok (.aload_n 0, 1) := by decide +kernel
theorem dX0_next_28 : decode cX0_next 28 = .ok (.getfield 9, 3) := by decide +kernel
theorem dX0_next_31 : decode cX0_next 31 = .ok (.aload_n 0, 1) := by decide +kernel
theorem dX0_next_32 : decode cX0_next 32 = .ok (.getfield 19, 3) := by decide +kernel
theorem dX0_next_35 : decode cX0_next 35 = .ok (.caload, 1) := by decide +kernel
theorem dX0_next_36 : decode cX0_next 36 = .ok (.goto 4, 3) := by decide +kernel
theorem dX0_next_39 : decode cX0_next 39 = .ok (.iconst 0, 1) := by decide +kernel
theorem dX0_next_40 : decode cX0_next 40 = .ok (.ireturn, 1) := by decide +kernel
theorem dX1_init_0 : decode cX1_init 0 = .ok (.aload_n 0, 1) := by decide +kernel
theorem dX1_init_1 : decode cX1_init 1 = .ok (.invokespecial 3, 3) := by decide +kernel
theorem dX1_init_4 : decode cX1_init 4 = .ok (.aload_n 0, 1) := by decide +kernel
theorem dX1_init_5 : decode cX1_init 5 = .ok (.bipush 7, 2) := by decide +kernel
theorem dX1_init_7 : decode cX1_init 7 = .ok (.newarray .int, 2) := by decide +kernel
theorem dX1_init_9 : decode cX1_init 9 = .ok (.putfield 9, 3) := by decide +kernel
theorem dX1_init_12 : decode cX1_init 12 = .ok (.aload_n 0, 1) := by decide +kernel
theorem dX1_init_13 : decode cX1_init 13 = .ok (.iconst 0, 1) := by decide +kernel
theorem dX1_init_14 : decode cX1_init 14 = .ok (.putfield 15, 3) := by decide +kernel
theorem dX1_init_17 : decode cX1_init 17 = .ok (.aload_n 0, 1) := by decide +kernel
theorem dX1_init_18 : decode cX1_init 18 = .ok (.iconst 0, 1) := by decide +kernel
theorem dX1_init_19 : decode cX1_init 19 = .ok (.putfield 19, 3) := by decide +kernel
theorem dX1_init_22 : decode cX1_init 22 = .ok (.aload_n 0, 1) := by decide +kernel
theorem dX1_init_23 : decode cX1_init 23 = .ok (.iconst 0, 1) := by decide +kernel
theorem dX1_init_24 : decode cX1_init 24 = .ok (.putfield 22, 3) := by decide +kernel
theorem dX1_init_27 : decode cX1_init 27 = .ok (.aload_n 0, 1) := by decide +kernel
theorem dX1_init_28 : decode cX1_init 28 = .ok (.bipush 12, 2) := by decide +kernel
theorem dX1_init_30 : decode cX1_init 30 = .ok (.newarray .int, 2) := by decide +kernel
theorem dX1_init_32 : decode cX1_init 32 = .ok (.putfield 25, 3) := by decide +kernel
theorem dX1_init_35 : decode cX1_init 35 = .ok (.aload_n 0, 1) := by decide +kernel
theorem dX1_init_36 : decode cX1_init 36 = .ok (.bipush 12, 2) := by decide +kernel
theorem dX1_init_38 : decode cX1_init 38 = .ok (.newarray .int, 2) := by decide +kernel
theorem dX1_init_40 : decode cX1_init 40 = .ok (.putfield 28, 3) := by decide +kernel
theorem dX1_init_43 : decode cX1_init 43 = .ok (.aload_n 0, 1) := by decide +kernel
theorem dX1_init_44 : decode cX1_init 44 = .ok (.bipush 12, 2) := by decide +kernel
theorem dX1_init_46 : decode cX1_init 46 = .ok (.newarray .int, 2) := by decide +kernel
theorem dX1_init_48 : decode cX1_init 48 = .ok (.putfield 31, 3) := by decide +kernel
theorem dX1_init_51 : decode cX1_init 51 = .ok (.aload_n 0, 1) := by decide +kernel
theorem dX1_init_52 : decode cX1_init 52 = .ok (.bipush 12, 2) := by decide +kernel
theorem dX1_init_54 : decode cX1_init 54 = .ok (.newarray .int, 2) := by decide +kernel
theorem dX1_init_56 : decode cX1_init 56 = .ok (.putfield 34, 3) := by decide +kernel
theorem dX1_init_59 : decode cX1_init 59 = .ok (.aload_n 0, 1) := by decide +kernel
theorem dX1_init_60 : decode cX1_init 60 = .ok (.iconst 0, 1) := by decide +kernel
theorem dX1_init_61 : decode cX1_init 61 = .ok (.putfield 37, 3) := by decide +kernel
theorem dX1_init_64 : decode cX1_init 64 = .ok (.aload_n 0, 1) := by decide +kernel
theorem dX1_init_65 : decode cX1_init 65 = .ok (.iconst 5, 1) := by decide +kernel
theorem dX1_init_66 : decode cX1_init 66 = .ok (.newarray .int, 2) := by decide +kernel
theorem dX1_init_68 : decode cX1_init 68 = .ok (.putfield 40, 3) := by decide +kernel
theorem dX1_init_71 : decode cX1_init 71 = .ok (.aload_n 0, 1) := by decide +kernel
theorem dX1_init_72 : decode cX1_init 72 = .ok (.iconst 5, 1) := by decide +kernel
theorem dX1_init_73 : decode cX1_init 73 = .ok (.newarray .int, 2) := by decide +kernel
theorem dX1_init_75 : decode cX1_init 75 = .ok (.putfield 43, 3) := by decide +kernel
theorem dX1_init_78 : decode cX1_init 78 = .ok (.aload_n 0, 1) := by decide +kernel
theorem dX1_init_79 : decode cX1_init 79 = .ok (.iconst 5, 1) := by decide +kernel
theorem dX1_init_80 : decode cX1_init 80 = .ok (.newarray .int, 2) := by decide +kernel
theorem dX1_init_82 : decode cX1_init 82 = .ok (.putfield 46, 3) := by decide +kernel
theorem dX1_init_85 : decode cX1_init 85 = .ok (.aload_n 0, 1) := by decide +kernel
theorem dX1_init_86 : decode cX1_init 86 = .ok (.iconst 5, 1) := by decide +kernel
theorem dX1_init_87 : decode cX1_init 87 = .ok (.newarray .int, 2) := by decide +kernel
theorem dX1_init_89 : decode cX1_init 89 = .ok (.putfield 49, 3) := by decide +kernel
theorem dX1_init_92 : decode cX1_init 92 = .ok (.aload_n 0, 1) := by decide +kernel
theorem dX1_init_93 : decode cX1_init 93 = .ok (.iconst 5, 1) := by decide +kernel
theorem dX1_init_94 : decode cX1_init 94 = .ok (.newarray .int, 2) := by decide +kernel
theorem dX1_init_96 : decode cX1_init 96 = .ok (.putfield 52, 3) := by decide +kernel
theorem dX1_init_99 : decode cX1_init 99 = .ok (.aload_n 0, 1) := by decide +kernel
theorem dX1_init_100 : decode cX1_init 100 = .ok (.iconst 0, 1) := by decide +kernel
theorem dX1_init_101 : decode cX1_init 101 = .ok (.putfield 55, 3) := by decide +kernel
theorem dX1_init_104 : decode cX1_init 104 = .ok (.aload_n 0, 1) := by decide +kernel
theorem dX1_init_105 : decode cX1_init 105 = .ok (.iconst 0, 1) := by decide +kernel
theorem dX1_init_106 : decode cX1_init 106 = .ok (.putfield 58, 3) := by decide +kernel
theorem dX1_init_109 : decode cX1_init 109 = .ok (.aload_n 0, 1) := by decide +kernel
theorem dX1_init_110 : decode cX1_init 110 = .ok (.iconst 0, 1) := by decide +kernel
theorem dX1_init_111 : decode cX1_init 111 = .ok (.putfield 61, 3) := by decide +kernel
theorem dX1_init_114 : decode cX1_init 114 = .ok (.aload_n 0, 1) := by decide +kernel
theorem dX1_init_115 : decode cX1_init 115 = .ok (.iconst 0, 1) := by decide +kernel
theorem dX1_init_116 : decode cX1_init 116 = .ok (.putfield 64, 3) := by decide +kernel
theorem dX1_init_119 : decode cX1_init 119 = .ok (.getstatic 67, 3) := by decide +kernel
theorem dX1_init_122 : decode cX1_init 122 = .ok (.iconst 0, 1) := by decide +kernel
theorem dX1_init_123 : decode cX1_init 123 = .ok (.aload_n 0, 1) := by decide +kernel
theorem dX1_init_124 : decode cX1_init 124 = .ok (.getfield 9, 3) := by decide +kernel
theorem dX1_init_127 : decode cX1_init 127 = .ok (.iconst 0, 1) := by decide +kernel
theorem dX1_init_128 : decode cX1_init 128 = .ok (.bipush 7, 2) := by decide +kernel
theorem dX1_init_130 : decode cX1_init 130 = .ok (.invokestatic 70, 3) := by decide +kernel
theorem dX1_init_133 : decode cX1_init 133 = .ok (.return_, 1) := by decide +kernel
theorem dX1_changeSetting_0 : decode cX1_changeSetting 0 = .ok (.iload_n 1, 1) := by decide +kernel
theorem dX1_changeSetting_1 : decode cX1_changeSetting 1 = .ok (.ifCond .lt 9, 3) := by decide +kernel
theorem dX1_changeSetting_4 : decode cX1_changeSetting 4 = .ok (.iload_n 1, 1) := by decide +kernel
theorem dX1_changeSetting_5 : decode cX1_changeSetting 5 = .ok (.bipush 7, 2) := by decide +kernel
theorem dX1_changeSetting_7 : decode cX1_changeSetting 7 = .ok (.if_icmp .lt 6, 3) := by decide +kernel
theorem dX1_changeSetting_10 : decode cX1_changeSetting 10 = .ok (.bipush (-2), 2) := by decide +kernel
theorem dX1_changeSetting_12 : decode cX1_changeSetting 12 = .ok (.ireturn, 1) := by decide +kernel
theorem dX1_changeSetting_13 : decode cX1_changeSetting 13 = .ok (.iload_n 2, 1) := by decide +kernel
theorem dX1_changeSetting_14 : decode cX1_changeSetting 14 = .ok (.getstatic 76, 3) := by decide +kernel
theorem dX1_changeSetting_17 : decode cX1_changeSetting 17 = .ok (.iload_n 1, 1) := by decide +kernel
theorem dX1_changeSetting_18 : decode cX1_changeSetting 18 = .ok (.iaload, 1) := by decide +kernel
theorem dX1_changeSetting_19 : decode cX1_changeSetting 19 = .ok (.if_icmp .lt 12, 3) := by decide +kernel
theorem dX1_changeSetting_22 : decode cX1_changeSetting 22 = .ok (.iload_n 2, 1) := by decide +kernel
theorem dX1_changeSetting_23 : decode cX1_changeSetting 23 = .ok (.getstatic 79, 3) := by decide +kernel
theorem dX1_changeSetting_26 : decode cX1_changeSetting 26 = .ok (.iload_n 1, 1) := by decide +kernel
theorem dX1_changeSetting_27 : decode cX1_changeSetting 27 = .ok (.iaload, 1) := by decide +kernel
theorem dX1_changeSetting_28 : decode cX1_changeSetting 28 = .ok (.if_icmp .le 6, 3) := by decide +kernel
theorem dX1_changeSetting_31 : decode cX1_changeSetting 31 = .ok (.bipush (-2), 2) := by decide +kernel
theorem dX1_changeSetting_33 : decode cX1_changeSetting 33 = .ok (.ireturn, 1) := by decide +kernel
theorem dX1_changeSetting_34 : decode cX1_changeSetting 34 = .ok (.aload_n 0, 1) := by decide +kernel
theorem dX1_changeSetting_35 : decode cX1_changeSetting 35 = .ok (.getfield 9, 3) := by decide +kernel
theorem dX1_changeSetting_38 : decode cX1_changeSetting 38 = .ok (.iload_n 1, 1) := by decide +kernel
theorem dX1_changeSetting_39 : decode cX1_changeSetting 39 = .ok (.iaload, 1) := by decide +kernel
theorem dX1_changeSetting_40 : decode cX1_changeSetting 40 = .ok (.istore_n 3, 1) := by decide +kernel
theorem dX1_changeSetting_41 : decode cX1_changeSetting 41 = .ok (.aload_n 0, 1) := by decide +kernel
theorem dX1_changeSetting_42 : decode cX1_changeSetting 42 = .ok (.getfield 9, 3) := by decide +kernel
theorem dX1_changeSetting_45 : decode cX1_changeSetting 45 = .ok (.iload_n 1, 1) := by decide +kernel
theorem dX1_changeSetting_46 : decode cX1_changeSetting 46 = .ok (.iload_n 2, 1) := by decide +kernel
theorem dX1_changeSetting_47 : decode cX1_changeSetting 47 = .ok (.iastore, 1) := by decide +kernel
theorem dX1_changeSetting_48 : decode cX1_changeSetting 48 = .ok (.iload_n 3, 1) := by decide +kernel
theorem dX1_changeSetting_49 : decode cX1_changeSetting 49 = .ok (.ireturn, 1) := by decide +kernel
theorem dX1_changeRain_0 : decode cX1_changeRain 0 = .ok (.iload_n 1, 1) := by decide +kernel
theorem dX1_changeRain_1 : decode cX1_changeRain 1 = .ok (.ifCond .lt 9, 3) := by decide +kernel
theorem dX1_changeRain_4 : decode cX1_changeRain 4 = .ok (.iload_n 1, 1) := by decide +kernel
theorem dX1_changeRain_5 : decode cX1_changeRain 5 = .ok (.ldc 82, 2) := by decide +kernel
theorem dX1_changeRain_7 : decode cX1_changeRain 7 = .ok (.if_icmp .le 6, 3) := by decide +kernel
theorem dX1_changeRain_10 : decode cX1_changeRain 10 = .ok (.bipush (-2), 2) := by decide +kernel
theorem dX1_changeRain_12 : decode cX1_changeRain 12 = .ok (.ireturn, 1) := by decide +kernel
theorem dX1_changeRain_13 : decode cX1_changeRain 13 = .ok (.aload_n 0, 1) := by decide +kernel
theorem dX1_changeRain_14 : decode cX1_changeRain 14 = .ok (.getfield 55, 3) := by decide +kernel
theorem dX1_changeRain_17 : decode cX1_changeRain 17 = .ok (.istore_n 2, 1) := by decide +kernel
theorem dX1_changeRain_18 : decode cX1_changeRain 18 = .ok (.aload_n 0, 1) := by decide +kernel
theorem dX1_changeRain_19 : decode cX1_changeRain 19 = .ok (.iload_n 1, 1) := by decide +kernel
theorem dX1_changeRain_20 : decode cX1_changeRain 20 = .ok (.putfield 55, 3) := by decide +kernel
theorem dX1_changeRain_23 : decode cX1_changeRain 23 = .ok (.iload_n 2, 1) := by decide +kernel
theorem dX1_changeRain_24 : decode cX1_changeRain 24 = .ok (.ireturn, 1) := by decide +kernel
set_option maxRecDepth 20000 in
theorem ggX1_addPiano_X2_isPlace : GoodIn wsX1_addPiano wsX2_isPlace := goodIn_r _ [9] (by decide +kernel) (by decide +kernel)
set_option maxRecDepth 20000 in
theorem gX1_addPiano_X2_isPlace_n83 : GoodIn wsX1_addPiano (wsX2_isPlace) := ggX1_addPiano_X2_isPlace
set_option maxRecDepth 20000 in
theorem ggX1_addPiano_X2_has : GoodIn wsX1_addPiano wsX2_has := goodIn_r _ [11] (by decide +kernel) (by decide +kernel)
set_option maxRecDepth 20000 in
theorem gX1_addPiano_X2_has_n87 : GoodIn wsX1_addPiano (wsX2_has) := ggX1_addPiano_X2_has
set_option maxRecDepth 20000 in
theorem ggX1_addPiano_J6_bitCount_0f7a4 : GoodIn wsX1_addPiano wsJ6_bitCount_0f7a4 := goodIn_r _ [15, 16, 17, 18] (by decide +kernel) (by decide +kernel)
set_option maxRecDepth 20000 in
theorem gX1_addPiano_J6_bitCount_0f7a4 : GoodIn wsX1_addPiano (va_wsS RX1 91 yJ6_bitCount_0f7a4 wsJ6_bitCount_0f7a4) := goodIn_app (goodIn_of _ (by decide +kernel)) ggX1_addPiano_J6_bitCount_0f7a4
theorem dX1_addPiano_0 : decode cX1_addPiano 0 = .ok (.iload_n 1, 1) := by decide +kernel
theorem dX1_addPiano_1 : decode cX1_addPiano 1 = .ok (.invokestatic 83, 3) := by decide +kernel
theorem dX1_addPiano_4 : decode cX1_addPiano 4 = .ok (.ifCond .ne 5, 3) := by decide +kernel
theorem dX1_addPiano_7 : decode cX1_addPiano 7 = .ok (.iconst (-1), 1) := by decide +kernel
theorem dX1_addPiano_8 : decode cX1_addPiano 8 = .ok (.ireturn, 1) := by decide +kernel
theorem dX1_addPiano_9 : decode cX1_addPiano 9 = .ok (.iload_n 2, 1) := by decide +kernel
theorem dX1_addPiano_10 : decode cX1_addPiano 10 = .ok (.ifCond .eq 11, 3) := by decide +kernel
theorem dX1_addPiano_13 : decode cX1_addPiano 13 = .ok (.iload_n 2, 1) := by decide +kernel
theorem dX1_addPiano_14 : decode cX1_addPiano 14 = .ok (.iconst 1, 1) := by decide +kernel
theorem dX1_addPiano_15 : decode cX1_addPiano 15 = .ok (.if_icmp .eq 6, 3) := by decide +kernel
theorem dX1_addPiano_18 : decode cX1_addPiano 18 = .ok (.bipush (-2), 2) := by decide +kernel
theorem dX1_addPiano_20 : decode cX1_addPiano 20 = .ok (.ireturn, 1) := by decide +kernel
theorem dX1_addPiano_21 : decode cX1_addPiano 21 = .ok (.aload_n 0, 1) := by decide +kernel
theorem dX1_addPiano_22 : decode cX1_addPiano 22 = .ok (.getfield 15, 3) := by decide +kernel
theorem dX1_addPiano_25 : decode cX1_addPiano 25 = .ok (.iload_n 1, 1) := by decide +kernel
theorem dX1_addPiano_26 : decode cX1_addPiano 26 = .ok (.invokestatic 87, 3) := by decide +kernel
theorem dX1_addPiano_29 : decode cX1_addPiano 29 = .ok (.ifCond .eq 6, 3) := by decide +kernel
theorem dX1_addPiano_32 : decode cX1_addPiano 32 = .ok (.bipush (-5), 2) := by decide +kernel
theorem dX1_addPiano_34 : decode cX1_addPiano 34 = .ok (.ireturn, 1) := by decide +kernel
theorem dX1_addPiano_35 : decode cX1_addPiano 35 = .ok (.aload_n 0, 1) := by decide +kernel
theorem dX1_addPiano_36 : decode cX1_addPiano 36 = .ok (.dup, 1) := by decide +kernel
theorem dX1_addPiano_37 : decode cX1_addPiano 37 = .ok (.getfield 15, 3) := by decide +kernel
theorem dX1_addPiano_40 : decode cX1_addPiano 40 = .ok (.iconst 1, 1) := by decide +kernel
theorem dX1_addPiano_41 : decode cX1_addPiano 41 = .ok (.iload_n 1, 1) := by decide +kernel
theorem dX1_addPiano_42 : decode cX1_addPiano 42 = .ok (.ishl, 1) := by decide +kernel
theorem dX1_addPiano_43 : decode cX1_addPiano 43 = .ok (.ior, 1) := by decide +kernel
theorem dX1_addPiano_44 : decode cX1_addPiano 44 = .ok (.putfield 15, 3) := by decide +kernel
theorem dX1_addPiano_47 : decode cX1_addPiano 47 = .ok (.aload_n 0, 1) := by decide +kernel
theorem dX1_addPiano_48 : decode cX1_addPiano 48 = .ok (.dup, 1) := by decide +kernel
theorem dX1_addPiano_49 : decode cX1_addPiano 49 = .ok (.getfield 19, 3) := by decide +kernel
theorem dX1_addPiano_52 : decode cX1_addPiano 52 = .ok (.iload_n 2, 1) := by decide +kernel
theorem dX1_addPiano_53 : decode cX1_addPiano 53 = .ok (.iload_n 1, 1) := by decide +kernel
theorem dX1_addPiano_54 : decode cX1_addPiano 54 = .ok (.ishl, 1) := by decide +kernel
theorem dX1_addPiano_55 : decode cX1_addPiano 55 = .ok (.ior, 1) := by decide +kernel
theorem dX1_addPiano_56 : decode cX1_addPiano 56 = .ok (.putfield 19, 3) := by decide +kernel
theorem dX1_addPiano_59 : decode cX1_addPiano 59 = .ok (.aload_n 0, 1) := by decide +kernel
theorem dX1_addPiano_60 : decode cX1_addPiano 60 = .ok (.getfield 25, 3) := by decide +kernel
theorem dX1_addPiano_63 : decode cX1_addPiano 63 = .ok (.iload_n 1, 1) := by decide +kernel
theorem dX1_addPiano_64 : decode cX1_addPiano 64 = .ok (.bipush 100, 2) := by decide +kernel
theorem dX1_addPiano_66 : decode cX1_addPiano 66 = .ok (.iastore, 1) := by decide +kernel
theorem dX1_addPiano_67 : decode cX1_addPiano 67 = .ok (.aload_n 0, 1) := by decide +kernel
theorem dX1_addPiano_68 : decode cX1_addPiano 68 = .ok (.getfield 28, 3) := by decide +kernel
theorem dX1_addPiano_71 : decode cX1_addPiano 71 = .ok (.iload_n 1, 1) := by decide +kernel
theorem dX1_addPiano_72 : decode cX1_addPiano 72 = .ok (.iconst 0, 1) := by decide +kernel
theorem dX1_addPiano_73 : decode cX1_addPiano 73 = .ok (.iastore, 1) := by decide +kernel
theorem dX1_addPiano_74 : decode cX1_addPiano 74 = .ok (.aload_n 0, 1) := by decide +kernel
theorem dX1_addPiano_75 : decode cX1_addPiano 75 = .ok (.getfield 31, 3) := by decide +kernel
theorem dX1_addPiano_78 : decode cX1_addPiano 78 = .ok (.iload_n 1, 1) := by decide +kernel
theorem dX1_addPiano_79 : decode cX1_addPiano 79 = .ok (.iconst 0, 1) := by decide +kernel
theorem dX1_addPiano_80 : decode cX1_addPiano 80 = .ok (.iastore, 1) := by decide +kernel
theorem dX1_addPiano_81 : decode cX1_addPiano 81 = .ok (.aload_n 0, 1) := by decide +kernel
theorem dX1_addPiano_82 : decode cX1_addPiano 82 = .ok (.getfield 34, 3) := by decide +kernel
theorem dX1_addPiano_85 : decode cX1_addPiano 85 = .ok (.iload_n 1, 1) := by decide +kernel
theorem dX1_addPiano_86 : decode cX1_addPiano 86 = .ok (.iconst 0, 1) := by decide +kernel
theorem dX1_addPiano_87 : decode cX1_addPiano 87 = .ok (.iastore, 1) := by decide +kernel
theorem dX1_addPiano_88 : decode cX1_addPiano 88 = .ok (.aload_n 0, 1) := by decide +kernel
theorem dX1_addPiano_89 : decode cX1_addPiano 89 = .ok (.getfield 15, 3) := by decide +kernel
theorem dX1_addPiano_92 : decode cX1_addPiano 92 = .ok (.invokestatic 91, 3) := by decide +kernel
theorem dX1_addPiano_95 : decode cX1_addPiano 95 = .ok (.ireturn, 1) := by decide +kernel
set_option maxRecDepth 20000 in
theorem ggX1_removePiano_X2_has : GoodIn wsX1_removePiano wsX2_has := goodIn_r _ [6] (by decide +kernel) (by decide +kernel)
set_option maxRecDepth 20000 in
theorem gX1_removePiano_X2_has_n87 : GoodIn wsX1_removePiano (wsX2_has) := ggX1_removePiano_X2_has
set_option maxRecDepth 20000 in
theorem ggX1_removePiano_J6_bitCount_0f7a4 : GoodIn wsX1_removePiano wsJ6_bitCount_0f7a4 := goodIn_r _ [10, 11, 12, 13] (by decide +kernel) (by decide +kernel)
set_option maxRecDepth 20000 in
theorem gX1_removePiano_J6_bitCount_0f7a4 : GoodIn wsX1_removePiano (va_wsS RX1 91 yJ6_bitCount_0f7a4 wsJ6_bitCount_0f7a4) := goodIn_app (goodIn_of _ (by decide +kernel)) ggX1_removePiano_J6_bitCount_0f7a4
theorem dX1_removePiano_0 : decode cX1_removePiano 0 = .ok (.aload_n 0, 1) := by decide +kernel
theorem dX1_removePiano_1 : decode cX1_removePiano 1 = .ok (.getfield 15, 3) := by decide +kernel
theorem dX1_removePiano_4 : decode cX1_removePiano 4 = .ok (.iload_n 1, 1) := by decide +kernel
theorem dX1_removePiano_5 : decode cX1_removePiano 5 = .ok (.invokestatic 87, 3) := by decide +kernel
theorem dX1_removePiano_8 : decode cX1_removePiano 8 = .ok (.ifCond .ne 5, 3) := by decide +kernel
theorem dX1_removePiano_11 : decode cX1_removePiano 11 = .ok (.iconst (-1), 1) := by decide +kernel
theorem dX1_removePiano_12 : decode cX1_removePiano 12 = .ok (.ireturn, 1) := by decide +kernel
theorem dX1_removePiano_13 : decode cX1_removePiano 13 = .ok (.iconst 1, 1) := by decide +kernel
theorem dX1_removePiano_14 : decode cX1_removePiano 14 = .ok (.iload_n 1, 1) := by decide +kernel
theorem dX1_removePiano_15 : decode cX1_removePiano 15 = .ok (.ishl, 1) := by decide +kernel
theorem dX1_removePiano_16 : decode cX1_removePiano 16 = .ok (.iconst (-1), 1) := by decide +kernel
theorem dX1_removePiano_17 : decode cX1_removePiano 17 = .ok (.ixor, 1) := by decide +kernel
theorem dX1_removePiano_18 : decode cX1_removePiano 18 = .ok (.istore_n 2, 1) := by decide +kernel
theorem dX1_removePiano_19 : decode cX1_removePiano 19 = .ok (.aload_n 0, 1) := by decide +kernel
theorem dX1_removePiano_20 : decode cX1_removePiano 20 = .ok (.dup, 1) := by decide +kernel
theorem dX1_removePiano_21 : decode cX1_removePiano 21 = .ok (.getfield 15, 3) := by decide +kernel
theorem dX1_removePiano_24 : decode cX1_removePiano 24 = .ok (.iload_n 2, 1) := by decide +kernel
theorem dX1_removePiano_25 : decode cX1_removePiano 25 = .ok (.iand, 1) := by decide +kernel
theorem dX1_removePiano_26 : decode cX1_removePiano 26 = .ok (.putfield 15, 3) := by decide +kernel
theorem dX1_removePiano_29 : decode cX1_removePiano 29 = .ok (.aload_n 0, 1) := by decide +kernel
theorem dX1_removePiano_30 : decode cX1_removePiano 30 = .ok (.dup, 1) := by decide +kernel
theorem dX1_removePiano_31 : decode cX1_removePiano 31 = .ok (.getfield 19, 3) := by decide +kernel
theorem dX1_removePiano_34 : decode cX1_removePiano 34 = .ok (.iload_n 2, 1) := by decide +kernel
theorem dX1_removePiano_35 : decode cX1_removePiano 35 = .ok (.iand, 1) := by decide +kernel
theorem dX1_removePiano_36 : decode cX1_removePiano 36 = .ok (.putfield 19, 3) := by decide +kernel
theorem dX1_removePiano_39 : decode cX1_removePiano 39 = .ok (.aload_n 0, 1) := by decide +kernel
theorem dX1_removePiano_40 : decode cX1_removePiano 40 = .ok (.dup, 1) := by decide +kernel
theorem dX1_removePiano_41 : decode cX1_removePiano 41 = .ok (.getfield 22, 3) := by decide +kernel
theorem dX1_removePiano_44 : decode cX1_removePiano 44 = .ok (.iload_n 2, 1) := by decide +kernel
theorem dX1_removePiano_45 : decode cX1_removePiano 45 = .ok (.iand, 1) := by decide +kernel
theorem dX1_removePiano_46 : decode cX1_removePiano 46 = .ok (.putfield 22, 3) := by decide +kernel
theorem dX1_removePiano_49 : decode cX1_removePiano 49 = .ok (.aload_n 0, 1) := by decide +kernel
theorem dX1_removePiano_50 : decode cX1_removePiano 50 = .ok (.getfield 15, 3) := by decide +kernel
theorem dX1_removePiano_53 : decode cX1_removePiano 53 = .ok (.invokestatic 91, 3) := by decide +kernel
theorem dX1_removePiano_56 : decode cX1_removePiano 56 = .ok (.ireturn, 1) := by decide +kernel
set_option maxRecDepth 20000 in
theorem ggX1_hireKeeper_X2_isPlace : GoodIn wsX1_hireKeeper wsX2_isPlace := goodIn_r _ [4] (by decide +kernel) (by decide +kernel)
set_option maxRecDepth 20000 in
theorem gX1_hireKeeper_X2_isPlace_n83 : GoodIn wsX1_hireKeeper (wsX2_isPlace) := ggX1_hireKeeper_X2_isPlace
set_option maxRecDepth 20000 in
theorem ggX1_hireKeeper_X1_addKeeper : GoodIn wsX1_hireKeeper wsX1_addKeeper := goodIn_r _ [9, 1, 10, 11, 12, 13, 14, 15, 16, 17, 18, 19, 20, 21, 22, 23, 24, 25, 26, 27, 28, 29, 30, 31, 32] (by decide +kernel) (by decide +kernel)
set_option maxRecDepth 20000 in
theorem gX1_hireKeeper_X1_addKeeper : GoodIn wsX1_hireKeeper (wsV RX1 97 RX1 yX1_addKeeper wsX1_addKeeper) := goodIn_app (goodIn_of _ (by decide +kernel)) ggX1_hireKeeper_X1_addKeeper
theorem dX1_hireKeeper_0 : decode cX1_hireKeeper 0 = .ok (.iload_n 1, 1) := by decide +kernel
theorem dX1_hireKeeper_1 : decode cX1_hireKeeper 1 = .ok (.invokestatic 83, 3) := by decide +kernel
theorem dX1_hireKeeper_4 : decode cX1_hireKeeper 4 = .ok (.ifCond .ne 5, 3) := by decide +kernel
theorem dX1_hireKeeper_7 : decode cX1_hireKeeper 7 = .ok (.iconst (-1), 1) := by decide +kernel
theorem dX1_hireKeeper_8 : decode cX1_hireKeeper 8 = .ok (.ireturn, 1) := by decide +kernel
theorem dX1_hireKeeper_9 : decode cX1_hireKeeper 9 = .ok (.aload_n 0, 1) := by decide +kernel
theorem dX1_hireKeeper_10 : decode cX1_hireKeeper 10 = .ok (.getfield 37, 3) := by decide +kernel
theorem dX1_hireKeeper_13 : decode cX1_hireKeeper 13 = .ok (.iconst 4, 1) := by decide +kernel
theorem dX1_hireKeeper_14 : decode cX1_hireKeeper 14 = .ok (.if_icmp .lt 6, 3) := by decide +kernel
theorem dX1_hireKeeper_17 : decode cX1_hireKeeper 17 = .ok (.bipush (-4), 2) := by decide +kernel
theorem dX1_hireKeeper_19 : decode cX1_hireKeeper 19 = .ok (.ireturn, 1) := by decide +kernel
theorem dX1_hireKeeper_20 : decode cX1_hireKeeper 20 = .ok (.aload_n 0, 1) := by decide +kernel
theorem dX1_hireKeeper_21 : decode cX1_hireKeeper 21 = .ok (.iload_n 1, 1) := by decide +kernel
theorem dX1_hireKeeper_22 : decode cX1_hireKeeper 22 = .ok (.invokevirtual 97, 3) := by decide +kernel
theorem dX1_hireKeeper_25 : decode cX1_hireKeeper 25 = .ok (.aload_n 0, 1) := by decide +kernel
theorem dX1_hireKeeper_26 : decode cX1_hireKeeper 26 = .ok (.getfield 37, 3) := by decide +kernel
theorem dX1_hireKeeper_29 : decode cX1_hireKeeper 29 = .ok (.iconst 1, 1) := by decide +kernel
theorem dX1_hireKeeper_30 : decode cX1_hireKeeper 30 = .ok (.isub, 1) := by decide +kernel
theorem dX1_hireKeeper_31 : decode cX1_hireKeeper 31 = .ok (.ireturn, 1) := by decide +kernel
theorem dX1_addKeeper_0 : decode cX1_addKeeper 0 = .ok (.aload_n 0, 1) := by decide +kernel
theorem dX1_addKeeper_1 : decode cX1_addKeeper 1 = .ok (.getfield 37, 3) := by decide +kernel
theorem dX1_addKeeper_4 : decode cX1_addKeeper 4 = .ok (.ifCond .lt 11, 3) := by decide +kernel
theorem dX1_addKeeper_7 : decode cX1_addKeeper 7 = .ok (.aload_n 0, 1) := by decide +kernel
theorem dX1_addKeeper_8 : decode cX1_addKeeper 8 = .ok (.getfield 37, 3) := by decide +kernel
theorem dX1_addKeeper_11 : decode cX1_addKeeper 11 = .ok (.iconst 4, 1) := by decide +kernel
theorem dX1_addKeeper_12 : decode cX1_addKeeper 12 = .ok (.if_icmp .le 4, 3) := by decide +kernel
theorem dX1_addKeeper_15 : decode cX1_addKeeper 15 = .ok (.return_, 1) := by decide +kernel
theorem dX1_addKeeper_16 : decode cX1_addKeeper 16 = .ok (.aload_n 0, 1) := by decide +kernel
theorem dX1_addKeeper_17 : decode cX1_addKeeper 17 = .ok (.getfield 40, 3) := by decide +kernel
theorem dX1_addKeeper_20 : decode cX1_addKeeper 20 = .ok (.aload_n 0, 1) := by decide +kernel
theorem dX1_addKeeper_21 : decode cX1_addKeeper 21 = .ok (.getfield 37, 3) := by decide +kernel
theorem dX1_addKeeper_24 : decode cX1_addKeeper 24 = .ok (.iload_n 1, 1) := by decide +kernel
theorem dX1_addKeeper_25 : decode cX1_addKeeper 25 = .ok (.iastore, 1) := by decide +kernel
theorem dX1_addKeeper_26 : decode cX1_addKeeper 26 = .ok (.aload_n 0, 1) := by decide +kernel
theorem dX1_addKeeper_27 : decode cX1_addKeeper 27 = .ok (.getfield 43, 3) := by decide +kernel
theorem dX1_addKeeper_30 : decode cX1_addKeeper 30 = .ok (.aload_n 0, 1) := by decide +kernel
theorem dX1_addKeeper_31 : decode cX1_addKeeper 31 = .ok (.getfield 37, 3) := by decide +kernel
theorem dX1_addKeeper_34 : decode cX1_addKeeper 34 = .ok (.iconst 0, 1) := by decide +kernel
theorem dX1_addKeeper_35 : decode cX1_addKeeper 35 = .ok (.iastore, 1) := by decide +kernel
theorem dX1_addKeeper_36 : decode cX1_addKeeper 36 = .ok (.aload_n 0, 1) := by decide +kernel
theorem dX1_addKeeper_37 : decode cX1_addKeeper 37 = .ok (.getfield 46, 3) := by decide +kernel
theorem dX1_addKeeper_40 : decode cX1_addKeeper 40 = .ok (.aload_n 0, 1) := by decide +kernel
theorem dX1_addKeeper_41 : decode cX1_addKeeper 41 = .ok (.getfield 37, 3) := by decide +kernel
theorem dX1_addKeeper_44 : decode cX1_addKeeper 44 = .ok (.iconst 0, 1) := by decide +kernel
theorem dX1_addKeeper_45 : decode cX1_addKeeper 45 = .ok (.iastore, 1) := by decide +kernel
theorem dX1_addKeeper_46 : decode cX1_addKeeper 46 = .ok (.aload_n 0, 1) := by decide +kernel
theorem dX1_addKeeper_47 : decode cX1_addKeeper 47 = .ok (.getfield 49, 3) := by decide +kernel
theorem dX1_addKeeper_50 : decode cX1_addKeeper 50 = .ok (.aload_n 0, 1) := by decide +kernel
theorem dX1_addKeeper_51 : decode cX1_addKeeper 51 = .ok (.getfield 37, 3) := by decide +kernel
theorem dX1_addKeeper_54 : decode cX1_addKeeper 54 = .ok (.iconst 0, 1) := by decide +kernel
theorem dX1_addKeeper_55 : decode cX1_addKeeper 55 = .ok (.iastore, 1) := by decide +kernel
theorem dX1_addKeeper_56 : decode cX1_addKeeper 56 = .ok (.aload_n 0, 1) := by decide +kernel
theorem dX1_addKeeper_57 : decode cX1_addKeeper 57 = .ok (.getfield 52, 3) := by decide +kernel
theorem dX1_addKeeper_60 : decode cX1_addKeeper 60 = .ok (.aload_n 0, 1) := by decide +kernel
theorem dX1_addKeeper_61 : decode cX1_addKeeper 61 = .ok (.getfield 37, 3) := by decide +kernel
theorem dX1_addKeeper_64 : decode cX1_addKeeper 64 = .ok (.iconst 0, 1) := by decide +kernel
theorem dX1_addKeeper_65 : decode cX1_addKeeper 65 = .ok (.iastore, 1) := by decide +kernel
theorem dX1_addKeeper_66 : decode cX1_addKeeper 66 = .ok (.aload_n 0, 1) := by decide +kernel
theorem dX1_addKeeper_67 : decode cX1_addKeeper 67 = .ok (.dup, 1) := by decide +kernel
theorem dX1_addKeeper_68 : decode cX1_addKeeper 68 = .ok (.getfield 37, 3) := by decide +kernel
theorem dX1_addKeeper_71 : decode cX1_addKeeper 71 = .ok (.iconst 1, 1) := by decide +kernel
theorem dX1_addKeeper_72 : decode cX1_addKeeper 72 = .ok (.iadd, 1) := by decide +kernel
theorem dX1_addKeeper_73 : decode cX1_addKeeper 73 = .ok (.putfield 37, 3) := by decide +kernel
theorem dX1_addKeeper_76 : decode cX1_addKeeper 76 = .ok (.return_, 1) := by decide +kernel
set_option maxRecDepth 20000 in
theorem ggX1_layCover_X2_has : GoodIn wsX1_layCover wsX2_has := goodIn_r _ [6] (by decide +kernel) (by decide +kernel)
set_option maxRecDepth 20000 in
theorem gX1_layCover_X2_has_n87 : GoodIn wsX1_layCover (wsX2_has) := ggX1_layCover_X2_has
set_option maxRecDepth 20000 in
theorem ggX1_layCover_J6_bitCount_0f7a4 : GoodIn wsX1_layCover wsJ6_bitCount_0f7a4 := goodIn_r _ [10, 11, 12, 13] (by decide +kernel) (by decide +kernel)
set_option maxRecDepth 20000 in
theorem gX1_layCover_J6_bitCount_0f7a4 : GoodIn wsX1_layCover (va_wsS RX1 91 yJ6_bitCount_0f7a4 wsJ6_bitCount_0f7a4) := goodIn_app (goodIn_of _ (by decide +kernel)) ggX1_layCover_J6_bitCount_0f7a4
theorem dX1_layCover_0 : decode cX1_layCover 0 = .ok (.aload_n 0, 1) := by decide +kernel
theorem dX1_layCover_1 : decode cX1_layCover 1 = .ok (.getfield 15, 3) := by decide +kernel
theorem dX1_layCover_4 : decode cX1_layCover 4 = .ok (.iload_n 1, 1) := by decide +kernel
theorem dX1_layCover_5 : decode cX1_layCover 5 = .ok (.invokestatic 87, 3) := by decide +kernel
theorem dX1_layCover_8 : decode cX1_layCover 8 = .ok (.ifCond .ne 5, 3) := by decide +kernel
theorem dX1_layCover_11 : decode cX1_layCover 11 = .ok (.iconst (-1), 1) := by decide +kernel
theorem dX1_layCover_12 : decode cX1_layCover 12 = .ok (.ireturn, 1) := by decide +kernel
theorem dX1_layCover_13 : decode cX1_layCover 13 = .ok (.aload_n 0, 1) := by decide +kernel
theorem dX1_layCover_14 : decode cX1_layCover 14 = .ok (.getfield 19, 3) := by decide +kernel
theorem dX1_layCover_17 : decode cX1_layCover 17 = .ok (.aload_n 0, 1) := by decide +kernel
theorem dX1_layCover_18 : decode cX1_layCover 18 = .ok (.getfield 22, 3) := by decide +kernel
theorem dX1_layCover_21 : decode cX1_layCover 21 = .ok (.ior, 1) := by decide +kernel
theorem dX1_layCover_22 : decode cX1_layCover 22 = .ok (.iload_n 1, 1) := by decide +kernel
theorem dX1_layCover_23 : decode cX1_layCover 23 = .ok (.invokestatic 87, 3) := by decide +kernel
theorem dX1_layCover_26 : decode cX1_layCover 26 = .ok (.ifCond .eq 6, 3) := by decide +kernel
theorem dX1_layCover_29 : decode cX1_layCover 29 = .ok (.bipush (-5), 2) := by decide +kernel
theorem dX1_layCover_31 : decode cX1_layCover 31 = .ok (.ireturn, 1) := by decide +kernel
theorem dX1_layCover_32 : decode cX1_layCover 32 = .ok (.aload_n 0, 1) := by decide +kernel
theorem dX1_layCover_33 : decode cX1_layCover 33 = .ok (.dup, 1) := by decide +kernel
theorem dX1_layCover_34 : decode cX1_layCover 34 = .ok (.getfield 19, 3) := by decide +kernel
theorem dX1_layCover_37 : decode cX1_layCover 37 = .ok (.iconst 1, 1) := by decide +kernel
theorem dX1_layCover_38 : decode cX1_layCover 38 = .ok (.iload_n 1, 1) := by decide +kernel
theorem dX1_layCover_39 : decode cX1_layCover 39 = .ok (.ishl, 1) := by decide +kernel
theorem dX1_layCover_40 : decode cX1_layCover 40 = .ok (.ior, 1) := by decide +kernel
theorem dX1_layCover_41 : decode cX1_layCover 41 = .ok (.putfield 19, 3) := by decide +kernel
theorem dX1_layCover_44 : decode cX1_layCover 44 = .ok (.aload_n 0, 1) := by decide +kernel
theorem dX1_layCover_45 : decode cX1_layCover 45 = .ok (.getfield 19, 3) := by decide +kernel
theorem dX1_layCover_48 : decode cX1_layCover 48 = .ok (.aload_n 0, 1) := by decide +kernel
theorem dX1_layCover_49 : decode cX1_layCover 49 = .ok (.getfield 22, 3) := by decide +kernel
theorem dX1_layCover_52 : decode cX1_layCover 52 = .ok (.ior, 1) := by decide +kernel
theorem dX1_layCover_53 : decode cX1_layCover 53 = .ok (.invokestatic 91, 3) := by decide +kernel
theorem dX1_layCover_56 : decode cX1_layCover 56 = .ok (.ireturn, 1) := by decide +kernel
set_option maxRecDepth 20000 in
theorem ggX1_passCounted_X1_passHours : GoodIn wsX1_passCounted wsX1_passHours := goodIn_r _ [6, 7, 1, 8, 9, 10, 5, 11, 12, 13, 14, 15, 16, 17, 18, 19, 20, 21, 22, 23, 24, 25, 26, 27, 28, 29, 30, 31, 32, 33, 34, 35, 36, 37, 38, 39, 40, 41, 42, 43, 44, 45, 46, 47, 48, 49, 50, 51, 52, 53, 54, 55, 56, 57, 58, 59, 60, 61, 62, 63, 64, 65, 66, 67, 68, 69, 70, 71, 72, 73, 74, 75, 76, 77, 78, 79, 80, 81, 82, 83, 84, 85, 86, 87, 88, 89, 90, 91, 92, 93, 94, 95, 96, 97, 98, 99, 100, 101, 102, 103, 104, 105, 106, 107, 108, 109, 110] (by decide +kernel) (by decide +kernel)
set_option maxRecDepth 20000 in
theorem gX1_passCounted_X1_passHours : GoodIn wsX1_passCounted (wsV RX1 101 RX1 yX1_passHours wsX1_passHours) := goodIn_app (goodIn_of _ (by decide +kernel)) ggX1_passCounted_X1_passHours
theorem dX1_passCounted_0 : decode cX1_passCounted 0 = .ok (.iload_n 1, 1) := by decide +kernel
theorem dX1_passCounted_1 : decode cX1_passCounted 1 = .ok (.iconst 1, 1) := by decide +kernel
theorem dX1_passCounted_2 : decode cX1_passCounted 2 = .ok (.if_icmp .lt 9, 3) := by decide +kernel
theorem dX1_passCounted_5 : decode cX1_passCounted 5 = .ok (.iload_n 1, 1) := by decide +kernel
theorem dX1_passCounted_6 : decode cX1_passCounted 6 = .ok (.bipush 99, 2) := by decide +kernel
theorem dX1_passCounted_8 : decode cX1_passCounted 8 = .ok (.if_icmp .le 6, 3) := by decide +kernel
theorem dX1_passCounted_11 : decode cX1_passCounted 11 = .ok (.bipush (-2), 2) := by decide +kernel
theorem dX1_passCounted_13 : decode cX1_passCounted 13 = .ok (.ireturn, 1) := by decide +kernel
theorem dX1_passCounted_14 : decode cX1_passCounted 14 = .ok (.aload_n 0, 1) := by decide +kernel
theorem dX1_passCounted_15 : decode cX1_passCounted 15 = .ok (.getfield 58, 3) := by decide +kernel
theorem dX1_passCounted_18 : decode cX1_passCounted 18 = .ok (.iload_n 1, 1) := by decide +kernel
theorem dX1_passCounted_19 : decode cX1_passCounted 19 = .ok (.iadd, 1) := by decide +kernel
theorem dX1_passCounted_20 : decode cX1_passCounted 20 = .ok (.sipush 9999, 3) := by decide +kernel
theorem dX1_passCounted_23 : decode cX1_passCounted 23 = .ok (.if_icmp .le 6, 3) := by decide +kernel
theorem dX1_passCounted_26 : decode cX1_passCounted 26 = .ok (.bipush (-5), 2) := by decide +kernel
theorem dX1_passCounted_28 : decode cX1_passCounted 28 = .ok (.ireturn, 1) := by decide +kernel
theorem dX1_passCounted_29 : decode cX1_passCounted 29 = .ok (.aload_n 0, 1) := by decide +kernel
theorem dX1_passCounted_30 : decode cX1_passCounted 30 = .ok (.iload_n 1, 1) := by decide +kernel
theorem dX1_passCounted_31 : decode cX1_passCounted 31 = .ok (.invokevirtual 101, 3) := by decide +kernel
theorem dX1_passCounted_34 : decode cX1_passCounted 34 = .ok (.ireturn, 1) := by decide +kernel
set_option maxRecDepth 20000 in
theorem ggX1_coverAt_X2_has : GoodIn wsX1_coverAt wsX2_has := goodIn_r _ [5] (by decide +kernel) (by decide +kernel)
set_option maxRecDepth 20000 in
theorem gX1_coverAt_X2_has_n87 : GoodIn wsX1_coverAt (wsX2_has) := ggX1_coverAt_X2_has
theorem dX1_coverAt_0 : decode cX1_coverAt 0 = .ok (.aload_n 0, 1) := by decide +kernel
theorem dX1_coverAt_1 : decode cX1_coverAt 1 = .ok (.getfield 22, 3) := by decide +kernel
theorem dX1_coverAt_4 : decode cX1_coverAt 4 = .ok (.iload_n 1, 1) := by decide +kernel
theorem dX1_coverAt_5 : decode cX1_coverAt 5 = .ok (.invokestatic 87, 3) := by decide +kernel
theorem dX1_coverAt_8 : decode cX1_coverAt 8 = .ok (.ifCond .eq 5, 3) := by decide +kernel
theorem dX1_coverAt_11 : decode cX1_coverAt 11 = .ok (.iconst 2, 1) := by decide +kernel
theorem dX1_coverAt_12 : decode cX1_coverAt 12 = .ok (.ireturn, 1) := by decide +kernel
theorem dX1_coverAt_13 : decode cX1_coverAt 13 = .ok (.aload_n 0, 1) := by decide +kernel
theorem dX1_coverAt_14 : decode cX1_coverAt 14 = .ok (.getfield 19, 3) := by decide +kernel
theorem dX1_coverAt_17 : decode cX1_coverAt 17 = .ok (.iload_n 1, 1) := by decide +kernel
theorem dX1_coverAt_18 : decode cX1_coverAt 18 = .ok (.invokestatic 87, 3) := by decide +kernel
theorem dX1_coverAt_21 : decode cX1_coverAt 21 = .ok (.ifCond .eq 7, 3) := by decide +kernel
theorem dX1_coverAt_24 : decode cX1_coverAt 24 = .ok (.iconst 1, 1) := by decide +kernel
theorem dX1_coverAt_25 : decode cX1_coverAt 25 = .ok (.goto 4, 3) := by decide +kernel
theorem dX1_coverAt_28 : decode cX1_coverAt 28 = .ok (.iconst 0, 1) := by decide +kernel
theorem dX1_coverAt_29 : decode cX1_coverAt 29 = .ok (.ireturn, 1) := by decide +kernel
theorem dX1_keepersAt_0 : decode cX1_keepersAt 0 = .ok (.iconst 0, 1) := by decide +kernel
theorem dX1_keepersAt_1 : decode cX1_keepersAt 1 = .ok (.istore_n 2, 1) := by decide +kernel
theorem dX1_keepersAt_2 : decode cX1_keepersAt 2 = .ok (.iconst 0, 1) := by decide +kernel
theorem dX1_keepersAt_3 : decode cX1_keepersAt 3 = .ok (.istore_n 3, 1) := by decide +kernel
theorem dX1_keepersAt_4 : decode cX1_keepersAt 4 = .ok (.iload_n 3, 1) := by decide +kernel
theorem dX1_keepersAt_5 : decode cX1_keepersAt 5 = .ok (.aload_n 0, 1) := by decide +kernel
theorem dX1_keepersAt_6 : decode cX1_keepersAt 6 = .ok (.getfield 37, 3) := by decide +kernel
theorem dX1_keepersAt_9 : decode cX1_keepersAt 9 = .ok (.if_icmp .ge 27, 3) := by decide +kernel
theorem dX1_keepersAt_12 : decode cX1_keepersAt 12 = .ok (.iload_n 3, 1) := by decide +kernel
theorem dX1_keepersAt_13 : decode cX1_keepersAt 13 = .ok (.iconst 4, 1) := by decide +kernel
theorem dX1_keepersAt_14 : decode cX1_keepersAt 14 = .ok (.if_icmp .gt 22, 3) := by decide +kernel
theorem dX1_keepersAt_17 : decode cX1_keepersAt 17 = .ok (.aload_n 0, 1) := by decide +kernel
theorem dX1_keepersAt_18 : decode cX1_keepersAt 18 = .ok (.getfield 40, 3) := by decide +kernel
theorem dX1_keepersAt_21 : decode cX1_keepersAt 21 = .ok (.iload_n 3, 1) := by decide +kernel
theorem dX1_keepersAt_22 : decode cX1_keepersAt 22 = .ok (.iaload, 1) := by decide +kernel
theorem dX1_keepersAt_23 : decode cX1_keepersAt 23 = .ok (.iload_n 1, 1) := by decide +kernel
theorem dX1_keepersAt_24 : decode cX1_keepersAt 24 = .ok (.if_icmp .ne 6, 3) := by decide +kernel
theorem dX1_keepersAt_27 : decode cX1_keepersAt 27 = .ok (.iinc 2 1, 3) := by decide +kernel
theorem dX1_keepersAt_30 : decode cX1_keepersAt 30 = .ok (.iinc 3 1, 3) := by decide +kernel
theorem dX1_keepersAt_33 : decode cX1_keepersAt 33 = .ok (.goto (-29), 3) := by decide +kernel
theorem dX1_keepersAt_36 : decode cX1_keepersAt 36 = .ok (.iload_n 2, 1) := by decide +kernel
theorem dX1_keepersAt_37 : decode cX1_keepersAt 37 = .ok (.ireturn, 1) := by decide +kernel
theorem dX1_rainsAfter_0 : decode cX1_rainsAfter 0 = .ok (.aload_n 0, 1) := by decide +kernel
theorem dX1_rainsAfter_1 : decode cX1_rainsAfter 1 = .ok (.getfield 55, 3) := by decide +kernel
theorem dX1_rainsAfter_4 : decode cX1_rainsAfter 4 = .ok (.aload_n 0, 1) := by decide +kernel
theorem dX1_rainsAfter_5 : decode cX1_rainsAfter 5 = .ok (.getfield 58, 3) := by decide +kernel
theorem dX1_rainsAfter_8 : decode cX1_rainsAfter 8 = .ok (.iload_n 1, 1) := by decide +kernel
theorem dX1_rainsAfter_9 : decode cX1_rainsAfter 9 = .ok (.iadd, 1) := by decide +kernel
theorem dX1_rainsAfter_10 : decode cX1_rainsAfter 10 = .ok (.bipush 24, 2) := by decide +kernel
theorem dX1_rainsAfter_12 : decode cX1_rainsAfter 12 = .ok (.irem, 1) := by decide +kernel
theorem dX1_rainsAfter_13 : decode cX1_rainsAfter 13 = .ok (.iushr, 1) := by decide +kernel
theorem dX1_rainsAfter_14 : decode cX1_rainsAfter 14 = .ok (.iconst 1, 1) := by decide +kernel
theorem dX1_rainsAfter_15 : decode cX1_rainsAfter 15 = .ok (.iand, 1) := by decide +kernel
theorem dX1_rainsAfter_16 : decode cX1_rainsAfter 16 = .ok (.iconst 1, 1) := by decide +kernel
theorem dX1_rainsAfter_17 : decode cX1_rainsAfter 17 = .ok (.if_icmp .ne 7, 3) := by decide +kernel
theorem dX1_rainsAfter_20 : decode cX1_rainsAfter 20 = .ok (.iconst 1, 1) := by decide +kernel
theorem dX1_rainsAfter_21 : decode cX1_rainsAfter 21 = .ok (.goto 4, 3) := by decide +kernel
theorem dX1_rainsAfter_24 : decode cX1_rainsAfter 24 = .ok (.iconst 0, 1) := by decide +kernel
theorem dX1_rainsAfter_25 : decode cX1_rainsAfter 25 = .ok (.ireturn, 1) := by decide +kernel
set_option maxRecDepth 20000 in
theorem ggX1_hoursUntilRain_X1_rainsAfter : GoodIn wsX1_hoursUntilRain wsX1_rainsAfter := goodIn_r _ [5, 6, 7, 8, 9, 10, 11, 12, 13, 14, 15, 16, 17, 18, 19, 20, 21, 22, 23, 24, 25] (by decide +kernel) (by decide +kernel)
set_option maxRecDepth 20000 in
theorem gX1_hoursUntilRain_X1_rainsAfter : GoodIn wsX1_hoursUntilRain (wsV RX1 104 RX1 yX1_rainsAfter wsX1_rainsAfter) := goodIn_app (goodIn_of _ (by decide +kernel)) ggX1_hoursUntilRain_X1_rainsAfter
theorem dX1_hoursUntilRain_0 : decode cX1_hoursUntilRain 0 = .ok (.iconst 0, 1) := by decide +kernel
theorem dX1_hoursUntilRain_1 : decode cX1_hoursUntilRain 1 = .ok (.istore_n 1, 1) := by decide +kernel
theorem dX1_hoursUntilRain_2 : decode cX1_hoursUntilRain 2 = .ok (.iload_n 1, 1) := by decide +kernel
theorem dX1_hoursUntilRain_3 : decode cX1_hoursUntilRain 3 = .ok (.bipush 24, 2) := by decide +kernel
theorem dX1_hoursUntilRain_5 : decode cX1_hoursUntilRain 5 = .ok (.if_icmp .ge 19, 3) := by decide +kernel
theorem dX1_hoursUntilRain_8 : decode cX1_hoursUntilRain 8 = .ok (.aload_n 0, 1) := by decide +kernel
theorem dX1_hoursUntilRain_9 : decode cX1_hoursUntilRain 9 = .ok (.iload_n 1, 1) := by decide +kernel
theorem dX1_hoursUntilRain_10 : decode cX1_hoursUntilRain 10 = .ok (.invokevirtual 104, 3) := by decide +kernel
theorem dX1_hoursUntilRain_13 : decode cX1_hoursUntilRain 13 = .ok (.ifCond .eq 5, 3) := by decide +kernel
theorem dX1_hoursUntilRain_16 : decode cX1_hoursUntilRain 16 = .ok (.iload_n 1, 1) := by decide +kernel
theorem dX1_hoursUntilRain_17 : decode cX1_hoursUntilRain 17 = .ok (.ireturn, 1) := by decide +kernel
theorem dX1_hoursUntilRain_18 : decode cX1_hoursUntilRain 18 = .ok (.iinc 1 1, 3) := by decide +kernel
theorem dX1_hoursUntilRain_21 : decode cX1_hoursUntilRain 21 = .ok (.goto (-19), 3) := by decide +kernel
theorem dX1_hoursUntilRain_24 : decode cX1_hoursUntilRain 24 = .ok (.bipush (-6), 2) := by decide +kernel
theorem dX1_hoursUntilRain_26 : decode cX1_hoursUntilRain 26 = .ok (.ireturn, 1) := by decide +kernel
set_option maxRecDepth 20000 in
theorem ggX1_rainIsAhead_X1_rainsAfter : GoodIn wsX1_rainIsAhead wsX1_rainsAfter := goodIn_r _ [6, 7, 8, 9, 10, 11, 12, 13, 14, 15, 16, 17, 18, 19, 20, 21, 22, 23, 24, 25, 26] (by decide +kernel) (by decide +kernel)
set_option maxRecDepth 20000 in
theorem gX1_rainIsAhead_X1_rainsAfter : GoodIn wsX1_rainIsAhead (wsV RX1 104 RX1 yX1_rainsAfter wsX1_rainsAfter) := goodIn_app (goodIn_of _ (by decide +kernel)) ggX1_rainIsAhead_X1_rainsAfter
theorem dX1_rainIsAhead_0 : decode cX1_rainIsAhead 0 = .ok (.iconst 0, 1) := by decide +kernel
theorem dX1_rainIsAhead_1 : decode cX1_rainIsAhead 1 = .ok (.istore_n 1, 1) := by decide +kernel
theorem dX1_rainIsAhead_2 : decode cX1_rainIsAhead 2 = .ok (.iload_n 1, 1) := by decide +kernel
theorem dX1_rainIsAhead_3 : decode cX1_rainIsAhead 3 = .ok (.aload_n 0, 1) := by decide +kernel
theorem dX1_rainIsAhead_4 : decode cX1_rainIsAhead 4 = .ok (.getfield 9, 3) := by decide +kernel
theorem dX1_rainIsAhead_7 : decode cX1_rainIsAhead 7 = .ok (.iconst 0, 1) := by decide +kernel
theorem dX1_rainIsAhead_8 : decode cX1_rainIsAhead 8 = .ok (.iaload, 1) := by decide +kernel
theorem dX1_rainIsAhead_9 : decode cX1_rainIsAhead 9 = .ok (.if_icmp .gt 25, 3) := by decide +kernel
theorem dX1_rainIsAhead_12 : decode cX1_rainIsAhead 12 = .ok (.iload_n 1, 1) := by decide +kernel
theorem dX1_rainIsAhead_13 : decode cX1_rainIsAhead 13 = .ok (.bipush 24, 2) := by decide +kernel
theorem dX1_rainIsAhead_15 : decode cX1_rainIsAhead 15 = .ok (.if_icmp .ge 19, 3) := by decide +kernel
theorem dX1_rainIsAhead_18 : decode cX1_rainIsAhead 18 = .ok (.aload_n 0, 1) := by decide +kernel
theorem dX1_rainIsAhead_19 : decode cX1_rainIsAhead 19 = .ok (.iload_n 1, 1) := by decide +kernel
theorem dX1_rainIsAhead_20 : decode cX1_rainIsAhead 20 = .ok (.invokevirtual 104, 3) := by decide +kernel
theorem dX1_rainIsAhead_23 : decode cX1_rainIsAhead 23 = .ok (.ifCond .eq 5, 3) := by decide +kernel
theorem dX1_rainIsAhead_26 : decode cX1_rainIsAhead 26 = .ok (.iconst 1, 1) := by decide +kernel
theorem dX1_rainIsAhead_27 : decode cX1_rainIsAhead 27 = .ok (.ireturn, 1) := by decide +kernel
theorem dX1_rainIsAhead_28 : decode cX1_rainIsAhead 28 = .ok (.iinc 1 1, 3) := by decide +kernel
theorem dX1_rainIsAhead_31 : decode cX1_rainIsAhead 31 = .ok (.goto (-29), 3) := by decide +kernel
theorem dX1_rainIsAhead_34 : decode cX1_rainIsAhead 34 = .ok (.iconst 0, 1) := by decide +kernel
theorem dX1_rainIsAhead_35 : decode cX1_rainIsAhead 35 = .ok (.ireturn, 1) := by decide +kernel
set_option maxRecDepth 20000 in
theorem ggX1_passHours_X1_letKeepersAct : GoodIn wsX1_passHours wsX1_letKeepersAct := goodIn_r _ [7, 8, 9, 10, 11, 12, 13, 14, 6, 15, 16, 17, 18, 19, 20, 21, 2, 22, 23, 24, 25, 26, 27, 28, 29, 30, 31, 32, 33, 34, 35, 36, 37, 38, 39, 40, 41, 42, 43, 44, 45, 46, 47, 48, 49, 50, 51, 52, 53, 54, 55, 56, 57, 58, 59, 60, 61, 89, 90, 91, 92, 93, 94, 95, 96, 97, 98, 99, 100, 101, 102, 103, 104, 105, 106] (by decide +kernel) (by decide +kernel)
set_option maxRecDepth 20000 in
theorem gX1_passHours_X1_letKeepersAct : GoodIn wsX1_passHours (wsV RX1 107 RX1 yX1_letKeepersAct wsX1_letKeepersAct) := goodIn_app (goodIn_of _ (by decide +kernel)) ggX1_passHours_X1_letKeepersAct
set_option maxRecDepth 20000 in
theorem ggX1_passHours_X1_rainsAfter : GoodIn wsX1_passHours wsX1_rainsAfter := goodIn_r _ [20, 21, 2, 89, 90, 91, 92, 93, 94, 95, 96, 97, 98, 99, 100, 101, 102, 103, 104, 105, 106] (by decide +kernel) (by decide +kernel)
set_option maxRecDepth 20000 in
theorem gX1_passHours_X1_rainsAfter : GoodIn wsX1_passHours (wsV RX1 104 RX1 yX1_rainsAfter wsX1_rainsAfter) := goodIn_app (goodIn_of _ (by decide +kernel)) ggX1_passHours_X1_rainsAfter
set_option maxRecDepth 20000 in
theorem ggX1_passHours_X1_letRainFall : GoodIn wsX1_passHours wsX1_letRainFall := goodIn_r _ [65, 66, 16, 47, 48, 49, 50, 32, 67, 68, 69, 70, 33, 34, 35, 6, 36, 37, 10, 25, 26, 27, 89, 90, 91, 92, 93, 94, 95, 96, 97, 98, 99, 100, 101, 102, 103, 104, 105, 106] (by decide +kernel) (by decide +kernel)
set_option maxRecDepth 20000 in
theorem gX1_passHours_X1_letRainFall : GoodIn wsX1_passHours (wsV RX1 110 RX1 yX1_letRainFall wsX1_letRainFall) := goodIn_app (goodIn_of _ (by decide +kernel)) ggX1_passHours_X1_letRainFall
set_option maxRecDepth 20000 in
theorem ggX1_passHours_X1_letPianosDry : GoodIn wsX1_passHours wsX1_letPianosDry := goodIn_r _ [74, 66, 16, 67, 68, 49, 69, 33, 34, 35, 6, 36, 37, 10, 25, 26, 27, 89, 90, 91, 92, 93, 94, 95, 96, 97, 98, 99, 100, 101, 102, 103, 104, 105, 106] (by decide +kernel) (by decide +kernel)
set_option maxRecDepth 20000 in
theorem gX1_passHours_X1_letPianosDry : GoodIn wsX1_passHours (wsV RX1 113 RX1 yX1_letPianosDry wsX1_letPianosDry) := goodIn_app (goodIn_of _ (by decide +kernel)) ggX1_passHours_X1_letPianosDry
set_option maxRecDepth 20000 in
theorem ggX1_passHours_X1_letPianosBePlayed : GoodIn wsX1_passHours wsX1_letPianosBePlayed := goodIn_r _ [78, 2, 66, 16, 32, 79, 1, 67, 68, 49, 69, 33, 34, 35, 6, 36, 37, 10, 25, 26, 27, 89, 90, 91, 92, 93, 94, 95, 96, 97, 98, 99, 100, 101, 102, 103, 104, 105, 106] (by decide +kernel) (by decide +kernel)
set_option maxRecDepth 20000 in
theorem gX1_passHours_X1_letPianosBePlayed : GoodIn wsX1_passHours (wsV RX1 116 RX1 yX1_letPianosBePlayed wsX1_letPianosBePlayed) := goodIn_app (goodIn_of _ (by decide +kernel)) ggX1_passHours_X1_letPianosBePlayed
set_option maxRecDepth 20000 in
theorem ggX1_passHours_X1_letThievesCome : GoodIn wsX1_passHours wsX1_letThievesCome := goodIn_r _ [83, 2, 16, 9, 84, 25, 26, 27, 85, 86, 87, 6, 88, 8, 11, 89, 90, 91, 92, 93, 94, 95, 96, 97, 98, 99, 100, 101, 102, 103, 104, 105, 106] (by decide +kernel) (by decide +kernel)
set_option maxRecDepth 20000 in
theorem gX1_passHours_X1_letThievesCome : GoodIn wsX1_passHours (wsV RX1 119 RX1 yX1_letThievesCome wsX1_letThievesCome) := goodIn_app (goodIn_of _ (by decide +kernel)) ggX1_passHours_X1_letThievesCome
theorem dX1_passHours_0 : decode cX1_passHours 0 = .ok (.aload_n 0, 1) := by decide +kernel
theorem dX1_passHours_1 : decode cX1_passHours 1 = .ok (.getfield 61, 3) := by decide +kernel
theorem dX1_passHours_4 : decode cX1_passHours 4 = .ok (.istore_n 2, 1) := by decide +kernel
theorem dX1_passHours_5 : decode cX1_passHours 5 = .ok (.iconst 0, 1) := by decide +kernel
theorem dX1_passHours_6 : decode cX1_passHours 6 = .ok (.istore_n 3, 1) := by decide +kernel
theorem dX1_passHours_7 : decode cX1_passHours 7 = .ok (.iload_n 3, 1) := by decide +kernel
theorem dX1_passHours_8 : decode cX1_passHours 8 = .ok (.iload_n 1, 1) := by decide +kernel
theorem dX1_passHours_9 : decode cX1_passHours 9 = .ok (.if_icmp .ge 50, 3) := by decide +kernel
theorem dX1_passHours_12 : decode cX1_passHours 12 = .ok (.aload_n 0, 1) := by decide +kernel
theorem dX1_passHours_13 : decode cX1_passHours 13 = .ok (.invokevirtual 107, 3) := by decide +kernel
theorem dX1_passHours_16 : decode cX1_passHours 16 = .ok (.aload_n 0, 1) := by decide +kernel
theorem dX1_passHours_17 : decode cX1_passHours 17 = .ok (.iconst 0, 1) := by decide +kernel
theorem dX1_passHours_18 : decode cX1_passHours 18 = .ok (.invokevirtual 104, 3) := by decide +kernel
theorem dX1_passHours_21 : decode cX1_passHours 21 = .ok (.ifCond .eq 10, 3) := by decide +kernel
theorem dX1_passHours_24 : decode cX1_passHours 24 = .ok (.aload_n 0, 1) := by decide +kernel
theorem dX1_passHours_25 : decode cX1_passHours 25 = .ok (.invokevirtual 110, 3) := by decide +kernel
theorem dX1_passHours_28 : decode cX1_passHours 28 = .ok (.goto 11, 3) := by decide +kernel
theorem dX1_passHours_31 : decode cX1_passHours 31 = .ok (.aload_n 0, 1) := by decide +kernel
theorem dX1_passHours_32 : decode cX1_passHours 32 = .ok (.invokevirtual 113, 3) := by decide +kernel
theorem dX1_passHours_35 : decode cX1_passHours 35 = .ok (.aload_n 0, 1) := by decide +kernel
theorem dX1_passHours_36 : decode cX1_passHours 36 = .ok (.invokevirtual 116, 3) := by decide +kernel
theorem dX1_passHours_39 : decode cX1_passHours 39 = .ok (.aload_n 0, 1) := by decide +kernel
theorem dX1_passHours_40 : decode cX1_passHours 40 = .ok (.invokevirtual 119, 3) := by decide +kernel
theorem dX1_passHours_43 : decode cX1_passHours 43 = .ok (.aload_n 0, 1) := by decide +kernel
theorem dX1_passHours_44 : decode cX1_passHours 44 = .ok (.dup, 1) := by decide +kernel
theorem dX1_passHours_45 : decode cX1_passHours 45 = .ok (.getfield 58, 3) := by decide +kernel
theorem dX1_passHours_48 : decode cX1_passHours 48 = .ok (.iconst 1, 1) := by decide +kernel
theorem dX1_passHours_49 : decode cX1_passHours 49 = .ok (.iadd, 1) := by decide +kernel
theorem dX1_passHours_50 : decode cX1_passHours 50 = .ok (.putfield 58, 3) := by decide +kernel
theorem dX1_passHours_53 : decode cX1_passHours 53 = .ok (.iinc 3 1, 3) := by decide +kernel
theorem dX1_passHours_56 : decode cX1_passHours 56 = .ok (.goto (-49), 3) := by decide +kernel
theorem dX1_passHours_59 : decode cX1_passHours 59 = .ok (.aload_n 0, 1) := by decide +kernel
theorem dX1_passHours_60 : decode cX1_passHours 60 = .ok (.getfield 61, 3) := by decide +kernel
theorem dX1_passHours_63 : decode cX1_passHours 63 = .ok (.iload_n 2, 1) := by decide +kernel
theorem dX1_passHours_64 : decode cX1_passHours 64 = .ok (.isub, 1) := by decide +kernel
theorem dX1_passHours_65 : decode cX1_passHours 65 = .ok (.ireturn, 1) := by decide +kernel
set_option maxRecDepth 20000 in
theorem ggX1_letKeepersAct_X1_rainIsAhead : GoodIn wsX1_letKeepersAct wsX1_rainIsAhead := goodIn_r _ [9, 10, 11, 12, 13, 8, 14, 15, 16, 57, 58, 59, 60, 61, 62, 63, 64, 65, 66, 67, 68, 69, 70, 71, 72, 73, 74] (by decide +kernel) (by decide +kernel)
set_option maxRecDepth 20000 in
theorem gX1_letKeepersAct_X1_rainIsAhead : GoodIn wsX1_letKeepersAct (wsV RX1 122 RX1 yX1_rainIsAhead wsX1_rainIsAhead) := goodIn_app (goodIn_of _ (by decide +kernel)) ggX1_letKeepersAct_X1_rainIsAhead
set_option maxRecDepth 20000 in
theorem ggX1_letKeepersAct_X1_nearest : GoodIn wsX1_letKeepersAct wsX1_nearest := goodIn_r _ [19, 20, 21, 22] (by decide +kernel) (by decide +kernel)
set_option maxRecDepth 20000 in
theorem gX1_letKeepersAct_X1_nearest : GoodIn wsX1_letKeepersAct (va_wsS RX1 126 yX1_nearest wsX1_nearest) := goodIn_app (goodIn_of _ (by decide +kernel)) ggX1_letKeepersAct_X1_nearest
set_option maxRecDepth 20000 in
theorem ggX1_letKeepersAct_X1_outOfTune : GoodIn wsX1_letKeepersAct wsX1_outOfTune := goodIn_r _ [26, 27, 10, 28, 29, 30, 8, 31, 32, 3, 20, 21, 22, 57, 58, 59, 60, 61, 62, 63, 64, 65, 66, 67, 68, 69, 70, 71, 72, 73, 74] (by decide +kernel) (by decide +kernel)
set_option maxRecDepth 20000 in
theorem gX1_letKeepersAct_X1_outOfTune : GoodIn wsX1_letKeepersAct (wsV RX1 130 RX1 yX1_outOfTune wsX1_outOfTune) := goodIn_app (goodIn_of _ (by decide +kernel)) ggX1_letKeepersAct_X1_outOfTune
set_option maxRecDepth 20000 in
theorem ggX1_letKeepersAct_X1_goTowards : GoodIn wsX1_letKeepersAct wsX1_goTowards := goodIn_r _ [36, 4, 37, 57, 58, 59, 60, 61, 62, 63, 64, 65, 66, 67, 68, 69, 70, 71, 72, 73, 74] (by decide +kernel) (by decide +kernel)
set_option maxRecDepth 20000 in
theorem gX1_letKeepersAct_X1_goTowards : GoodIn wsX1_letKeepersAct (wsV RX1 134 RX1 yX1_goTowards wsX1_goTowards) := goodIn_app (goodIn_of _ (by decide +kernel)) ggX1_letKeepersAct_X1_goTowards
set_option maxRecDepth 20000 in
theorem ggX1_letKeepersAct_X1_tune : GoodIn wsX1_letKeepersAct wsX1_tune := goodIn_r _ [41, 27, 42, 43, 44, 45, 46, 57, 58, 59, 60, 61, 62, 63, 64, 65, 66, 67, 68, 69, 70, 71, 72, 73, 74] (by decide +kernel) (by decide +kernel)
set_option maxRecDepth 20000 in
theorem gX1_letKeepersAct_X1_tune : GoodIn wsX1_letKeepersAct (wsV RX1 138 RX1 yX1_tune wsX1_tune) := goodIn_app (goodIn_of _ (by decide +kernel)) ggX1_letKeepersAct_X1_tune
set_option maxRecDepth 20000 in
theorem ggX1_letKeepersAct_X1_putCoverOn : GoodIn wsX1_letKeepersAct wsX1_putCoverOn := goodIn_r _ [50, 2, 3, 51, 57, 58, 59, 60, 61, 62, 63, 64, 65, 66, 67, 68, 69, 70, 71, 72, 73, 74] (by decide +kernel) (by decide +kernel)
set_option maxRecDepth 20000 in
theorem gX1_letKeepersAct_X1_putCoverOn : GoodIn wsX1_letKeepersAct (wsV RX1 141 RX1 yX1_putCoverOn wsX1_putCoverOn) := goodIn_app (goodIn_of _ (by decide +kernel)) ggX1_letKeepersAct_X1_putCoverOn
set_option maxRecDepth 20000 in
theorem ggX1_letKeepersAct_X1_takeCoverOff : GoodIn wsX1_letKeepersAct wsX1_takeCoverOff := goodIn_r _ [55, 3, 2, 56, 57, 58, 59, 60, 61, 62, 63, 64, 65, 66, 67, 68, 69, 70, 71, 72, 73, 74] (by decide +kernel) (by decide +kernel)
set_option maxRecDepth 20000 in
theorem gX1_letKeepersAct_X1_takeCoverOff : GoodIn wsX1_letKeepersAct (wsV RX1 144 RX1 yX1_takeCoverOff wsX1_takeCoverOff) := goodIn_app (goodIn_of _ (by decide +kernel)) ggX1_letKeepersAct_X1_takeCoverOff
theorem dX1_letKeepersAct_0 : decode cX1_letKeepersAct 0 = .ok (.aload_n 0, 1) := by decide +kernel
theorem dX1_letKeepersAct_1 : decode cX1_letKeepersAct 1 = .ok (.invokevirtual 122, 3) := by decide +kernel
theorem dX1_letKeepersAct_4 : decode cX1_letKeepersAct 4 = .ok (.istore_n 1, 1) := by decide +kernel
theorem dX1_letKeepersAct_5 : decode cX1_letKeepersAct 5 = .ok (.iconst 0, 1) := by decide +kernel
theorem dX1_letKeepersAct_6 : decode cX1_letKeepersAct 6 = .ok (.istore_n 2, 1) := by decide +kernel
theorem dX1_letKeepersAct_7 : decode cX1_letKeepersAct 7 = .ok (.iconst 0, 1) := by decide +kernel
theorem dX1_letKeepersAct_8 : decode cX1_letKeepersAct 8 = .ok (.istore_n 3, 1) := by decide +kernel
theorem dX1_letKeepersAct_9 : decode cX1_letKeepersAct 9 = .ok (.iload_n 3, 1) := by decide +kernel
theorem dX1_letKeepersAct_10 : decode cX1_letKeepersAct 10 = .ok (.aload_n 0, 1) := by decide +kernel
theorem dX1_letKeepersAct_11 : decode cX1_letKeepersAct 11 = .ok (.getfield 37, 3) := by decide +kernel
theorem dX1_letKeepersAct_14 : decode cX1_letKeepersAct 14 = .ok (.if_icmp .ge 156, 3) := by decide +kernel
theorem dX1_letKeepersAct_17 : decode cX1_letKeepersAct 17 = .ok (.iload_n 3, 1) := by decide +kernel
theorem dX1_letKeepersAct_18 : decode cX1_letKeepersAct 18 = .ok (.iconst 4, 1) := by decide +kernel
theorem dX1_letKeepersAct_19 : decode cX1_letKeepersAct 19 = .ok (.if_icmp .gt 151, 3) := by decide +kernel
theorem dX1_letKeepersAct_22 : decode cX1_letKeepersAct 22 = .ok (.iload_n 1, 1) := by decide +kernel
theorem dX1_letKeepersAct_23 : decode cX1_letKeepersAct 23 = .ok (.ifCond .eq 10, 3) := by decide +kernel
theorem dX1_letKeepersAct_26 : decode cX1_letKeepersAct 26 = .ok (.aload_n 0, 1) := by decide +kernel
theorem dX1_letKeepersAct_27 : decode cX1_letKeepersAct 27 = .ok (.getfield 19, 3) := by decide +kernel
theorem dX1_letKeepersAct_30 : decode cX1_letKeepersAct 30 = .ok (.goto 7, 3) := by decide +kernel
theorem dX1_letKeepersAct_33 : decode cX1_letKeepersAct 33 = .ok (.aload_n 0, 1) := by decide +kernel
theorem dX1_letKeepersAct_34 : decode cX1_letKeepersAct 34 = .ok (.getfield 22, 3) := by decide +kernel
theorem dX1_letKeepersAct_37 : decode cX1_letKeepersAct 37 = .ok (.iload_n 2, 1) := by decide +kernel
theorem dX1_letKeepersAct_38 : decode cX1_letKeepersAct 38 = .ok (.iconst (-1), 1) := by decide +kernel
theorem dX1_letKeepersAct_39 : decode cX1_letKeepersAct 39 = .ok (.ixor, 1) := by decide +kernel
theorem dX1_letKeepersAct_40 : decode cX1_letKeepersAct 40 = .ok (.iand, 1) := by decide +kernel
theorem dX1_letKeepersAct_41 : decode cX1_letKeepersAct 41 = .ok (.aload_n 0, 1) := by decide +kernel
theorem dX1_letKeepersAct_42 : decode cX1_letKeepersAct 42 = .ok (.getfield 40, 3) := by decide +kernel
theorem dX1_letKeepersAct_45 : decode cX1_letKeepersAct 45 = .ok (.iload_n 3, 1) := by decide +kernel
theorem dX1_letKeepersAct_46 : decode cX1_letKeepersAct 46 = .ok (.iaload, 1) := by decide +kernel
theorem dX1_letKeepersAct_47 : decode cX1_letKeepersAct 47 = .ok (.invokestatic 126, 3) := by decide +kernel
theorem dX1_letKeepersAct_50 : decode cX1_letKeepersAct 50 = .ok (.istore 4, 2) := by decide +kernel
theorem dX1_letKeepersAct_52 : decode cX1_letKeepersAct 52 = .ok (.iload 4, 2) := by decide +kernel
theorem dX1_letKeepersAct_54 : decode cX1_letKeepersAct 54 = .ok (.bipush (-6), 2) := by decide +kernel
theorem dX1_letKeepersAct_56 : decode cX1_letKeepersAct 56 = .ok (.if_icmp .ne 7, 3) := by decide +kernel
theorem dX1_letKeepersAct_59 : decode cX1_letKeepersAct 59 = .ok (.iconst 1, 1) := by decide +kernel
theorem dX1_letKeepersAct_60 : decode cX1_letKeepersAct 60 = .ok (.goto 4, 3) := by decide +kernel
theorem dX1_letKeepersAct_63 : decode cX1_letKeepersAct 63 = .ok (.iconst 0, 1) := by decide +kernel
theorem dX1_letKeepersAct_64 : decode cX1_letKeepersAct 64 = .ok (.istore 5, 2) := by decide +kernel
theorem dX1_letKeepersAct_66 : decode cX1_letKeepersAct 66 = .ok (.iload 5, 2) := by decide +kernel
theorem dX1_letKeepersAct_68 : decode cX1_letKeepersAct 68 = .ok (.ifCond .eq 22, 3) := by decide +kernel
theorem dX1_letKeepersAct_71 : decode cX1_letKeepersAct 71 = .ok (.aload_n 0, 1) := by decide +kernel
theorem dX1_letKeepersAct_72 : decode cX1_letKeepersAct 72 = .ok (.invokevirtual 130, 3) := by decide +kernel
theorem dX1_letKeepersAct_75 : decode cX1_letKeepersAct 75 = .ok (.iload_n 2, 1) := by decide +kernel
theorem dX1_letKeepersAct_76 : decode cX1_letKeepersAct 76 = .ok (.iconst (-1), 1) := by decide +kernel
theorem dX1_letKeepersAct_77 : decode cX1_letKeepersAct 77 = .ok (.ixor, 1) := by decide +kernel
theorem dX1_letKeepersAct_78 : decode cX1_letKeepersAct 78 = .ok (.iand, 1) := by decide +kernel
theorem dX1_letKeepersAct_79 : decode cX1_letKeepersAct 79 = .ok (.aload_n 0, 1) := by decide +kernel
theorem dX1_letKeepersAct_80 : decode cX1_letKeepersAct 80 = .ok (.getfield 40, 3) := by decide +kernel
theorem dX1_letKeepersAct_83 : decode cX1_letKeepersAct 83 = .ok (.iload_n 3, 1) := by decide +kernel
theorem dX1_letKeepersAct_84 : decode cX1_letKeepersAct 84 = .ok (.iaload, 1) := by decide +kernel
theorem dX1_letKeepersAct_85 : decode cX1_letKeepersAct 85 = .ok (.invokestatic 126, 3) := by decide +kernel
theorem dX1_letKeepersAct_88 : decode cX1_letKeepersAct 88 = .ok (.istore 4, 2) := by decide +kernel
theorem dX1_letKeepersAct_90 : decode cX1_letKeepersAct 90 = .ok (.iload 4, 2) := by decide +kernel
theorem dX1_letKeepersAct_92 : decode cX1_letKeepersAct 92 = .ok (.bipush (-6), 2) := by decide +kernel
theorem dX1_letKeepersAct_94 : decode cX1_letKeepersAct 94 = .ok (.if_icmp .ne 6, 3) := by decide +kernel
theorem dX1_letKeepersAct_97 : decode cX1_letKeepersAct 97 = .ok (.goto 67, 3) := by decide +kernel
theorem dX1_letKeepersAct_100 : decode cX1_letKeepersAct 100 = .ok (.iload_n 2, 1) := by decide +kernel
theorem dX1_letKeepersAct_101 : decode cX1_letKeepersAct 101 = .ok (.iconst 1, 1) := by decide +kernel
theorem dX1_letKeepersAct_102 : decode cX1_letKeepersAct 102 = .ok (.iload 4, 2) := by decide +kernel
theorem dX1_letKeepersAct_104 : decode cX1_letKeepersAct 104 = .ok (.ishl, 1) := by decide +kernel
theorem dX1_letKeepersAct_105 : decode cX1_letKeepersAct 105 = .ok (.ior, 1) := by decide +kernel
theorem dX1_letKeepersAct_106 : decode cX1_letKeepersAct 106 = .ok (.istore_n 2, 1) := by decide +kernel
theorem dX1_letKeepersAct_107 : decode cX1_letKeepersAct 107 = .ok (.aload_n 0, 1) := by decide +kernel
theorem dX1_letKeepersAct_108 : decode cX1_letKeepersAct 108 = .ok (.getfield 40, 3) := by decide +kernel
theorem dX1_letKeepersAct_111 : decode cX1_letKeepersAct 111 = .ok (.iload_n 3, 1) := by decide +kernel
theorem dX1_letKeepersAct_112 : decode cX1_letKeepersAct 112 = .ok (.iaload, 1) := by decide +kernel
theorem dX1_letKeepersAct_113 : decode cX1_letKeepersAct 113 = .ok (.iload 4, 2) := by decide +kernel
theorem dX1_letKeepersAct_115 : decode cX1_letKeepersAct 115 = .ok (.if_icmp .eq 13, 3) := by decide +kernel
theorem dX1_letKeepersAct_118 : decode cX1_letKeepersAct 118 = .ok (.aload_n 0, 1) := by decide +kernel
theorem dX1_letKeepersAct_119 : decode cX1_letKeepersAct 119 = .ok (.iload_n 3, 1) := by decide +kernel
theorem dX1_letKeepersAct_120 : decode cX1_letKeepersAct 120 = .ok (.iload 4, 2) := by decide +kernel
theorem dX1_letKeepersAct_122 : decode cX1_letKeepersAct 122 = .ok (.invokevirtual 134, 3) := by decide +kernel
theorem dX1_letKeepersAct_125 : decode cX1_letKeepersAct 125 = .ok (.goto 39, 3) := by decide +kernel
theorem dX1_letKeepersAct_128 : decode cX1_letKeepersAct 128 = .ok (.iload 5, 2) := by decide +kernel
theorem dX1_letKeepersAct_130 : decode cX1_letKeepersAct 130 = .ok (.ifCond .eq 13, 3) := by decide +kernel
theorem dX1_letKeepersAct_133 : decode cX1_letKeepersAct 133 = .ok (.aload_n 0, 1) := by decide +kernel
theorem dX1_letKeepersAct_134 : decode cX1_letKeepersAct 134 = .ok (.iload_n 3, 1) := by decide +kernel
theorem dX1_letKeepersAct_135 : decode cX1_letKeepersAct 135 = .ok (.iload 4, 2) := by decide +kernel
theorem dX1_letKeepersAct_137 : decode cX1_letKeepersAct 137 = .ok (.invokevirtual 138, 3) := by decide +kernel
theorem dX1_letKeepersAct_140 : decode cX1_letKeepersAct 140 = .ok (.goto 24, 3) := by decide +kernel
theorem dX1_letKeepersAct_143 : decode cX1_letKeepersAct 143 = .ok (.iload_n 1, 1) := by decide +kernel
theorem dX1_letKeepersAct_144 : decode cX1_letKeepersAct 144 = .ok (.ifCond .eq 13, 3) := by decide +kernel
theorem dX1_letKeepersAct_147 : decode cX1_letKeepersAct 147 = .ok (.aload_n 0, 1) := by decide +kernel
theorem dX1_letKeepersAct_148 : decode cX1_letKeepersAct 148 = .ok (.iload_n 3, 1) := by decide +kernel
theorem dX1_letKeepersAct_149 : decode cX1_letKeepersAct 149 = .ok (.iload 4, 2) := by decide +kernel
theorem dX1_letKeepersAct_151 : decode cX1_letKeepersAct 151 = .ok (.invokevirtual 141, 3) := by decide +kernel
theorem dX1_letKeepersAct_154 : decode cX1_letKeepersAct 154 = .ok (.goto 10, 3) := by decide +kernel
theorem dX1_letKeepersAct_157 : decode cX1_letKeepersAct 157 = .ok (.aload_n 0, 1) := by decide +kernel
theorem dX1_letKeepersAct_158 : decode cX1_letKeepersAct 158 = .ok (.iload_n 3, 1) := by decide +kernel
theorem dX1_letKeepersAct_159 : decode cX1_letKeepersAct 159 = .ok (.iload 4, 2) := by decide +kernel
theorem dX1_letKeepersAct_161 : decode cX1_letKeepersAct 161 = .ok (.invokevirtual 144, 3) := by decide +kernel
theorem dX1_letKeepersAct_164 : decode cX1_letKeepersAct 164 = .ok (.iinc 3 1, 3) := by decide +kernel
theorem dX1_letKeepersAct_167 : decode cX1_letKeepersAct 167 = .ok (.goto (-158), 3) := by decide +kernel
theorem dX1_letKeepersAct_170 : decode cX1_letKeepersAct 170 = .ok (.return_, 1) := by decide +kernel
set_option maxRecDepth 20000 in
theorem ggX1_nearest_X2_has : GoodIn wsX1_nearest wsX2_has := goodIn_r _ [3] (by decide +kernel) (by decide +kernel)
set_option maxRecDepth 20000 in
theorem gX1_nearest_X2_has_n87 : GoodIn wsX1_nearest (wsX2_has) := ggX1_nearest_X2_has
theorem dX1_nearest_0 : decode cX1_nearest 0 = .ok (.iload_n 0, 1) := by decide +kernel
theorem dX1_nearest_1 : decode cX1_nearest 1 = .ok (.ifCond .ne 6, 3) := by decide +kernel
theorem dX1_nearest_4 : decode cX1_nearest 4 = .ok (.bipush (-6), 2) := by decide +kernel
theorem dX1_nearest_6 : decode cX1_nearest 6 = .ok (.ireturn, 1) := by decide +kernel
theorem dX1_nearest_7 : decode cX1_nearest 7 = .ok (.iconst 0, 1) := by decide +kernel
theorem dX1_nearest_8 : decode cX1_nearest 8 = .ok (.istore_n 2, 1) := by decide +kernel
theorem dX1_nearest_9 : decode cX1_nearest 9 = .ok (.iload_n 2, 1) := by decide +kernel
theorem dX1_nearest_10 : decode cX1_nearest 10 = .ok (.bipush 12, 2) := by decide +kernel
theorem dX1_nearest_12 : decode cX1_nearest 12 = .ok (.if_icmp .ge 37, 3) := by decide +kernel
theorem dX1_nearest_15 : decode cX1_nearest 15 = .ok (.iload_n 0, 1) := by decide +kernel
theorem dX1_nearest_16 : decode cX1_nearest 16 = .ok (.iload_n 1, 1) := by decide +kernel
theorem dX1_nearest_17 : decode cX1_nearest 17 = .ok (.iload_n 2, 1) := by decide +kernel
theorem dX1_nearest_18 : decode cX1_nearest 18 = .ok (.isub, 1) := by decide +kernel
theorem dX1_nearest_19 : decode cX1_nearest 19 = .ok (.invokestatic 87, 3) := by decide +kernel
theorem dX1_nearest_22 : decode cX1_nearest 22 = .ok (.ifCond .eq 7, 3) := by decide +kernel
theorem dX1_nearest_25 : decode cX1_nearest 25 = .ok (.iload_n 1, 1) := by decide +kernel
theorem dX1_nearest_26 : decode cX1_nearest 26 = .ok (.iload_n 2, 1) := by decide +kernel
theorem dX1_nearest_27 : decode cX1_nearest 27 = .ok (.isub, 1) := by decide +kernel
theorem dX1_nearest_28 : decode cX1_nearest 28 = .ok (.ireturn, 1) := by decide +kernel
theorem dX1_nearest_29 : decode cX1_nearest 29 = .ok (.iload_n 0, 1) := by decide +kernel
theorem dX1_nearest_30 : decode cX1_nearest 30 = .ok (.iload_n 1, 1) := by decide +kernel
theorem dX1_nearest_31 : decode cX1_nearest 31 = .ok (.iload_n 2, 1) := by decide +kernel
theorem dX1_nearest_32 : decode cX1_nearest 32 = .ok (.iadd, 1) := by decide +kernel
theorem dX1_nearest_33 : decode cX1_nearest 33 = .ok (.invokestatic 87, 3) := by decide +kernel
theorem dX1_nearest_36 : decode cX1_nearest 36 = .ok (.ifCond .eq 7, 3) := by decide +kernel
theorem dX1_nearest_39 : decode cX1_nearest 39 = .ok (.iload_n 1, 1) := by decide +kernel
theorem dX1_nearest_40 : decode cX1_nearest 40 = .ok (.iload_n 2, 1) := by decide +kernel
theorem dX1_nearest_41 : decode cX1_nearest 41 = .ok (.iadd, 1) := by decide +kernel
theorem dX1_nearest_42 : decode cX1_nearest 42 = .ok (.ireturn, 1) := by decide +kernel
theorem dX1_nearest_43 : decode cX1_nearest 43 = .ok (.iinc 2 1, 3) := by decide +kernel
theorem dX1_nearest_46 : decode cX1_nearest 46 = .ok (.goto (-37), 3) := by decide +kernel
theorem dX1_nearest_49 : decode cX1_nearest 49 = .ok (.bipush (-6), 2) := by decide +kernel
theorem dX1_nearest_51 : decode cX1_nearest 51 = .ok (.ireturn, 1) := by decide +kernel
set_option maxRecDepth 20000 in
theorem ggX1_outOfTune_X1_openOnes : GoodIn wsX1_outOfTune wsX1_openOnes := goodIn_r _ [7, 8, 9, 13, 14, 15, 16, 17, 18, 19, 20, 21, 22, 23, 24, 25, 26, 27, 28, 29, 30] (by decide +kernel) (by decide +kernel)
set_option maxRecDepth 20000 in
theorem gX1_outOfTune_X1_openOnes : GoodIn wsX1_outOfTune (wsV RX1 147 RX1 yX1_openOnes wsX1_openOnes) := goodIn_app (goodIn_of _ (by decide +kernel)) ggX1_outOfTune_X1_openOnes
set_option maxRecDepth 20000 in
theorem ggX1_outOfTune_X2_has : GoodIn wsX1_outOfTune wsX2_has := goodIn_r _ [12] (by decide +kernel) (by decide +kernel)
set_option maxRecDepth 20000 in
theorem gX1_outOfTune_X2_has_n87 : GoodIn wsX1_outOfTune (wsX2_has) := ggX1_outOfTune_X2_has
theorem dX1_outOfTune_0 : decode cX1_outOfTune 0 = .ok (.iconst 0, 1) := by decide +kernel
theorem dX1_outOfTune_1 : decode cX1_outOfTune 1 = .ok (.istore_n 1, 1) := by decide +kernel
theorem dX1_outOfTune_2 : decode cX1_outOfTune 2 = .ok (.iconst 0, 1) := by decide +kernel
theorem dX1_outOfTune_3 : decode cX1_outOfTune 3 = .ok (.istore_n 2, 1) := by decide +kernel
theorem dX1_outOfTune_4 : decode cX1_outOfTune 4 = .ok (.iload_n 2, 1) := by decide +kernel
theorem dX1_outOfTune_5 : decode cX1_outOfTune 5 = .ok (.bipush 12, 2) := by decide +kernel
theorem dX1_outOfTune_7 : decode cX1_outOfTune 7 = .ok (.if_icmp .ge 41, 3) := by decide +kernel
theorem dX1_outOfTune_10 : decode cX1_outOfTune 10 = .ok (.aload_n 0, 1) := by decide +kernel
theorem dX1_outOfTune_11 : decode cX1_outOfTune 11 = .ok (.invokevirtual 147, 3) := by decide +kernel
theorem dX1_outOfTune_14 : decode cX1_outOfTune 14 = .ok (.iload_n 2, 1) := by decide +kernel
theorem dX1_outOfTune_15 : decode cX1_outOfTune 15 = .ok (.invokestatic 87, 3) := by decide +kernel
theorem dX1_outOfTune_18 : decode cX1_outOfTune 18 = .ok (.ifCond .eq 24, 3) := by decide +kernel
theorem dX1_outOfTune_21 : decode cX1_outOfTune 21 = .ok (.aload_n 0, 1) := by decide +kernel
theorem dX1_outOfTune_22 : decode cX1_outOfTune 22 = .ok (.getfield 25, 3) := by decide +kernel
theorem dX1_outOfTune_25 : decode cX1_outOfTune 25 = .ok (.iload_n 2, 1) := by decide +kernel
theorem dX1_outOfTune_26 : decode cX1_outOfTune 26 = .ok (.iaload, 1) := by decide +kernel
