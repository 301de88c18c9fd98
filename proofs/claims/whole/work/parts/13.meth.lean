/-! methods: name, bytes, locals, return type, room; what the tables say of them -/
/-- a method that can be called: its code, its class, how many parameters -/
def MI (M : MM) (n : Nat) : Prop := plainName (My M).cls = true ∧ Cond.code (My M) (Mc M) (Ml M) (Mr M) ∈ tb ∧ Cond.initialized (My M).cls ∈ tb ∧ ((My M).cls ≠ "java/lang/invoke/MethodHandle" ∧ (My M).cls ≠ "java/lang/invoke/VarHandle" ∧ (parseMethodDescriptor (My M).desc).map (fun d => d.parameters.length) = some n)
def MV (M : MM) (n : Nat) : Prop := MI M n ∧ Cond.instanceMethod (My M) ∈ tb ∧ Cond.selects (My M).cls (My M) (My M) ∈ tb
def MS (M : MM) (n : Nat) : Prop := MI M n ∧ Cond.static (My M) ∈ tb
def MN (M : MM) (n : Nat) : Prop := MI M n ∧ (My M).name = "<init>" ∧ Cond.instanceMethod (My M) ∈ tb ∧ Mr M = none
def mX0_init : MM := (yX0_init, cX0_init, 1, none, { frames := 1, cells := 0, slots := 0, locals := 20 })
theorem iX0_init : MN mX0_init 0 := ⟨⟨by decide +kernel, w_97, w_67, by decide +kernel, by decide +kernel, by decide +kernel⟩, rfl, w_96, rfl⟩
def mX0_arrive : MM := (yX0_arrive, cX0_arrive, 2, none, { frames := 0, cells := 0, slots := 0, locals := 0 })
theorem iX0_arrive : MV mX0_arrive 1 := ⟨⟨by decide +kernel, w_266, w_67, by decide +kernel, by decide +kernel, by decide +kernel⟩, w_264, w_265⟩
def mX0_resemble : MM := (yX0_resemble, cX0_resemble, 2, none, { frames := 0, cells := 0, slots := 0, locals := 0 })
theorem iX0_resemble : MV mX0_resemble 1 := ⟨⟨by decide +kernel, w_412, w_67, by decide +kernel, by decide +kernel, by decide +kernel⟩, w_410, w_411⟩
def mX0_gainBy : MM := (yX0_gainBy, cX0_gainBy, 3, (some .int), { frames := 0, cells := 0, slots := 0, locals := 0 })
theorem iX0_gainBy : MV mX0_gainBy 2 := ⟨⟨by decide +kernel, w_432, w_67, by decide +kernel, by decide +kernel, by decide +kernel⟩, w_430, w_431⟩
def mX1_init : MM := (yX1_init, cX1_init, 1, none, { frames := 1, cells := 1, slots := 40, locals := 20 })
theorem iX1_init : MN mX1_init 0 := ⟨⟨by decide +kernel, w_208, w_69, by decide +kernel, by decide +kernel, by decide +kernel⟩, rfl, w_207, rfl⟩
def mX1_isMissing : MM := (yX1_isMissing, cX1_isMissing, 1, (some .boolean), { frames := 0, cells := 0, slots := 0, locals := 0 })
theorem iX1_isMissing : MV mX1_isMissing 0 := ⟨⟨by decide +kernel, w_703, w_69, by decide +kernel, by decide +kernel, by decide +kernel⟩, w_701, w_702⟩
def mX1_begin : MM := (yX1_begin, cX1_begin, 4, none, { frames := 0, cells := 0, slots := 0, locals := 0 })
theorem iX1_begin : MV mX1_begin 2 := ⟨⟨by decide +kernel, w_695, w_69, by decide +kernel, by decide +kernel, by decide +kernel⟩, w_693, w_694⟩
def mX1_put : MM := (yX1_put, cX1_put, 4, none, { frames := 1, cells := 0, slots := 0, locals := 22 })
theorem iX1_put : MV mX1_put 2 := ⟨⟨by decide +kernel, w_708, w_69, by decide +kernel, by decide +kernel, by decide +kernel⟩, w_706, w_707⟩
def mX1_cut : MM := (yX1_cut, cX1_cut, 3, (some .long), { frames := 0, cells := 0, slots := 0, locals := 0 })
theorem iX1_cut : MV mX1_cut 1 := ⟨⟨by decide +kernel, w_712, w_69, by decide +kernel, by decide +kernel, by decide +kernel⟩, w_711, w_24⟩
def mX1_hasPart : MM := (yX1_hasPart, cX1_hasPart, 3, (some .boolean), { frames := 0, cells := 0, slots := 0, locals := 0 })
theorem iX1_hasPart : MV mX1_hasPart 2 := ⟨⟨by decide +kernel, w_720, w_69, by decide +kernel, by decide +kernel, by decide +kernel⟩, w_718, w_719⟩
def mX2_init : MM := (yX2_init, cX2_init, 2, none, { frames := 2, cells := 11, slots := 80, locals := 40 })
theorem iX2_init : MN mX2_init 0 := ⟨⟨by decide +kernel, w_90, w_66, by decide +kernel, by decide +kernel, by decide +kernel⟩, rfl, w_89, rfl⟩
def mX2_become : MM := (yX2_become, cX2_become, 3, none, { frames := 1, cells := 0, slots := 0, locals := 21 })
theorem iX2_become : MV mX2_become 1 := ⟨⟨by decide +kernel, w_408, w_66, by decide +kernel, by decide +kernel, by decide +kernel⟩, w_406, w_407⟩
def mX2_stands : MM := (yX2_stands, cX2_stands, 2, (some .boolean), { frames := 0, cells := 0, slots := 0, locals := 0 })
theorem iX2_stands : MV mX2_stands 1 := ⟨⟨by decide +kernel, w_274, w_66, by decide +kernel, by decide +kernel, by decide +kernel⟩, w_272, w_273⟩
def mX2_join : MM := (yX2_join, cX2_join, 3, (some .int), { frames := 1, cells := 0, slots := 0, locals := 21 })
theorem iX2_join : MV mX2_join 1 := ⟨⟨by decide +kernel, w_262, w_66, by decide +kernel, by decide +kernel, by decide +kernel⟩, w_260, w_261⟩
def mX2_walk : MM := (yX2_walk, cX2_walk, 5, none, { frames := 0, cells := 0, slots := 0, locals := 0 })
theorem iX2_walk : MV mX2_walk 2 := ⟨⟨by decide +kernel, w_326, w_66, by decide +kernel, by decide +kernel, by decide +kernel⟩, w_324, w_325⟩
def mX2_goAway : MM := (yX2_goAway, cX2_goAway, 2, none, { frames := 1, cells := 0, slots := 0, locals := 24 })
theorem iX2_goAway : MV mX2_goAway 1 := ⟨⟨by decide +kernel, w_337, w_66, by decide +kernel, by decide +kernel, by decide +kernel⟩, w_335, w_336⟩
def mX2_swapPlaces : MM := (yX2_swapPlaces, cX2_swapPlaces, 4, none, { frames := 0, cells := 0, slots := 0, locals := 0 })
theorem iX2_swapPlaces : MV mX2_swapPlaces 2 := ⟨⟨by decide +kernel, w_681, w_66, by decide +kernel, by decide +kernel, by decide +kernel⟩, w_679, w_680⟩
def mX2_hear : MM := (yX2_hear, cX2_hear, 3, none, { frames := 0, cells := 0, slots := 0, locals := 0 })
theorem iX2_hear : MV mX2_hear 2 := ⟨⟨by decide +kernel, w_357, w_66, by decide +kernel, by decide +kernel, by decide +kernel⟩, w_355, w_356⟩
def mX2_thinks : MM := (yX2_thinks, cX2_thinks, 3, (some .int), { frames := 0, cells := 0, slots := 0, locals := 0 })
theorem iX2_thinks : MV mX2_thinks 1 := ⟨⟨by decide +kernel, w_278, w_66, by decide +kernel, by decide +kernel, by decide +kernel⟩, w_276, w_277⟩
def mX2_shortAt : MM := (yX2_shortAt, cX2_shortAt, 3, (some .int), { frames := 1, cells := 0, slots := 0, locals := 22 })
theorem iX2_shortAt : MV mX2_shortAt 2 := ⟨⟨by decide +kernel, w_282, w_66, by decide +kernel, by decide +kernel, by decide +kernel⟩, w_280, w_281⟩
def mX2_wouldThrow : MM := (yX2_wouldThrow, cX2_wouldThrow, 5, (some .int), { frames := 2, cells := 0, slots := 0, locals := 44 })
theorem iX2_wouldThrow : MV mX2_wouldThrow 1 := ⟨⟨by decide +kernel, w_290, w_66, by decide +kernel, by decide +kernel, by decide +kernel⟩, w_288, w_289⟩
def mX2_passHour : MM := (yX2_passHour, cX2_passHour, 5, (some .int), { frames := 3, cells := 0, slots := 0, locals := 68 })
theorem iX2_passHour : MV mX2_passHour 2 := ⟨⟨by decide +kernel, w_366, w_66, by decide +kernel, by decide +kernel, by decide +kernel⟩, w_364, w_365⟩
def mX2_throwerAt : MM := (yX2_throwerAt, cX2_throwerAt, 3, (some .int), { frames := 0, cells := 0, slots := 0, locals := 0 })
theorem iX2_throwerAt : MV mX2_throwerAt 1 := ⟨⟨by decide +kernel, w_370, w_66, by decide +kernel, by decide +kernel, by decide +kernel⟩, w_369, w_1⟩
def mX2_throwIn : MM := (yX2_throwIn, cX2_throwIn, 3, none, { frames := 1, cells := 0, slots := 0, locals := 21 })
theorem iX2_throwIn : MV mX2_throwIn 2 := ⟨⟨by decide +kernel, w_375, w_66, by decide +kernel, by decide +kernel, by decide +kernel⟩, w_374, w_2⟩
def mX2_fillPails : MM := (yX2_fillPails, cX2_fillPails, 4, (some .int), { frames := 1, cells := 0, slots := 0, locals := 21 })
theorem iX2_fillPails : MV mX2_fillPails 0 := ⟨⟨by decide +kernel, w_379, w_66, by decide +kernel, by decide +kernel, by decide +kernel⟩, w_378, w_3⟩
def mX2_gainAt : MM := (yX2_gainAt, cX2_gainAt, 2, (some .int), { frames := 1, cells := 0, slots := 0, locals := 22 })
theorem iX2_gainAt : MV mX2_gainAt 1 := ⟨⟨by decide +kernel, w_428, w_66, by decide +kernel, by decide +kernel, by decide +kernel⟩, w_426, w_427⟩
def mX2_allGains : MM := (yX2_allGains, cX2_allGains, 3, (some .int), { frames := 2, cells := 0, slots := 0, locals := 43 })
theorem iX2_allGains : MV mX2_allGains 0 := ⟨⟨by decide +kernel, w_440, w_66, by decide +kernel, by decide +kernel, by decide +kernel⟩, w_438, w_439⟩
def mX2_allPurses : MM := (yX2_allPurses, cX2_allPurses, 3, (some .int), { frames := 0, cells := 0, slots := 0, locals := 0 })
theorem iX2_allPurses : MV mX2_allPurses 0 := ⟨⟨by decide +kernel, w_388, w_66, by decide +kernel, by decide +kernel, by decide +kernel⟩, w_386, w_387⟩
def mX2_allPails : MM := (yX2_allPails, cX2_allPails, 3, (some .int), { frames := 0, cells := 0, slots := 0, locals := 0 })
theorem iX2_allPails : MV mX2_allPails 0 := ⟨⟨by decide +kernel, w_392, w_66, by decide +kernel, by decide +kernel, by decide +kernel⟩, w_390, w_391⟩
def mX2_allDry : MM := (yX2_allDry, cX2_allDry, 3, (some .int), { frames := 0, cells := 0, slots := 0, locals := 0 })
theorem iX2_allDry : MV mX2_allDry 0 := ⟨⟨by decide +kernel, w_396, w_66, by decide +kernel, by decide +kernel, by decide +kernel⟩, w_394, w_395⟩
def mX2_allValues : MM := (yX2_allValues, cX2_allValues, 3, (some .int), { frames := 0, cells := 0, slots := 0, locals := 0 })
theorem iX2_allValues : MV mX2_allValues 0 := ⟨⟨by decide +kernel, w_760, w_66, by decide +kernel, by decide +kernel, by decide +kernel⟩, w_758, w_759⟩
def mX2_allThrew : MM := (yX2_allThrew, cX2_allThrew, 3, (some .int), { frames := 0, cells := 0, slots := 0, locals := 0 })
theorem iX2_allThrew : MV mX2_allThrew 0 := ⟨⟨by decide +kernel, w_764, w_66, by decide +kernel, by decide +kernel, by decide +kernel⟩, w_762, w_763⟩
def mX2_allPaid : MM := (yX2_allPaid, cX2_allPaid, 3, (some .int), { frames := 1, cells := 0, slots := 0, locals := 21 })
theorem iX2_allPaid : MV mX2_allPaid 0 := ⟨⟨by decide +kernel, w_515, w_66, by decide +kernel, by decide +kernel, by decide +kernel⟩, w_513, w_514⟩
def mX3_init : MM := (yX3_init, cX3_init, 1, none, { frames := 1, cells := 1, slots := 120, locals := 20 })
theorem iX3_init : MN mX3_init 0 := ⟨⟨by decide +kernel, w_180, w_68, by decide +kernel, by decide +kernel, by decide +kernel⟩, rfl, w_179, rfl⟩
def mX3_append : MM := (yX3_append, cX3_append, 2, none, { frames := 0, cells := 0, slots := 0, locals := 0 })
theorem iX3_append : MV mX3_append 1 := ⟨⟨by decide +kernel, w_543, w_68, by decide +kernel, by decide +kernel, by decide +kernel⟩, w_541, w_542⟩
def mX3_tell : MM := (yX3_tell, cX3_tell, 3, (some .int), { frames := 8, cells := 0, slots := 0, locals := 173 })
theorem iX3_tell : MV mX3_tell 1 := ⟨⟨by decide +kernel, w_555, w_68, by decide +kernel, by decide +kernel, by decide +kernel⟩, w_553, w_554⟩
def mX3_takeItem : MM := (yX3_takeItem, cX3_takeItem, 3, (some .boolean), { frames := 7, cells := 0, slots := 0, locals := 151 })
theorem iX3_takeItem : MV mX3_takeItem 1 := ⟨⟨by decide +kernel, w_573, w_68, by decide +kernel, by decide +kernel, by decide +kernel⟩, w_572, w_14⟩
def mX3_takePerson : MM := (yX3_takePerson, cX3_takePerson, 4, (some .boolean), { frames := 6, cells := 0, slots := 0, locals := 128 })
theorem iX3_takePerson : MV mX3_takePerson 2 := ⟨⟨by decide +kernel, w_642, w_68, by decide +kernel, by decide +kernel, by decide +kernel⟩, w_641, w_17⟩
def mX3_takeCoins : MM := (yX3_takeCoins, cX3_takeCoins, 2, (some .boolean), { frames := 3, cells := 0, slots := 0, locals := 62 })
theorem iX3_takeCoins : MV mX3_takeCoins 1 := ⟨⟨by decide +kernel, w_659, w_68, by decide +kernel, by decide +kernel, by decide +kernel⟩, w_658, w_20⟩
def mX3_takeLaw : MM := (yX3_takeLaw, cX3_takeLaw, 2, (some .boolean), { frames := 3, cells := 0, slots := 0, locals := 62 })
theorem iX3_takeLaw : MV mX3_takeLaw 1 := ⟨⟨by decide +kernel, w_664, w_68, by decide +kernel, by decide +kernel, by decide +kernel⟩, w_663, w_21⟩
def mX3_takeDiver : MM := (yX3_takeDiver, cX3_takeDiver, 4, (some .boolean), { frames := 6, cells := 0, slots := 0, locals := 128 })
theorem iX3_takeDiver : MV mX3_takeDiver 1 := ⟨⟨by decide +kernel, w_669, w_68, by decide +kernel, by decide +kernel, by decide +kernel⟩, w_668, w_22⟩
def mX3_takeSwap : MM := (yX3_takeSwap, cX3_takeSwap, 3, (some .boolean), { frames := 3, cells := 0, slots := 0, locals := 62 })
theorem iX3_takeSwap : MV mX3_takeSwap 1 := ⟨⟨by decide +kernel, w_677, w_68, by decide +kernel, by decide +kernel, by decide +kernel⟩, w_676, w_23⟩
def mX3_isNumber : MM := (yX3_isNumber, cX3_isNumber, 2, (some .boolean), { frames := 0, cells := 0, slots := 0, locals := 0 })
theorem iX3_isNumber : MV mX3_isNumber 1 := ⟨⟨by decide +kernel, w_648, w_68, by decide +kernel, by decide +kernel, by decide +kernel⟩, w_647, w_18⟩
def mX3_takeNumber : MM := (yX3_takeNumber, cX3_takeNumber, 2, (some .int), { frames := 2, cells := 0, slots := 0, locals := 41 })
theorem iX3_takeNumber : MV mX3_takeNumber 0 := ⟨⟨by decide +kernel, w_652, w_68, by decide +kernel, by decide +kernel, by decide +kernel⟩, w_651, w_19⟩
def mX3_kindNamed : MM := (yX3_kindNamed, cX3_kindNamed, 2, (some .int), { frames := 6, cells := 0, slots := 0, locals := 128 })
theorem iX3_kindNamed : MV mX3_kindNamed 0 := ⟨⟨by decide +kernel, w_577, w_68, by decide +kernel, by decide +kernel, by decide +kernel⟩, w_576, w_15⟩
def mX3_nameOf : MM := (yX3_nameOf, cX3_nameOf, 1, (some (.object "java/lang/String")), { frames := 0, cells := 0, slots := 0, locals := 0 })
theorem iX3_nameOf : MS mX3_nameOf 1 := ⟨⟨by decide +kernel, w_580, w_68, by decide +kernel, by decide +kernel, by decide +kernel⟩, w_579⟩
def mX3_isWord : MM := (yX3_isWord, cX3_isWord, 3, (some .boolean), { frames := 5, cells := 0, slots := 0, locals := 106 })
theorem iX3_isWord : MV mX3_isWord 1 := ⟨⟨by decide +kernel, w_590, w_68, by decide +kernel, by decide +kernel, by decide +kernel⟩, w_589, w_16⟩
def mX3_look : MM := (yX3_look, cX3_look, 1, none, { frames := 1, cells := 0, slots := 0, locals := 21 })
theorem iX3_look : MV mX3_look 0 := ⟨⟨by decide +kernel, w_559, w_68, by decide +kernel, by decide +kernel, by decide +kernel⟩, w_558, w_13⟩
def mX3_signOf : MM := (yX3_signOf, cX3_signOf, 1, (some .int), { frames := 0, cells := 0, slots := 0, locals := 0 })
theorem iX3_signOf : MS mX3_signOf 1 := ⟨⟨by decide +kernel, w_569, w_68, by decide +kernel, by decide +kernel, by decide +kernel⟩, w_568⟩
def mX3_isLetter : MM := (yX3_isLetter, cX3_isLetter, 1, (some .boolean), { frames := 0, cells := 0, slots := 0, locals := 0 })
theorem iX3_isLetter : MS mX3_isLetter 1 := ⟨⟨by decide +kernel, w_562, w_68, by decide +kernel, by decide +kernel, by decide +kernel⟩, w_561⟩
def mX3_isDigit : MM := (yX3_isDigit, cX3_isDigit, 1, (some .boolean), { frames := 0, cells := 0, slots := 0, locals := 0 })
theorem iX3_isDigit : MS mX3_isDigit 1 := ⟨⟨by decide +kernel, w_565, w_68, by decide +kernel, by decide +kernel, by decide +kernel⟩, w_564⟩
def mX4_init : MM := (yX4_init, cX4_init, 2, none, { frames := 3, cells := 48, slots := 573, locals := 61 })
theorem iX4_init : MN mX4_init 0 := ⟨⟨by decide +kernel, w_82, w_65, by decide +kernel, by decide +kernel, by decide +kernel⟩, rfl, w_81, rfl⟩
def mX4_person : MM := (yX4_person, cX4_person, 2, (some .int), { frames := 2, cells := 0, slots := 0, locals := 43 })
theorem iX4_person : MV mX4_person 1 := ⟨⟨by decide +kernel, w_249, w_65, by decide +kernel, by decide +kernel, by decide +kernel⟩, w_247, w_248⟩
def mX4_of : MM := (yX4_of, cX4_of, 4, (some .int), { frames := 3, cells := 0, slots := 0, locals := 68 })
theorem iX4_of : MV mX4_of 2 := ⟨⟨by decide +kernel, w_270, w_65, by decide +kernel, by decide +kernel, by decide +kernel⟩, w_268, w_269⟩
def mX4_set : MM := (yX4_set, cX4_set, 6, (some .int), { frames := 2, cells := 0, slots := 0, locals := 43 })
theorem iX4_set : MV mX4_set 3 := ⟨⟨by decide +kernel, w_298, w_65, by decide +kernel, by decide +kernel, by decide +kernel⟩, w_296, w_297⟩
def mX4_turn : MM := (yX4_turn, cX4_turn, 4, (some .int), { frames := 1, cells := 0, slots := 0, locals := 22 })
theorem iX4_turn : MV mX4_turn 2 := ⟨⟨by decide +kernel, w_308, w_65, by decide +kernel, by decide +kernel, by decide +kernel⟩, w_306, w_307⟩
def mX4_as : MM := (yX4_as, cX4_as, 3, (some .int), { frames := 2, cells := 0, slots := 0, locals := 43 })
theorem iX4_as : MV mX4_as 2 := ⟨⟨by decide +kernel, w_312, w_65, by decide +kernel, by decide +kernel, by decide +kernel⟩, w_310, w_311⟩
def mX4_move : MM := (yX4_move, cX4_move, 3, (some .int), { frames := 1, cells := 0, slots := 0, locals := 24 })
theorem iX4_move : MV mX4_move 2 := ⟨⟨by decide +kernel, w_322, w_65, by decide +kernel, by decide +kernel, by decide +kernel⟩, w_320, w_321⟩
def mX4_leave : MM := (yX4_leave, cX4_leave, 3, (some .int), { frames := 2, cells := 0, slots := 0, locals := 45 })
theorem iX4_leave : MV mX4_leave 1 := ⟨⟨by decide +kernel, w_333, w_65, by decide +kernel, by decide +kernel, by decide +kernel⟩, w_331, w_332⟩
def mX4_coins : MM := (yX4_coins, cX4_coins, 3, (some .int), { frames := 1, cells := 0, slots := 0, locals := 22 })
theorem iX4_coins : MV mX4_coins 1 := ⟨⟨by decide +kernel, w_342, w_65, by decide +kernel, by decide +kernel, by decide +kernel⟩, w_340, w_341⟩
def mX4_law : MM := (yX4_law, cX4_law, 3, (some .int), { frames := 1, cells := 0, slots := 0, locals := 22 })
theorem iX4_law : MV mX4_law 1 := ⟨⟨by decide +kernel, w_346, w_65, by decide +kernel, by decide +kernel, by decide +kernel⟩, w_344, w_345⟩
def mX4_diver : MM := (yX4_diver, cX4_diver, 4, (some .int), { frames := 1, cells := 0, slots := 0, locals := 22 })
theorem iX4_diver : MV mX4_diver 2 := ⟨⟨by decide +kernel, w_350, w_65, by decide +kernel, by decide +kernel, by decide +kernel⟩, w_348, w_349⟩
def mX4_hours : MM := (yX4_hours, cX4_hours, 4, (some .int), { frames := 4, cells := 0, slots := 0, locals := 92 })
theorem iX4_hours : MV mX4_hours 1 := ⟨⟨by decide +kernel, w_361, w_65, by decide +kernel, by decide +kernel, by decide +kernel⟩, w_359, w_360⟩
def mX4_now : MM := (yX4_now, cX4_now, 2, (some .int), { frames := 1, cells := 0, slots := 0, locals := 22 })
theorem iX4_now : MV mX4_now 1 := ⟨⟨by decide +kernel, w_384, w_65, by decide +kernel, by decide +kernel, by decide +kernel⟩, w_382, w_383⟩
def mX4_runs : MM := (yX4_runs, cX4_runs, 1, (some .int), { frames := 5, cells := 0, slots := 0, locals := 112 })
theorem iX4_runs : MV mX4_runs 0 := ⟨⟨by decide +kernel, w_400, w_65, by decide +kernel, by decide +kernel, by decide +kernel⟩, w_398, w_399⟩
def mX4_thrown : MM := (yX4_thrown, cX4_thrown, 2, (some .int), { frames := 5, cells := 0, slots := 0, locals := 112 })
theorem iX4_thrown : MV mX4_thrown 1 := ⟨⟨by decide +kernel, w_416, w_65, by decide +kernel, by decide +kernel, by decide +kernel⟩, w_414, w_415⟩
def mX4_gain : MM := (yX4_gain, cX4_gain, 2, (some .int), { frames := 6, cells := 0, slots := 0, locals := 133 })
theorem iX4_gain : MV mX4_gain 1 := ⟨⟨by decide +kernel, w_420, w_65, by decide +kernel, by decide +kernel, by decide +kernel⟩, w_418, w_419⟩
def mX4_all : MM := (yX4_all, cX4_all, 1, (some .int), { frames := 5, cells := 0, slots := 0, locals := 112 })
theorem iX4_all : MV mX4_all 0 := ⟨⟨by decide +kernel, w_436, w_65, by decide +kernel, by decide +kernel, by decide +kernel⟩, w_434, w_435⟩
def mX4_on : MM := (yX4_on, cX4_on, 4, (some .int), { frames := 4, cells := 0, slots := 0, locals := 92 })
theorem iX4_on : MV mX4_on 2 := ⟨⟨by decide +kernel, w_445, w_65, by decide +kernel, by decide +kernel, by decide +kernel⟩, w_443, w_444⟩
def mX4_empty : MM := (yX4_empty, cX4_empty, 2, (some .int), { frames := 4, cells := 0, slots := 0, locals := 92 })
theorem iX4_empty : MV mX4_empty 0 := ⟨⟨by decide +kernel, w_449, w_65, by decide +kernel, by decide +kernel, by decide +kernel⟩, w_447, w_448⟩
def mX4_gainIf : MM := (yX4_gainIf, cX4_gainIf, 3, (some .int), { frames := 5, cells := 0, slots := 0, locals := 114 })
theorem iX4_gainIf : MV mX4_gainIf 2 := ⟨⟨by decide +kernel, w_454, w_65, by decide +kernel, by decide +kernel, by decide +kernel⟩, w_452, w_453⟩
def mX4_best : MM := (yX4_best, cX4_best, 2, (some .int), { frames := 6, cells := 0, slots := 0, locals := 140 })
theorem iX4_best : MV mX4_best 1 := ⟨⟨by decide +kernel, w_462, w_65, by decide +kernel, by decide +kernel, by decide +kernel⟩, w_460, w_461⟩
def mX4_sorry : MM := (yX4_sorry, cX4_sorry, 3, (some .int), { frames := 6, cells := 0, slots := 0, locals := 140 })
theorem iX4_sorry : MV mX4_sorry 0 := ⟨⟨by decide +kernel, w_471, w_65, by decide +kernel, by decide +kernel, by decide +kernel⟩, w_469, w_470⟩
def mX4_regret : MM := (yX4_regret, cX4_regret, 2, (some .int), { frames := 6, cells := 0, slots := 0, locals := 140 })
theorem iX4_regret : MV mX4_regret 1 := ⟨⟨by decide +kernel, w_475, w_65, by decide +kernel, by decide +kernel, by decide +kernel⟩, w_473, w_474⟩
def mX4_stand : MM := (yX4_stand, cX4_stand, 6, (some .int), { frames := 5, cells := 0, slots := 0, locals := 114 })
theorem iX4_stand : MV mX4_stand 1 := ⟨⟨by decide +kernel, w_479, w_65, by decide +kernel, by decide +kernel, by decide +kernel⟩, w_477, w_478⟩
def mX4_kind : MM := (yX4_kind, cX4_kind, 6, (some .int), { frames := 5, cells := 0, slots := 0, locals := 114 })
theorem iX4_kind : MV mX4_kind 1 := ⟨⟨by decide +kernel, w_487, w_65, by decide +kernel, by decide +kernel, by decide +kernel⟩, w_485, w_486⟩
def mX4_lie : MM := (yX4_lie, cX4_lie, 5, (some .int), { frames := 5, cells := 0, slots := 0, locals := 114 })
theorem iX4_lie : MV mX4_lie 0 := ⟨⟨by decide +kernel, w_495, w_65, by decide +kernel, by decide +kernel, by decide +kernel⟩, w_493, w_494⟩
def mX4_word : MM := (yX4_word, cX4_word, 1, (some .int), { frames := 5, cells := 0, slots := 0, locals := 114 })
theorem iX4_word : MV mX4_word 0 := ⟨⟨by decide +kernel, w_503, w_65, by decide +kernel, by decide +kernel, by decide +kernel⟩, w_501, w_502⟩
def mX4_fair : MM := (yX4_fair, cX4_fair, 5, (some .int), { frames := 5, cells := 0, slots := 0, locals := 115 })
theorem iX4_fair : MV mX4_fair 0 := ⟨⟨by decide +kernel, w_507, w_65, by decide +kernel, by decide +kernel, by decide +kernel⟩, w_505, w_506⟩
def mX4_rests : MM := (yX4_rests, cX4_rests, 4, (some .int), { frames := 2, cells := 0, slots := 0, locals := 50 })
theorem iX4_rests : MV mX4_rests 0 := ⟨⟨by decide +kernel, w_519, w_65, by decide +kernel, by decide +kernel, by decide +kernel⟩, w_517, w_518⟩
def mX4_rest : MM := (yX4_rest, cX4_rest, 3, (some .int), { frames := 2, cells := 0, slots := 0, locals := 50 })
theorem iX4_rest : MV mX4_rest 0 := ⟨⟨by decide +kernel, w_535, w_65, by decide +kernel, by decide +kernel, by decide +kernel⟩, w_533, w_534⟩
def mX4_feed : MM := (yX4_feed, cX4_feed, 4, (some .int), { frames := 1, cells := 0, slots := 0, locals := 22 })
theorem iX4_feed : MV mX4_feed 2 := ⟨⟨by decide +kernel, w_539, w_65, by decide +kernel, by decide +kernel, by decide +kernel⟩, w_537, w_538⟩
def mX4_wipe : MM := (yX4_wipe, cX4_wipe, 2, (some .int), { frames := 0, cells := 0, slots := 0, locals := 0 })
theorem iX4_wipe : MV mX4_wipe 0 := ⟨⟨by decide +kernel, w_547, w_65, by decide +kernel, by decide +kernel, by decide +kernel⟩, w_545, w_546⟩
def mX4_square : MM := (yX4_square, cX4_square, 2, (some .int), { frames := 9, cells := 0, slots := 0, locals := 195 })
theorem iX4_square : MV mX4_square 0 := ⟨⟨by decide +kernel, w_551, w_65, by decide +kernel, by decide +kernel, by decide +kernel⟩, w_549, w_550⟩
def mX4_sheet : MM := (yX4_sheet, cX4_sheet, 4, (some .int), { frames := 1, cells := 0, slots := 0, locals := 23 })
theorem iX4_sheet : MV mX4_sheet 3 := ⟨⟨by decide +kernel, w_685, w_65, by decide +kernel, by decide +kernel, by decide +kernel⟩, w_683, w_684⟩
def mX4_write : MM := (yX4_write, cX4_write, 7, (some .long), { frames := 2, cells := 0, slots := 0, locals := 45 })
theorem iX4_write : MV mX4_write 3 := ⟨⟨by decide +kernel, w_699, w_65, by decide +kernel, by decide +kernel, by decide +kernel⟩, w_697, w_698⟩
def mX4_copy : MM := (yX4_copy, cX4_copy, 6, (some .int), { frames := 1, cells := 0, slots := 0, locals := 60 })
theorem iX4_copy : MV mX4_copy 5 := ⟨⟨by decide +kernel, w_716, w_65, by decide +kernel, by decide +kernel, by decide +kernel⟩, w_714, w_715⟩
def mX4_lays : MM := (yX4_lays, cX4_lays, 7, (some .int), { frames := 1, cells := 0, slots := 0, locals := 22 })
theorem iX4_lays : MV mX4_lays 1 := ⟨⟨by decide +kernel, w_727, w_65, by decide +kernel, by decide +kernel, by decide +kernel⟩, w_725, w_726⟩
def mX4_book : MM := (yX4_book, cX4_book, 3, (some .int), { frames := 4, cells := 0, slots := 0, locals := 92 })
theorem iX4_book : MV mX4_book 1 := ⟨⟨by decide +kernel, w_732, w_65, by decide +kernel, by decide +kernel, by decide +kernel⟩, w_730, w_731⟩
def mX4_read : MM := (yX4_read, cX4_read, 6, (some .int), { frames := 2, cells := 0, slots := 0, locals := 47 })
theorem iX4_read : MV mX4_read 2 := ⟨⟨by decide +kernel, w_736, w_65, by decide +kernel, by decide +kernel, by decide +kernel⟩, w_734, w_735⟩
def mX4_image : MM := (yX4_image, cX4_image, 1, (some .int), { frames := 2, cells := 0, slots := 0, locals := 43 })
theorem iX4_image : MV mX4_image 0 := ⟨⟨by decide +kernel, w_744, w_65, by decide +kernel, by decide +kernel, by decide +kernel⟩, w_742, w_743⟩
def mX4_undo : MM := (yX4_undo, cX4_undo, 1, (some .int), { frames := 2, cells := 0, slots := 0, locals := 43 })
theorem iX4_undo : MV mX4_undo 0 := ⟨⟨by decide +kernel, w_748, w_65, by decide +kernel, by decide +kernel, by decide +kernel⟩, w_746, w_747⟩
def mX4_tear : MM := (yX4_tear, cX4_tear, 2, (some .int), { frames := 1, cells := 0, slots := 0, locals := 20 })
theorem iX4_tear : MV mX4_tear 0 := ⟨⟨by decide +kernel, w_752, w_65, by decide +kernel, by decide +kernel, by decide +kernel⟩, w_750, w_751⟩
def mX4_count : MM := (yX4_count, cX4_count, 2, (some .int), { frames := 1, cells := 0, slots := 0, locals := 22 })
theorem iX4_count : MV mX4_count 1 := ⟨⟨by decide +kernel, w_756, w_65, by decide +kernel, by decide +kernel, by decide +kernel⟩, w_754, w_755⟩
def mX4_status : MM := (yX4_status, cX4_status, 4, (some .int), { frames := 1, cells := 0, slots := 0, locals := 22 })
theorem iX4_status : MV mX4_status 1 := ⟨⟨by decide +kernel, w_768, w_65, by decide +kernel, by decide +kernel, by decide +kernel⟩, w_766, w_767⟩
def mX4_finding : MM := (yX4_finding, cX4_finding, 3, (some .int), { frames := 0, cells := 0, slots := 0, locals := 0 })
theorem iX4_finding : MV mX4_finding 1 := ⟨⟨by decide +kernel, w_257, w_65, by decide +kernel, by decide +kernel, by decide +kernel⟩, w_256, w_0⟩
def mX4_isWithin : MM := (yX4_isWithin, cX4_isWithin, 3, (some .boolean), { frames := 0, cells := 0, slots := 0, locals := 0 })
theorem iX4_isWithin : MS mX4_isWithin 3 := ⟨⟨by decide +kernel, w_304, w_65, by decide +kernel, by decide +kernel, by decide +kernel⟩, w_303⟩
def mX4_oneIf : MM := (yX4_oneIf, cX4_oneIf, 1, (some .int), { frames := 0, cells := 0, slots := 0, locals := 0 })
theorem iX4_oneIf : MS mX4_oneIf 1 := ⟨⟨by decide +kernel, w_353, w_65, by decide +kernel, by decide +kernel, by decide +kernel⟩, w_352⟩
def mX4_isKind : MM := (yX4_isKind, cX4_isKind, 1, (some .boolean), { frames := 0, cells := 0, slots := 0, locals := 0 })
theorem iX4_isKind : MS mX4_isKind 1 := ⟨⟨by decide +kernel, w_252, w_65, by decide +kernel, by decide +kernel, by decide +kernel⟩, w_251⟩
def mX4_isOf : MM := (yX4_isOf, cX4_isOf, 4, (some .boolean), { frames := 1, cells := 0, slots := 0, locals := 20 })
theorem iX4_isOf : MS mX4_isOf 2 := ⟨⟨by decide +kernel, w_315, w_65, by decide +kernel, by decide +kernel, by decide +kernel⟩, w_314⟩
def mX4_isSettable : MM := (yX4_isSettable, cX4_isSettable, 2, (some .boolean), { frames := 1, cells := 0, slots := 0, locals := 22 })
theorem iX4_isSettable : MS mX4_isSettable 2 := ⟨⟨by decide +kernel, w_301, w_65, by decide +kernel, by decide +kernel, by decide +kernel⟩, w_300⟩
def mX4_isSheet : MM := (yX4_isSheet, cX4_isSheet, 1, (some .boolean), { frames := 0, cells := 0, slots := 0, locals := 0 })
theorem iX4_isSheet : MS mX4_isSheet 1 := ⟨⟨by decide +kernel, w_688, w_65, by decide +kernel, by decide +kernel, by decide +kernel⟩, w_687⟩
def mX4_isWidth : MM := (yX4_isWidth, cX4_isWidth, 1, (some .boolean), { frames := 0, cells := 0, slots := 0, locals := 0 })
theorem iX4_isWidth : MS mX4_isWidth 1 := ⟨⟨by decide +kernel, w_691, w_65, by decide +kernel, by decide +kernel, by decide +kernel⟩, w_690⟩
def mX4_tryNextHour : MM := (yX4_tryNextHour, cX4_tryNextHour, 1, none, { frames := 4, cells := 0, slots := 0, locals := 92 })
theorem iX4_tryNextHour : MV mX4_tryNextHour 0 := ⟨⟨by decide +kernel, w_404, w_65, by decide +kernel, by decide +kernel, by decide +kernel⟩, w_403, w_4⟩
def mX4_gainAsIs : MM := (yX4_gainAsIs, cX4_gainAsIs, 2, (some .int), { frames := 5, cells := 0, slots := 0, locals := 112 })
theorem iX4_gainAsIs : MV mX4_gainAsIs 1 := ⟨⟨by decide +kernel, w_424, w_65, by decide +kernel, by decide +kernel, by decide +kernel⟩, w_423, w_5⟩
def mX4_gainThrowing : MM := (yX4_gainThrowing, cX4_gainThrowing, 3, (some .int), { frames := 4, cells := 0, slots := 0, locals := 92 })
theorem iX4_gainThrowing : MV mX4_gainThrowing 2 := ⟨⟨by decide +kernel, w_458, w_65, by decide +kernel, by decide +kernel, by decide +kernel⟩, w_457, w_6⟩
def mX4_gainStanding : MM := (yX4_gainStanding, cX4_gainStanding, 3, (some .int), { frames := 4, cells := 0, slots := 0, locals := 92 })
theorem iX4_gainStanding : MV mX4_gainStanding 2 := ⟨⟨by decide +kernel, w_483, w_65, by decide +kernel, by decide +kernel, by decide +kernel⟩, w_482, w_8⟩
def mX4_gainBeing : MM := (yX4_gainBeing, cX4_gainBeing, 3, (some .int), { frames := 4, cells := 0, slots := 0, locals := 92 })
theorem iX4_gainBeing : MV mX4_gainBeing 2 := ⟨⟨by decide +kernel, w_491, w_65, by decide +kernel, by decide +kernel, by decide +kernel⟩, w_490, w_9⟩
def mX4_gainsHearing : MM := (yX4_gainsHearing, cX4_gainsHearing, 3, (some .int), { frames := 4, cells := 0, slots := 0, locals := 92 })
theorem iX4_gainsHearing : MV mX4_gainsHearing 2 := ⟨⟨by decide +kernel, w_499, w_65, by decide +kernel, by decide +kernel, by decide +kernel⟩, w_498, w_10⟩
def mX4_pailsForCoins : MM := (yX4_pailsForCoins, cX4_pailsForCoins, 4, (some .int), { frames := 4, cells := 0, slots := 0, locals := 92 })
theorem iX4_pailsForCoins : MV mX4_pailsForCoins 1 := ⟨⟨by decide +kernel, w_511, w_65, by decide +kernel, by decide +kernel, by decide +kernel⟩, w_510, w_11⟩
def mX4_bestThrow : MM := (yX4_bestThrow, cX4_bestThrow, 7, (some .int), { frames := 5, cells := 0, slots := 0, locals := 114 })
theorem iX4_bestThrow : MV mX4_bestThrow 1 := ⟨⟨by decide +kernel, w_466, w_65, by decide +kernel, by decide +kernel, by decide +kernel⟩, w_465, w_7⟩
def mX4_isAtRest : MM := (yX4_isAtRest, cX4_isAtRest, 9, (some .boolean), { frames := 1, cells := 0, slots := 0, locals := 22 })
theorem iX4_isAtRest : MV mX4_isAtRest 1 := ⟨⟨by decide +kernel, w_524, w_65, by decide +kernel, by decide +kernel, by decide +kernel⟩, w_523, w_12⟩
def mX4_agrees : MM := (yX4_agrees, cX4_agrees, 7, (some .boolean), { frames := 1, cells := 0, slots := 0, locals := 21 })
theorem iX4_agrees : MV mX4_agrees 2 := ⟨⟨by decide +kernel, w_740, w_65, by decide +kernel, by decide +kernel, by decide +kernel⟩, w_739, w_25⟩
def mX5_init : MM := (yX5_init, cX5_init, 1, none, { frames := 1, cells := 12, slots := 663, locals := 20 })
theorem iX5_init : MN mX5_init 0 := ⟨⟨by decide +kernel, w_773, w_70, by decide +kernel, by decide +kernel, by decide +kernel⟩, rfl, w_772, rfl⟩
def mX5_in : MM := (yX5_in, cX5_in, 3, (some .boolean), { frames := 0, cells := 0, slots := 0, locals := 0 })
theorem iX5_in : MS mX5_in 3 := ⟨⟨by decide +kernel, w_848, w_70, by decide +kernel, by decide +kernel, by decide +kernel⟩, w_847⟩
def mX5_finds : MM := (yX5_finds, cX5_finds, 2, (some .int), { frames := 0, cells := 0, slots := 0, locals := 0 })
theorem iX5_finds : MV mX5_finds 1 := ⟨⟨by decide +kernel, w_853, w_70, by decide +kernel, by decide +kernel, by decide +kernel⟩, w_852, w_26⟩
def mX5_its : MM := (yX5_its, cX5_its, 3, (some .int), { frames := 0, cells := 0, slots := 0, locals := 0 })
theorem iX5_its : MV mX5_its 2 := ⟨⟨by decide +kernel, w_874, w_70, by decide +kernel, by decide +kernel, by decide +kernel⟩, w_873, w_30⟩
def mX5_sets : MM := (yX5_sets, cX5_sets, 4, none, { frames := 0, cells := 0, slots := 0, locals := 0 })
theorem iX5_sets : MV mX5_sets 3 := ⟨⟨by decide +kernel, w_862, w_70, by decide +kernel, by decide +kernel, by decide +kernel⟩, w_861, w_28⟩
def mX5_isOne : MM := (yX5_isOne, cX5_isOne, 2, (some .boolean), { frames := 1, cells := 0, slots := 0, locals := 22 })
theorem iX5_isOne : MV mX5_isOne 1 := ⟨⟨by decide +kernel, w_870, w_70, by decide +kernel, by decide +kernel, by decide +kernel⟩, w_869, w_29⟩
def mX5_isKind : MM := (yX5_isKind, cX5_isKind, 1, (some .boolean), { frames := 1, cells := 0, slots := 0, locals := 22 })
theorem iX5_isKind : MS mX5_isKind 1 := ⟨⟨by decide +kernel, w_845, w_70, by decide +kernel, by decide +kernel, by decide +kernel⟩, w_844⟩
def mX5_cut : MM := (yX5_cut, cX5_cut, 2, (some .int), { frames := 0, cells := 0, slots := 0, locals := 0 })
theorem iX5_cut : MS mX5_cut 2 := ⟨⟨by decide +kernel, w_889, w_70, by decide +kernel, by decide +kernel, by decide +kernel⟩, w_888⟩
def mX5_thinks : MM := (yX5_thinks, cX5_thinks, 3, (some .int), { frames := 1, cells := 0, slots := 0, locals := 22 })
theorem iX5_thinks : MV mX5_thinks 2 := ⟨⟨by decide +kernel, w_878, w_70, by decide +kernel, by decide +kernel, by decide +kernel⟩, w_877, w_31⟩
def mX5_shortAs : MM := (yX5_shortAs, cX5_shortAs, 5, (some .int), { frames := 2, cells := 0, slots := 0, locals := 44 })
theorem iX5_shortAs : MV mX5_shortAs 3 := ⟨⟨by decide +kernel, w_882, w_70, by decide +kernel, by decide +kernel, by decide +kernel⟩, w_881, w_32⟩
def mX5_would : MM := (yX5_would, cX5_would, 5, (some .int), { frames := 3, cells := 0, slots := 0, locals := 68 })
theorem iX5_would : MV mX5_would 2 := ⟨⟨by decide +kernel, w_886, w_70, by decide +kernel, by decide +kernel, by decide +kernel⟩, w_885, w_33⟩
def mX5_addOne : MM := (yX5_addOne, cX5_addOne, 6, none, { frames := 1, cells := 0, slots := 0, locals := 23 })
theorem iX5_addOne : MV mX5_addOne 4 := ⟨⟨by decide +kernel, w_858, w_70, by decide +kernel, by decide +kernel, by decide +kernel⟩, w_857, w_27⟩
def mX5_person : MM := (yX5_person, cX5_person, 2, (some .int), { frames := 2, cells := 0, slots := 0, locals := 48 })
theorem iX5_person : MV mX5_person 1 := ⟨⟨by decide +kernel, w_842, w_70, by decide +kernel, by decide +kernel, by decide +kernel⟩, w_840, w_841⟩
def mX5_of : MM := (yX5_of, cX5_of, 3, (some .int), { frames := 4, cells := 0, slots := 0, locals := 92 })
theorem iX5_of : MV mX5_of 2 := ⟨⟨by decide +kernel, w_866, w_70, by decide +kernel, by decide +kernel, by decide +kernel⟩, w_864, w_865⟩
def mX5_set : MM := (yX5_set, cX5_set, 6, (some .int), { frames := 2, cells := 0, slots := 0, locals := 43 })
theorem iX5_set : MV mX5_set 3 := ⟨⟨by decide +kernel, w_893, w_70, by decide +kernel, by decide +kernel, by decide +kernel⟩, w_891, w_892⟩
def mX5_turn : MM := (yX5_turn, cX5_turn, 4, (some .int), { frames := 2, cells := 0, slots := 0, locals := 43 })
theorem iX5_turn : MV mX5_turn 2 := ⟨⟨by decide +kernel, w_897, w_70, by decide +kernel, by decide +kernel, by decide +kernel⟩, w_895, w_896⟩
def mX5_isUnder : MM := (yX5_isUnder, cX5_isUnder, 2, (some .boolean), { frames := 0, cells := 0, slots := 0, locals := 0 })
theorem iX5_isUnder : MS mX5_isUnder 2 := ⟨⟨by decide +kernel, w_904, w_70, by decide +kernel, by decide +kernel, by decide +kernel⟩, w_903⟩
def mX5_as : MM := (yX5_as, cX5_as, 3, (some .int), { frames := 2, cells := 0, slots := 0, locals := 43 })
theorem iX5_as : MV mX5_as 2 := ⟨⟨by decide +kernel, w_901, w_70, by decide +kernel, by decide +kernel, by decide +kernel⟩, w_899, w_900⟩
def mX5_change : MM := (yX5_change, cX5_change, 5, none, { frames := 1, cells := 0, slots := 0, locals := 23 })
theorem iX5_change : MV mX5_change 2 := ⟨⟨by decide +kernel, w_917, w_70, by decide +kernel, by decide +kernel, by decide +kernel⟩, w_916, w_35⟩
def mX5_goTo : MM := (yX5_goTo, cX5_goTo, 4, none, { frames := 2, cells := 0, slots := 0, locals := 47 })
theorem iX5_goTo : MV mX5_goTo 2 := ⟨⟨by decide +kernel, w_913, w_70, by decide +kernel, by decide +kernel, by decide +kernel⟩, w_912, w_34⟩
def mX5_move : MM := (yX5_move, cX5_move, 3, (some .int), { frames := 3, cells := 0, slots := 0, locals := 70 })
theorem iX5_move : MV mX5_move 2 := ⟨⟨by decide +kernel, w_909, w_70, by decide +kernel, by decide +kernel, by decide +kernel⟩, w_907, w_908⟩
def mX5_leave : MM := (yX5_leave, cX5_leave, 2, (some .int), { frames := 3, cells := 0, slots := 0, locals := 70 })
theorem iX5_leave : MV mX5_leave 1 := ⟨⟨by decide +kernel, w_921, w_70, by decide +kernel, by decide +kernel, by decide +kernel⟩, w_919, w_920⟩
def mX5_coins : MM := (yX5_coins, cX5_coins, 3, (some .int), { frames := 1, cells := 0, slots := 0, locals := 22 })
theorem iX5_coins : MV mX5_coins 1 := ⟨⟨by decide +kernel, w_925, w_70, by decide +kernel, by decide +kernel, by decide +kernel⟩, w_923, w_924⟩
def mX5_law : MM := (yX5_law, cX5_law, 3, (some .int), { frames := 1, cells := 0, slots := 0, locals := 22 })
theorem iX5_law : MV mX5_law 1 := ⟨⟨by decide +kernel, w_929, w_70, by decide +kernel, by decide +kernel, by decide +kernel⟩, w_927, w_928⟩
def mX5_diver : MM := (yX5_diver, cX5_diver, 4, (some .int), { frames := 1, cells := 0, slots := 0, locals := 22 })
theorem iX5_diver : MV mX5_diver 2 := ⟨⟨by decide +kernel, w_933, w_70, by decide +kernel, by decide +kernel, by decide +kernel⟩, w_931, w_932⟩
def mX5_findOrder : MM := (yX5_findOrder, cX5_findOrder, 4, none, { frames := 0, cells := 0, slots := 0, locals := 0 })
theorem iX5_findOrder : MV mX5_findOrder 0 := ⟨⟨by decide +kernel, w_950, w_70, by decide +kernel, by decide +kernel, by decide +kernel⟩, w_949, w_38⟩
def mX5_throwAll : MM := (yX5_throwAll, cX5_throwAll, 6, none, { frames := 4, cells := 0, slots := 0, locals := 92 })
theorem iX5_throwAll : MV mX5_throwAll 2 := ⟨⟨by decide +kernel, w_946, w_70, by decide +kernel, by decide +kernel, by decide +kernel⟩, w_945, w_37⟩
def mX5_gainOf : MM := (yX5_gainOf, cX5_gainOf, 2, (some .int), { frames := 1, cells := 0, slots := 0, locals := 22 })
theorem iX5_gainOf : MV mX5_gainOf 1 := ⟨⟨by decide +kernel, w_979, w_70, by decide +kernel, by decide +kernel, by decide +kernel⟩, w_978, w_41⟩
def mX5_gainWith : MM := (yX5_gainWith, cX5_gainWith, 3, (some .int), { frames := 5, cells := 0, slots := 0, locals := 117 })
theorem iX5_gainWith : MV mX5_gainWith 2 := ⟨⟨by decide +kernel, w_1008, w_70, by decide +kernel, by decide +kernel, by decide +kernel⟩, w_1007, w_44⟩
def mX5_gainNow : MM := (yX5_gainNow, cX5_gainNow, 2, (some .int), { frames := 5, cells := 0, slots := 0, locals := 117 })
theorem iX5_gainNow : MV mX5_gainNow 1 := ⟨⟨by decide +kernel, w_975, w_70, by decide +kernel, by decide +kernel, by decide +kernel⟩, w_974, w_40⟩
def mX5_gainOfAll : MM := (yX5_gainOfAll, cX5_gainOfAll, 3, (some .int), { frames := 5, cells := 0, slots := 0, locals := 117 })
theorem iX5_gainOfAll : MV mX5_gainOfAll 0 := ⟨⟨by decide +kernel, w_987, w_70, by decide +kernel, by decide +kernel, by decide +kernel⟩, w_986, w_42⟩
def mX5_anHour : MM := (yX5_anHour, cX5_anHour, 5, (some .int), { frames := 5, cells := 0, slots := 0, locals := 117 })
theorem iX5_anHour : MV mX5_anHour 0 := ⟨⟨by decide +kernel, w_942, w_70, by decide +kernel, by decide +kernel, by decide +kernel⟩, w_941, w_36⟩
def mX5_hours : MM := (yX5_hours, cX5_hours, 4, (some .int), { frames := 6, cells := 0, slots := 0, locals := 141 })
theorem iX5_hours : MV mX5_hours 1 := ⟨⟨by decide +kernel, w_937, w_70, by decide +kernel, by decide +kernel, by decide +kernel⟩, w_935, w_936⟩
def mX5_sumOf : MM := (yX5_sumOf, cX5_sumOf, 4, (some .int), { frames := 1, cells := 0, slots := 0, locals := 22 })
theorem iX5_sumOf : MV mX5_sumOf 1 := ⟨⟨by decide +kernel, w_959, w_70, by decide +kernel, by decide +kernel, by decide +kernel⟩, w_958, w_39⟩
def mX5_now : MM := (yX5_now, cX5_now, 2, (some .int), { frames := 2, cells := 0, slots := 0, locals := 45 })
theorem iX5_now : MV mX5_now 1 := ⟨⟨by decide +kernel, w_955, w_70, by decide +kernel, by decide +kernel, by decide +kernel⟩, w_953, w_954⟩
def mX5_runs : MM := (yX5_runs, cX5_runs, 1, (some .int), { frames := 5, cells := 0, slots := 0, locals := 117 })
theorem iX5_runs : MV mX5_runs 0 := ⟨⟨by decide +kernel, w_963, w_70, by decide +kernel, by decide +kernel, by decide +kernel⟩, w_961, w_962⟩
def mX5_thrown : MM := (yX5_thrown, cX5_thrown, 2, (some .int), { frames := 5, cells := 0, slots := 0, locals := 117 })
theorem iX5_thrown : MV mX5_thrown 1 := ⟨⟨by decide +kernel, w_967, w_70, by decide +kernel, by decide +kernel, by decide +kernel⟩, w_965, w_966⟩
def mX5_gain : MM := (yX5_gain, cX5_gain, 2, (some .int), { frames := 6, cells := 0, slots := 0, locals := 138 })
theorem iX5_gain : MV mX5_gain 1 := ⟨⟨by decide +kernel, w_971, w_70, by decide +kernel, by decide +kernel, by decide +kernel⟩, w_969, w_970⟩
def mX5_all : MM := (yX5_all, cX5_all, 1, (some .int), { frames := 6, cells := 0, slots := 0, locals := 139 })
theorem iX5_all : MV mX5_all 0 := ⟨⟨by decide +kernel, w_983, w_70, by decide +kernel, by decide +kernel, by decide +kernel⟩, w_981, w_982⟩
def mX5_on : MM := (yX5_on, cX5_on, 5, (some .int), { frames := 6, cells := 0, slots := 0, locals := 141 })
theorem iX5_on : MV mX5_on 2 := ⟨⟨by decide +kernel, w_991, w_70, by decide +kernel, by decide +kernel, by decide +kernel⟩, w_989, w_990⟩
def mX5_empty : MM := (yX5_empty, cX5_empty, 3, (some .int), { frames := 6, cells := 0, slots := 0, locals := 141 })
theorem iX5_empty : MV mX5_empty 0 := ⟨⟨by decide +kernel, w_999, w_70, by decide +kernel, by decide +kernel, by decide +kernel⟩, w_997, w_998⟩
def mX5_gainIf : MM := (yX5_gainIf, cX5_gainIf, 3, (some .int), { frames := 6, cells := 0, slots := 0, locals := 139 })
theorem iX5_gainIf : MV mX5_gainIf 2 := ⟨⟨by decide +kernel, w_1004, w_70, by decide +kernel, by decide +kernel, by decide +kernel⟩, w_1002, w_1003⟩
def mX5_bestOf : MM := (yX5_bestOf, cX5_bestOf, 6, (some .int), { frames := 6, cells := 0, slots := 0, locals := 139 })
theorem iX5_bestOf : MV mX5_bestOf 1 := ⟨⟨by decide +kernel, w_1016, w_70, by decide +kernel, by decide +kernel, by decide +kernel⟩, w_1015, w_45⟩
def mX5_best : MM := (yX5_best, cX5_best, 2, (some .int), { frames := 7, cells := 0, slots := 0, locals := 164 })
theorem iX5_best : MV mX5_best 1 := ⟨⟨by decide +kernel, w_1012, w_70, by decide +kernel, by decide +kernel, by decide +kernel⟩, w_1010, w_1011⟩
def mX5_regretOf : MM := (yX5_regretOf, cX5_regretOf, 4, (some .int), { frames := 7, cells := 0, slots := 0, locals := 164 })
theorem iX5_regretOf : MV mX5_regretOf 1 := ⟨⟨by decide +kernel, w_1024, w_70, by decide +kernel, by decide +kernel, by decide +kernel⟩, w_1023, w_46⟩
def mX5_sorry : MM := (yX5_sorry, cX5_sorry, 3, (some .int), { frames := 8, cells := 0, slots := 0, locals := 187 })
theorem iX5_sorry : MV mX5_sorry 0 := ⟨⟨by decide +kernel, w_1020, w_70, by decide +kernel, by decide +kernel, by decide +kernel⟩, w_1018, w_1019⟩
def mX5_regret : MM := (yX5_regret, cX5_regret, 2, (some .int), { frames := 8, cells := 0, slots := 0, locals := 187 })
theorem iX5_regret : MV mX5_regret 1 := ⟨⟨by decide +kernel, w_1028, w_70, by decide +kernel, by decide +kernel, by decide +kernel⟩, w_1026, w_1027⟩
def mX5_stand : MM := (yX5_stand, cX5_stand, 6, (some .int), { frames := 6, cells := 0, slots := 0, locals := 138 })
theorem iX5_stand : MV mX5_stand 1 := ⟨⟨by decide +kernel, w_1032, w_70, by decide +kernel, by decide +kernel, by decide +kernel⟩, w_1030, w_1031⟩
def mX5_kind : MM := (yX5_kind, cX5_kind, 7, (some .int), { frames := 6, cells := 0, slots := 0, locals := 138 })
theorem iX5_kind : MV mX5_kind 1 := ⟨⟨by decide +kernel, w_1037, w_70, by decide +kernel, by decide +kernel, by decide +kernel⟩, w_1035, w_1036⟩
def mX5_allWith : MM := (yX5_allWith, cX5_allWith, 6, (some .int), { frames := 6, cells := 0, slots := 0, locals := 139 })
theorem iX5_allWith : MV mX5_allWith 2 := ⟨⟨by decide +kernel, w_1045, w_70, by decide +kernel, by decide +kernel, by decide +kernel⟩, w_1044, w_47⟩
def mX5_lie : MM := (yX5_lie, cX5_lie, 5, (some .int), { frames := 7, cells := 0, slots := 0, locals := 164 })
theorem iX5_lie : MV mX5_lie 0 := ⟨⟨by decide +kernel, w_1041, w_70, by decide +kernel, by decide +kernel, by decide +kernel⟩, w_1039, w_1040⟩
def mX5_word : MM := (yX5_word, cX5_word, 2, (some .int), { frames := 7, cells := 0, slots := 0, locals := 164 })
theorem iX5_word : MV mX5_word 0 := ⟨⟨by decide +kernel, w_1049, w_70, by decide +kernel, by decide +kernel, by decide +kernel⟩, w_1047, w_1048⟩
def mX5_forEachCoin : MM := (yX5_forEachCoin, cX5_forEachCoin, 4, (some .int), { frames := 5, cells := 0, slots := 0, locals := 117 })
theorem iX5_forEachCoin : MV mX5_forEachCoin 0 := ⟨⟨by decide +kernel, w_1057, w_70, by decide +kernel, by decide +kernel, by decide +kernel⟩, w_1056, w_48⟩
def mX5_fair : MM := (yX5_fair, cX5_fair, 6, (some .int), { frames := 6, cells := 0, slots := 0, locals := 140 })
theorem iX5_fair : MV mX5_fair 0 := ⟨⟨by decide +kernel, w_1053, w_70, by decide +kernel, by decide +kernel, by decide +kernel⟩, w_1051, w_1052⟩
def mX5_ones : MM := (yX5_ones, cX5_ones, 3, (some .int), { frames := 0, cells := 0, slots := 0, locals := 0 })
theorem iX5_ones : MS mX5_ones 1 := ⟨⟨by decide +kernel, w_1073, w_70, by decide +kernel, by decide +kernel, by decide +kernel⟩, w_1072⟩
def mX5_gainIn : MM := (yX5_gainIn, cX5_gainIn, 4, (some .int), { frames := 1, cells := 0, slots := 0, locals := 22 })
theorem iX5_gainIn : MV mX5_gainIn 2 := ⟨⟨by decide +kernel, w_1070, w_70, by decide +kernel, by decide +kernel, by decide +kernel⟩, w_1069, w_50⟩
def mX5_isRest : MM := (yX5_isRest, cX5_isRest, 5, (some .boolean), { frames := 2, cells := 0, slots := 0, locals := 45 })
theorem iX5_isRest : MV mX5_isRest 1 := ⟨⟨by decide +kernel, w_1066, w_70, by decide +kernel, by decide +kernel, by decide +kernel⟩, w_1065, w_49⟩
def mX5_rests : MM := (yX5_rests, cX5_rests, 3, (some .int), { frames := 3, cells := 0, slots := 0, locals := 69 })
theorem iX5_rests : MV mX5_rests 0 := ⟨⟨by decide +kernel, w_1061, w_70, by decide +kernel, by decide +kernel, by decide +kernel⟩, w_1059, w_1060⟩
def mX5_rest : MM := (yX5_rest, cX5_rest, 2, (some .int), { frames := 3, cells := 0, slots := 0, locals := 69 })
theorem iX5_rest : MV mX5_rest 0 := ⟨⟨by decide +kernel, w_1077, w_70, by decide +kernel, by decide +kernel, by decide +kernel⟩, w_1075, w_1076⟩
def mX5_feed : MM := (yX5_feed, cX5_feed, 4, (some .int), { frames := 1, cells := 0, slots := 0, locals := 22 })
theorem iX5_feed : MV mX5_feed 2 := ⟨⟨by decide +kernel, w_1081, w_70, by decide +kernel, by decide +kernel, by decide +kernel⟩, w_1079, w_1080⟩
def mX5_wipe : MM := (yX5_wipe, cX5_wipe, 2, (some .int), { frames := 0, cells := 0, slots := 0, locals := 0 })
theorem iX5_wipe : MV mX5_wipe 0 := ⟨⟨by decide +kernel, w_1085, w_70, by decide +kernel, by decide +kernel, by decide +kernel⟩, w_1083, w_1084⟩
def mX5_byteAt : MM := (yX5_byteAt, cX5_byteAt, 2, (some .int), { frames := 0, cells := 0, slots := 0, locals := 0 })
theorem iX5_byteAt : MV mX5_byteAt 1 := ⟨⟨by decide +kernel, w_1097, w_70, by decide +kernel, by decide +kernel, by decide +kernel⟩, w_1096, w_52⟩
def mX5_isLetter : MM := (yX5_isLetter, cX5_isLetter, 1, (some .boolean), { frames := 1, cells := 0, slots := 0, locals := 22 })
theorem iX5_isLetter : MS mX5_isLetter 1 := ⟨⟨by decide +kernel, w_1100, w_70, by decide +kernel, by decide +kernel, by decide +kernel⟩, w_1099⟩
def mX5_isDigit : MM := (yX5_isDigit, cX5_isDigit, 1, (some .boolean), { frames := 1, cells := 0, slots := 0, locals := 22 })
theorem iX5_isDigit : MS mX5_isDigit 1 := ⟨⟨by decide +kernel, w_1103, w_70, by decide +kernel, by decide +kernel, by decide +kernel⟩, w_1102⟩
def mX5_advance : MM := (yX5_advance, cX5_advance, 2, none, { frames := 2, cells := 0, slots := 0, locals := 42 })
theorem iX5_advance : MV mX5_advance 0 := ⟨⟨by decide +kernel, w_1093, w_70, by decide +kernel, by decide +kernel, by decide +kernel⟩, w_1092, w_51⟩
def mX5_isWord : MM := (yX5_isWord, cX5_isWord, 3, (some .boolean), { frames := 0, cells := 0, slots := 0, locals := 0 })
theorem iX5_isWord : MV mX5_isWord 1 := ⟨⟨by decide +kernel, w_1119, w_70, by decide +kernel, by decide +kernel, by decide +kernel⟩, w_1118, w_55⟩
def mX5_kindHere : MM := (yX5_kindHere, cX5_kindHere, 1, (some .int), { frames := 1, cells := 0, slots := 0, locals := 22 })
theorem iX5_kindHere : MV mX5_kindHere 0 := ⟨⟨by decide +kernel, w_1114, w_70, by decide +kernel, by decide +kernel, by decide +kernel⟩, w_1113, w_54⟩
def mX5_wantNumber : MM := (yX5_wantNumber, cX5_wantNumber, 4, (some .int), { frames := 3, cells := 0, slots := 0, locals := 63 })
theorem iX5_wantNumber : MV mX5_wantNumber 2 := ⟨⟨by decide +kernel, w_1137, w_70, by decide +kernel, by decide +kernel, by decide +kernel⟩, w_1136, w_58⟩
def mX5_mayWant : MM := (yX5_mayWant, cX5_mayWant, 6, (some .int), { frames := 4, cells := 0, slots := 0, locals := 86 })
theorem iX5_mayWant : MV mX5_mayWant 4 := ⟨⟨by decide +kernel, w_1133, w_70, by decide +kernel, by decide +kernel, by decide +kernel⟩, w_1132, w_57⟩
def mX5_wantOne : MM := (yX5_wantOne, cX5_wantOne, 5, none, { frames := 5, cells := 0, slots := 0, locals := 111 })
theorem iX5_wantOne : MV mX5_wantOne 1 := ⟨⟨by decide +kernel, w_1128, w_70, by decide +kernel, by decide +kernel, by decide +kernel⟩, w_1127, w_56⟩
def mX5_wantLet : MM := (yX5_wantLet, cX5_wantLet, 4, none, { frames := 4, cells := 0, slots := 0, locals := 86 })
theorem iX5_wantLet : MV mX5_wantLet 2 := ⟨⟨by decide +kernel, w_1144, w_70, by decide +kernel, by decide +kernel, by decide +kernel⟩, w_1143, w_59⟩
def mX5_wantDiver : MM := (yX5_wantDiver, cX5_wantDiver, 3, none, { frames := 4, cells := 0, slots := 0, locals := 86 })
theorem iX5_wantDiver : MV mX5_wantDiver 0 := ⟨⟨by decide +kernel, w_1150, w_70, by decide +kernel, by decide +kernel, by decide +kernel⟩, w_1149, w_60⟩
def mX5_wantSwap : MM := (yX5_wantSwap, cX5_wantSwap, 3, none, { frames := 4, cells := 0, slots := 0, locals := 86 })
theorem iX5_wantSwap : MV mX5_wantSwap 0 := ⟨⟨by decide +kernel, w_1157, w_70, by decide +kernel, by decide +kernel, by decide +kernel⟩, w_1156, w_61⟩
def mX5_wantItem : MM := (yX5_wantItem, cX5_wantItem, 1, none, { frames := 6, cells := 0, slots := 0, locals := 135 })
theorem iX5_wantItem : MV mX5_wantItem 0 := ⟨⟨by decide +kernel, w_1110, w_70, by decide +kernel, by decide +kernel, by decide +kernel⟩, w_1109, w_53⟩
def mX5_square : MM := (yX5_square, cX5_square, 3, (some .int), { frames := 7, cells := 0, slots := 0, locals := 155 })
theorem iX5_square : MV mX5_square 0 := ⟨⟨by decide +kernel, w_1089, w_70, by decide +kernel, by decide +kernel, by decide +kernel⟩, w_1087, w_1088⟩
def mX5_isSheet : MM := (yX5_isSheet, cX5_isSheet, 1, (some .boolean), { frames := 1, cells := 0, slots := 0, locals := 22 })
theorem iX5_isSheet : MS mX5_isSheet 1 := ⟨⟨by decide +kernel, w_1164, w_70, by decide +kernel, by decide +kernel, by decide +kernel⟩, w_1163⟩
def mX5_narrow : MM := (yX5_narrow, cX5_narrow, 3, (some .long), { frames := 0, cells := 0, slots := 0, locals := 0 })
theorem iX5_narrow : MS mX5_narrow 2 := ⟨⟨by decide +kernel, w_1172, w_70, by decide +kernel, by decide +kernel, by decide +kernel⟩, w_1171⟩
def mX5_sheet : MM := (yX5_sheet, cX5_sheet, 5, (some .int), { frames := 2, cells := 0, slots := 0, locals := 42 })
theorem iX5_sheet : MV mX5_sheet 3 := ⟨⟨by decide +kernel, w_1161, w_70, by decide +kernel, by decide +kernel, by decide +kernel⟩, w_1159, w_1160⟩
def mX5_write : MM := (yX5_write, cX5_write, 7, (some .long), { frames := 2, cells := 0, slots := 0, locals := 42 })
theorem iX5_write : MV mX5_write 3 := ⟨⟨by decide +kernel, w_1168, w_70, by decide +kernel, by decide +kernel, by decide +kernel⟩, w_1166, w_1167⟩
def mX5_isPart : MM := (yX5_isPart, cX5_isPart, 4, (some .boolean), { frames := 0, cells := 0, slots := 0, locals := 0 })
theorem iX5_isPart : MV mX5_isPart 3 := ⟨⟨by decide +kernel, w_1180, w_70, by decide +kernel, by decide +kernel, by decide +kernel⟩, w_1179, w_62⟩
def mX5_copy : MM := (yX5_copy, cX5_copy, 7, (some .int), { frames := 2, cells := 0, slots := 0, locals := 42 })
theorem iX5_copy : MV mX5_copy 5 := ⟨⟨by decide +kernel, w_1176, w_70, by decide +kernel, by decide +kernel, by decide +kernel⟩, w_1174, w_1175⟩
def mX5_lays : MM := (yX5_lays, cX5_lays, 6, (some .int), { frames := 2, cells := 0, slots := 0, locals := 42 })
theorem iX5_lays : MV mX5_lays 1 := ⟨⟨by decide +kernel, w_1184, w_70, by decide +kernel, by decide +kernel, by decide +kernel⟩, w_1182, w_1183⟩
def mX5_book : MM := (yX5_book, cX5_book, 5, (some .int), { frames := 6, cells := 0, slots := 0, locals := 141 })
theorem iX5_book : MV mX5_book 1 := ⟨⟨by decide +kernel, w_1189, w_70, by decide +kernel, by decide +kernel, by decide +kernel⟩, w_1187, w_1188⟩
def mX5_isKnown : MM := (yX5_isKnown, cX5_isKnown, 7, (some .boolean), { frames := 0, cells := 0, slots := 0, locals := 0 })
theorem iX5_isKnown : MV mX5_isKnown 2 := ⟨⟨by decide +kernel, w_1197, w_70, by decide +kernel, by decide +kernel, by decide +kernel⟩, w_1196, w_63⟩
def mX5_read : MM := (yX5_read, cX5_read, 6, (some .int), { frames := 2, cells := 0, slots := 0, locals := 42 })
theorem iX5_read : MV mX5_read 2 := ⟨⟨by decide +kernel, w_1193, w_70, by decide +kernel, by decide +kernel, by decide +kernel⟩, w_1191, w_1192⟩
def mX5_moveAll : MM := (yX5_moveAll, cX5_moveAll, 4, none, { frames := 0, cells := 0, slots := 0, locals := 0 })
theorem iX5_moveAll : MV mX5_moveAll 2 := ⟨⟨by decide +kernel, w_995, w_70, by decide +kernel, by decide +kernel, by decide +kernel⟩, w_994, w_43⟩
def mX5_image : MM := (yX5_image, cX5_image, 1, (some .int), { frames := 1, cells := 0, slots := 0, locals := 23 })
theorem iX5_image : MV mX5_image 0 := ⟨⟨by decide +kernel, w_1201, w_70, by decide +kernel, by decide +kernel, by decide +kernel⟩, w_1199, w_1200⟩
def mX5_undo : MM := (yX5_undo, cX5_undo, 1, (some .int), { frames := 1, cells := 0, slots := 0, locals := 23 })
theorem iX5_undo : MV mX5_undo 0 := ⟨⟨by decide +kernel, w_1205, w_70, by decide +kernel, by decide +kernel, by decide +kernel⟩, w_1203, w_1204⟩
def mX5_tear : MM := (yX5_tear, cX5_tear, 2, (some .int), { frames := 0, cells := 0, slots := 0, locals := 0 })
theorem iX5_tear : MV mX5_tear 0 := ⟨⟨by decide +kernel, w_1209, w_70, by decide +kernel, by decide +kernel, by decide +kernel⟩, w_1207, w_1208⟩
def mX5_count : MM := (yX5_count, cX5_count, 2, (some .int), { frames := 2, cells := 0, slots := 0, locals := 45 })
theorem iX5_count : MV mX5_count 1 := ⟨⟨by decide +kernel, w_1213, w_70, by decide +kernel, by decide +kernel, by decide +kernel⟩, w_1211, w_1212⟩
def mX5_status : MM := (yX5_status, cX5_status, 4, (some .int), { frames := 1, cells := 0, slots := 0, locals := 22 })
theorem iX5_status : MV mX5_status 1 := ⟨⟨by decide +kernel, w_1217, w_70, by decide +kernel, by decide +kernel, by decide +kernel⟩, w_1215, w_1216⟩
def mJ6_bitCount_0f7a4 : MM := (yJ6_bitCount_0f7a4, cJ6_bitCount_0f7a4, 1, (some .int), { frames := 0, cells := 0, slots := 0, locals := 0 })
theorem iJ6_bitCount_0f7a4 : MS mJ6_bitCount_0f7a4 1 := ⟨⟨by decide +kernel, w_527, w_72, by decide +kernel, by decide +kernel, by decide +kernel⟩, w_526⟩
def mJ0_length_8abf5 : MM := (yJ0_length_8abf5, cJ0_length_8abf5, 1, (some .int), { frames := 1, cells := 0, slots := 0, locals := 20 })
theorem iJ0_length_8abf5 : MV mJ0_length_8abf5 0 := ⟨⟨by decide +kernel, w_594, w_73, by decide +kernel, by decide +kernel, by decide +kernel⟩, w_592, w_593⟩
def mJ0_charAt_5068e : MM := (yJ0_charAt_5068e, cJ0_charAt_5068e, 2, (some .char), { frames := 4, cells := 0, slots := 0, locals := 85 })
theorem iJ0_charAt_5068e : MV mJ0_charAt_5068e 1 := ⟨⟨by decide +kernel, w_604, w_73, by decide +kernel, by decide +kernel, by decide +kernel⟩, w_602, w_603⟩
def mJ0_coder_7d493 : MM := (yJ0_coder_7d493, cJ0_coder_7d493, 1, (some .byte), { frames := 0, cells := 0, slots := 0, locals := 0 })
theorem iJ0_coder_7d493 : MV mJ0_coder_7d493 0 := ⟨⟨by decide +kernel, w_598, w_73, by decide +kernel, by decide +kernel, by decide +kernel⟩, w_596, w_597⟩
def mJ0_isLatin1_aae02 : MM := (yJ0_isLatin1_aae02, cJ0_isLatin1_aae02, 1, (some .boolean), { frames := 0, cells := 0, slots := 0, locals := 0 })
theorem iJ0_isLatin1_aae02 : MV mJ0_isLatin1_aae02 0 := ⟨⟨by decide +kernel, w_608, w_73, by decide +kernel, by decide +kernel, by decide +kernel⟩, w_606, w_607⟩
def mJ0_checkIndex_df160 : MM := (yJ0_checkIndex_df160, cJ0_checkIndex_df160, 2, none, { frames := 1, cells := 0, slots := 0, locals := 22 })
theorem iJ0_checkIndex_df160 : MS mJ0_checkIndex_df160 2 := ⟨⟨by decide +kernel, w_614, w_73, by decide +kernel, by decide +kernel, by decide +kernel⟩, w_613⟩
def mJ1_charAt_3b067 : MM := (yJ1_charAt_3b067, cJ1_charAt_3b067, 2, (some .char), { frames := 2, cells := 0, slots := 0, locals := 43 })
theorem iJ1_charAt_3b067 : MS mJ1_charAt_3b067 2 := ⟨⟨by decide +kernel, w_611, w_74, by decide +kernel, by decide +kernel, by decide +kernel⟩, w_610⟩
def mJ2_getChar_3b067 : MM := (yJ2_getChar_3b067, cJ2_getChar_3b067, 2, (some .char), { frames := 1, cells := 0, slots := 0, locals := 20 })
theorem iJ2_getChar_3b067 : MS mJ2_getChar_3b067 2 := ⟨⟨by decide +kernel, w_632, w_76, by decide +kernel, by decide +kernel, by decide +kernel⟩, w_631⟩
def mJ2_length_9d52b : MM := (yJ2_length_9d52b, cJ2_length_9d52b, 1, (some .int), { frames := 0, cells := 0, slots := 0, locals := 0 })
theorem iJ2_length_9d52b : MS mJ2_length_9d52b 1 := ⟨⟨by decide +kernel, w_628, w_76, by decide +kernel, by decide +kernel, by decide +kernel⟩, w_627⟩
def mJ2_charAt_3b067 : MM := (yJ2_charAt_3b067, cJ2_charAt_3b067, 2, (some .char), { frames := 3, cells := 0, slots := 0, locals := 64 })
theorem iJ2_charAt_3b067 : MS mJ2_charAt_3b067 2 := ⟨⟨by decide +kernel, w_622, w_76, by decide +kernel, by decide +kernel, by decide +kernel⟩, w_621⟩
def mJ2_checkIndex_2214a : MM := (yJ2_checkIndex_2214a, cJ2_checkIndex_2214a, 2, none, { frames := 2, cells := 0, slots := 0, locals := 43 })
theorem iJ2_checkIndex_2214a : MS mJ2_checkIndex_2214a 2 := ⟨⟨by decide +kernel, w_625, w_76, by decide +kernel, by decide +kernel, by decide +kernel⟩, w_624⟩
def mJ3_checkIndex_8e157 : MM := (yJ3_checkIndex_8e157, cJ3_checkIndex_8e157, 3, (some .int), { frames := 0, cells := 0, slots := 0, locals := 0 })
theorem iJ3_checkIndex_8e157 : MS mJ3_checkIndex_8e157 3 := ⟨⟨by decide +kernel, w_619, w_75, by decide +kernel, by decide +kernel, by decide +kernel⟩, w_618⟩
theorem lay_0_0 : u_lay (Rc 0) (Tc 0) 0 ∈ tb := w_123
theorem lay_0_1 : u_lay (Rc 0) (Tc 0) 1 ∈ tb := w_125
theorem lay_0_2 : u_lay (Rc 0) (Tc 0) 2 ∈ tb := w_127
theorem lay_0_3 : u_lay (Rc 0) (Tc 0) 3 ∈ tb := w_129
theorem lay_0_4 : u_lay (Rc 0) (Tc 0) 4 ∈ tb := w_131
theorem lay_0_5 : u_lay (Rc 0) (Tc 0) 5 ∈ tb := w_133
theorem lay_0_6 : u_lay (Rc 0) (Tc 0) 6 ∈ tb := w_135
theorem lays_0 : ∀ k, k < 7 → u_lay (Rc 0) (Tc 0) k ∈ tb
  | 0, _ => lay_0_0
  | 1, _ => lay_0_1
  | 2, _ => lay_0_2
  | 3, _ => lay_0_3
  | 4, _ => lay_0_4
  | 5, _ => lay_0_5
  | 6, _ => lay_0_6
  | k + 7, h => absurd h (by omega)
theorem inc_0 : ∀ w ∈ u_ws (Rc 0) (Tc 0) 7, w ∈ tb := fun w hw => by obtain ⟨k, hk, rfl⟩ := List.mem_map.mp hw; exact lays_0 k (List.mem_range.mp hk)
theorem lay_1_0 : u_lay (Rc 1) (Tc 1) 0 ∈ tb := w_216
theorem lay_1_1 : u_lay (Rc 1) (Tc 1) 1 ∈ tb := w_218
theorem lay_1_2 : u_lay (Rc 1) (Tc 1) 2 ∈ tb := w_220
theorem lays_1 : ∀ k, k < 3 → u_lay (Rc 1) (Tc 1) k ∈ tb
  | 0, _ => lay_1_0
  | 1, _ => lay_1_1
  | 2, _ => lay_1_2
  | k + 3, h => absurd h (by omega)
theorem inc_1 : ∀ w ∈ u_ws (Rc 1) (Tc 1) 3, w ∈ tb := fun w hw => by obtain ⟨k, hk, rfl⟩ := List.mem_map.mp hw; exact lays_1 k (List.mem_range.mp hk)
theorem lay_2_0 : u_lay (Rc 2) (Tc 2) 0 ∈ tb := w_159
theorem lay_2_1 : u_lay (Rc 2) (Tc 2) 1 ∈ tb := w_161
theorem lay_2_2 : u_lay (Rc 2) (Tc 2) 2 ∈ tb := w_163
theorem lay_2_3 : u_lay (Rc 2) (Tc 2) 3 ∈ tb := w_165
theorem lay_2_4 : u_lay (Rc 2) (Tc 2) 4 ∈ tb := w_167
theorem lay_2_5 : u_lay (Rc 2) (Tc 2) 5 ∈ tb := w_169
theorem lay_2_6 : u_lay (Rc 2) (Tc 2) 6 ∈ tb := w_171
theorem lay_2_7 : u_lay (Rc 2) (Tc 2) 7 ∈ tb := w_173
theorem lays_2 : ∀ k, k < 8 → u_lay (Rc 2) (Tc 2) k ∈ tb
  | 0, _ => lay_2_0
  | 1, _ => lay_2_1
  | 2, _ => lay_2_2
  | 3, _ => lay_2_3
  | 4, _ => lay_2_4
  | 5, _ => lay_2_5
  | 6, _ => lay_2_6
  | 7, _ => lay_2_7
  | k + 8, h => absurd h (by omega)
theorem inc_2 : ∀ w ∈ u_ws (Rc 2) (Tc 2) 8, w ∈ tb := fun w hw => by obtain ⟨k, hk, rfl⟩ := List.mem_map.mp hw; exact lays_2 k (List.mem_range.mp hk)
theorem lay_3_0 : u_lay (Rc 3) (Tc 3) 0 ∈ tb := w_189
theorem lay_3_1 : u_lay (Rc 3) (Tc 3) 1 ∈ tb := w_191
theorem lay_3_2 : u_lay (Rc 3) (Tc 3) 2 ∈ tb := w_193
theorem lay_3_3 : u_lay (Rc 3) (Tc 3) 3 ∈ tb := w_195
theorem lay_3_4 : u_lay (Rc 3) (Tc 3) 4 ∈ tb := w_197
theorem lay_3_5 : u_lay (Rc 3) (Tc 3) 5 ∈ tb := w_199
theorem lays_3 : ∀ k, k < 6 → u_lay (Rc 3) (Tc 3) k ∈ tb
  | 0, _ => lay_3_0
  | 1, _ => lay_3_1
  | 2, _ => lay_3_2
  | 3, _ => lay_3_3
  | 4, _ => lay_3_4
  | 5, _ => lay_3_5
  | k + 6, h => absurd h (by omega)
theorem inc_3 : ∀ w ∈ u_ws (Rc 3) (Tc 3) 6, w ∈ tb := fun w hw => by obtain ⟨k, hk, rfl⟩ := List.mem_map.mp hw; exact lays_3 k (List.mem_range.mp hk)
theorem lay_4_0 : u_lay (Rc 4) (Tc 4) 0 ∈ tb := w_231
theorem lay_4_1 : u_lay (Rc 4) (Tc 4) 1 ∈ tb := w_233
theorem lay_4_2 : u_lay (Rc 4) (Tc 4) 2 ∈ tb := w_235
theorem lay_4_3 : u_lay (Rc 4) (Tc 4) 3 ∈ tb := w_237
theorem lay_4_4 : u_lay (Rc 4) (Tc 4) 4 ∈ tb := w_239
theorem lay_4_5 : u_lay (Rc 4) (Tc 4) 5 ∈ tb := w_241
theorem lay_4_6 : u_lay (Rc 4) (Tc 4) 6 ∈ tb := w_243
theorem lays_4 : ∀ k, k < 7 → u_lay (Rc 4) (Tc 4) k ∈ tb
  | 0, _ => lay_4_0
  | 1, _ => lay_4_1
  | 2, _ => lay_4_2
  | 3, _ => lay_4_3
  | 4, _ => lay_4_4
  | 5, _ => lay_4_5
  | 6, _ => lay_4_6
  | k + 7, h => absurd h (by omega)
theorem inc_4 : ∀ w ∈ u_ws (Rc 4) (Tc 4) 7, w ∈ tb := fun w hw => by obtain ⟨k, hk, rfl⟩ := List.mem_map.mp hw; exact lays_4 k (List.mem_range.mp hk)
theorem lay_5_0 : u_lay (Rc 5) (Tc 5) 0 ∈ tb := w_796
theorem lay_5_1 : u_lay (Rc 5) (Tc 5) 1 ∈ tb := w_798
theorem lay_5_2 : u_lay (Rc 5) (Tc 5) 2 ∈ tb := w_800
theorem lay_5_3 : u_lay (Rc 5) (Tc 5) 3 ∈ tb := w_802
theorem lay_5_4 : u_lay (Rc 5) (Tc 5) 4 ∈ tb := w_804
theorem lay_5_5 : u_lay (Rc 5) (Tc 5) 5 ∈ tb := w_806
theorem lay_5_6 : u_lay (Rc 5) (Tc 5) 6 ∈ tb := w_808
theorem lay_5_7 : u_lay (Rc 5) (Tc 5) 7 ∈ tb := w_810
theorem lay_5_8 : u_lay (Rc 5) (Tc 5) 8 ∈ tb := w_812
theorem lay_5_9 : u_lay (Rc 5) (Tc 5) 9 ∈ tb := w_814
theorem lay_5_10 : u_lay (Rc 5) (Tc 5) 10 ∈ tb := w_816
theorem lay_5_11 : u_lay (Rc 5) (Tc 5) 11 ∈ tb := w_818
theorem lay_5_12 : u_lay (Rc 5) (Tc 5) 12 ∈ tb := w_820
theorem lay_5_13 : u_lay (Rc 5) (Tc 5) 13 ∈ tb := w_822
theorem lay_5_14 : u_lay (Rc 5) (Tc 5) 14 ∈ tb := w_824
theorem lay_5_15 : u_lay (Rc 5) (Tc 5) 15 ∈ tb := w_826
theorem lay_5_16 : u_lay (Rc 5) (Tc 5) 16 ∈ tb := w_828
theorem lay_5_17 : u_lay (Rc 5) (Tc 5) 17 ∈ tb := w_830
theorem lay_5_18 : u_lay (Rc 5) (Tc 5) 18 ∈ tb := w_832
theorem lay_5_19 : u_lay (Rc 5) (Tc 5) 19 ∈ tb := w_834
theorem lay_5_20 : u_lay (Rc 5) (Tc 5) 20 ∈ tb := w_836
theorem lays_5 : ∀ k, k < 21 → u_lay (Rc 5) (Tc 5) k ∈ tb
  | 0, _ => lay_5_0
  | 1, _ => lay_5_1
  | 2, _ => lay_5_2
  | 3, _ => lay_5_3
  | 4, _ => lay_5_4
  | 5, _ => lay_5_5
  | 6, _ => lay_5_6
  | 7, _ => lay_5_7
  | 8, _ => lay_5_8
  | 9, _ => lay_5_9
  | 10, _ => lay_5_10
  | 11, _ => lay_5_11
  | 12, _ => lay_5_12
  | 13, _ => lay_5_13
  | 14, _ => lay_5_14
  | 15, _ => lay_5_15
  | 16, _ => lay_5_16
  | 17, _ => lay_5_17
  | 18, _ => lay_5_18
  | 19, _ => lay_5_19
  | 20, _ => lay_5_20
  | k + 21, h => absurd h (by omega)
theorem inc_5 : ∀ w ∈ u_ws (Rc 5) (Tc 5) 21, w ∈ tb := fun w hw => by obtain ⟨k, hk, rfl⟩ := List.mem_map.mp hw; exact lays_5 k (List.mem_range.mp hk)
theorem in_c : ∀ {c : Nat}, c < 6 → ∀ w ∈ u_ws (Rc c) (Tc c) (Nc c), w ∈ tb
  | 0, _ => inc_0
  | 1, _ => inc_1
  | 2, _ => inc_2
  | 3, _ => inc_3
  | 4, _ => inc_4
  | 5, _ => inc_5
  | c + 6, h => absurd h (by omega)
/-- the pool entry idx of a class names field k of class c -/
def FW (own : String) (idx c k : Nat) : Prop := c < 6 ∧ k < Nc c ∧ Cond.fieldLink own idx (Tc c k).1 (Tc c k).2.1 (Tc c k).2.2.1 ∈ tb
theorem f_X0_7 : FW RX0 7 0 0 := ⟨by decide, by decide, w_99⟩
theorem f_X4_68 : FW RX4 68 0 0 := ⟨by decide, by decide, w_100⟩
theorem f_X2_69 : FW RX2 69 0 0 := ⟨by decide, by decide, w_101⟩
theorem f_X0_13 : FW RX0 13 0 1 := ⟨by decide, by decide, w_102⟩
theorem f_X4_73 : FW RX4 73 0 1 := ⟨by decide, by decide, w_103⟩
theorem f_X3_98 : FW RX3 98 0 1 := ⟨by decide, by decide, w_104⟩
theorem f_X2_75 : FW RX2 75 0 1 := ⟨by decide, by decide, w_105⟩
theorem f_X0_16 : FW RX0 16 0 2 := ⟨by decide, by decide, w_106⟩
theorem f_X4_76 : FW RX4 76 0 2 := ⟨by decide, by decide, w_107⟩
theorem f_X3_104 : FW RX3 104 0 2 := ⟨by decide, by decide, w_108⟩
theorem f_X2_72 : FW RX2 72 0 2 := ⟨by decide, by decide, w_109⟩
theorem f_X0_19 : FW RX0 19 0 3 := ⟨by decide, by decide, w_110⟩
theorem f_X4_79 : FW RX4 79 0 3 := ⟨by decide, by decide, w_111⟩
theorem f_X3_108 : FW RX3 108 0 3 := ⟨by decide, by decide, w_112⟩
theorem f_X2_53 : FW RX2 53 0 3 := ⟨by decide, by decide, w_113⟩
theorem f_X0_22 : FW RX0 22 0 4 := ⟨by decide, by decide, w_114⟩
theorem f_X4_82 : FW RX4 82 0 4 := ⟨by decide, by decide, w_115⟩
theorem f_X2_95 : FW RX2 95 0 4 := ⟨by decide, by decide, w_116⟩
theorem f_X0_25 : FW RX0 25 0 5 := ⟨by decide, by decide, w_117⟩
theorem f_X4_85 : FW RX4 85 0 5 := ⟨by decide, by decide, w_118⟩
theorem f_X2_99 : FW RX2 99 0 5 := ⟨by decide, by decide, w_119⟩
theorem f_X0_28 : FW RX0 28 0 6 := ⟨by decide, by decide, w_120⟩
theorem f_X4_88 : FW RX4 88 0 6 := ⟨by decide, by decide, w_121⟩
theorem f_X2_102 : FW RX2 102 0 6 := ⟨by decide, by decide, w_122⟩
theorem f_X2_9 : FW RX2 9 2 0 := ⟨by decide, by decide, w_139⟩
theorem f_X3_110 : FW RX3 110 2 0 := ⟨by decide, by decide, w_140⟩
theorem f_X4_126 : FW RX4 126 2 0 := ⟨by decide, by decide, w_141⟩
theorem f_X2_15 : FW RX2 15 2 1 := ⟨by decide, by decide, w_142⟩
theorem f_X3_112 : FW RX3 112 2 1 := ⟨by decide, by decide, w_143⟩
theorem f_X4_129 : FW RX4 129 2 1 := ⟨by decide, by decide, w_144⟩
theorem f_X2_18 : FW RX2 18 2 2 := ⟨by decide, by decide, w_145⟩
theorem f_X4_132 : FW RX4 132 2 2 := ⟨by decide, by decide, w_146⟩
theorem f_X2_22 : FW RX2 22 2 3 := ⟨by decide, by decide, w_147⟩
theorem f_X4_150 : FW RX4 150 2 3 := ⟨by decide, by decide, w_148⟩
theorem f_X2_25 : FW RX2 25 2 4 := ⟨by decide, by decide, w_149⟩
theorem f_X4_143 : FW RX4 143 2 4 := ⟨by decide, by decide, w_150⟩
theorem f_X2_28 : FW RX2 28 2 5 := ⟨by decide, by decide, w_151⟩
theorem f_X4_153 : FW RX4 153 2 5 := ⟨by decide, by decide, w_152⟩
theorem f_X2_31 : FW RX2 31 2 6 := ⟨by decide, by decide, w_153⟩
theorem f_X4_53 : FW RX4 53 2 6 := ⟨by decide, by decide, w_154⟩
theorem f_X3_78 : FW RX3 78 2 6 := ⟨by decide, by decide, w_155⟩
theorem f_X2_36 : FW RX2 36 2 7 := ⟨by decide, by decide, w_156⟩
theorem f_X4_64 : FW RX4 64 2 7 := ⟨by decide, by decide, w_157⟩
theorem f_X3_81 : FW RX3 81 2 7 := ⟨by decide, by decide, w_158⟩
theorem f_X3_9 : FW RX3 9 3 0 := ⟨by decide, by decide, w_182⟩
theorem f_X3_15 : FW RX3 15 3 1 := ⟨by decide, by decide, w_183⟩
theorem f_X4_203 : FW RX4 203 3 1 := ⟨by decide, by decide, w_184⟩
theorem f_X3_19 : FW RX3 19 3 2 := ⟨by decide, by decide, w_185⟩
theorem f_X3_22 : FW RX3 22 3 3 := ⟨by decide, by decide, w_186⟩
theorem f_X3_25 : FW RX3 25 3 4 := ⟨by decide, by decide, w_187⟩
theorem f_X3_28 : FW RX3 28 3 5 := ⟨by decide, by decide, w_188⟩
theorem f_X1_9 : FW RX1 9 1 0 := ⟨by decide, by decide, w_210⟩
theorem f_X4_237 : FW RX4 237 1 0 := ⟨by decide, by decide, w_211⟩
theorem f_X1_15 : FW RX1 15 1 1 := ⟨by decide, by decide, w_212⟩
theorem f_X4_223 : FW RX4 223 1 1 := ⟨by decide, by decide, w_213⟩
theorem f_X1_18 : FW RX1 18 1 2 := ⟨by decide, by decide, w_214⟩
theorem f_X4_229 : FW RX4 229 1 2 := ⟨by decide, by decide, w_215⟩
theorem f_X4_9 : FW RX4 9 4 0 := ⟨by decide, by decide, w_224⟩
theorem f_X4_16 : FW RX4 16 4 1 := ⟨by decide, by decide, w_225⟩
theorem f_X4_20 : FW RX4 20 4 2 := ⟨by decide, by decide, w_226⟩
theorem f_X4_23 : FW RX4 23 4 3 := ⟨by decide, by decide, w_227⟩
theorem f_X4_26 : FW RX4 26 4 4 := ⟨by decide, by decide, w_228⟩
theorem f_X4_33 : FW RX4 33 4 5 := ⟨by decide, by decide, w_229⟩
theorem f_X4_39 : FW RX4 39 4 6 := ⟨by decide, by decide, w_230⟩
theorem f_X5_7 : FW RX5 7 5 0 := ⟨by decide, by decide, w_775⟩
theorem f_X5_13 : FW RX5 13 5 1 := ⟨by decide, by decide, w_776⟩
theorem f_X5_16 : FW RX5 16 5 2 := ⟨by decide, by decide, w_777⟩
theorem f_X5_19 : FW RX5 19 5 3 := ⟨by decide, by decide, w_778⟩
theorem f_X5_104 : FW RX5 104 5 4 := ⟨by decide, by decide, w_779⟩
theorem f_X5_22 : FW RX5 22 5 5 := ⟨by decide, by decide, w_780⟩
theorem f_X5_25 : FW RX5 25 5 6 := ⟨by decide, by decide, w_781⟩
theorem f_X5_160 : FW RX5 160 5 7 := ⟨by decide, by decide, w_782⟩
theorem f_X5_178 : FW RX5 178 5 8 := ⟨by decide, by decide, w_783⟩
theorem f_X5_166 : FW RX5 166 5 9 := ⟨by decide, by decide, w_784⟩
theorem f_X5_163 : FW RX5 163 5 10 := ⟨by decide, by decide, w_785⟩
theorem f_X5_181 : FW RX5 181 5 11 := ⟨by decide, by decide, w_786⟩
theorem f_X5_185 : FW RX5 185 5 12 := ⟨by decide, by decide, w_787⟩
theorem f_X5_210 : FW RX5 210 5 13 := ⟨by decide, by decide, w_788⟩
theorem f_X5_28 : FW RX5 28 5 14 := ⟨by decide, by decide, w_789⟩
theorem f_X5_31 : FW RX5 31 5 15 := ⟨by decide, by decide, w_790⟩
theorem f_X5_34 : FW RX5 34 5 16 := ⟨by decide, by decide, w_791⟩
theorem f_X5_38 : FW RX5 38 5 17 := ⟨by decide, by decide, w_792⟩
theorem f_X5_41 : FW RX5 41 5 18 := ⟨by decide, by decide, w_793⟩
theorem f_X5_44 : FW RX5 44 5 19 := ⟨by decide, by decide, w_794⟩
theorem f_X5_277 : FW RX5 277 5 20 := ⟨by decide, by decide, w_795⟩
