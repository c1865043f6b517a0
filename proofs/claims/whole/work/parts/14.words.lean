/-! WORDS OF THE TABLES, FIELDS -/
theorem qnil {X : qX} {l : Launch} {K : Nat} {cc : ByteArray} {nL : Nat} {own nm : String} {rt : Option FieldType} : ∀ q ∈ ([] : List (Nat × qOp)), qOk X l K cc nL own nm rt q.1 q.2 := fun _ h => absurd h List.not_mem_nil
theorem qcons {X : qX} {l : Launch} {K : Nat} {cc : ByteArray} {nL : Nat} {own nm : String} {rt : Option FieldType} {pc : Nat} {op : qOp} {C : List (Nat × qOp)} (h : qOk X l K cc nL own nm rt pc op) (t : ∀ q ∈ C, qOk X l K cc nL own nm rt q.1 q.2) : ∀ q ∈ (pc, op) :: C, qOk X l K cc nL own nm rt q.1 q.2 := by
  intro q hq
  rcases List.mem_cons.mp hq with rfl | hq
  · exact h
  · exact t q hq
theorem qnilV {X : qX} {l : Launch} {K : Nat} {cc : ByteArray} {nL : Nat} {own nm : String} {ins : Nat → Instr} {ix n : Nat} : ∀ q ∈ ([] : List (Nat × qSem)), qRunV X l K cc nL own nm ins ix n q.1 q.2 := fun _ h => absurd h List.not_mem_nil
theorem qconsV {X : qX} {l : Launch} {K : Nat} {cc : ByteArray} {nL : Nat} {own nm : String} {ins : Nat → Instr} {ix n ci : Nat} {f : qSem} {C : List (Nat × qSem)} (h : qRunV X l K cc nL own nm ins ix n ci f) (t : ∀ q ∈ C, qRunV X l K cc nL own nm ins ix n q.1 q.2) : ∀ q ∈ (ci, f) :: C, qRunV X l K cc nL own nm ins ix n q.1 q.2 := by
  intro q hq
  rcases List.mem_cons.mp hq with rfl | hq
  · exact h
  · exact t q hq
def qPk : List Nat := [4, 5, 2, 9, 7, 1, 10]

theorem inT0 : ∀ w ∈ u_ws RX0 TX0 4, w ∈ qT := by decide +kernel
theorem nd_0 : ∀ j, j < 4 → defaultValue (tyX0 j) = if qkind 0 j = 0 then .int 0 else .null := by decide +kernel
theorem inT1 : ∀ w ∈ u_ws RX1 TX1 0, w ∈ qT := by decide +kernel
theorem nd_1 : ∀ j, j < 0 → defaultValue (tyX1 j) = if qkind 1 j = 0 then .int 0 else .null := by decide +kernel
theorem inT2 : ∀ w ∈ u_ws RX2 TX2 0, w ∈ qT := by decide +kernel
theorem nd_2 : ∀ j, j < 0 → defaultValue (tyX2 j) = if qkind 2 j = 0 then .int 0 else .null := by decide +kernel
theorem inT3 : ∀ w ∈ u_ws RX3 TX3 7, w ∈ qT := by decide +kernel
theorem nd_3 : ∀ j, j < 7 → defaultValue (tyX3 j) = if qkind 3 j = 0 then .int 0 else .null := by decide +kernel
theorem inT4 : ∀ w ∈ u_ws RX4 TX4 0, w ∈ qT := by decide +kernel
theorem nd_4 : ∀ j, j < 0 → defaultValue (tyX4 j) = if qkind 4 j = 0 then .int 0 else .null := by decide +kernel
theorem inT5 : ∀ w ∈ u_ws RX5 TX5 0, w ∈ qT := by decide +kernel
theorem nd_5 : ∀ j, j < 0 → defaultValue (tyX5 j) = if qkind 5 j = 0 then .int 0 else .null := by decide +kernel
theorem inT6 : ∀ w ∈ u_ws RX6 TX6 4, w ∈ qT := by decide +kernel
theorem nd_6 : ∀ j, j < 4 → defaultValue (tyX6 j) = if qkind 6 j = 0 then .int 0 else .null := by decide +kernel
theorem inT7 : ∀ w ∈ u_ws RX7 TX7 0, w ∈ qT := by decide +kernel
theorem nd_7 : ∀ j, j < 0 → defaultValue (tyX7 j) = if qkind 7 j = 0 then .int 0 else .null := by decide +kernel
theorem inT8 : ∀ w ∈ u_ws RX8 TX8 14, w ∈ qT := by decide +kernel
theorem nd_8 : ∀ j, j < 14 → defaultValue (tyX8 j) = if qkind 8 j = 0 then .int 0 else .null := by decide +kernel
theorem inT9 : ∀ w ∈ u_ws RX9 TX9 0, w ∈ qT := by decide +kernel
theorem nd_9 : ∀ j, j < 0 → defaultValue (tyX9 j) = if qkind 9 j = 0 then .int 0 else .null := by decide +kernel
theorem inT10 : ∀ w ∈ u_ws RX10 TX10 0, w ∈ qT := by decide +kernel
theorem nd_10 : ∀ j, j < 0 → defaultValue (tyX10 j) = if qkind 10 j = 0 then .int 0 else .null := by decide +kernel
theorem inT11 : ∀ w ∈ u_ws RX11 TX11 18, w ∈ qT := by decide +kernel
theorem nd_11 : ∀ j, j < 18 → defaultValue (tyX11 j) = if qkind 11 j = 0 then .int 0 else .null := by decide +kernel
theorem inT12 : ∀ w ∈ u_ws RX12 TX12 75, w ∈ qT := by decide +kernel
theorem nd_12 : ∀ j, j < 75 → defaultValue (tyX12 j) = if qkind 12 j = 0 then .int 0 else .null := by decide +kernel
theorem tw_0 : Cond.selects RX11 yX11_isPerson yX11_isPerson ∈ qT := qT_in 0 (by decide +kernel) (by decide +kernel)
theorem tw_1 : Cond.selects RX3 yX3_takesSign yX3_takesSign ∈ qT := qT_in 1 (by decide +kernel) (by decide +kernel)
theorem tw_2 : Cond.selects RX3 yX3_next yX3_next ∈ qT := qT_in 2 (by decide +kernel) (by decide +kernel)
theorem tw_3 : Cond.selects RX3 yX3_takesWord yX3_takesWord ∈ qT := qT_in 3 (by decide +kernel) (by decide +kernel)
theorem tw_4 : Cond.selects RX3 yX3_takesNumber yX3_takesNumber ∈ qT := qT_in 4 (by decide +kernel) (by decide +kernel)
theorem tw_5 : Cond.selects RX3 yX3_takesEither yX3_takesEither ∈ qT := qT_in 5 (by decide +kernel) (by decide +kernel)
theorem tw_6 : Cond.selects RX3 yX3_takesBoth yX3_takesBoth ∈ qT := qT_in 6 (by decide +kernel) (by decide +kernel)
theorem tw_7 : Cond.selects RX3 yX3_takesOne yX3_takesOne ∈ qT := qT_in 7 (by decide +kernel) (by decide +kernel)
theorem tw_8 : Cond.selects RX3 yX3_takesTest yX3_takesTest ∈ qT := qT_in 8 (by decide +kernel) (by decide +kernel)
theorem tw_9 : Cond.selects RX3 yX3_adds yX3_adds ∈ qT := qT_in 9 (by decide +kernel) (by decide +kernel)
theorem tw_10 : Cond.selects RX8 yX8_works yX8_works ∈ qT := qT_in 10 (by decide +kernel) (by decide +kernel)
theorem tw_11 : Cond.selects RX11 yX11_bestMove yX11_bestMove ∈ qT := qT_in 11 (by decide +kernel) (by decide +kernel)
theorem tw_12 : Cond.selects RX11 yX11_yieldAsIs yX11_yieldAsIs ∈ qT := qT_in 12 (by decide +kernel) (by decide +kernel)
theorem tw_13 : Cond.selects RX11 yX11_bestSwap yX11_bestSwap ∈ qT := qT_in 13 (by decide +kernel) (by decide +kernel)
theorem tw_14 : Cond.selects RX11 yX11_enoughRoom yX11_enoughRoom ∈ qT := qT_in 14 (by decide +kernel) (by decide +kernel)
theorem tw_15 : Cond.selects RX11 yX11_mostMissed yX11_mostMissed ∈ qT := qT_in 15 (by decide +kernel) (by decide +kernel)
theorem tw_16 : Cond.selects RX11 yX11_behindWithout yX11_behindWithout ∈ qT := qT_in 16 (by decide +kernel) (by decide +kernel)
theorem tw_17 : Cond.selects RX11 yX11_fitting yX11_fitting ∈ qT := qT_in 17 (by decide +kernel) (by decide +kernel)
theorem tw_18 : Cond.selects RX11 yX11_isAllSeenSo yX11_isAllSeenSo ∈ qT := qT_in 18 (by decide +kernel) (by decide +kernel)
theorem tw_19 : Cond.selects RX11 yX11_goesInTrial yX11_goesInTrial ∈ qT := qT_in 19 (by decide +kernel) (by decide +kernel)
theorem tw_20 : Cond.selects RX12 yX12_in yX12_in ∈ qT := qT_in 20 (by decide +kernel) (by decide +kernel)
theorem tw_21 : Cond.selects RX12 yX12_isWork yX12_isWork ∈ qT := qT_in 21 (by decide +kernel) (by decide +kernel)
theorem tw_22 : Cond.selects RX12 yX12_isPerson yX12_isPerson ∈ qT := qT_in 22 (by decide +kernel) (by decide +kernel)
theorem tw_23 : Cond.selects RX12 yX12_has yX12_has ∈ qT := qT_in 23 (by decide +kernel) (by decide +kernel)
theorem tw_24 : Cond.selects RX12 yX12_goes yX12_goes ∈ qT := qT_in 24 (by decide +kernel) (by decide +kernel)
theorem tw_25 : Cond.selects RX12 yX12_isHeap yX12_isHeap ∈ qT := qT_in 25 (by decide +kernel) (by decide +kernel)
theorem tw_26 : Cond.selects RX12 yX12_isLetters yX12_isLetters ∈ qT := qT_in 26 (by decide +kernel) (by decide +kernel)
theorem tw_27 : Cond.selects RX12 yX12_goesText yX12_goesText ∈ qT := qT_in 27 (by decide +kernel) (by decide +kernel)
theorem tw_28 : Cond.selects RX12 yX12_takesClause yX12_takesClause ∈ qT := qT_in 28 (by decide +kernel) (by decide +kernel)
theorem tw_29 : Cond.selects RX12 yX12_takesHead yX12_takesHead ∈ qT := qT_in 29 (by decide +kernel) (by decide +kernel)
theorem tw_30 : Cond.selects RX12 yX12_next yX12_next ∈ qT := qT_in 30 (by decide +kernel) (by decide +kernel)
theorem tw_31 : Cond.selects RX12 yX12_takesWord yX12_takesWord ∈ qT := qT_in 31 (by decide +kernel) (by decide +kernel)
theorem tw_32 : Cond.selects RX12 yX12_takes yX12_takes ∈ qT := qT_in 32 (by decide +kernel) (by decide +kernel)
theorem tw_33 : Cond.selects RX12 yX12_takesNumber yX12_takesNumber ∈ qT := qT_in 33 (by decide +kernel) (by decide +kernel)
theorem tw_34 : Cond.selects RX12 yX12_isDigit yX12_isDigit ∈ qT := qT_in 34 (by decide +kernel) (by decide +kernel)
theorem tw_35 : Cond.selects RX12 yX12_takesE yX12_takesE ∈ qT := qT_in 35 (by decide +kernel) (by decide +kernel)
theorem tw_36 : Cond.selects RX12 yX12_takesTest yX12_takesTest ∈ qT := qT_in 36 (by decide +kernel) (by decide +kernel)
theorem tw_37 : Cond.selects RX12 yX12_place yX12_place ∈ qT := qT_in 37 (by decide +kernel) (by decide +kernel)
theorem tw_38 : Cond.selects RX12 yX12_emits yX12_emits ∈ qT := qT_in 38 (by decide +kernel) (by decide +kernel)
theorem tw_39 : Cond.selects RX12 yX12_whole yX12_whole ∈ qT := qT_in 39 (by decide +kernel) (by decide +kernel)
theorem tw_40 : Cond.selects RX12 yX12_settle yX12_settle ∈ qT := qT_in 40 (by decide +kernel) (by decide +kernel)
theorem tw_41 : Cond.selects RX12 yX12_zeal yX12_zeal ∈ qT := qT_in 41 (by decide +kernel) (by decide +kernel)
theorem tw_42 : Cond.selects RX12 yX12_begin yX12_begin ∈ qT := qT_in 42 (by decide +kernel) (by decide +kernel)
theorem tw_43 : Cond.selects RX12 yX12_behind yX12_behind ∈ qT := qT_in 43 (by decide +kernel) (by decide +kernel)
theorem tw_44 : Cond.selects RX12 yX12_holds yX12_holds ∈ qT := qT_in 44 (by decide +kernel) (by decide +kernel)
theorem tw_45 : Cond.selects RX12 yX12_factOf yX12_factOf ∈ qT := qT_in 45 (by decide +kernel) (by decide +kernel)
theorem tw_46 : Cond.selects RX12 yX12_pace yX12_pace ∈ qT := qT_in 46 (by decide +kernel) (by decide +kernel)
theorem tw_47 : Cond.selects RX12 yX12_plainPace yX12_plainPace ∈ qT := qT_in 47 (by decide +kernel) (by decide +kernel)
theorem tw_48 : Cond.selects RX12 yX12_alike yX12_alike ∈ qT := qT_in 48 (by decide +kernel) (by decide +kernel)
theorem tw_49 : Cond.selects RX12 yX12_least yX12_least ∈ qT := qT_in 49 (by decide +kernel) (by decide +kernel)
theorem tw_50 : Cond.selects RX12 yX12_room yX12_room ∈ qT := qT_in 50 (by decide +kernel) (by decide +kernel)
theorem tw_51 : Cond.selects RX12 yX12_lastOf yX12_lastOf ∈ qT := qT_in 51 (by decide +kernel) (by decide +kernel)
theorem tw_52 : Cond.selects RX12 yX12_isMinutes yX12_isMinutes ∈ qT := qT_in 52 (by decide +kernel) (by decide +kernel)
theorem tw_53 : Cond.selects RX12 yX12_goMinutes yX12_goMinutes ∈ qT := qT_in 53 (by decide +kernel) (by decide +kernel)
theorem tw_54 : Cond.selects RX12 yX12_goMinute yX12_goMinute ∈ qT := qT_in 54 (by decide +kernel) (by decide +kernel)
theorem tw_55 : Cond.selects RX12 yX12_goPerson yX12_goPerson ∈ qT := qT_in 55 (by decide +kernel) (by decide +kernel)
theorem tw_56 : Cond.selects RX12 yX12_save yX12_save ∈ qT := qT_in 56 (by decide +kernel) (by decide +kernel)
theorem tw_57 : Cond.selects RX12 yX12_putBack yX12_putBack ∈ qT := qT_in 57 (by decide +kernel) (by decide +kernel)
theorem tw_58 : Cond.selects RX12 yX12_moveOf yX12_moveOf ∈ qT := qT_in 58 (by decide +kernel) (by decide +kernel)
theorem tw_59 : Cond.selects RX12 yX12_yield0 yX12_yield0 ∈ qT := qT_in 59 (by decide +kernel) (by decide +kernel)
theorem tw_60 : Cond.selects RX12 yX12_yieldThen yX12_yieldThen ∈ qT := qT_in 60 (by decide +kernel) (by decide +kernel)
theorem tw_61 : Cond.selects RX12 yX12_swapOf yX12_swapOf ∈ qT := qT_in 61 (by decide +kernel) (by decide +kernel)
theorem tw_62 : Cond.selects RX12 yX12_enoughOf yX12_enoughOf ∈ qT := qT_in 62 (by decide +kernel) (by decide +kernel)
theorem tw_63 : Cond.selects RX12 yX12_missOf yX12_missOf ∈ qT := qT_in 63 (by decide +kernel) (by decide +kernel)
theorem tw_64 : Cond.selects RX12 yX12_isSeen yX12_isSeen ∈ qT := qT_in 64 (by decide +kernel) (by decide +kernel)
theorem tw_65 : Cond.selects RX12 yX12_lowest yX12_lowest ∈ qT := qT_in 65 (by decide +kernel) (by decide +kernel)
theorem tw_66 : Cond.selects RX12 yX12_divisor yX12_divisor ∈ qT := qT_in 66 (by decide +kernel) (by decide +kernel)
theorem tw_67 : Cond.selects RX12 yX12_isTape yX12_isTape ∈ qT := qT_in 67 (by decide +kernel) (by decide +kernel)
theorem tw_68 : Cond.selects RX12 yX12_foldsAct yX12_foldsAct ∈ qT := qT_in 68 (by decide +kernel) (by decide +kernel)
theorem tw_69 : Cond.selects RX12 yX12_body yX12_body ∈ qT := qT_in 69 (by decide +kernel) (by decide +kernel)
theorem tw_70 : Cond.selects RX12 yX12_personFolds yX12_personFolds ∈ qT := qT_in 70 (by decide +kernel) (by decide +kernel)
theorem tw_71 : Cond.selects RX12 yX12_licksAct yX12_licksAct ∈ qT := qT_in 71 (by decide +kernel) (by decide +kernel)
theorem tw_72 : Cond.selects RX12 yX12_quickLicks yX12_quickLicks ∈ qT := qT_in 72 (by decide +kernel) (by decide +kernel)
theorem tw_73 : Cond.selects RX12 yX12_personLicks yX12_personLicks ∈ qT := qT_in 73 (by decide +kernel) (by decide +kernel)
theorem tw_74 : Cond.selects RX12 yX12_tellsAct yX12_tellsAct ∈ qT := qT_in 74 (by decide +kernel) (by decide +kernel)
theorem tw_75 : Cond.selects RX12 yX12_personTells yX12_personTells ∈ qT := qT_in 75 (by decide +kernel) (by decide +kernel)
theorem tw_76 : Cond.selects RX12 yX12_narrow yX12_narrow ∈ qT := qT_in 76 (by decide +kernel) (by decide +kernel)
theorem tw_78 : Cond.initialized RX11 ∈ qT := qT_in 78 (by decide +kernel) (by decide +kernel)
theorem tw_79 : Cond.initialized RX4 ∈ qT := qT_in 79 (by decide +kernel) (by decide +kernel)
theorem tw_80 : Cond.initialized RX5 ∈ qT := qT_in 80 (by decide +kernel) (by decide +kernel)
theorem tw_81 : Cond.initialized RX2 ∈ qT := qT_in 81 (by decide +kernel) (by decide +kernel)
theorem tw_82 : Cond.initialized RX9 ∈ qT := qT_in 82 (by decide +kernel) (by decide +kernel)
theorem tw_83 : Cond.initialized RX7 ∈ qT := qT_in 83 (by decide +kernel) (by decide +kernel)
theorem tw_84 : Cond.initialized RX1 ∈ qT := qT_in 84 (by decide +kernel) (by decide +kernel)
theorem tw_85 : Cond.initialized RX10 ∈ qT := qT_in 85 (by decide +kernel) (by decide +kernel)
theorem tw_86 : Cond.initialized RX3 ∈ qT := qT_in 86 (by decide +kernel) (by decide +kernel)
theorem tw_87 : Cond.initialized RX8 ∈ qT := qT_in 87 (by decide +kernel) (by decide +kernel)
theorem tw_88 : Cond.initialized RX6 ∈ qT := qT_in 88 (by decide +kernel) (by decide +kernel)
theorem tw_89 : Cond.initialized RX0 ∈ qT := qT_in 89 (by decide +kernel) (by decide +kernel)
theorem tw_90 : Cond.initialized RX12 ∈ qT := qT_in 90 (by decide +kernel) (by decide +kernel)
theorem tw_91 : Cond.initialized RJ9 ∈ qT := qT_in 91 (by decide +kernel) (by decide +kernel)
theorem tw_92 : Cond.initialized RJ10 ∈ qT := qT_in 92 (by decide +kernel) (by decide +kernel)
theorem tw_93 : Cond.initialized RJ0 ∈ qT := qT_in 93 (by decide +kernel) (by decide +kernel)
theorem tw_94 : Cond.initialized RJ1 ∈ qT := qT_in 94 (by decide +kernel) (by decide +kernel)
theorem tw_95 : Cond.initialized RJ3 ∈ qT := qT_in 95 (by decide +kernel) (by decide +kernel)
theorem tw_102 : Cond.methodLink RX11 3 objectInit ∈ qT := qT_in 102 (by decide +kernel) (by decide +kernel)
theorem tw_103 : Cond.instanceMethod objectInit ∈ qT := qT_in 103 (by decide +kernel) (by decide +kernel)
theorem tw_104 : Cond.code objectInit ⟨#[0xb1]⟩ 1 none ∈ qT := qT_in 104 (by decide +kernel) (by decide +kernel)
theorem tw_105 : Cond.classLink RX11 9 RX4 ∈ qT := qT_in 105 (by decide +kernel) (by decide +kernel)
theorem tw_106 : Cond.arrayOver (.object RX4) ∈ qEx := qEx_in 106 (by decide +kernel) rfl
theorem tw_107 : Cond.instantiable RX4 0 ∈ qT := qT_in 107 (by decide +kernel) (by decide +kernel)
theorem tw_108 : Cond.methodLinkNest RX11 11 yX4_init RX11 ∈ qEx := qEx_in 108 (by decide +kernel) rfl
theorem tw_109 : Cond.instanceMethod yX4_init ∈ qT := qT_in 109 (by decide +kernel) (by decide +kernel)
theorem tw_110 : Cond.code yX4_init cX4_init 1 none ∈ qT := qT_in 110 (by decide +kernel) (by decide +kernel)
theorem tw_111 : Cond.methodLink RX4 1 objectInit ∈ qT := qT_in 111 (by decide +kernel) (by decide +kernel)
theorem tw_113 : Cond.classLink RX11 12 RX5 ∈ qT := qT_in 113 (by decide +kernel) (by decide +kernel)
theorem tw_114 : Cond.instantiable RX5 0 ∈ qT := qT_in 114 (by decide +kernel) (by decide +kernel)
theorem tw_115 : Cond.methodLinkNest RX11 14 yX5_init RX11 ∈ qEx := qEx_in 115 (by decide +kernel) rfl
theorem tw_116 : Cond.instanceMethod yX5_init ∈ qT := qT_in 116 (by decide +kernel) (by decide +kernel)
theorem tw_117 : Cond.code yX5_init cX5_init 1 none ∈ qT := qT_in 117 (by decide +kernel) (by decide +kernel)
theorem tw_118 : Cond.methodLinkNest RX5 1 yX4_init RX11 ∈ qEx := qEx_in 118 (by decide +kernel) rfl
theorem tw_119 : Cond.superclass RX5 RX4 ∈ qT := qT_in 119 (by decide +kernel) (by decide +kernel)
theorem tw_120 : Cond.classLink RX11 15 RX2 ∈ qT := qT_in 120 (by decide +kernel) (by decide +kernel)
theorem tw_121 : Cond.instantiable RX2 0 ∈ qT := qT_in 121 (by decide +kernel) (by decide +kernel)
theorem tw_122 : Cond.methodLinkNest RX11 17 yX2_init RX11 ∈ qEx := qEx_in 122 (by decide +kernel) rfl
theorem tw_123 : Cond.instanceMethod yX2_init ∈ qT := qT_in 123 (by decide +kernel) (by decide +kernel)
theorem tw_124 : Cond.code yX2_init cX2_init 1 none ∈ qT := qT_in 124 (by decide +kernel) (by decide +kernel)
theorem tw_125 : Cond.methodLinkNest RX2 3 yX4_init RX11 ∈ qEx := qEx_in 125 (by decide +kernel) rfl
theorem tw_126 : Cond.superclass RX2 RX4 ∈ qT := qT_in 126 (by decide +kernel) (by decide +kernel)
theorem tw_127 : Cond.classLink RX11 18 RX9 ∈ qT := qT_in 127 (by decide +kernel) (by decide +kernel)
theorem tw_128 : Cond.instantiable RX9 0 ∈ qT := qT_in 128 (by decide +kernel) (by decide +kernel)
theorem tw_129 : Cond.methodLinkNest RX11 20 yX9_init RX11 ∈ qEx := qEx_in 129 (by decide +kernel) rfl
theorem tw_130 : Cond.instanceMethod yX9_init ∈ qT := qT_in 130 (by decide +kernel) (by decide +kernel)
theorem tw_131 : Cond.code yX9_init cX9_init 1 none ∈ qT := qT_in 131 (by decide +kernel) (by decide +kernel)
theorem tw_132 : Cond.methodLinkNest RX9 1 yX4_init RX11 ∈ qEx := qEx_in 132 (by decide +kernel) rfl
theorem tw_133 : Cond.superclass RX9 RX4 ∈ qT := qT_in 133 (by decide +kernel) (by decide +kernel)
theorem tw_134 : Cond.classLink RX11 21 RX7 ∈ qT := qT_in 134 (by decide +kernel) (by decide +kernel)
theorem tw_135 : Cond.instantiable RX7 0 ∈ qT := qT_in 135 (by decide +kernel) (by decide +kernel)
theorem tw_136 : Cond.methodLinkNest RX11 23 yX7_init RX11 ∈ qEx := qEx_in 136 (by decide +kernel) rfl
theorem tw_137 : Cond.instanceMethod yX7_init ∈ qT := qT_in 137 (by decide +kernel) (by decide +kernel)
theorem tw_138 : Cond.code yX7_init cX7_init 1 none ∈ qT := qT_in 138 (by decide +kernel) (by decide +kernel)
theorem tw_139 : Cond.methodLinkNest RX7 3 yX5_init RX11 ∈ qEx := qEx_in 139 (by decide +kernel) rfl
theorem tw_140 : Cond.superclass RX7 RX5 ∈ qT := qT_in 140 (by decide +kernel) (by decide +kernel)
theorem tw_141 : Cond.classLink RX11 24 RX1 ∈ qT := qT_in 141 (by decide +kernel) (by decide +kernel)
theorem tw_142 : Cond.instantiable RX1 0 ∈ qT := qT_in 142 (by decide +kernel) (by decide +kernel)
theorem tw_143 : Cond.methodLinkNest RX11 26 yX1_init RX11 ∈ qEx := qEx_in 143 (by decide +kernel) rfl
theorem tw_144 : Cond.instanceMethod yX1_init ∈ qT := qT_in 144 (by decide +kernel) (by decide +kernel)
theorem tw_145 : Cond.code yX1_init cX1_init 1 none ∈ qT := qT_in 145 (by decide +kernel) (by decide +kernel)
theorem tw_146 : Cond.methodLinkNest RX1 1 yX2_init RX11 ∈ qEx := qEx_in 146 (by decide +kernel) rfl
theorem tw_147 : Cond.superclass RX1 RX2 ∈ qT := qT_in 147 (by decide +kernel) (by decide +kernel)
theorem tw_148 : Cond.classLink RX11 27 RX10 ∈ qT := qT_in 148 (by decide +kernel) (by decide +kernel)
theorem tw_149 : Cond.instantiable RX10 0 ∈ qT := qT_in 149 (by decide +kernel) (by decide +kernel)
theorem tw_150 : Cond.methodLinkNest RX11 29 yX10_init RX11 ∈ qEx := qEx_in 150 (by decide +kernel) rfl
theorem tw_151 : Cond.instanceMethod yX10_init ∈ qT := qT_in 151 (by decide +kernel) (by decide +kernel)
theorem tw_152 : Cond.code yX10_init cX10_init 1 none ∈ qT := qT_in 152 (by decide +kernel) (by decide +kernel)
theorem tw_153 : Cond.methodLinkNest RX10 3 yX9_init RX11 ∈ qEx := qEx_in 153 (by decide +kernel) rfl
theorem tw_154 : Cond.superclass RX10 RX9 ∈ qT := qT_in 154 (by decide +kernel) (by decide +kernel)
theorem tw_155 : Cond.classLink RX11 30 RX3 ∈ qT := qT_in 155 (by decide +kernel) (by decide +kernel)
theorem tw_156 : Cond.instantiable RX3 7 ∈ qT := qT_in 156 (by decide +kernel) (by decide +kernel)
theorem tw_157 : Cond.methodLink RX11 32 yX3_init ∈ qT := qT_in 157 (by decide +kernel) (by decide +kernel)
theorem tw_158 : Cond.instanceMethod yX3_init ∈ qT := qT_in 158 (by decide +kernel) (by decide +kernel)
theorem tw_159 : Cond.code yX3_init cX3_init 1 none ∈ qT := qT_in 159 (by decide +kernel) (by decide +kernel)
theorem tw_160 : Cond.methodLink RX3 3 objectInit ∈ qT := qT_in 160 (by decide +kernel) (by decide +kernel)
theorem tw_161 : Cond.fieldLink RX3 9 RX3 "text" "[B" ∈ qT := qT_in 161 (by decide +kernel) (by decide +kernel)
theorem tw_162 : Cond.fieldLink RX3 15 RX3 "parts" "[I" ∈ qT := qT_in 162 (by decide +kernel) (by decide +kernel)
theorem tw_163 : Cond.fieldLink RX3 55 RX3 "size" "I" ∈ qT := qT_in 163 (by decide +kernel) (by decide +kernel)
theorem tw_164 : Cond.fieldLink RX3 23 RX3 "partCount" "I" ∈ qT := qT_in 164 (by decide +kernel) (by decide +kernel)
theorem tw_165 : Cond.fieldLink RX8 23 RX3 "room" "I" ∈ qT := qT_in 165 (by decide +kernel) (by decide +kernel)
theorem tw_166 : Cond.fieldLink RX3 19 RX3 "room" "I" ∈ qT := qT_in 166 (by decide +kernel) (by decide +kernel)
theorem tw_167 : Cond.fieldLink RX3 67 RX3 "post" "I" ∈ qT := qT_in 167 (by decide +kernel) (by decide +kernel)
theorem tw_168 : Cond.fieldLink RX8 71 RX3 "post" "I" ∈ qT := qT_in 168 (by decide +kernel) (by decide +kernel)
theorem tw_169 : Cond.fieldLink RX11 187 RX3 "post" "I" ∈ qT := qT_in 169 (by decide +kernel) (by decide +kernel)
theorem tw_170 : Cond.fieldLink RX3 64 RX3 "at" "I" ∈ qT := qT_in 170 (by decide +kernel) (by decide +kernel)
theorem tw_171 : Cond.fieldLink RX11 174 RX3 "at" "I" ∈ qT := qT_in 171 (by decide +kernel) (by decide +kernel)
theorem tw_187 : Cond.arrayClass .byte ∈ qT := qT_in 187 (by decide +kernel) (by decide +kernel)
theorem tw_188 : Cond.arrayClass .int ∈ qT := qT_in 188 (by decide +kernel) (by decide +kernel)
theorem tw_189 : Cond.classLink RX11 33 RX8 ∈ qT := qT_in 189 (by decide +kernel) (by decide +kernel)
theorem tw_190 : Cond.instantiable RX8 14 ∈ qT := qT_in 190 (by decide +kernel) (by decide +kernel)
theorem tw_191 : Cond.constant RX11 37 (Int32.ofInt 99999) ∈ qT := qT_in 191 (by decide +kernel) (by decide +kernel)
theorem tw_192 : Cond.methodLink RX11 38 yX8_init ∈ qT := qT_in 192 (by decide +kernel) (by decide +kernel)
theorem tw_193 : Cond.instanceMethod yX8_init ∈ qT := qT_in 193 (by decide +kernel) (by decide +kernel)
theorem tw_194 : Cond.code yX8_init cX8_init 4 none ∈ qT := qT_in 194 (by decide +kernel) (by decide +kernel)
theorem tw_195 : Cond.methodLink RX8 3 objectInit ∈ qT := qT_in 195 (by decide +kernel) (by decide +kernel)
theorem tw_196 : Cond.fieldLink RX8 9 RX8 "kinds" "[LFoldedFilled$Person;" ∈ qT := qT_in 196 (by decide +kernel) (by decide +kernel)
theorem tw_197 : Cond.fieldLink RX11 266 RX8 "kinds" "[LFoldedFilled$Person;" ∈ qT := qT_in 197 (by decide +kernel) (by decide +kernel)
theorem tw_198 : Cond.fieldLink RX8 15 RX8 "mostDid" "I" ∈ qT := qT_in 198 (by decide +kernel) (by decide +kernel)
theorem tw_199 : Cond.fieldLink RX8 29 RX8 "heaps" "[I" ∈ qT := qT_in 199 (by decide +kernel) (by decide +kernel)
theorem tw_200 : Cond.fieldLink RX11 161 RX8 "heaps" "[I" ∈ qT := qT_in 200 (by decide +kernel) (by decide +kernel)
theorem tw_201 : Cond.fieldLink RX8 33 RX8 "kind" "[I" ∈ qT := qT_in 201 (by decide +kernel) (by decide +kernel)
theorem tw_202 : Cond.fieldLink RX3 32 RX8 "kind" "[I" ∈ qT := qT_in 202 (by decide +kernel) (by decide +kernel)
theorem tw_203 : Cond.fieldLink RX11 124 RX8 "kind" "[I" ∈ qT := qT_in 203 (by decide +kernel) (by decide +kernel)
theorem tw_204 : Cond.fieldLink RX8 36 RX8 "v" "[I" ∈ qT := qT_in 204 (by decide +kernel) (by decide +kernel)
theorem tw_205 : Cond.fieldLink RX5 7 RX8 "v" "[I" ∈ qT := qT_in 205 (by decide +kernel) (by decide +kernel)
theorem tw_206 : Cond.fieldLink RX1 11 RX8 "v" "[I" ∈ qT := qT_in 206 (by decide +kernel) (by decide +kernel)
theorem tw_207 : Cond.fieldLink RX3 37 RX8 "v" "[I" ∈ qT := qT_in 207 (by decide +kernel) (by decide +kernel)
theorem tw_208 : Cond.fieldLink RX11 127 RX8 "v" "[I" ∈ qT := qT_in 208 (by decide +kernel) (by decide +kernel)
theorem tw_209 : Cond.fieldLink RX8 39 RX8 "work" "[I" ∈ qT := qT_in 209 (by decide +kernel) (by decide +kernel)
theorem tw_210 : Cond.fieldLink RX2 9 RX8 "work" "[I" ∈ qT := qT_in 210 (by decide +kernel) (by decide +kernel)
theorem tw_211 : Cond.fieldLink RX7 13 RX8 "work" "[I" ∈ qT := qT_in 211 (by decide +kernel) (by decide +kernel)
theorem tw_212 : Cond.fieldLink RX9 17 RX8 "work" "[I" ∈ qT := qT_in 212 (by decide +kernel) (by decide +kernel)
theorem tw_213 : Cond.fieldLink RX3 40 RX8 "work" "[I" ∈ qT := qT_in 213 (by decide +kernel) (by decide +kernel)
theorem tw_214 : Cond.fieldLink RX11 130 RX8 "work" "[I" ∈ qT := qT_in 214 (by decide +kernel) (by decide +kernel)
theorem tw_215 : Cond.fieldLink RX8 42 RX8 "did" "[I" ∈ qT := qT_in 215 (by decide +kernel) (by decide +kernel)
theorem tw_216 : Cond.fieldLink RX2 15 RX8 "did" "[I" ∈ qT := qT_in 216 (by decide +kernel) (by decide +kernel)
theorem tw_217 : Cond.fieldLink RX3 43 RX8 "did" "[I" ∈ qT := qT_in 217 (by decide +kernel) (by decide +kernel)
theorem tw_218 : Cond.fieldLink RX11 133 RX8 "did" "[I" ∈ qT := qT_in 218 (by decide +kernel) (by decide +kernel)
theorem tw_219 : Cond.fieldLink RX8 45 RX8 "waited" "[I" ∈ qT := qT_in 219 (by decide +kernel) (by decide +kernel)
theorem tw_220 : Cond.fieldLink RX11 136 RX8 "waited" "[I" ∈ qT := qT_in 220 (by decide +kernel) (by decide +kernel)
theorem tw_221 : Cond.fieldLink RX8 48 RX8 "rows" "[I" ∈ qT := qT_in 221 (by decide +kernel) (by decide +kernel)
theorem tw_222 : Cond.fieldLink RX10 13 RX8 "rows" "[I" ∈ qT := qT_in 222 (by decide +kernel) (by decide +kernel)
theorem tw_223 : Cond.fieldLink RX11 155 RX8 "rows" "[I" ∈ qT := qT_in 223 (by decide +kernel) (by decide +kernel)
theorem tw_224 : Cond.fieldLink RX8 51 RX8 "gone" "[Z" ∈ qT := qT_in 224 (by decide +kernel) (by decide +kernel)
theorem tw_225 : Cond.fieldLink RX9 13 RX8 "gone" "[Z" ∈ qT := qT_in 225 (by decide +kernel) (by decide +kernel)
theorem tw_226 : Cond.fieldLink RX11 139 RX8 "gone" "[Z" ∈ qT := qT_in 226 (by decide +kernel) (by decide +kernel)
theorem tw_227 : Cond.fieldLink RX9 7 RX8 "people" "I" ∈ qT := qT_in 227 (by decide +kernel) (by decide +kernel)
theorem tw_228 : Cond.fieldLink RX11 113 RX8 "people" "I" ∈ qT := qT_in 228 (by decide +kernel) (by decide +kernel)
theorem tw_229 : Cond.fieldLink RX8 61 RX8 "people" "I" ∈ qT := qT_in 229 (by decide +kernel) (by decide +kernel)
theorem tw_230 : Cond.fieldLink RX10 19 RX8 "minute" "I" ∈ qT := qT_in 230 (by decide +kernel) (by decide +kernel)
theorem tw_231 : Cond.fieldLink RX8 64 RX8 "minute" "I" ∈ qT := qT_in 231 (by decide +kernel) (by decide +kernel)
theorem tw_232 : Cond.fieldLink RX3 46 RX8 "minute" "I" ∈ qT := qT_in 232 (by decide +kernel) (by decide +kernel)
theorem tw_233 : Cond.fieldLink RX11 181 RX8 "minute" "I" ∈ qT := qT_in 233 (by decide +kernel) (by decide +kernel)
theorem tw_234 : Cond.fieldLink RX8 28 RX8 "room" "I" ∈ qT := qT_in 234 (by decide +kernel) (by decide +kernel)
theorem tw_235 : Cond.fieldLink RX11 184 RX8 "room" "I" ∈ qT := qT_in 235 (by decide +kernel) (by decide +kernel)
theorem tw_236 : Cond.fieldLink RX8 19 RX8 "hall" "LFoldedFilled$Hall;" ∈ qT := qT_in 236 (by decide +kernel) (by decide +kernel)
theorem tw_237 : Cond.fieldLink RX11 143 RX8 "hall" "LFoldedFilled$Hall;" ∈ qT := qT_in 237 (by decide +kernel) (by decide +kernel)
theorem tw_267 : Cond.arrayClass .boolean ∈ qT := qT_in 267 (by decide +kernel) (by decide +kernel)
theorem tw_268 : Cond.constant RX11 47 (Int32.ofInt 2147483647) ∈ qT := qT_in 268 (by decide +kernel) (by decide +kernel)
theorem tw_269 : Cond.classLink RX11 54 RX6 ∈ qT := qT_in 269 (by decide +kernel) (by decide +kernel)
theorem tw_270 : Cond.instantiable RX6 4 ∈ qT := qT_in 270 (by decide +kernel) (by decide +kernel)
theorem tw_271 : Cond.methodLink RX11 56 yX6_init ∈ qT := qT_in 271 (by decide +kernel) (by decide +kernel)
theorem tw_272 : Cond.instanceMethod yX6_init ∈ qT := qT_in 272 (by decide +kernel) (by decide +kernel)
theorem tw_273 : Cond.code yX6_init cX6_init 3 none ∈ qT := qT_in 273 (by decide +kernel) (by decide +kernel)
theorem tw_274 : Cond.methodLink RX6 3 objectInit ∈ qT := qT_in 274 (by decide +kernel) (by decide +kernel)
theorem tw_275 : Cond.fieldLink RX6 9 RX6 "most" "I" ∈ qT := qT_in 275 (by decide +kernel) (by decide +kernel)
theorem tw_276 : Cond.fieldLink RX6 15 RX6 "width" "I" ∈ qT := qT_in 276 (by decide +kernel) (by decide +kernel)
theorem tw_277 : Cond.fieldLink RX6 18 RX6 "cells" "[I" ∈ qT := qT_in 277 (by decide +kernel) (by decide +kernel)
theorem tw_278 : Cond.fieldLink RX6 22 RX6 "size" "I" ∈ qT := qT_in 278 (by decide +kernel) (by decide +kernel)
theorem tw_279 : Cond.fieldLink RX11 217 RX6 "size" "I" ∈ qT := qT_in 279 (by decide +kernel) (by decide +kernel)
theorem tw_289 : Cond.arrayOver (.object RX3) ∈ qEx := qEx_in 289 (by decide +kernel) rfl
theorem tw_290 : Cond.classLink RX11 86 RX0 ∈ qT := qT_in 290 (by decide +kernel) (by decide +kernel)
theorem tw_291 : Cond.instantiable RX0 4 ∈ qT := qT_in 291 (by decide +kernel) (by decide +kernel)
theorem tw_292 : Cond.methodLink RX11 88 yX0_init ∈ qT := qT_in 292 (by decide +kernel) (by decide +kernel)
theorem tw_293 : Cond.instanceMethod yX0_init ∈ qT := qT_in 293 (by decide +kernel) (by decide +kernel)
theorem tw_294 : Cond.code yX0_init cX0_init 1 none ∈ qT := qT_in 294 (by decide +kernel) (by decide +kernel)
theorem tw_295 : Cond.methodLink RX0 1 objectInit ∈ qT := qT_in 295 (by decide +kernel) (by decide +kernel)
theorem tw_296 : Cond.fieldLink RX0 7 RX0 "bodies" "[I" ∈ qT := qT_in 296 (by decide +kernel) (by decide +kernel)
theorem tw_297 : Cond.fieldLink RX11 280 RX0 "bodies" "[I" ∈ qT := qT_in 297 (by decide +kernel) (by decide +kernel)
theorem tw_298 : Cond.fieldLink RX4 13 RX0 "number" "I" ∈ qT := qT_in 298 (by decide +kernel) (by decide +kernel)
theorem tw_299 : Cond.fieldLink RX1 29 RX0 "number" "I" ∈ qT := qT_in 299 (by decide +kernel) (by decide +kernel)
theorem tw_300 : Cond.fieldLink RX11 261 RX0 "number" "I" ∈ qT := qT_in 300 (by decide +kernel) (by decide +kernel)
theorem tw_301 : Cond.fieldLink RX10 36 RX0 "v" "I" ∈ qT := qT_in 301 (by decide +kernel) (by decide +kernel)
theorem tw_302 : Cond.fieldLink RX4 23 RX0 "v" "I" ∈ qT := qT_in 302 (by decide +kernel) (by decide +kernel)
theorem tw_303 : Cond.fieldLink RX11 264 RX0 "v" "I" ∈ qT := qT_in 303 (by decide +kernel) (by decide +kernel)
theorem tw_304 : Cond.fieldLink RX0 13 RX0 "ran" "I" ∈ qT := qT_in 304 (by decide +kernel) (by decide +kernel)
theorem tw_305 : Cond.fieldLink RX11 258 RX0 "ran" "I" ∈ qT := qT_in 305 (by decide +kernel) (by decide +kernel)
theorem tw_315 : Cond.classLink RX11 100 "[[J" ∈ qT := qT_in 315 (by decide +kernel) (by decide +kernel)
theorem tw_316 : Cond.arrayOver (.array .long) ∈ qEx := qEx_in 316 (by decide +kernel) rfl
theorem tw_317 : Cond.fieldLink RX11 41 RX11 "now" "LFoldedFilled$State;" ∈ qT := qT_in 317 (by decide +kernel) (by decide +kernel)
theorem tw_318 : Cond.fieldLink RX11 48 RX11 "trial" "LFoldedFilled$State;" ∈ qT := qT_in 318 (by decide +kernel) (by decide +kernel)
theorem tw_319 : Cond.fieldLink RX11 51 RX11 "image" "LFoldedFilled$State;" ∈ qT := qT_in 319 (by decide +kernel) (by decide +kernel)
theorem tw_320 : Cond.fieldLink RX11 59 RX11 "seen" "LFoldedFilled$Rows;" ∈ qT := qT_in 320 (by decide +kernel) (by decide +kernel)
theorem tw_321 : Cond.fieldLink RX11 63 RX11 "rowsOfEvening" "LFoldedFilled$Rows;" ∈ qT := qT_in 321 (by decide +kernel) (by decide +kernel)
theorem tw_322 : Cond.fieldLink RX11 66 RX11 "rowsOfBook" "LFoldedFilled$Rows;" ∈ qT := qT_in 322 (by decide +kernel) (by decide +kernel)
theorem tw_323 : Cond.fieldLink RX11 69 RX11 "imageSeen" "LFoldedFilled$Rows;" ∈ qT := qT_in 323 (by decide +kernel) (by decide +kernel)
theorem tw_324 : Cond.fieldLink RX11 72 RX11 "imageEvening" "LFoldedFilled$Rows;" ∈ qT := qT_in 324 (by decide +kernel) (by decide +kernel)
theorem tw_325 : Cond.fieldLink RX11 75 RX11 "imageBook" "LFoldedFilled$Rows;" ∈ qT := qT_in 325 (by decide +kernel) (by decide +kernel)
theorem tw_326 : Cond.fieldLink RX11 254 RX11 "isImageTaken" "Z" ∈ qT := qT_in 326 (by decide +kernel) (by decide +kernel)
theorem tw_327 : Cond.fieldLink RX11 78 RX11 "text" "[B" ∈ qT := qT_in 327 (by decide +kernel) (by decide +kernel)
theorem tw_328 : Cond.fieldLink RX11 164 RX11 "signs" "I" ∈ qT := qT_in 328 (by decide +kernel) (by decide +kernel)
theorem tw_329 : Cond.fieldLink RX11 82 RX11 "halls" "[LFoldedFilled$Hall;" ∈ qT := qT_in 329 (by decide +kernel) (by decide +kernel)
theorem tw_330 : Cond.fieldLink RX11 167 RX11 "hallCount" "I" ∈ qT := qT_in 330 (by decide +kernel) (by decide +kernel)
theorem tw_331 : Cond.fieldLink RX11 89 RX11 "latest" "LFoldedFilled$Act;" ∈ qT := qT_in 331 (by decide +kernel) (by decide +kernel)
theorem tw_332 : Cond.fieldLink RX11 93 RX11 "tapeSort" "[I" ∈ qT := qT_in 332 (by decide +kernel) (by decide +kernel)
theorem tw_333 : Cond.fieldLink RX11 97 RX11 "tapeSize" "[I" ∈ qT := qT_in 333 (by decide +kernel) (by decide +kernel)
theorem tw_334 : Cond.fieldLink RX11 102 RX11 "tapeItems" "[[J" ∈ qT := qT_in 334 (by decide +kernel) (by decide +kernel)
theorem tw_372 : Cond.arrayClass .long ∈ qT := qT_in 372 (by decide +kernel) (by decide +kernel)
theorem tw_377 : Cond.methodLink RX11 105 yX11_isIn ∈ qT := qT_in 377 (by decide +kernel) (by decide +kernel)
theorem tw_378 : Cond.static yX11_isIn ∈ qT := qT_in 378 (by decide +kernel) (by decide +kernel)
theorem tw_379 : Cond.code yX11_isIn cX11_isIn 2 (some .boolean) ∈ qT := qT_in 379 (by decide +kernel) (by decide +kernel)
theorem tw_380 : Cond.methodLink RX11 109 yX11_isWork ∈ qT := qT_in 380 (by decide +kernel) (by decide +kernel)
theorem tw_381 : Cond.static yX11_isWork ∈ qT := qT_in 381 (by decide +kernel) (by decide +kernel)
theorem tw_382 : Cond.code yX11_isWork cX11_isWork 1 (some .boolean) ∈ qT := qT_in 382 (by decide +kernel) (by decide +kernel)
theorem tw_383 : Cond.methodLink RX11 117 yX8_comes ∈ qT := qT_in 383 (by decide +kernel) (by decide +kernel)
theorem tw_384 : Cond.instanceMethod yX8_comes ∈ qT := qT_in 384 (by decide +kernel) (by decide +kernel)
theorem tw_385 : Cond.selects RX8 yX8_comes yX8_comes ∈ qT := qT_in 385 (by decide +kernel) (by decide +kernel)
theorem tw_386 : Cond.code yX8_comes cX8_comes 5 (some .int) ∈ qT := qT_in 386 (by decide +kernel) (by decide +kernel)
theorem tw_391 : Cond.methodLink RX11 121 yX11_isPerson ∈ qT := qT_in 391 (by decide +kernel) (by decide +kernel)
theorem tw_393 : Cond.instanceMethod yX11_isPerson ∈ qT := qT_in 393 (by decide +kernel) (by decide +kernel)
theorem tw_394 : Cond.code yX11_isPerson cX11_isPerson 2 (some .boolean) ∈ qT := qT_in 394 (by decide +kernel) (by decide +kernel)
theorem tw_395 : Cond.methodLink RX11 147 yX3_zealOf ∈ qT := qT_in 395 (by decide +kernel) (by decide +kernel)
theorem tw_396 : Cond.instanceMethod yX3_zealOf ∈ qT := qT_in 396 (by decide +kernel) (by decide +kernel)
theorem tw_397 : Cond.selects RX3 yX3_zealOf yX3_zealOf ∈ qT := qT_in 397 (by decide +kernel) (by decide +kernel)
theorem tw_398 : Cond.code yX3_zealOf cX3_zealOf 8 (some .int) ∈ qT := qT_in 398 (by decide +kernel) (by decide +kernel)
theorem tw_399 : Cond.constantLong RX3 26 (Int64.ofInt (-2)) ∈ qT := qT_in 399 (by decide +kernel) (by decide +kernel)
theorem tw_400 : Cond.methodLink RX3 28 yX3_isTrue ∈ qT := qT_in 400 (by decide +kernel) (by decide +kernel)
theorem tw_401 : Cond.static yX3_isTrue ∈ qT := qT_in 401 (by decide +kernel) (by decide +kernel)
theorem tw_402 : Cond.code yX3_isTrue cX3_isTrue 5 (some .boolean) ∈ qT := qT_in 402 (by decide +kernel) (by decide +kernel)
theorem tw_403 : Cond.methodLink RX11 151 yX8_paceOf ∈ qT := qT_in 403 (by decide +kernel) (by decide +kernel)
theorem tw_404 : Cond.instanceMethod yX8_paceOf ∈ qT := qT_in 404 (by decide +kernel) (by decide +kernel)
theorem tw_405 : Cond.selects RX8 yX8_paceOf yX8_paceOf ∈ qT := qT_in 405 (by decide +kernel) (by decide +kernel)
theorem tw_406 : Cond.code yX8_paceOf cX8_paceOf 2 (some .int) ∈ qT := qT_in 406 (by decide +kernel) (by decide +kernel)
theorem tw_407 : Cond.methodLink RX8 84 yX3_zealOf ∈ qT := qT_in 407 (by decide +kernel) (by decide +kernel)
theorem tw_408 : Cond.methodLink RX8 88 yX4_pace ∈ qT := qT_in 408 (by decide +kernel) (by decide +kernel)
theorem tw_409 : Cond.instanceMethod yX4_pace ∈ qT := qT_in 409 (by decide +kernel) (by decide +kernel)
theorem tw_410 : Cond.selects RX4 yX4_pace yX4_pace ∈ qT := qT_in 410 (by decide +kernel) (by decide +kernel)
theorem tw_411 : Cond.sameMethod RX4 RX4 "pace" "(LFoldedFilled$State;II)I" ∈ qT := qT_in 411 (by decide +kernel) (by decide +kernel)
theorem tw_412 : Cond.selects RX1 yX4_pace yX1_pace ∈ qT := qT_in 412 (by decide +kernel) (by decide +kernel)
theorem tw_413 : Cond.instanceMethod yX1_pace ∈ qT := qT_in 413 (by decide +kernel) (by decide +kernel)
theorem tw_414 : Cond.code yX1_pace cX1_pace 4 (some .int) ∈ qT := qT_in 414 (by decide +kernel) (by decide +kernel)
theorem tw_415 : Cond.methodLink RX1 7 yX2_pace ∈ qT := qT_in 415 (by decide +kernel) (by decide +kernel)
theorem tw_416 : Cond.instanceMethod yX2_pace ∈ qT := qT_in 416 (by decide +kernel) (by decide +kernel)
theorem tw_417 : Cond.code yX2_pace cX2_pace 4 (some .int) ∈ qT := qT_in 417 (by decide +kernel) (by decide +kernel)
theorem tw_418 : Cond.methodLink RX1 17 yJ9_min_7cf53 ∈ qT := qT_in 418 (by decide +kernel) (by decide +kernel)
theorem tw_419 : Cond.static yJ9_min_7cf53 ∈ qT := qT_in 419 (by decide +kernel) (by decide +kernel)
theorem tw_420 : Cond.code Lib.Math.min.name Lib.Math.min.code 2 (some .int) ∈ qT := qT_in 420 (by decide +kernel) (by decide +kernel)
theorem tw_421 : Cond.selects RX2 yX4_pace yX2_pace ∈ qT := qT_in 421 (by decide +kernel) (by decide +kernel)
theorem tw_422 : Cond.selects RX5 yX4_pace yX5_pace ∈ qT := qT_in 422 (by decide +kernel) (by decide +kernel)
theorem tw_423 : Cond.instanceMethod yX5_pace ∈ qT := qT_in 423 (by decide +kernel) (by decide +kernel)
theorem tw_424 : Cond.code yX5_pace cX5_pace 4 (some .int) ∈ qT := qT_in 424 (by decide +kernel) (by decide +kernel)
theorem tw_425 : Cond.selects RX7 yX4_pace yX7_pace ∈ qT := qT_in 425 (by decide +kernel) (by decide +kernel)
theorem tw_426 : Cond.instanceMethod yX7_pace ∈ qT := qT_in 426 (by decide +kernel) (by decide +kernel)
theorem tw_427 : Cond.code yX7_pace cX7_pace 5 (some .int) ∈ qT := qT_in 427 (by decide +kernel) (by decide +kernel)
theorem tw_428 : Cond.methodLink RX7 9 yX5_pace ∈ qT := qT_in 428 (by decide +kernel) (by decide +kernel)
theorem tw_429 : Cond.selects RX9 yX4_pace yX9_pace ∈ qT := qT_in 429 (by decide +kernel) (by decide +kernel)
theorem tw_430 : Cond.instanceMethod yX9_pace ∈ qT := qT_in 430 (by decide +kernel) (by decide +kernel)
theorem tw_431 : Cond.code yX9_pace cX9_pace 6 (some .int) ∈ qT := qT_in 431 (by decide +kernel) (by decide +kernel)
theorem tw_432 : Cond.selects RX10 yX4_pace yX10_pace ∈ qT := qT_in 432 (by decide +kernel) (by decide +kernel)
theorem tw_433 : Cond.instanceMethod yX10_pace ∈ qT := qT_in 433 (by decide +kernel) (by decide +kernel)
theorem tw_434 : Cond.code yX10_pace cX10_pace 4 (some .int) ∈ qT := qT_in 434 (by decide +kernel) (by decide +kernel)
theorem tw_435 : Cond.methodLink RX10 9 yX9_pace ∈ qT := qT_in 435 (by decide +kernel) (by decide +kernel)
theorem tw_436 : Cond.code yX4_pace cX4_pace 4 (some .int) ∈ qT := qT_in 436 (by decide +kernel) (by decide +kernel)
theorem tw_437 : Cond.methodLink RX8 94 yJ9_max_7cf53 ∈ qT := qT_in 437 (by decide +kernel) (by decide +kernel)
theorem tw_438 : Cond.static yJ9_max_7cf53 ∈ qT := qT_in 438 (by decide +kernel) (by decide +kernel)
theorem tw_439 : Cond.code Lib.Math.max.name Lib.Math.max.code 2 (some .int) ∈ qT := qT_in 439 (by decide +kernel) (by decide +kernel)
theorem tw_456 : Cond.methodLink RX11 158 yX11_isHeap ∈ qT := qT_in 456 (by decide +kernel) (by decide +kernel)
theorem tw_457 : Cond.static yX11_isHeap ∈ qT := qT_in 457 (by decide +kernel) (by decide +kernel)
theorem tw_458 : Cond.code yX11_isHeap cX11_isHeap 1 (some .boolean) ∈ qT := qT_in 458 (by decide +kernel) (by decide +kernel)
theorem tw_467 : Cond.methodLink RX11 170 yX3_takesText ∈ qT := qT_in 467 (by decide +kernel) (by decide +kernel)
theorem tw_468 : Cond.instanceMethod yX3_takesText ∈ qT := qT_in 468 (by decide +kernel) (by decide +kernel)
theorem tw_469 : Cond.selects RX3 yX3_takesText yX3_takesText ∈ qT := qT_in 469 (by decide +kernel) (by decide +kernel)
theorem tw_470 : Cond.code yX3_takesText cX3_takesText 6 (some .boolean) ∈ qT := qT_in 470 (by decide +kernel) (by decide +kernel)
theorem tw_471 : Cond.methodLink RX3 49 yJ9_min_7cf53 ∈ qT := qT_in 471 (by decide +kernel) (by decide +kernel)
theorem tw_472 : Cond.methodLink RX3 58 arraycopyName ∈ qT := qT_in 472 (by decide +kernel) (by decide +kernel)
theorem tw_473 : Cond.static arraycopyName ∈ qT := qT_in 473 (by decide +kernel) (by decide +kernel)
theorem tw_474 : Cond.native arraycopyName ∈ qT := qT_in 474 (by decide +kernel) (by decide +kernel)
theorem tw_475 : Cond.methodLink RX3 70 yX3_takesSign ∈ qT := qT_in 475 (by decide +kernel) (by decide +kernel)
theorem tw_477 : Cond.instanceMethod yX3_takesSign ∈ qT := qT_in 477 (by decide +kernel) (by decide +kernel)
theorem tw_478 : Cond.code yX3_takesSign cX3_takesSign 2 (some .boolean) ∈ qT := qT_in 478 (by decide +kernel) (by decide +kernel)
theorem tw_479 : Cond.methodLink RX3 74 yX3_next ∈ qT := qT_in 479 (by decide +kernel) (by decide +kernel)
theorem tw_481 : Cond.instanceMethod yX3_next ∈ qT := qT_in 481 (by decide +kernel) (by decide +kernel)
theorem tw_482 : Cond.code yX3_next cX3_next 1 (some .int) ∈ qT := qT_in 482 (by decide +kernel) (by decide +kernel)
theorem tw_483 : Cond.methodLink RX3 78 yX3_wordOf ∈ qT := qT_in 483 (by decide +kernel) (by decide +kernel)
theorem tw_484 : Cond.static yX3_wordOf ∈ qT := qT_in 484 (by decide +kernel) (by decide +kernel)
theorem tw_485 : Cond.code yX3_wordOf cX3_wordOf 1 (some (.object "java/lang/String")) ∈ qT := qT_in 485 (by decide +kernel) (by decide +kernel)
theorem tw_491 : Cond.methodLink RX3 82 yX3_takesWord ∈ qT := qT_in 491 (by decide +kernel) (by decide +kernel)
theorem tw_493 : Cond.instanceMethod yX3_takesWord ∈ qT := qT_in 493 (by decide +kernel) (by decide +kernel)
theorem tw_494 : Cond.code yX3_takesWord cX3_takesWord 3 (some .boolean) ∈ qT := qT_in 494 (by decide +kernel) (by decide +kernel)
theorem tw_495 : Cond.methodLink RX3 108 yJ0_length_8abf5 ∈ qT := qT_in 495 (by decide +kernel) (by decide +kernel)
theorem tw_496 : Cond.instanceMethod yJ0_length_8abf5 ∈ qT := qT_in 496 (by decide +kernel) (by decide +kernel)
theorem tw_497 : Cond.selects RJ0 yJ0_length_8abf5 yJ0_length_8abf5 ∈ qT := qT_in 497 (by decide +kernel) (by decide +kernel)
theorem tw_498 : Cond.code yJ0_length_8abf5 cJ0_length_8abf5 1 (some .int) ∈ qT := qT_in 498 (by decide +kernel) (by decide +kernel)
theorem tw_499 : Cond.methodLink RJ0 335 yJ0_coder_7d493 ∈ qT := qT_in 499 (by decide +kernel) (by decide +kernel)
theorem tw_500 : Cond.instanceMethod yJ0_coder_7d493 ∈ qT := qT_in 500 (by decide +kernel) (by decide +kernel)
theorem tw_501 : Cond.selects RJ0 yJ0_coder_7d493 yJ0_coder_7d493 ∈ qT := qT_in 501 (by decide +kernel) (by decide +kernel)
theorem tw_502 : Cond.code yJ0_coder_7d493 cJ0_coder_7d493 1 (some .byte) ∈ qT := qT_in 502 (by decide +kernel) (by decide +kernel)
theorem tw_503 : Cond.fieldLink RJ0 38 RJ0 "COMPACT_STRINGS" "Z" ∈ qT := qT_in 503 (by decide +kernel) (by decide +kernel)
theorem tw_505 : Cond.methodLink RX3 113 yJ0_charAt_5068e ∈ qT := qT_in 505 (by decide +kernel) (by decide +kernel)
theorem tw_506 : Cond.instanceMethod yJ0_charAt_5068e ∈ qT := qT_in 506 (by decide +kernel) (by decide +kernel)
theorem tw_507 : Cond.selects RJ0 yJ0_charAt_5068e yJ0_charAt_5068e ∈ qT := qT_in 507 (by decide +kernel) (by decide +kernel)
theorem tw_508 : Cond.code yJ0_charAt_5068e cJ0_charAt_5068e 2 (some .char) ∈ qT := qT_in 508 (by decide +kernel) (by decide +kernel)
theorem tw_509 : Cond.methodLink RJ0 492 yJ0_isLatin1_aae02 ∈ qT := qT_in 509 (by decide +kernel) (by decide +kernel)
theorem tw_510 : Cond.instanceMethod yJ0_isLatin1_aae02 ∈ qT := qT_in 510 (by decide +kernel) (by decide +kernel)
theorem tw_511 : Cond.selects RJ0 yJ0_isLatin1_aae02 yJ0_isLatin1_aae02 ∈ qT := qT_in 511 (by decide +kernel) (by decide +kernel)
theorem tw_512 : Cond.code yJ0_isLatin1_aae02 cJ0_isLatin1_aae02 1 (some .boolean) ∈ qT := qT_in 512 (by decide +kernel) (by decide +kernel)
theorem tw_513 : Cond.methodLink RJ0 495 yJ1_charAt_3b067 ∈ qT := qT_in 513 (by decide +kernel) (by decide +kernel)
theorem tw_514 : Cond.static yJ1_charAt_3b067 ∈ qT := qT_in 514 (by decide +kernel) (by decide +kernel)
theorem tw_515 : Cond.code yJ1_charAt_3b067 cJ1_charAt_3b067 2 (some .char) ∈ qT := qT_in 515 (by decide +kernel) (by decide +kernel)
theorem tw_516 : Cond.methodLink RJ1 9 yJ0_checkIndex_df160 ∈ qT := qT_in 516 (by decide +kernel) (by decide +kernel)
theorem tw_517 : Cond.static yJ0_checkIndex_df160 ∈ qT := qT_in 517 (by decide +kernel) (by decide +kernel)
theorem tw_518 : Cond.code yJ0_checkIndex_df160 cJ0_checkIndex_df160 2 none ∈ qT := qT_in 518 (by decide +kernel) (by decide +kernel)
theorem tw_519 : Cond.fieldLink RJ0 1053 RJ3 "SIOOBE_FORMATTER" "Ljava/util/function/BiFunction;" ∈ qT := qT_in 519 (by decide +kernel) (by decide +kernel)
theorem tw_521 : Cond.methodLink RJ0 1059 yJ3_checkIndex_8e157 ∈ qT := qT_in 521 (by decide +kernel) (by decide +kernel)
theorem tw_522 : Cond.static yJ3_checkIndex_8e157 ∈ qT := qT_in 522 (by decide +kernel) (by decide +kernel)
theorem tw_523 : Cond.code yJ3_checkIndex_8e157 cJ3_checkIndex_8e157 3 (some .int) ∈ qT := qT_in 523 (by decide +kernel) (by decide +kernel)
theorem tw_543 : Cond.methodLink RX3 117 yJ0_isEmpty_aae02 ∈ qT := qT_in 543 (by decide +kernel) (by decide +kernel)
theorem tw_544 : Cond.instanceMethod yJ0_isEmpty_aae02 ∈ qT := qT_in 544 (by decide +kernel) (by decide +kernel)
theorem tw_545 : Cond.selects RJ0 yJ0_isEmpty_aae02 yJ0_isEmpty_aae02 ∈ qT := qT_in 545 (by decide +kernel) (by decide +kernel)
theorem tw_546 : Cond.code yJ0_isEmpty_aae02 cJ0_isEmpty_aae02 1 (some .boolean) ∈ qT := qT_in 546 (by decide +kernel) (by decide +kernel)
theorem tw_547 : Cond.methodLink RX3 86 yX3_takesNumber ∈ qT := qT_in 547 (by decide +kernel) (by decide +kernel)
theorem tw_549 : Cond.instanceMethod yX3_takesNumber ∈ qT := qT_in 549 (by decide +kernel) (by decide +kernel)
theorem tw_550 : Cond.code yX3_takesNumber cX3_takesNumber 4 (some .int) ∈ qT := qT_in 550 (by decide +kernel) (by decide +kernel)
theorem tw_551 : Cond.methodLink RX3 89 yJ9_max_7cf53 ∈ qT := qT_in 551 (by decide +kernel) (by decide +kernel)
theorem tw_552 : Cond.methodLink RX3 92 yX3_takesEither ∈ qT := qT_in 552 (by decide +kernel) (by decide +kernel)
theorem tw_554 : Cond.instanceMethod yX3_takesEither ∈ qT := qT_in 554 (by decide +kernel) (by decide +kernel)
theorem tw_555 : Cond.code yX3_takesEither cX3_takesEither 3 (some .boolean) ∈ qT := qT_in 555 (by decide +kernel) (by decide +kernel)
theorem tw_556 : Cond.methodLink RX3 121 yX3_takesBoth ∈ qT := qT_in 556 (by decide +kernel) (by decide +kernel)
theorem tw_558 : Cond.instanceMethod yX3_takesBoth ∈ qT := qT_in 558 (by decide +kernel) (by decide +kernel)
theorem tw_559 : Cond.code yX3_takesBoth cX3_takesBoth 3 (some .boolean) ∈ qT := qT_in 559 (by decide +kernel) (by decide +kernel)
theorem tw_560 : Cond.methodLink RX3 124 yX3_takesOne ∈ qT := qT_in 560 (by decide +kernel) (by decide +kernel)
theorem tw_562 : Cond.instanceMethod yX3_takesOne ∈ qT := qT_in 562 (by decide +kernel) (by decide +kernel)
theorem tw_563 : Cond.code yX3_takesOne cX3_takesOne 4 (some .boolean) ∈ qT := qT_in 563 (by decide +kernel) (by decide +kernel)
theorem tw_564 : Cond.methodLink RX3 127 yX3_takesTest ∈ qT := qT_in 564 (by decide +kernel) (by decide +kernel)
theorem tw_566 : Cond.instanceMethod yX3_takesTest ∈ qT := qT_in 566 (by decide +kernel) (by decide +kernel)
theorem tw_567 : Cond.code yX3_takesTest cX3_takesTest 4 (some .boolean) ∈ qT := qT_in 567 (by decide +kernel) (by decide +kernel)
theorem tw_568 : Cond.methodLink RX3 130 yX3_isAskedFor ∈ qT := qT_in 568 (by decide +kernel) (by decide +kernel)
theorem tw_569 : Cond.static yX3_isAskedFor ∈ qT := qT_in 569 (by decide +kernel) (by decide +kernel)
theorem tw_570 : Cond.code yX3_isAskedFor cX3_isAskedFor 1 (some .boolean) ∈ qT := qT_in 570 (by decide +kernel) (by decide +kernel)
theorem tw_571 : Cond.methodLink RX3 95 yX3_adds ∈ qT := qT_in 571 (by decide +kernel) (by decide +kernel)
theorem tw_573 : Cond.instanceMethod yX3_adds ∈ qT := qT_in 573 (by decide +kernel) (by decide +kernel)
theorem tw_574 : Cond.code yX3_adds cX3_adds 2 none ∈ qT := qT_in 574 (by decide +kernel) (by decide +kernel)
theorem tw_575 : Cond.methodLink RX11 177 yX8_holds ∈ qT := qT_in 575 (by decide +kernel) (by decide +kernel)
theorem tw_576 : Cond.instanceMethod yX8_holds ∈ qT := qT_in 576 (by decide +kernel) (by decide +kernel)
theorem tw_577 : Cond.selects RX8 yX8_holds yX8_holds ∈ qT := qT_in 577 (by decide +kernel) (by decide +kernel)
theorem tw_578 : Cond.code yX8_holds cX8_holds 2 none ∈ qT := qT_in 578 (by decide +kernel) (by decide +kernel)
theorem tw_587 : Cond.methodLink RX11 190 yX8_minutesGo ∈ qT := qT_in 587 (by decide +kernel) (by decide +kernel)
theorem tw_588 : Cond.instanceMethod yX8_minutesGo ∈ qT := qT_in 588 (by decide +kernel) (by decide +kernel)
theorem tw_589 : Cond.selects RX8 yX8_minutesGo yX8_minutesGo ∈ qT := qT_in 589 (by decide +kernel) (by decide +kernel)
theorem tw_590 : Cond.code yX8_minutesGo cX8_minutesGo 4 (some .int) ∈ qT := qT_in 590 (by decide +kernel) (by decide +kernel)
theorem tw_591 : Cond.methodLink RX8 67 yX8_works ∈ qT := qT_in 591 (by decide +kernel) (by decide +kernel)
theorem tw_593 : Cond.instanceMethod yX8_works ∈ qT := qT_in 593 (by decide +kernel) (by decide +kernel)
theorem tw_594 : Cond.code yX8_works cX8_works 6 none ∈ qT := qT_in 594 (by decide +kernel) (by decide +kernel)
theorem tw_595 : Cond.methodLink RX8 74 yJ9_min_7cf53 ∈ qT := qT_in 595 (by decide +kernel) (by decide +kernel)
theorem tw_596 : Cond.methodLink RX8 80 yX8_paceOf ∈ qT := qT_in 596 (by decide +kernel) (by decide +kernel)
theorem tw_601 : Cond.methodLink RX11 193 yX8_becomes ∈ qT := qT_in 601 (by decide +kernel) (by decide +kernel)
theorem tw_602 : Cond.instanceMethod yX8_becomes ∈ qT := qT_in 602 (by decide +kernel) (by decide +kernel)
theorem tw_603 : Cond.selects RX8 yX8_becomes yX8_becomes ∈ qT := qT_in 603 (by decide +kernel) (by decide +kernel)
theorem tw_604 : Cond.code yX8_becomes cX8_becomes 2 none ∈ qT := qT_in 604 (by decide +kernel) (by decide +kernel)
theorem tw_605 : Cond.methodLink RX8 55 arraycopyName ∈ qT := qT_in 605 (by decide +kernel) (by decide +kernel)
theorem tw_614 : Cond.methodLink RX11 197 yX11_bestMove ∈ qT := qT_in 614 (by decide +kernel) (by decide +kernel)
theorem tw_616 : Cond.instanceMethod yX11_bestMove ∈ qT := qT_in 616 (by decide +kernel) (by decide +kernel)
theorem tw_617 : Cond.code yX11_bestMove cX11_bestMove 6 (some .int) ∈ qT := qT_in 617 (by decide +kernel) (by decide +kernel)
theorem tw_618 : Cond.methodLink RX11 210 yX11_yieldAsIs ∈ qT := qT_in 618 (by decide +kernel) (by decide +kernel)
theorem tw_620 : Cond.instanceMethod yX11_yieldAsIs ∈ qT := qT_in 620 (by decide +kernel) (by decide +kernel)
theorem tw_621 : Cond.code yX11_yieldAsIs cX11_yieldAsIs 1 (some .int) ∈ qT := qT_in 621 (by decide +kernel) (by decide +kernel)
theorem tw_622 : Cond.methodLink RX11 201 yX11_bestSwap ∈ qT := qT_in 622 (by decide +kernel) (by decide +kernel)
theorem tw_624 : Cond.instanceMethod yX11_bestSwap ∈ qT := qT_in 624 (by decide +kernel) (by decide +kernel)
theorem tw_625 : Cond.code yX11_bestSwap cX11_bestSwap 6 (some .int) ∈ qT := qT_in 625 (by decide +kernel) (by decide +kernel)
theorem tw_626 : Cond.methodLink RX11 204 yX11_enoughRoom ∈ qT := qT_in 626 (by decide +kernel) (by decide +kernel)
theorem tw_628 : Cond.instanceMethod yX11_enoughRoom ∈ qT := qT_in 628 (by decide +kernel) (by decide +kernel)
theorem tw_629 : Cond.code yX11_enoughRoom cX11_enoughRoom 3 (some .int) ∈ qT := qT_in 629 (by decide +kernel) (by decide +kernel)
theorem tw_630 : Cond.methodLink RX11 207 yX11_mostMissed ∈ qT := qT_in 630 (by decide +kernel) (by decide +kernel)
theorem tw_632 : Cond.instanceMethod yX11_mostMissed ∈ qT := qT_in 632 (by decide +kernel) (by decide +kernel)
theorem tw_633 : Cond.code yX11_mostMissed cX11_mostMissed 5 (some .int) ∈ qT := qT_in 633 (by decide +kernel) (by decide +kernel)
theorem tw_634 : Cond.methodLink RX11 213 yX11_behindWithout ∈ qT := qT_in 634 (by decide +kernel) (by decide +kernel)
theorem tw_636 : Cond.instanceMethod yX11_behindWithout ∈ qT := qT_in 636 (by decide +kernel) (by decide +kernel)
theorem tw_637 : Cond.code yX11_behindWithout cX11_behindWithout 3 (some .int) ∈ qT := qT_in 637 (by decide +kernel) (by decide +kernel)
theorem tw_650 : Cond.methodLink RX11 220 yX6_add ∈ qT := qT_in 650 (by decide +kernel) (by decide +kernel)
theorem tw_651 : Cond.instanceMethod yX6_add ∈ qT := qT_in 651 (by decide +kernel) (by decide +kernel)
theorem tw_652 : Cond.selects RX6 yX6_add yX6_add ∈ qT := qT_in 652 (by decide +kernel) (by decide +kernel)
theorem tw_653 : Cond.code yX6_add cX6_add 5 (some .int) ∈ qT := qT_in 653 (by decide +kernel) (by decide +kernel)
theorem tw_658 : Cond.methodLink RX11 223 yX11_fitting ∈ qT := qT_in 658 (by decide +kernel) (by decide +kernel)
theorem tw_660 : Cond.instanceMethod yX11_fitting ∈ qT := qT_in 660 (by decide +kernel) (by decide +kernel)
theorem tw_661 : Cond.code yX11_fitting cX11_fitting 8 (some .int) ∈ qT := qT_in 661 (by decide +kernel) (by decide +kernel)
theorem tw_662 : Cond.methodLink RX11 227 yX11_isAllSeenSo ∈ qT := qT_in 662 (by decide +kernel) (by decide +kernel)
theorem tw_664 : Cond.instanceMethod yX11_isAllSeenSo ∈ qT := qT_in 664 (by decide +kernel) (by decide +kernel)
theorem tw_665 : Cond.code yX11_isAllSeenSo cX11_isAllSeenSo 4 (some .boolean) ∈ qT := qT_in 665 (by decide +kernel) (by decide +kernel)
theorem tw_666 : Cond.methodLink RX11 231 yX6_cell ∈ qT := qT_in 666 (by decide +kernel) (by decide +kernel)
theorem tw_667 : Cond.instanceMethod yX6_cell ∈ qT := qT_in 667 (by decide +kernel) (by decide +kernel)
theorem tw_668 : Cond.selects RX6 yX6_cell yX6_cell ∈ qT := qT_in 668 (by decide +kernel) (by decide +kernel)
theorem tw_669 : Cond.code yX6_cell cX6_cell 3 (some .int) ∈ qT := qT_in 669 (by decide +kernel) (by decide +kernel)
theorem tw_670 : Cond.methodLink RX11 234 yJ9_max_7cf53 ∈ qT := qT_in 670 (by decide +kernel) (by decide +kernel)
theorem tw_679 : Cond.constantLong RX11 239 (Int64.ofInt (-9223372036854775808)) ∈ qT := qT_in 679 (by decide +kernel) (by decide +kernel)
theorem tw_680 : Cond.methodLink RX11 241 yX11_partOfFraction ∈ qT := qT_in 680 (by decide +kernel) (by decide +kernel)
theorem tw_681 : Cond.static yX11_partOfFraction ∈ qT := qT_in 681 (by decide +kernel) (by decide +kernel)
theorem tw_682 : Cond.code yX11_partOfFraction cX11_partOfFraction 7 (some .long) ∈ qT := qT_in 682 (by decide +kernel) (by decide +kernel)
theorem tw_695 : Cond.methodLink RX11 245 yX11_goesInTrial ∈ qT := qT_in 695 (by decide +kernel) (by decide +kernel)
theorem tw_697 : Cond.instanceMethod yX11_goesInTrial ∈ qT := qT_in 697 (by decide +kernel) (by decide +kernel)
theorem tw_698 : Cond.code yX11_goesInTrial cX11_goesInTrial 3 none ∈ qT := qT_in 698 (by decide +kernel) (by decide +kernel)
theorem tw_711 : Cond.methodLink RX11 248 yX11_isTape ∈ qT := qT_in 711 (by decide +kernel) (by decide +kernel)
theorem tw_712 : Cond.static yX11_isTape ∈ qT := qT_in 712 (by decide +kernel) (by decide +kernel)
theorem tw_713 : Cond.code yX11_isTape cX11_isTape 1 (some .boolean) ∈ qT := qT_in 713 (by decide +kernel) (by decide +kernel)
theorem tw_718 : Cond.methodLink RX11 251 yX6_becomes ∈ qT := qT_in 718 (by decide +kernel) (by decide +kernel)
theorem tw_719 : Cond.instanceMethod yX6_becomes ∈ qT := qT_in 719 (by decide +kernel) (by decide +kernel)
theorem tw_720 : Cond.selects RX6 yX6_becomes yX6_becomes ∈ qT := qT_in 720 (by decide +kernel) (by decide +kernel)
theorem tw_721 : Cond.code yX6_becomes cX6_becomes 2 none ∈ qT := qT_in 721 (by decide +kernel) (by decide +kernel)
theorem tw_722 : Cond.methodLink RX6 25 yJ9_min_7cf53 ∈ qT := qT_in 722 (by decide +kernel) (by decide +kernel)
theorem tw_723 : Cond.methodLink RX6 31 arraycopyName ∈ qT := qT_in 723 (by decide +kernel) (by decide +kernel)
theorem tw_732 : Cond.methodLink RX11 270 yX4_folds ∈ qT := qT_in 732 (by decide +kernel) (by decide +kernel)
theorem tw_733 : Cond.instanceMethod yX4_folds ∈ qT := qT_in 733 (by decide +kernel) (by decide +kernel)
theorem tw_734 : Cond.selects RX4 yX4_folds yX4_folds ∈ qT := qT_in 734 (by decide +kernel) (by decide +kernel)
theorem tw_735 : Cond.sameMethod RX4 RX4 "folds" "(LFoldedFilled$Act;I)I" ∈ qT := qT_in 735 (by decide +kernel) (by decide +kernel)
theorem tw_736 : Cond.selects RX1 yX4_folds yX2_folds ∈ qT := qT_in 736 (by decide +kernel) (by decide +kernel)
theorem tw_737 : Cond.instanceMethod yX2_folds ∈ qT := qT_in 737 (by decide +kernel) (by decide +kernel)
theorem tw_738 : Cond.code yX2_folds cX2_folds 3 (some .int) ∈ qT := qT_in 738 (by decide +kernel) (by decide +kernel)
theorem tw_739 : Cond.methodLink RX2 18 yX0_begins ∈ qT := qT_in 739 (by decide +kernel) (by decide +kernel)
theorem tw_740 : Cond.instanceMethod yX0_begins ∈ qT := qT_in 740 (by decide +kernel) (by decide +kernel)
theorem tw_741 : Cond.selects RX0 yX0_begins yX0_begins ∈ qT := qT_in 741 (by decide +kernel) (by decide +kernel)
theorem tw_742 : Cond.code yX0_begins cX0_begins 2 none ∈ qT := qT_in 742 (by decide +kernel) (by decide +kernel)
theorem tw_743 : Cond.methodLink RX2 24 yX4_folds ∈ qT := qT_in 743 (by decide +kernel) (by decide +kernel)
theorem tw_744 : Cond.selects RX2 yX4_folds yX2_folds ∈ qT := qT_in 744 (by decide +kernel) (by decide +kernel)
theorem tw_745 : Cond.selects RX5 yX4_folds yX4_folds ∈ qT := qT_in 745 (by decide +kernel) (by decide +kernel)
theorem tw_746 : Cond.selects RX7 yX4_folds yX7_folds ∈ qT := qT_in 746 (by decide +kernel) (by decide +kernel)
theorem tw_747 : Cond.instanceMethod yX7_folds ∈ qT := qT_in 747 (by decide +kernel) (by decide +kernel)
theorem tw_748 : Cond.code yX7_folds cX7_folds 3 (some .int) ∈ qT := qT_in 748 (by decide +kernel) (by decide +kernel)
theorem tw_749 : Cond.methodLink RX7 19 yX0_begins ∈ qT := qT_in 749 (by decide +kernel) (by decide +kernel)
theorem tw_750 : Cond.methodLink RX7 25 ⟨RX5, "folds", "(LFoldedFilled$Act;I)I"⟩ ∈ qT := qT_in 750 (by decide +kernel) (by decide +kernel)
theorem tw_751 : Cond.sameMethod RX5 RX4 "folds" "(LFoldedFilled$Act;I)I" ∈ qT := qT_in 751 (by decide +kernel) (by decide +kernel)
theorem tw_753 : Cond.selects RX9 yX4_folds yX4_folds ∈ qT := qT_in 753 (by decide +kernel) (by decide +kernel)
theorem tw_754 : Cond.selects RX10 yX4_folds yX10_folds ∈ qT := qT_in 754 (by decide +kernel) (by decide +kernel)
theorem tw_755 : Cond.instanceMethod yX10_folds ∈ qT := qT_in 755 (by decide +kernel) (by decide +kernel)
theorem tw_756 : Cond.code yX10_folds cX10_folds 3 (some .int) ∈ qT := qT_in 756 (by decide +kernel) (by decide +kernel)
theorem tw_757 : Cond.methodLink RX10 23 yX0_begins ∈ qT := qT_in 757 (by decide +kernel) (by decide +kernel)
theorem tw_758 : Cond.methodLink RX10 33 ⟨RX9, "folds", "(LFoldedFilled$Act;I)I"⟩ ∈ qT := qT_in 758 (by decide +kernel) (by decide +kernel)
theorem tw_759 : Cond.sameMethod RX9 RX4 "folds" "(LFoldedFilled$Act;I)I" ∈ qT := qT_in 759 (by decide +kernel) (by decide +kernel)
theorem tw_760 : Cond.code yX4_folds cX4_folds 3 (some .int) ∈ qT := qT_in 760 (by decide +kernel) (by decide +kernel)
theorem tw_761 : Cond.methodLink RX4 7 yX0_begins ∈ qT := qT_in 761 (by decide +kernel) (by decide +kernel)
theorem tw_762 : Cond.methodLink RX11 274 yX4_licks ∈ qT := qT_in 762 (by decide +kernel) (by decide +kernel)
theorem tw_763 : Cond.instanceMethod yX4_licks ∈ qT := qT_in 763 (by decide +kernel) (by decide +kernel)
theorem tw_764 : Cond.selects RX4 yX4_licks yX4_licks ∈ qT := qT_in 764 (by decide +kernel) (by decide +kernel)
theorem tw_765 : Cond.sameMethod RX4 RX4 "licks" "(LFoldedFilled$Act;I)I" ∈ qT := qT_in 765 (by decide +kernel) (by decide +kernel)
theorem tw_766 : Cond.selects RX1 yX4_licks yX4_licks ∈ qT := qT_in 766 (by decide +kernel) (by decide +kernel)
theorem tw_767 : Cond.selects RX2 yX4_licks yX4_licks ∈ qT := qT_in 767 (by decide +kernel) (by decide +kernel)
theorem tw_768 : Cond.selects RX5 yX4_licks yX5_licks ∈ qT := qT_in 768 (by decide +kernel) (by decide +kernel)
theorem tw_769 : Cond.instanceMethod yX5_licks ∈ qT := qT_in 769 (by decide +kernel) (by decide +kernel)
theorem tw_770 : Cond.code yX5_licks cX5_licks 3 (some .int) ∈ qT := qT_in 770 (by decide +kernel) (by decide +kernel)
theorem tw_771 : Cond.methodLink RX5 13 yX0_begins ∈ qT := qT_in 771 (by decide +kernel) (by decide +kernel)
theorem tw_772 : Cond.methodLink RX5 19 yX4_licks ∈ qT := qT_in 772 (by decide +kernel) (by decide +kernel)
theorem tw_773 : Cond.selects RX7 yX4_licks yX7_licks ∈ qT := qT_in 773 (by decide +kernel) (by decide +kernel)
theorem tw_774 : Cond.instanceMethod yX7_licks ∈ qT := qT_in 774 (by decide +kernel) (by decide +kernel)
theorem tw_775 : Cond.code yX7_licks cX7_licks 3 (some .int) ∈ qT := qT_in 775 (by decide +kernel) (by decide +kernel)
theorem tw_776 : Cond.methodLink RX7 29 yX5_licks ∈ qT := qT_in 776 (by decide +kernel) (by decide +kernel)
theorem tw_777 : Cond.selects RX9 yX4_licks yX4_licks ∈ qT := qT_in 777 (by decide +kernel) (by decide +kernel)
theorem tw_778 : Cond.selects RX10 yX4_licks yX10_licks ∈ qT := qT_in 778 (by decide +kernel) (by decide +kernel)
theorem tw_779 : Cond.instanceMethod yX10_licks ∈ qT := qT_in 779 (by decide +kernel) (by decide +kernel)
theorem tw_780 : Cond.code yX10_licks cX10_licks 4 (some .int) ∈ qT := qT_in 780 (by decide +kernel) (by decide +kernel)
theorem tw_781 : Cond.methodLink RX10 29 ⟨RX9, "licks", "(LFoldedFilled$Act;I)I"⟩ ∈ qT := qT_in 781 (by decide +kernel) (by decide +kernel)
theorem tw_782 : Cond.sameMethod RX9 RX4 "licks" "(LFoldedFilled$Act;I)I" ∈ qT := qT_in 782 (by decide +kernel) (by decide +kernel)
theorem tw_784 : Cond.code yX4_licks cX4_licks 3 (some .int) ∈ qT := qT_in 784 (by decide +kernel) (by decide +kernel)
theorem tw_785 : Cond.methodLink RX4 17 yX4_folds ∈ qT := qT_in 785 (by decide +kernel) (by decide +kernel)
theorem tw_786 : Cond.methodLink RX11 277 yX4_tells ∈ qT := qT_in 786 (by decide +kernel) (by decide +kernel)
theorem tw_787 : Cond.instanceMethod yX4_tells ∈ qT := qT_in 787 (by decide +kernel) (by decide +kernel)
theorem tw_788 : Cond.selects RX4 yX4_tells yX4_tells ∈ qT := qT_in 788 (by decide +kernel) (by decide +kernel)
theorem tw_789 : Cond.sameMethod RX4 RX4 "tells" "(LFoldedFilled$Act;I)I" ∈ qT := qT_in 789 (by decide +kernel) (by decide +kernel)
theorem tw_790 : Cond.selects RX1 yX4_tells yX1_tells ∈ qT := qT_in 790 (by decide +kernel) (by decide +kernel)
theorem tw_791 : Cond.instanceMethod yX1_tells ∈ qT := qT_in 791 (by decide +kernel) (by decide +kernel)
theorem tw_792 : Cond.code yX1_tells cX1_tells 3 (some .int) ∈ qT := qT_in 792 (by decide +kernel) (by decide +kernel)
theorem tw_793 : Cond.methodLink RX1 23 yX0_begins ∈ qT := qT_in 793 (by decide +kernel) (by decide +kernel)
theorem tw_794 : Cond.methodLink RX1 33 ⟨RX2, "tells", "(LFoldedFilled$Act;I)I"⟩ ∈ qT := qT_in 794 (by decide +kernel) (by decide +kernel)
theorem tw_795 : Cond.sameMethod RX2 RX4 "tells" "(LFoldedFilled$Act;I)I" ∈ qT := qT_in 795 (by decide +kernel) (by decide +kernel)
theorem tw_797 : Cond.selects RX2 yX4_tells yX4_tells ∈ qT := qT_in 797 (by decide +kernel) (by decide +kernel)
theorem tw_798 : Cond.selects RX5 yX4_tells yX4_tells ∈ qT := qT_in 798 (by decide +kernel) (by decide +kernel)
theorem tw_799 : Cond.selects RX7 yX4_tells yX4_tells ∈ qT := qT_in 799 (by decide +kernel) (by decide +kernel)
theorem tw_800 : Cond.selects RX9 yX4_tells yX9_tells ∈ qT := qT_in 800 (by decide +kernel) (by decide +kernel)
theorem tw_801 : Cond.instanceMethod yX9_tells ∈ qT := qT_in 801 (by decide +kernel) (by decide +kernel)
theorem tw_802 : Cond.code yX9_tells cX9_tells 4 (some .int) ∈ qT := qT_in 802 (by decide +kernel) (by decide +kernel)
theorem tw_803 : Cond.methodLink RX9 21 yX0_begins ∈ qT := qT_in 803 (by decide +kernel) (by decide +kernel)
theorem tw_804 : Cond.methodLink RX9 27 yX4_tells ∈ qT := qT_in 804 (by decide +kernel) (by decide +kernel)
theorem tw_805 : Cond.methodLink RX9 31 ⟨RX9, "licks", "(LFoldedFilled$Act;I)I"⟩ ∈ qT := qT_in 805 (by decide +kernel) (by decide +kernel)
theorem tw_806 : Cond.selects RX9 ⟨RX9, "licks", "(LFoldedFilled$Act;I)I"⟩ yX4_licks ∈ qT := qT_in 806 (by decide +kernel) (by decide +kernel)
theorem tw_807 : Cond.selects RX10 ⟨RX9, "licks", "(LFoldedFilled$Act;I)I"⟩ yX10_licks ∈ qT := qT_in 807 (by decide +kernel) (by decide +kernel)
theorem tw_808 : Cond.selects RX10 yX4_tells yX9_tells ∈ qT := qT_in 808 (by decide +kernel) (by decide +kernel)
theorem tw_809 : Cond.code yX4_tells cX4_tells 3 (some .int) ∈ qT := qT_in 809 (by decide +kernel) (by decide +kernel)
theorem tw_810 : Cond.methodLink RX4 26 yX4_licks ∈ qT := qT_in 810 (by decide +kernel) (by decide +kernel)
theorem tw_819 : Cond.fieldLink RX11 283 RX11 "KIND_ABOVE" "[I" ∈ qT := qT_in 819 (by decide +kernel) (by decide +kernel)
theorem tw_833 : Cond.methodLink RX11 286 yX11_asItem ∈ qT := qT_in 833 (by decide +kernel) (by decide +kernel)
theorem tw_834 : Cond.static yX11_asItem ∈ qT := qT_in 834 (by decide +kernel) (by decide +kernel)
theorem tw_835 : Cond.code yX11_asItem cX11_asItem 3 (some .long) ∈ qT := qT_in 835 (by decide +kernel) (by decide +kernel)
theorem tw_844 : Cond.methodLink RX11 290 arraycopyName ∈ qT := qT_in 844 (by decide +kernel) (by decide +kernel)
theorem tw_850 : Cond.methodLink RX12 1 objectInit ∈ qT := qT_in 850 (by decide +kernel) (by decide +kernel)
theorem tw_851 : Cond.constant RX12 99 (Int32.ofInt 99999) ∈ qT := qT_in 851 (by decide +kernel) (by decide +kernel)
theorem tw_852 : Cond.fieldLink RX12 7 RX12 "people" "I" ∈ qT := qT_in 852 (by decide +kernel) (by decide +kernel)
theorem tw_853 : Cond.fieldLink RX12 13 RX12 "minutes" "I" ∈ qT := qT_in 853 (by decide +kernel) (by decide +kernel)
theorem tw_854 : Cond.fieldLink RX12 16 RX12 "away" "I" ∈ qT := qT_in 854 (by decide +kernel) (by decide +kernel)
theorem tw_855 : Cond.fieldLink RX12 19 RX12 "lies" "[I" ∈ qT := qT_in 855 (by decide +kernel) (by decide +kernel)
theorem tw_856 : Cond.fieldLink RX12 23 RX12 "kind" "[I" ∈ qT := qT_in 856 (by decide +kernel) (by decide +kernel)
theorem tw_857 : Cond.fieldLink RX12 26 RX12 "v" "[I" ∈ qT := qT_in 857 (by decide +kernel) (by decide +kernel)
theorem tw_858 : Cond.fieldLink RX12 29 RX12 "job" "[I" ∈ qT := qT_in 858 (by decide +kernel) (by decide +kernel)
theorem tw_859 : Cond.fieldLink RX12 32 RX12 "did" "[I" ∈ qT := qT_in 859 (by decide +kernel) (by decide +kernel)
theorem tw_860 : Cond.fieldLink RX12 35 RX12 "waited" "[I" ∈ qT := qT_in 860 (by decide +kernel) (by decide +kernel)
theorem tw_861 : Cond.fieldLink RX12 38 RX12 "rows" "[I" ∈ qT := qT_in 861 (by decide +kernel) (by decide +kernel)
theorem tw_862 : Cond.fieldLink RX12 41 RX12 "halls" "I" ∈ qT := qT_in 862 (by decide +kernel) (by decide +kernel)
theorem tw_863 : Cond.fieldLink RX12 44 RX12 "the" "I" ∈ qT := qT_in 863 (by decide +kernel) (by decide +kernel)
theorem tw_864 : Cond.fieldLink RX12 47 RX12 "fed" "I" ∈ qT := qT_in 864 (by decide +kernel) (by decide +kernel)
theorem tw_865 : Cond.fieldLink RX12 50 RX12 "at" "I" ∈ qT := qT_in 865 (by decide +kernel) (by decide +kernel)
theorem tw_866 : Cond.fieldLink RX12 53 RX12 "digits" "I" ∈ qT := qT_in 866 (by decide +kernel) (by decide +kernel)
theorem tw_867 : Cond.fieldLink RX12 56 RX12 "text" "[I" ∈ qT := qT_in 867 (by decide +kernel) (by decide +kernel)
theorem tw_868 : Cond.fieldLink RX12 59 RX12 "clauses" "[I" ∈ qT := qT_in 868 (by decide +kernel) (by decide +kernel)
theorem tw_869 : Cond.fieldLink RX12 62 RX12 "word" "[I" ∈ qT := qT_in 869 (by decide +kernel) (by decide +kernel)
theorem tw_870 : Cond.fieldLink RX12 65 RX12 "number" "[I" ∈ qT := qT_in 870 (by decide +kernel) (by decide +kernel)
theorem tw_871 : Cond.fieldLink RX12 68 RX12 "from" "[I" ∈ qT := qT_in 871 (by decide +kernel) (by decide +kernel)
theorem tw_872 : Cond.fieldLink RX12 71 RX12 "to" "[I" ∈ qT := qT_in 872 (by decide +kernel) (by decide +kernel)
theorem tw_873 : Cond.fieldLink RX12 74 RX12 "sign" "[I" ∈ qT := qT_in 873 (by decide +kernel) (by decide +kernel)
theorem tw_874 : Cond.fieldLink RX12 77 RX12 "waits" "[I" ∈ qT := qT_in 874 (by decide +kernel) (by decide +kernel)
theorem tw_875 : Cond.fieldLink RX12 80 RX12 "signs" "I" ∈ qT := qT_in 875 (by decide +kernel) (by decide +kernel)
theorem tw_876 : Cond.fieldLink RX12 83 RX12 "waiting" "I" ∈ qT := qT_in 876 (by decide +kernel) (by decide +kernel)
theorem tw_877 : Cond.fieldLink RX12 86 RX12 "open" "I" ∈ qT := qT_in 877 (by decide +kernel) (by decide +kernel)
theorem tw_878 : Cond.fieldLink RX12 89 RX12 "letters" "[I" ∈ qT := qT_in 878 (by decide +kernel) (by decide +kernel)
theorem tw_879 : Cond.fieldLink RX12 92 RX12 "roomInMind" "I" ∈ qT := qT_in 879 (by decide +kernel) (by decide +kernel)
theorem tw_880 : Cond.fieldLink RX12 95 RX12 "pile" "[Z" ∈ qT := qT_in 880 (by decide +kernel) (by decide +kernel)
theorem tw_881 : Cond.fieldLink RX12 100 RX12 "mostDid" "I" ∈ qT := qT_in 881 (by decide +kernel) (by decide +kernel)
theorem tw_882 : Cond.fieldLink RX12 103 RX12 "mostWaited" "I" ∈ qT := qT_in 882 (by decide +kernel) (by decide +kernel)
theorem tw_883 : Cond.fieldLink RX12 106 RX12 "keptMinutes" "I" ∈ qT := qT_in 883 (by decide +kernel) (by decide +kernel)
theorem tw_884 : Cond.fieldLink RX12 109 RX12 "keptAway" "I" ∈ qT := qT_in 884 (by decide +kernel) (by decide +kernel)
theorem tw_885 : Cond.fieldLink RX12 112 RX12 "keptLies" "[I" ∈ qT := qT_in 885 (by decide +kernel) (by decide +kernel)
theorem tw_886 : Cond.fieldLink RX12 115 RX12 "keptJob" "[I" ∈ qT := qT_in 886 (by decide +kernel) (by decide +kernel)
theorem tw_887 : Cond.fieldLink RX12 118 RX12 "keptDid" "[I" ∈ qT := qT_in 887 (by decide +kernel) (by decide +kernel)
theorem tw_888 : Cond.fieldLink RX12 121 RX12 "keptWaited" "[I" ∈ qT := qT_in 888 (by decide +kernel) (by decide +kernel)
theorem tw_889 : Cond.fieldLink RX12 124 RX12 "seen" "I" ∈ qT := qT_in 889 (by decide +kernel) (by decide +kernel)
theorem tw_890 : Cond.fieldLink RX12 127 RX12 "seenHeap" "[I" ∈ qT := qT_in 890 (by decide +kernel) (by decide +kernel)
theorem tw_891 : Cond.fieldLink RX12 130 RX12 "seenLies" "[I" ∈ qT := qT_in 891 (by decide +kernel) (by decide +kernel)
theorem tw_892 : Cond.fieldLink RX12 133 RX12 "seenWhen" "[I" ∈ qT := qT_in 892 (by decide +kernel) (by decide +kernel)
theorem tw_893 : Cond.fieldLink RX12 136 RX12 "evenings" "I" ∈ qT := qT_in 893 (by decide +kernel) (by decide +kernel)
theorem tw_894 : Cond.fieldLink RX12 139 RX12 "books" "I" ∈ qT := qT_in 894 (by decide +kernel) (by decide +kernel)
theorem tw_895 : Cond.fieldLink RX12 142 RX12 "eveningWhat" "[I" ∈ qT := qT_in 895 (by decide +kernel) (by decide +kernel)
theorem tw_896 : Cond.fieldLink RX12 145 RX12 "eveningWho" "[I" ∈ qT := qT_in 896 (by decide +kernel) (by decide +kernel)
theorem tw_897 : Cond.fieldLink RX12 148 RX12 "bookHeap" "[I" ∈ qT := qT_in 897 (by decide +kernel) (by decide +kernel)
theorem tw_898 : Cond.fieldLink RX12 151 RX12 "bookLies" "[I" ∈ qT := qT_in 898 (by decide +kernel) (by decide +kernel)
theorem tw_899 : Cond.fieldLink RX12 154 RX12 "hasImage" "Z" ∈ qT := qT_in 899 (by decide +kernel) (by decide +kernel)
theorem tw_900 : Cond.fieldLink RX12 158 RX12 "imageThe" "I" ∈ qT := qT_in 900 (by decide +kernel) (by decide +kernel)
theorem tw_901 : Cond.fieldLink RX12 161 RX12 "imagePeople" "I" ∈ qT := qT_in 901 (by decide +kernel) (by decide +kernel)
theorem tw_902 : Cond.fieldLink RX12 164 RX12 "imageMinutes" "I" ∈ qT := qT_in 902 (by decide +kernel) (by decide +kernel)
theorem tw_903 : Cond.fieldLink RX12 167 RX12 "imageAway" "I" ∈ qT := qT_in 903 (by decide +kernel) (by decide +kernel)
theorem tw_904 : Cond.fieldLink RX12 170 RX12 "imageSeen" "I" ∈ qT := qT_in 904 (by decide +kernel) (by decide +kernel)
theorem tw_905 : Cond.fieldLink RX12 173 RX12 "imageEvenings" "I" ∈ qT := qT_in 905 (by decide +kernel) (by decide +kernel)
theorem tw_906 : Cond.fieldLink RX12 176 RX12 "imageBooks" "I" ∈ qT := qT_in 906 (by decide +kernel) (by decide +kernel)
theorem tw_907 : Cond.fieldLink RX12 179 RX12 "imageLies" "[I" ∈ qT := qT_in 907 (by decide +kernel) (by decide +kernel)
theorem tw_908 : Cond.fieldLink RX12 182 RX12 "imageKind" "[I" ∈ qT := qT_in 908 (by decide +kernel) (by decide +kernel)
theorem tw_909 : Cond.fieldLink RX12 185 RX12 "imageV" "[I" ∈ qT := qT_in 909 (by decide +kernel) (by decide +kernel)
theorem tw_910 : Cond.fieldLink RX12 188 RX12 "imageJob" "[I" ∈ qT := qT_in 910 (by decide +kernel) (by decide +kernel)
theorem tw_911 : Cond.fieldLink RX12 191 RX12 "imageDid" "[I" ∈ qT := qT_in 911 (by decide +kernel) (by decide +kernel)
theorem tw_912 : Cond.fieldLink RX12 194 RX12 "imageWaited" "[I" ∈ qT := qT_in 912 (by decide +kernel) (by decide +kernel)
theorem tw_913 : Cond.fieldLink RX12 197 RX12 "imageRows" "[I" ∈ qT := qT_in 913 (by decide +kernel) (by decide +kernel)
theorem tw_914 : Cond.fieldLink RX12 200 RX12 "imageHeap" "[I" ∈ qT := qT_in 914 (by decide +kernel) (by decide +kernel)
theorem tw_915 : Cond.fieldLink RX12 203 RX12 "imageSeenLies" "[I" ∈ qT := qT_in 915 (by decide +kernel) (by decide +kernel)
theorem tw_916 : Cond.fieldLink RX12 206 RX12 "imageWhen" "[I" ∈ qT := qT_in 916 (by decide +kernel) (by decide +kernel)
theorem tw_917 : Cond.fieldLink RX12 209 RX12 "imageWhat" "[I" ∈ qT := qT_in 917 (by decide +kernel) (by decide +kernel)
theorem tw_918 : Cond.fieldLink RX12 212 RX12 "imageWho" "[I" ∈ qT := qT_in 918 (by decide +kernel) (by decide +kernel)
theorem tw_919 : Cond.fieldLink RX12 215 RX12 "imageBookHeap" "[I" ∈ qT := qT_in 919 (by decide +kernel) (by decide +kernel)
theorem tw_920 : Cond.fieldLink RX12 218 RX12 "imageBookLies" "[I" ∈ qT := qT_in 920 (by decide +kernel) (by decide +kernel)
theorem tw_921 : Cond.fieldLink RX12 221 RX12 "ran" "I" ∈ qT := qT_in 921 (by decide +kernel) (by decide +kernel)
theorem tw_922 : Cond.fieldLink RX12 224 RX12 "bodies" "[I" ∈ qT := qT_in 922 (by decide +kernel) (by decide +kernel)
theorem tw_923 : Cond.fieldLink RX12 227 RX12 "sort" "[I" ∈ qT := qT_in 923 (by decide +kernel) (by decide +kernel)
theorem tw_924 : Cond.fieldLink RX12 230 RX12 "length" "[I" ∈ qT := qT_in 924 (by decide +kernel) (by decide +kernel)
theorem tw_925 : Cond.fieldLink RX12 233 RX12 "item" "[J" ∈ qT := qT_in 925 (by decide +kernel) (by decide +kernel)
theorem tw_926 : Cond.fieldLink RX12 237 RX12 "aside" "[J" ∈ qT := qT_in 926 (by decide +kernel) (by decide +kernel)
theorem tw_1082 : Cond.methodLink RX12 240 yX12_in ∈ qT := qT_in 1082 (by decide +kernel) (by decide +kernel)
theorem tw_1084 : Cond.instanceMethod yX12_in ∈ qT := qT_in 1084 (by decide +kernel) (by decide +kernel)
theorem tw_1085 : Cond.code yX12_in cX12_in 4 (some .boolean) ∈ qT := qT_in 1085 (by decide +kernel) (by decide +kernel)
theorem tw_1086 : Cond.methodLink RX12 244 yX12_isWork ∈ qT := qT_in 1086 (by decide +kernel) (by decide +kernel)
theorem tw_1088 : Cond.instanceMethod yX12_isWork ∈ qT := qT_in 1088 (by decide +kernel) (by decide +kernel)
theorem tw_1089 : Cond.code yX12_isWork cX12_isWork 2 (some .boolean) ∈ qT := qT_in 1089 (by decide +kernel) (by decide +kernel)
theorem tw_1094 : Cond.methodLink RX12 248 yX12_isPerson ∈ qT := qT_in 1094 (by decide +kernel) (by decide +kernel)
theorem tw_1096 : Cond.instanceMethod yX12_isPerson ∈ qT := qT_in 1096 (by decide +kernel) (by decide +kernel)
theorem tw_1097 : Cond.code yX12_isPerson cX12_isPerson 2 (some .boolean) ∈ qT := qT_in 1097 (by decide +kernel) (by decide +kernel)
theorem tw_1102 : Cond.methodLink RX12 251 yX12_has ∈ qT := qT_in 1102 (by decide +kernel) (by decide +kernel)
theorem tw_1104 : Cond.instanceMethod yX12_has ∈ qT := qT_in 1104 (by decide +kernel) (by decide +kernel)
theorem tw_1105 : Cond.code yX12_has cX12_has 3 (some .boolean) ∈ qT := qT_in 1105 (by decide +kernel) (by decide +kernel)
theorem tw_1106 : Cond.methodLink RX12 255 yX12_goes ∈ qT := qT_in 1106 (by decide +kernel) (by decide +kernel)
theorem tw_1108 : Cond.instanceMethod yX12_goes ∈ qT := qT_in 1108 (by decide +kernel) (by decide +kernel)
theorem tw_1109 : Cond.code yX12_goes cX12_goes 3 none ∈ qT := qT_in 1109 (by decide +kernel) (by decide +kernel)
theorem tw_1118 : Cond.methodLink RX12 259 yX12_isHeap ∈ qT := qT_in 1118 (by decide +kernel) (by decide +kernel)
theorem tw_1120 : Cond.instanceMethod yX12_isHeap ∈ qT := qT_in 1120 (by decide +kernel) (by decide +kernel)
theorem tw_1121 : Cond.code yX12_isHeap cX12_isHeap 2 (some .boolean) ∈ qT := qT_in 1121 (by decide +kernel) (by decide +kernel)
theorem tw_1122 : Cond.methodLink RX12 262 yX12_isLetters ∈ qT := qT_in 1122 (by decide +kernel) (by decide +kernel)
theorem tw_1124 : Cond.instanceMethod yX12_isLetters ∈ qT := qT_in 1124 (by decide +kernel) (by decide +kernel)
theorem tw_1125 : Cond.code yX12_isLetters cX12_isLetters 2 (some .boolean) ∈ qT := qT_in 1125 (by decide +kernel) (by decide +kernel)
theorem tw_1134 : Cond.methodLink RX12 308 yX12_goesText ∈ qT := qT_in 1134 (by decide +kernel) (by decide +kernel)
theorem tw_1136 : Cond.instanceMethod yX12_goesText ∈ qT := qT_in 1136 (by decide +kernel) (by decide +kernel)
theorem tw_1137 : Cond.code yX12_goesText cX12_goesText 3 (some .boolean) ∈ qT := qT_in 1137 (by decide +kernel) (by decide +kernel)
theorem tw_1138 : Cond.methodLink RX12 305 yX12_takesClause ∈ qT := qT_in 1138 (by decide +kernel) (by decide +kernel)
theorem tw_1140 : Cond.instanceMethod yX12_takesClause ∈ qT := qT_in 1140 (by decide +kernel) (by decide +kernel)
theorem tw_1141 : Cond.code yX12_takesClause cX12_takesClause 2 (some .boolean) ∈ qT := qT_in 1141 (by decide +kernel) (by decide +kernel)
theorem tw_1142 : Cond.methodLink RX12 299 yX12_takesHead ∈ qT := qT_in 1142 (by decide +kernel) (by decide +kernel)
theorem tw_1144 : Cond.instanceMethod yX12_takesHead ∈ qT := qT_in 1144 (by decide +kernel) (by decide +kernel)
theorem tw_1145 : Cond.code yX12_takesHead cX12_takesHead 2 (some .boolean) ∈ qT := qT_in 1145 (by decide +kernel) (by decide +kernel)
theorem tw_1146 : Cond.methodLink RX12 265 yX12_next ∈ qT := qT_in 1146 (by decide +kernel) (by decide +kernel)
theorem tw_1148 : Cond.instanceMethod yX12_next ∈ qT := qT_in 1148 (by decide +kernel) (by decide +kernel)
theorem tw_1149 : Cond.code yX12_next cX12_next 1 (some .int) ∈ qT := qT_in 1149 (by decide +kernel) (by decide +kernel)
theorem tw_1150 : Cond.methodLink RX12 296 yX12_takesWord ∈ qT := qT_in 1150 (by decide +kernel) (by decide +kernel)
theorem tw_1152 : Cond.instanceMethod yX12_takesWord ∈ qT := qT_in 1152 (by decide +kernel) (by decide +kernel)
theorem tw_1153 : Cond.code yX12_takesWord cX12_takesWord 4 (some .boolean) ∈ qT := qT_in 1153 (by decide +kernel) (by decide +kernel)
theorem tw_1154 : Cond.methodLink RX12 269 yX12_takes ∈ qT := qT_in 1154 (by decide +kernel) (by decide +kernel)
theorem tw_1156 : Cond.instanceMethod yX12_takes ∈ qT := qT_in 1156 (by decide +kernel) (by decide +kernel)
theorem tw_1157 : Cond.code yX12_takes cX12_takes 2 (some .boolean) ∈ qT := qT_in 1157 (by decide +kernel) (by decide +kernel)
theorem tw_1158 : Cond.methodLink RX12 284 yX12_takesNumber ∈ qT := qT_in 1158 (by decide +kernel) (by decide +kernel)
theorem tw_1160 : Cond.instanceMethod yX12_takesNumber ∈ qT := qT_in 1160 (by decide +kernel) (by decide +kernel)
theorem tw_1161 : Cond.code yX12_takesNumber cX12_takesNumber 2 (some .boolean) ∈ qT := qT_in 1161 (by decide +kernel) (by decide +kernel)
theorem tw_1162 : Cond.methodLink RX12 272 yX12_isDigit ∈ qT := qT_in 1162 (by decide +kernel) (by decide +kernel)
theorem tw_1164 : Cond.instanceMethod yX12_isDigit ∈ qT := qT_in 1164 (by decide +kernel) (by decide +kernel)
theorem tw_1165 : Cond.code yX12_isDigit cX12_isDigit 1 (some .boolean) ∈ qT := qT_in 1165 (by decide +kernel) (by decide +kernel)
theorem tw_1166 : Cond.methodLink RX12 302 yX12_takesE ∈ qT := qT_in 1166 (by decide +kernel) (by decide +kernel)
theorem tw_1168 : Cond.instanceMethod yX12_takesE ∈ qT := qT_in 1168 (by decide +kernel) (by decide +kernel)
theorem tw_1169 : Cond.code yX12_takesE cX12_takesE 4 (some .boolean) ∈ qT := qT_in 1169 (by decide +kernel) (by decide +kernel)
theorem tw_1170 : Cond.methodLink RX12 290 yX12_takesTest ∈ qT := qT_in 1170 (by decide +kernel) (by decide +kernel)
theorem tw_1172 : Cond.instanceMethod yX12_takesTest ∈ qT := qT_in 1172 (by decide +kernel) (by decide +kernel)
theorem tw_1173 : Cond.code yX12_takesTest cX12_takesTest 3 (some .boolean) ∈ qT := qT_in 1173 (by decide +kernel) (by decide +kernel)
theorem tw_1174 : Cond.methodLink RX12 280 yX12_place ∈ qT := qT_in 1174 (by decide +kernel) (by decide +kernel)
theorem tw_1176 : Cond.instanceMethod yX12_place ∈ qT := qT_in 1176 (by decide +kernel) (by decide +kernel)
theorem tw_1177 : Cond.code yX12_place cX12_place 2 (some .int) ∈ qT := qT_in 1177 (by decide +kernel) (by decide +kernel)
theorem tw_1178 : Cond.methodLink RX12 276 yX12_emits ∈ qT := qT_in 1178 (by decide +kernel) (by decide +kernel)
theorem tw_1180 : Cond.instanceMethod yX12_emits ∈ qT := qT_in 1180 (by decide +kernel) (by decide +kernel)
theorem tw_1181 : Cond.code yX12_emits cX12_emits 2 none ∈ qT := qT_in 1181 (by decide +kernel) (by decide +kernel)
theorem tw_1182 : Cond.methodLink RX12 287 yX12_whole ∈ qT := qT_in 1182 (by decide +kernel) (by decide +kernel)
theorem tw_1184 : Cond.instanceMethod yX12_whole ∈ qT := qT_in 1184 (by decide +kernel) (by decide +kernel)
theorem tw_1185 : Cond.code yX12_whole cX12_whole 1 none ∈ qT := qT_in 1185 (by decide +kernel) (by decide +kernel)
theorem tw_1186 : Cond.methodLink RX12 293 yX12_settle ∈ qT := qT_in 1186 (by decide +kernel) (by decide +kernel)
theorem tw_1188 : Cond.instanceMethod yX12_settle ∈ qT := qT_in 1188 (by decide +kernel) (by decide +kernel)
theorem tw_1189 : Cond.code yX12_settle cX12_settle 2 none ∈ qT := qT_in 1189 (by decide +kernel) (by decide +kernel)
theorem tw_1194 : Cond.methodLink RX12 327 yX12_zeal ∈ qT := qT_in 1194 (by decide +kernel) (by decide +kernel)
theorem tw_1196 : Cond.instanceMethod yX12_zeal ∈ qT := qT_in 1196 (by decide +kernel) (by decide +kernel)
theorem tw_1197 : Cond.code yX12_zeal cX12_zeal 4 (some .int) ∈ qT := qT_in 1197 (by decide +kernel) (by decide +kernel)
theorem tw_1198 : Cond.methodLink RX12 311 yX12_begin ∈ qT := qT_in 1198 (by decide +kernel) (by decide +kernel)
theorem tw_1200 : Cond.instanceMethod yX12_begin ∈ qT := qT_in 1200 (by decide +kernel) (by decide +kernel)
theorem tw_1201 : Cond.code yX12_begin cX12_begin 1 (some .int) ∈ qT := qT_in 1201 (by decide +kernel) (by decide +kernel)
theorem tw_1202 : Cond.methodLink RX12 314 yX12_behind ∈ qT := qT_in 1202 (by decide +kernel) (by decide +kernel)
theorem tw_1204 : Cond.instanceMethod yX12_behind ∈ qT := qT_in 1204 (by decide +kernel) (by decide +kernel)
theorem tw_1205 : Cond.code yX12_behind cX12_behind 1 (some .int) ∈ qT := qT_in 1205 (by decide +kernel) (by decide +kernel)
theorem tw_1206 : Cond.methodLink RX12 324 yX12_holds ∈ qT := qT_in 1206 (by decide +kernel) (by decide +kernel)
theorem tw_1208 : Cond.instanceMethod yX12_holds ∈ qT := qT_in 1208 (by decide +kernel) (by decide +kernel)
theorem tw_1209 : Cond.code yX12_holds cX12_holds 8 (some .boolean) ∈ qT := qT_in 1209 (by decide +kernel) (by decide +kernel)
theorem tw_1210 : Cond.methodLink RX12 321 yX12_factOf ∈ qT := qT_in 1210 (by decide +kernel) (by decide +kernel)
theorem tw_1212 : Cond.instanceMethod yX12_factOf ∈ qT := qT_in 1212 (by decide +kernel) (by decide +kernel)
theorem tw_1213 : Cond.code yX12_factOf cX12_factOf 3 (some .int) ∈ qT := qT_in 1213 (by decide +kernel) (by decide +kernel)
theorem tw_1214 : Cond.methodLink RX12 339 yX12_pace ∈ qT := qT_in 1214 (by decide +kernel) (by decide +kernel)
theorem tw_1216 : Cond.instanceMethod yX12_pace ∈ qT := qT_in 1216 (by decide +kernel) (by decide +kernel)
theorem tw_1217 : Cond.code yX12_pace cX12_pace 3 (some .int) ∈ qT := qT_in 1217 (by decide +kernel) (by decide +kernel)
theorem tw_1218 : Cond.methodLink RX12 336 yX12_plainPace ∈ qT := qT_in 1218 (by decide +kernel) (by decide +kernel)
theorem tw_1220 : Cond.instanceMethod yX12_plainPace ∈ qT := qT_in 1220 (by decide +kernel) (by decide +kernel)
theorem tw_1221 : Cond.code yX12_plainPace cX12_plainPace 4 (some .int) ∈ qT := qT_in 1221 (by decide +kernel) (by decide +kernel)
theorem tw_1222 : Cond.methodLink RX12 330 yX12_alike ∈ qT := qT_in 1222 (by decide +kernel) (by decide +kernel)
theorem tw_1224 : Cond.instanceMethod yX12_alike ∈ qT := qT_in 1224 (by decide +kernel) (by decide +kernel)
theorem tw_1225 : Cond.code yX12_alike cX12_alike 4 (some .int) ∈ qT := qT_in 1225 (by decide +kernel) (by decide +kernel)
theorem tw_1226 : Cond.methodLink RX12 333 yX12_least ∈ qT := qT_in 1226 (by decide +kernel) (by decide +kernel)
theorem tw_1228 : Cond.instanceMethod yX12_least ∈ qT := qT_in 1228 (by decide +kernel) (by decide +kernel)
theorem tw_1229 : Cond.code yX12_least cX12_least 3 (some .int) ∈ qT := qT_in 1229 (by decide +kernel) (by decide +kernel)
theorem tw_1234 : Cond.methodLink RX12 342 yX12_room ∈ qT := qT_in 1234 (by decide +kernel) (by decide +kernel)
theorem tw_1236 : Cond.instanceMethod yX12_room ∈ qT := qT_in 1236 (by decide +kernel) (by decide +kernel)
theorem tw_1237 : Cond.code yX12_room cX12_room 2 (some .int) ∈ qT := qT_in 1237 (by decide +kernel) (by decide +kernel)
theorem tw_1238 : Cond.methodLink RX12 317 yX12_lastOf ∈ qT := qT_in 1238 (by decide +kernel) (by decide +kernel)
theorem tw_1240 : Cond.instanceMethod yX12_lastOf ∈ qT := qT_in 1240 (by decide +kernel) (by decide +kernel)
theorem tw_1241 : Cond.code yX12_lastOf cX12_lastOf 5 (some .int) ∈ qT := qT_in 1241 (by decide +kernel) (by decide +kernel)
theorem tw_1246 : Cond.methodLink RX12 351 yX12_isMinutes ∈ qT := qT_in 1246 (by decide +kernel) (by decide +kernel)
theorem tw_1248 : Cond.instanceMethod yX12_isMinutes ∈ qT := qT_in 1248 (by decide +kernel) (by decide +kernel)
theorem tw_1249 : Cond.code yX12_isMinutes cX12_isMinutes 2 (some .boolean) ∈ qT := qT_in 1249 (by decide +kernel) (by decide +kernel)
theorem tw_1250 : Cond.methodLink RX12 354 yX12_goMinutes ∈ qT := qT_in 1250 (by decide +kernel) (by decide +kernel)
theorem tw_1252 : Cond.instanceMethod yX12_goMinutes ∈ qT := qT_in 1252 (by decide +kernel) (by decide +kernel)
theorem tw_1253 : Cond.code yX12_goMinutes cX12_goMinutes 3 none ∈ qT := qT_in 1253 (by decide +kernel) (by decide +kernel)
theorem tw_1254 : Cond.methodLink RX12 348 yX12_goMinute ∈ qT := qT_in 1254 (by decide +kernel) (by decide +kernel)
theorem tw_1256 : Cond.instanceMethod yX12_goMinute ∈ qT := qT_in 1256 (by decide +kernel) (by decide +kernel)
theorem tw_1257 : Cond.code yX12_goMinute cX12_goMinute 2 none ∈ qT := qT_in 1257 (by decide +kernel) (by decide +kernel)
theorem tw_1258 : Cond.methodLink RX12 345 yX12_goPerson ∈ qT := qT_in 1258 (by decide +kernel) (by decide +kernel)
theorem tw_1260 : Cond.instanceMethod yX12_goPerson ∈ qT := qT_in 1260 (by decide +kernel) (by decide +kernel)
theorem tw_1261 : Cond.code yX12_goPerson cX12_goPerson 5 none ∈ qT := qT_in 1261 (by decide +kernel) (by decide +kernel)
theorem tw_1266 : Cond.methodLink RX12 358 yX12_save ∈ qT := qT_in 1266 (by decide +kernel) (by decide +kernel)
theorem tw_1268 : Cond.instanceMethod yX12_save ∈ qT := qT_in 1268 (by decide +kernel) (by decide +kernel)
theorem tw_1269 : Cond.code yX12_save cX12_save 2 none ∈ qT := qT_in 1269 (by decide +kernel) (by decide +kernel)
theorem tw_1270 : Cond.constant RX12 357 (Int32.ofInt 2000000000) ∈ qT := qT_in 1270 (by decide +kernel) (by decide +kernel)
theorem tw_1271 : Cond.methodLink RX12 361 yX12_putBack ∈ qT := qT_in 1271 (by decide +kernel) (by decide +kernel)
theorem tw_1273 : Cond.instanceMethod yX12_putBack ∈ qT := qT_in 1273 (by decide +kernel) (by decide +kernel)
theorem tw_1274 : Cond.code yX12_putBack cX12_putBack 2 none ∈ qT := qT_in 1274 (by decide +kernel) (by decide +kernel)
theorem tw_1283 : Cond.methodLink RX12 373 yX12_moveOf ∈ qT := qT_in 1283 (by decide +kernel) (by decide +kernel)
theorem tw_1285 : Cond.instanceMethod yX12_moveOf ∈ qT := qT_in 1285 (by decide +kernel) (by decide +kernel)
theorem tw_1286 : Cond.code yX12_moveOf cX12_moveOf 6 (some .int) ∈ qT := qT_in 1286 (by decide +kernel) (by decide +kernel)
theorem tw_1287 : Cond.methodLink RX12 367 yX12_yield0 ∈ qT := qT_in 1287 (by decide +kernel) (by decide +kernel)
theorem tw_1289 : Cond.instanceMethod yX12_yield0 ∈ qT := qT_in 1289 (by decide +kernel) (by decide +kernel)
theorem tw_1290 : Cond.code yX12_yield0 cX12_yield0 1 (some .int) ∈ qT := qT_in 1290 (by decide +kernel) (by decide +kernel)
theorem tw_1291 : Cond.methodLink RX12 364 yX12_yieldThen ∈ qT := qT_in 1291 (by decide +kernel) (by decide +kernel)
theorem tw_1293 : Cond.instanceMethod yX12_yieldThen ∈ qT := qT_in 1293 (by decide +kernel) (by decide +kernel)
theorem tw_1294 : Cond.code yX12_yieldThen cX12_yieldThen 3 (some .int) ∈ qT := qT_in 1294 (by decide +kernel) (by decide +kernel)
theorem tw_1295 : Cond.methodLink RX12 376 yX12_swapOf ∈ qT := qT_in 1295 (by decide +kernel) (by decide +kernel)
theorem tw_1297 : Cond.instanceMethod yX12_swapOf ∈ qT := qT_in 1297 (by decide +kernel) (by decide +kernel)
theorem tw_1298 : Cond.code yX12_swapOf cX12_swapOf 6 (some .int) ∈ qT := qT_in 1298 (by decide +kernel) (by decide +kernel)
theorem tw_1299 : Cond.methodLink RX12 379 yX12_enoughOf ∈ qT := qT_in 1299 (by decide +kernel) (by decide +kernel)
theorem tw_1301 : Cond.instanceMethod yX12_enoughOf ∈ qT := qT_in 1301 (by decide +kernel) (by decide +kernel)
theorem tw_1302 : Cond.code yX12_enoughOf cX12_enoughOf 3 (some .int) ∈ qT := qT_in 1302 (by decide +kernel) (by decide +kernel)
theorem tw_1303 : Cond.methodLink RX12 382 yX12_missOf ∈ qT := qT_in 1303 (by decide +kernel) (by decide +kernel)
theorem tw_1305 : Cond.instanceMethod yX12_missOf ∈ qT := qT_in 1305 (by decide +kernel) (by decide +kernel)
theorem tw_1306 : Cond.code yX12_missOf cX12_missOf 5 (some .int) ∈ qT := qT_in 1306 (by decide +kernel) (by decide +kernel)
theorem tw_1307 : Cond.methodLink RX12 370 yX12_without ∈ qT := qT_in 1307 (by decide +kernel) (by decide +kernel)
theorem tw_1308 : Cond.instanceMethod yX12_without ∈ qT := qT_in 1308 (by decide +kernel) (by decide +kernel)
theorem tw_1309 : Cond.selects RX12 yX12_without yX12_without ∈ qT := qT_in 1309 (by decide +kernel) (by decide +kernel)
theorem tw_1310 : Cond.code yX12_without cX12_without 2 (some .int) ∈ qT := qT_in 1310 (by decide +kernel) (by decide +kernel)
theorem tw_1324 : Cond.methodLink RX12 385 yX12_isSeen ∈ qT := qT_in 1324 (by decide +kernel) (by decide +kernel)
theorem tw_1326 : Cond.instanceMethod yX12_isSeen ∈ qT := qT_in 1326 (by decide +kernel) (by decide +kernel)
theorem tw_1327 : Cond.code yX12_isSeen cX12_isSeen 3 (some .boolean) ∈ qT := qT_in 1327 (by decide +kernel) (by decide +kernel)
theorem tw_1336 : Cond.constantLong RX12 391 (Int64.ofInt (-9223372036854775808)) ∈ qT := qT_in 1336 (by decide +kernel) (by decide +kernel)
theorem tw_1337 : Cond.methodLink RX12 393 yX12_lowest ∈ qT := qT_in 1337 (by decide +kernel) (by decide +kernel)
theorem tw_1339 : Cond.instanceMethod yX12_lowest ∈ qT := qT_in 1339 (by decide +kernel) (by decide +kernel)
theorem tw_1340 : Cond.code yX12_lowest cX12_lowest 5 (some .long) ∈ qT := qT_in 1340 (by decide +kernel) (by decide +kernel)
theorem tw_1341 : Cond.methodLink RX12 388 yX12_divisor ∈ qT := qT_in 1341 (by decide +kernel) (by decide +kernel)
theorem tw_1343 : Cond.instanceMethod yX12_divisor ∈ qT := qT_in 1343 (by decide +kernel) (by decide +kernel)
theorem tw_1344 : Cond.code yX12_divisor cX12_divisor 6 (some .int) ∈ qT := qT_in 1344 (by decide +kernel) (by decide +kernel)
theorem tw_1369 : Cond.methodLink RX12 397 yX12_isTape ∈ qT := qT_in 1369 (by decide +kernel) (by decide +kernel)
theorem tw_1371 : Cond.instanceMethod yX12_isTape ∈ qT := qT_in 1371 (by decide +kernel) (by decide +kernel)
theorem tw_1372 : Cond.code yX12_isTape cX12_isTape 2 (some .boolean) ∈ qT := qT_in 1372 (by decide +kernel) (by decide +kernel)
theorem tw_1385 : Cond.methodLink RX12 406 yX12_foldsAct ∈ qT := qT_in 1385 (by decide +kernel) (by decide +kernel)
theorem tw_1387 : Cond.instanceMethod yX12_foldsAct ∈ qT := qT_in 1387 (by decide +kernel) (by decide +kernel)
theorem tw_1388 : Cond.code yX12_foldsAct cX12_foldsAct 3 (some .int) ∈ qT := qT_in 1388 (by decide +kernel) (by decide +kernel)
theorem tw_1389 : Cond.methodLink RX12 400 yX12_body ∈ qT := qT_in 1389 (by decide +kernel) (by decide +kernel)
theorem tw_1391 : Cond.instanceMethod yX12_body ∈ qT := qT_in 1391 (by decide +kernel) (by decide +kernel)
theorem tw_1392 : Cond.code yX12_body cX12_body 2 none ∈ qT := qT_in 1392 (by decide +kernel) (by decide +kernel)
theorem tw_1393 : Cond.methodLink RX12 403 yX12_personFolds ∈ qT := qT_in 1393 (by decide +kernel) (by decide +kernel)
theorem tw_1395 : Cond.instanceMethod yX12_personFolds ∈ qT := qT_in 1395 (by decide +kernel) (by decide +kernel)
theorem tw_1396 : Cond.code yX12_personFolds cX12_personFolds 3 (some .int) ∈ qT := qT_in 1396 (by decide +kernel) (by decide +kernel)
theorem tw_1397 : Cond.methodLink RX12 415 yX12_licksAct ∈ qT := qT_in 1397 (by decide +kernel) (by decide +kernel)
theorem tw_1399 : Cond.instanceMethod yX12_licksAct ∈ qT := qT_in 1399 (by decide +kernel) (by decide +kernel)
theorem tw_1400 : Cond.code yX12_licksAct cX12_licksAct 4 (some .int) ∈ qT := qT_in 1400 (by decide +kernel) (by decide +kernel)
theorem tw_1401 : Cond.methodLink RX12 412 yX12_quickLicks ∈ qT := qT_in 1401 (by decide +kernel) (by decide +kernel)
theorem tw_1403 : Cond.instanceMethod yX12_quickLicks ∈ qT := qT_in 1403 (by decide +kernel) (by decide +kernel)
theorem tw_1404 : Cond.code yX12_quickLicks cX12_quickLicks 3 (some .int) ∈ qT := qT_in 1404 (by decide +kernel) (by decide +kernel)
theorem tw_1405 : Cond.methodLink RX12 409 yX12_personLicks ∈ qT := qT_in 1405 (by decide +kernel) (by decide +kernel)
theorem tw_1407 : Cond.instanceMethod yX12_personLicks ∈ qT := qT_in 1407 (by decide +kernel) (by decide +kernel)
theorem tw_1408 : Cond.code yX12_personLicks cX12_personLicks 3 (some .int) ∈ qT := qT_in 1408 (by decide +kernel) (by decide +kernel)
theorem tw_1409 : Cond.methodLink RX12 421 yX12_tellsAct ∈ qT := qT_in 1409 (by decide +kernel) (by decide +kernel)
theorem tw_1411 : Cond.instanceMethod yX12_tellsAct ∈ qT := qT_in 1411 (by decide +kernel) (by decide +kernel)
theorem tw_1412 : Cond.code yX12_tellsAct cX12_tellsAct 4 (some .int) ∈ qT := qT_in 1412 (by decide +kernel) (by decide +kernel)
theorem tw_1413 : Cond.methodLink RX12 418 yX12_personTells ∈ qT := qT_in 1413 (by decide +kernel) (by decide +kernel)
theorem tw_1415 : Cond.instanceMethod yX12_personTells ∈ qT := qT_in 1415 (by decide +kernel) (by decide +kernel)
theorem tw_1416 : Cond.code yX12_personTells cX12_personTells 3 (some .int) ∈ qT := qT_in 1416 (by decide +kernel) (by decide +kernel)
theorem tw_1437 : Cond.methodLink RX12 424 yX12_narrow ∈ qT := qT_in 1437 (by decide +kernel) (by decide +kernel)
theorem tw_1439 : Cond.instanceMethod yX12_narrow ∈ qT := qT_in 1439 (by decide +kernel) (by decide +kernel)
theorem tw_1440 : Cond.code yX12_narrow cX12_narrow 4 (some .long) ∈ qT := qT_in 1440 (by decide +kernel) (by decide +kernel)
theorem tw_1450 : Cond.sameMethod RX2 RX2 "pace" "(LFoldedFilled$State;II)I" ∈ qT := qT_in 1450 (by decide +kernel) (by decide +kernel)
theorem tw_1451 : Cond.sameMethod RX5 RX5 "pace" "(LFoldedFilled$State;II)I" ∈ qT := qT_in 1451 (by decide +kernel) (by decide +kernel)
theorem tw_1452 : Cond.sameMethod RX9 RX9 "pace" "(LFoldedFilled$State;II)I" ∈ qT := qT_in 1452 (by decide +kernel) (by decide +kernel)
theorem tw_1453 : Cond.sameMethod RX5 RX5 "licks" "(LFoldedFilled$Act;I)I" ∈ qT := qT_in 1453 (by decide +kernel) (by decide +kernel)
theorem tw_1454 : Cond.castable RX5 RX4 ∈ qEx := qEx_in 1454 (by decide +kernel) rfl
theorem tw_1455 : Cond.castable RX2 RX4 ∈ qEx := qEx_in 1455 (by decide +kernel) rfl
theorem tw_1456 : Cond.castable RX9 RX4 ∈ qEx := qEx_in 1456 (by decide +kernel) rfl
theorem tw_1457 : Cond.castable RX7 RX4 ∈ qEx := qEx_in 1457 (by decide +kernel) rfl
theorem tw_1458 : Cond.castable RX1 RX4 ∈ qEx := qEx_in 1458 (by decide +kernel) rfl
theorem tw_1459 : Cond.castable RX10 RX4 ∈ qEx := qEx_in 1459 (by decide +kernel) rfl
theorem tw_1460 : Cond.fieldLink RJ0 9 RJ0 "value" "[B" ∈ qT := qT_in 1460 (by decide +kernel) (by decide +kernel)
theorem tw_1461 : Cond.fieldLink RJ0 15 RJ0 "coder" "B" ∈ qT := qT_in 1461 (by decide +kernel) (by decide +kernel)
theorem fd_X0_13 : qFd RX0 RX0 13 0 3 RX0 TX0 4 := ⟨rfl, inT0, by decide, by decide, tw_304, rfl⟩
theorem fd_X0_7 : qFd RX0 RX0 7 0 0 RX0 TX0 4 := ⟨rfl, inT0, by decide, by decide, tw_296, rfl⟩
theorem fd_X10_13 : qFd RX10 RX8 13 8 8 RX8 TX8 14 := ⟨rfl, inT8, by decide, by decide, tw_222, rfl⟩
theorem fd_X10_19 : qFd RX10 RX8 19 8 11 RX8 TX8 14 := ⟨rfl, inT8, by decide, by decide, tw_230, rfl⟩
theorem fd_X10_36 : qFd RX10 RX0 36 0 2 RX0 TX0 4 := ⟨rfl, inT0, by decide, by decide, tw_301, rfl⟩
theorem fd_X11_102 : qFd RX11 RX11 102 11 17 RX11 TX11 18 := ⟨rfl, inT11, by decide, by decide, tw_334, rfl⟩
theorem fd_X11_113 : qFd RX11 RX8 113 8 10 RX8 TX8 14 := ⟨rfl, inT8, by decide, by decide, tw_228, rfl⟩
theorem fd_X11_124 : qFd RX11 RX8 124 8 3 RX8 TX8 14 := ⟨rfl, inT8, by decide, by decide, tw_203, rfl⟩
theorem fd_X11_127 : qFd RX11 RX8 127 8 4 RX8 TX8 14 := ⟨rfl, inT8, by decide, by decide, tw_208, rfl⟩
theorem fd_X11_130 : qFd RX11 RX8 130 8 5 RX8 TX8 14 := ⟨rfl, inT8, by decide, by decide, tw_214, rfl⟩
theorem fd_X11_133 : qFd RX11 RX8 133 8 6 RX8 TX8 14 := ⟨rfl, inT8, by decide, by decide, tw_218, rfl⟩
theorem fd_X11_136 : qFd RX11 RX8 136 8 7 RX8 TX8 14 := ⟨rfl, inT8, by decide, by decide, tw_220, rfl⟩
theorem fd_X11_139 : qFd RX11 RX8 139 8 9 RX8 TX8 14 := ⟨rfl, inT8, by decide, by decide, tw_226, rfl⟩
theorem fd_X11_143 : qFd RX11 RX8 143 8 13 RX8 TX8 14 := ⟨rfl, inT8, by decide, by decide, tw_237, rfl⟩
theorem fd_X11_155 : qFd RX11 RX8 155 8 8 RX8 TX8 14 := ⟨rfl, inT8, by decide, by decide, tw_223, rfl⟩
theorem fd_X11_161 : qFd RX11 RX8 161 8 2 RX8 TX8 14 := ⟨rfl, inT8, by decide, by decide, tw_200, rfl⟩
theorem fd_X11_164 : qFd RX11 RX11 164 11 11 RX11 TX11 18 := ⟨rfl, inT11, by decide, by decide, tw_328, rfl⟩
theorem fd_X11_167 : qFd RX11 RX11 167 11 13 RX11 TX11 18 := ⟨rfl, inT11, by decide, by decide, tw_330, rfl⟩
theorem fd_X11_174 : qFd RX11 RX3 174 3 6 RX3 TX3 7 := ⟨rfl, inT3, by decide, by decide, tw_171, rfl⟩
theorem fd_X11_181 : qFd RX11 RX8 181 8 11 RX8 TX8 14 := ⟨rfl, inT8, by decide, by decide, tw_233, rfl⟩
theorem fd_X11_184 : qFd RX11 RX8 184 8 12 RX8 TX8 14 := ⟨rfl, inT8, by decide, by decide, tw_235, rfl⟩
theorem fd_X11_187 : qFd RX11 RX3 187 3 5 RX3 TX3 7 := ⟨rfl, inT3, by decide, by decide, tw_169, rfl⟩
theorem fd_X11_217 : qFd RX11 RX6 217 6 3 RX6 TX6 4 := ⟨rfl, inT6, by decide, by decide, tw_279, rfl⟩
theorem fd_X11_254 : qFd RX11 RX11 254 11 9 RX11 TX11 18 := ⟨rfl, inT11, by decide, by decide, tw_326, rfl⟩
theorem fd_X11_258 : qFd RX11 RX0 258 0 3 RX0 TX0 4 := ⟨rfl, inT0, by decide, by decide, tw_305, rfl⟩
theorem fd_X11_261 : qFd RX11 RX0 261 0 1 RX0 TX0 4 := ⟨rfl, inT0, by decide, by decide, tw_300, rfl⟩
theorem fd_X11_264 : qFd RX11 RX0 264 0 2 RX0 TX0 4 := ⟨rfl, inT0, by decide, by decide, tw_303, rfl⟩
theorem fd_X11_266 : qFd RX11 RX8 266 8 0 RX8 TX8 14 := ⟨rfl, inT8, by decide, by decide, tw_197, rfl⟩
theorem fd_X11_280 : qFd RX11 RX0 280 0 0 RX0 TX0 4 := ⟨rfl, inT0, by decide, by decide, tw_297, rfl⟩
theorem fd_X11_41 : qFd RX11 RX11 41 11 0 RX11 TX11 18 := ⟨rfl, inT11, by decide, by decide, tw_317, rfl⟩
theorem fd_X11_48 : qFd RX11 RX11 48 11 1 RX11 TX11 18 := ⟨rfl, inT11, by decide, by decide, tw_318, rfl⟩
theorem fd_X11_51 : qFd RX11 RX11 51 11 2 RX11 TX11 18 := ⟨rfl, inT11, by decide, by decide, tw_319, rfl⟩
theorem fd_X11_59 : qFd RX11 RX11 59 11 3 RX11 TX11 18 := ⟨rfl, inT11, by decide, by decide, tw_320, rfl⟩
theorem fd_X11_63 : qFd RX11 RX11 63 11 4 RX11 TX11 18 := ⟨rfl, inT11, by decide, by decide, tw_321, rfl⟩
theorem fd_X11_66 : qFd RX11 RX11 66 11 5 RX11 TX11 18 := ⟨rfl, inT11, by decide, by decide, tw_322, rfl⟩
theorem fd_X11_69 : qFd RX11 RX11 69 11 6 RX11 TX11 18 := ⟨rfl, inT11, by decide, by decide, tw_323, rfl⟩
theorem fd_X11_72 : qFd RX11 RX11 72 11 7 RX11 TX11 18 := ⟨rfl, inT11, by decide, by decide, tw_324, rfl⟩
theorem fd_X11_75 : qFd RX11 RX11 75 11 8 RX11 TX11 18 := ⟨rfl, inT11, by decide, by decide, tw_325, rfl⟩
theorem fd_X11_78 : qFd RX11 RX11 78 11 10 RX11 TX11 18 := ⟨rfl, inT11, by decide, by decide, tw_327, rfl⟩
theorem fd_X11_82 : qFd RX11 RX11 82 11 12 RX11 TX11 18 := ⟨rfl, inT11, by decide, by decide, tw_329, rfl⟩
theorem fd_X11_89 : qFd RX11 RX11 89 11 14 RX11 TX11 18 := ⟨rfl, inT11, by decide, by decide, tw_331, rfl⟩
theorem fd_X11_93 : qFd RX11 RX11 93 11 15 RX11 TX11 18 := ⟨rfl, inT11, by decide, by decide, tw_332, rfl⟩
theorem fd_X11_97 : qFd RX11 RX11 97 11 16 RX11 TX11 18 := ⟨rfl, inT11, by decide, by decide, tw_333, rfl⟩
theorem fd_X12_100 : qFd RX12 RX12 100 12 29 RX12 TX12 75 := ⟨rfl, inT12, by decide, by decide, tw_881, rfl⟩
theorem fd_X12_103 : qFd RX12 RX12 103 12 30 RX12 TX12 75 := ⟨rfl, inT12, by decide, by decide, tw_882, rfl⟩
theorem fd_X12_106 : qFd RX12 RX12 106 12 31 RX12 TX12 75 := ⟨rfl, inT12, by decide, by decide, tw_883, rfl⟩
theorem fd_X12_109 : qFd RX12 RX12 109 12 32 RX12 TX12 75 := ⟨rfl, inT12, by decide, by decide, tw_884, rfl⟩
theorem fd_X12_112 : qFd RX12 RX12 112 12 33 RX12 TX12 75 := ⟨rfl, inT12, by decide, by decide, tw_885, rfl⟩
theorem fd_X12_115 : qFd RX12 RX12 115 12 34 RX12 TX12 75 := ⟨rfl, inT12, by decide, by decide, tw_886, rfl⟩
theorem fd_X12_118 : qFd RX12 RX12 118 12 35 RX12 TX12 75 := ⟨rfl, inT12, by decide, by decide, tw_887, rfl⟩
theorem fd_X12_121 : qFd RX12 RX12 121 12 36 RX12 TX12 75 := ⟨rfl, inT12, by decide, by decide, tw_888, rfl⟩
theorem fd_X12_124 : qFd RX12 RX12 124 12 37 RX12 TX12 75 := ⟨rfl, inT12, by decide, by decide, tw_889, rfl⟩
theorem fd_X12_127 : qFd RX12 RX12 127 12 38 RX12 TX12 75 := ⟨rfl, inT12, by decide, by decide, tw_890, rfl⟩
theorem fd_X12_13 : qFd RX12 RX12 13 12 1 RX12 TX12 75 := ⟨rfl, inT12, by decide, by decide, tw_853, rfl⟩
theorem fd_X12_130 : qFd RX12 RX12 130 12 39 RX12 TX12 75 := ⟨rfl, inT12, by decide, by decide, tw_891, rfl⟩
theorem fd_X12_133 : qFd RX12 RX12 133 12 40 RX12 TX12 75 := ⟨rfl, inT12, by decide, by decide, tw_892, rfl⟩
theorem fd_X12_136 : qFd RX12 RX12 136 12 41 RX12 TX12 75 := ⟨rfl, inT12, by decide, by decide, tw_893, rfl⟩
theorem fd_X12_139 : qFd RX12 RX12 139 12 42 RX12 TX12 75 := ⟨rfl, inT12, by decide, by decide, tw_894, rfl⟩
theorem fd_X12_142 : qFd RX12 RX12 142 12 43 RX12 TX12 75 := ⟨rfl, inT12, by decide, by decide, tw_895, rfl⟩
theorem fd_X12_145 : qFd RX12 RX12 145 12 44 RX12 TX12 75 := ⟨rfl, inT12, by decide, by decide, tw_896, rfl⟩
theorem fd_X12_148 : qFd RX12 RX12 148 12 45 RX12 TX12 75 := ⟨rfl, inT12, by decide, by decide, tw_897, rfl⟩
theorem fd_X12_151 : qFd RX12 RX12 151 12 46 RX12 TX12 75 := ⟨rfl, inT12, by decide, by decide, tw_898, rfl⟩
theorem fd_X12_154 : qFd RX12 RX12 154 12 47 RX12 TX12 75 := ⟨rfl, inT12, by decide, by decide, tw_899, rfl⟩
theorem fd_X12_158 : qFd RX12 RX12 158 12 48 RX12 TX12 75 := ⟨rfl, inT12, by decide, by decide, tw_900, rfl⟩
theorem fd_X12_16 : qFd RX12 RX12 16 12 2 RX12 TX12 75 := ⟨rfl, inT12, by decide, by decide, tw_854, rfl⟩
theorem fd_X12_161 : qFd RX12 RX12 161 12 49 RX12 TX12 75 := ⟨rfl, inT12, by decide, by decide, tw_901, rfl⟩
theorem fd_X12_164 : qFd RX12 RX12 164 12 50 RX12 TX12 75 := ⟨rfl, inT12, by decide, by decide, tw_902, rfl⟩
theorem fd_X12_167 : qFd RX12 RX12 167 12 51 RX12 TX12 75 := ⟨rfl, inT12, by decide, by decide, tw_903, rfl⟩
theorem fd_X12_170 : qFd RX12 RX12 170 12 52 RX12 TX12 75 := ⟨rfl, inT12, by decide, by decide, tw_904, rfl⟩
theorem fd_X12_173 : qFd RX12 RX12 173 12 53 RX12 TX12 75 := ⟨rfl, inT12, by decide, by decide, tw_905, rfl⟩
theorem fd_X12_176 : qFd RX12 RX12 176 12 54 RX12 TX12 75 := ⟨rfl, inT12, by decide, by decide, tw_906, rfl⟩
theorem fd_X12_179 : qFd RX12 RX12 179 12 55 RX12 TX12 75 := ⟨rfl, inT12, by decide, by decide, tw_907, rfl⟩
theorem fd_X12_182 : qFd RX12 RX12 182 12 56 RX12 TX12 75 := ⟨rfl, inT12, by decide, by decide, tw_908, rfl⟩
theorem fd_X12_185 : qFd RX12 RX12 185 12 57 RX12 TX12 75 := ⟨rfl, inT12, by decide, by decide, tw_909, rfl⟩
theorem fd_X12_188 : qFd RX12 RX12 188 12 58 RX12 TX12 75 := ⟨rfl, inT12, by decide, by decide, tw_910, rfl⟩
theorem fd_X12_19 : qFd RX12 RX12 19 12 3 RX12 TX12 75 := ⟨rfl, inT12, by decide, by decide, tw_855, rfl⟩
theorem fd_X12_191 : qFd RX12 RX12 191 12 59 RX12 TX12 75 := ⟨rfl, inT12, by decide, by decide, tw_911, rfl⟩
theorem fd_X12_194 : qFd RX12 RX12 194 12 60 RX12 TX12 75 := ⟨rfl, inT12, by decide, by decide, tw_912, rfl⟩
theorem fd_X12_197 : qFd RX12 RX12 197 12 61 RX12 TX12 75 := ⟨rfl, inT12, by decide, by decide, tw_913, rfl⟩
theorem fd_X12_200 : qFd RX12 RX12 200 12 62 RX12 TX12 75 := ⟨rfl, inT12, by decide, by decide, tw_914, rfl⟩
theorem fd_X12_203 : qFd RX12 RX12 203 12 63 RX12 TX12 75 := ⟨rfl, inT12, by decide, by decide, tw_915, rfl⟩
theorem fd_X12_206 : qFd RX12 RX12 206 12 64 RX12 TX12 75 := ⟨rfl, inT12, by decide, by decide, tw_916, rfl⟩
theorem fd_X12_209 : qFd RX12 RX12 209 12 65 RX12 TX12 75 := ⟨rfl, inT12, by decide, by decide, tw_917, rfl⟩
theorem fd_X12_212 : qFd RX12 RX12 212 12 66 RX12 TX12 75 := ⟨rfl, inT12, by decide, by decide, tw_918, rfl⟩
theorem fd_X12_215 : qFd RX12 RX12 215 12 67 RX12 TX12 75 := ⟨rfl, inT12, by decide, by decide, tw_919, rfl⟩
theorem fd_X12_218 : qFd RX12 RX12 218 12 68 RX12 TX12 75 := ⟨rfl, inT12, by decide, by decide, tw_920, rfl⟩
theorem fd_X12_221 : qFd RX12 RX12 221 12 69 RX12 TX12 75 := ⟨rfl, inT12, by decide, by decide, tw_921, rfl⟩
theorem fd_X12_224 : qFd RX12 RX12 224 12 70 RX12 TX12 75 := ⟨rfl, inT12, by decide, by decide, tw_922, rfl⟩
theorem fd_X12_227 : qFd RX12 RX12 227 12 71 RX12 TX12 75 := ⟨rfl, inT12, by decide, by decide, tw_923, rfl⟩
theorem fd_X12_23 : qFd RX12 RX12 23 12 4 RX12 TX12 75 := ⟨rfl, inT12, by decide, by decide, tw_856, rfl⟩
theorem fd_X12_230 : qFd RX12 RX12 230 12 72 RX12 TX12 75 := ⟨rfl, inT12, by decide, by decide, tw_924, rfl⟩
theorem fd_X12_233 : qFd RX12 RX12 233 12 73 RX12 TX12 75 := ⟨rfl, inT12, by decide, by decide, tw_925, rfl⟩
theorem fd_X12_237 : qFd RX12 RX12 237 12 74 RX12 TX12 75 := ⟨rfl, inT12, by decide, by decide, tw_926, rfl⟩
theorem fd_X12_26 : qFd RX12 RX12 26 12 5 RX12 TX12 75 := ⟨rfl, inT12, by decide, by decide, tw_857, rfl⟩
theorem fd_X12_29 : qFd RX12 RX12 29 12 6 RX12 TX12 75 := ⟨rfl, inT12, by decide, by decide, tw_858, rfl⟩
theorem fd_X12_32 : qFd RX12 RX12 32 12 7 RX12 TX12 75 := ⟨rfl, inT12, by decide, by decide, tw_859, rfl⟩
theorem fd_X12_35 : qFd RX12 RX12 35 12 8 RX12 TX12 75 := ⟨rfl, inT12, by decide, by decide, tw_860, rfl⟩
theorem fd_X12_38 : qFd RX12 RX12 38 12 9 RX12 TX12 75 := ⟨rfl, inT12, by decide, by decide, tw_861, rfl⟩
theorem fd_X12_41 : qFd RX12 RX12 41 12 10 RX12 TX12 75 := ⟨rfl, inT12, by decide, by decide, tw_862, rfl⟩
theorem fd_X12_44 : qFd RX12 RX12 44 12 11 RX12 TX12 75 := ⟨rfl, inT12, by decide, by decide, tw_863, rfl⟩
theorem fd_X12_47 : qFd RX12 RX12 47 12 12 RX12 TX12 75 := ⟨rfl, inT12, by decide, by decide, tw_864, rfl⟩
theorem fd_X12_50 : qFd RX12 RX12 50 12 13 RX12 TX12 75 := ⟨rfl, inT12, by decide, by decide, tw_865, rfl⟩
theorem fd_X12_53 : qFd RX12 RX12 53 12 14 RX12 TX12 75 := ⟨rfl, inT12, by decide, by decide, tw_866, rfl⟩
theorem fd_X12_56 : qFd RX12 RX12 56 12 15 RX12 TX12 75 := ⟨rfl, inT12, by decide, by decide, tw_867, rfl⟩
theorem fd_X12_59 : qFd RX12 RX12 59 12 16 RX12 TX12 75 := ⟨rfl, inT12, by decide, by decide, tw_868, rfl⟩
theorem fd_X12_62 : qFd RX12 RX12 62 12 17 RX12 TX12 75 := ⟨rfl, inT12, by decide, by decide, tw_869, rfl⟩
theorem fd_X12_65 : qFd RX12 RX12 65 12 18 RX12 TX12 75 := ⟨rfl, inT12, by decide, by decide, tw_870, rfl⟩
theorem fd_X12_68 : qFd RX12 RX12 68 12 19 RX12 TX12 75 := ⟨rfl, inT12, by decide, by decide, tw_871, rfl⟩
theorem fd_X12_7 : qFd RX12 RX12 7 12 0 RX12 TX12 75 := ⟨rfl, inT12, by decide, by decide, tw_852, rfl⟩
theorem fd_X12_71 : qFd RX12 RX12 71 12 20 RX12 TX12 75 := ⟨rfl, inT12, by decide, by decide, tw_872, rfl⟩
theorem fd_X12_74 : qFd RX12 RX12 74 12 21 RX12 TX12 75 := ⟨rfl, inT12, by decide, by decide, tw_873, rfl⟩
theorem fd_X12_77 : qFd RX12 RX12 77 12 22 RX12 TX12 75 := ⟨rfl, inT12, by decide, by decide, tw_874, rfl⟩
theorem fd_X12_80 : qFd RX12 RX12 80 12 23 RX12 TX12 75 := ⟨rfl, inT12, by decide, by decide, tw_875, rfl⟩
theorem fd_X12_83 : qFd RX12 RX12 83 12 24 RX12 TX12 75 := ⟨rfl, inT12, by decide, by decide, tw_876, rfl⟩
theorem fd_X12_86 : qFd RX12 RX12 86 12 25 RX12 TX12 75 := ⟨rfl, inT12, by decide, by decide, tw_877, rfl⟩
theorem fd_X12_89 : qFd RX12 RX12 89 12 26 RX12 TX12 75 := ⟨rfl, inT12, by decide, by decide, tw_878, rfl⟩
theorem fd_X12_92 : qFd RX12 RX12 92 12 27 RX12 TX12 75 := ⟨rfl, inT12, by decide, by decide, tw_879, rfl⟩
theorem fd_X12_95 : qFd RX12 RX12 95 12 28 RX12 TX12 75 := ⟨rfl, inT12, by decide, by decide, tw_880, rfl⟩
theorem fd_X1_11 : qFd RX1 RX8 11 8 4 RX8 TX8 14 := ⟨rfl, inT8, by decide, by decide, tw_206, rfl⟩
theorem fd_X1_29 : qFd RX1 RX0 29 0 1 RX0 TX0 4 := ⟨rfl, inT0, by decide, by decide, tw_299, rfl⟩
theorem fd_X2_15 : qFd RX2 RX8 15 8 6 RX8 TX8 14 := ⟨rfl, inT8, by decide, by decide, tw_216, rfl⟩
theorem fd_X2_9 : qFd RX2 RX8 9 8 5 RX8 TX8 14 := ⟨rfl, inT8, by decide, by decide, tw_210, rfl⟩
theorem fd_X3_15 : qFd RX3 RX3 15 3 1 RX3 TX3 7 := ⟨rfl, inT3, by decide, by decide, tw_162, rfl⟩
theorem fd_X3_19 : qFd RX3 RX3 19 3 4 RX3 TX3 7 := ⟨rfl, inT3, by decide, by decide, tw_166, rfl⟩
theorem fd_X3_23 : qFd RX3 RX3 23 3 3 RX3 TX3 7 := ⟨rfl, inT3, by decide, by decide, tw_164, rfl⟩
theorem fd_X3_32 : qFd RX3 RX8 32 8 3 RX8 TX8 14 := ⟨rfl, inT8, by decide, by decide, tw_202, rfl⟩
theorem fd_X3_37 : qFd RX3 RX8 37 8 4 RX8 TX8 14 := ⟨rfl, inT8, by decide, by decide, tw_207, rfl⟩
theorem fd_X3_40 : qFd RX3 RX8 40 8 5 RX8 TX8 14 := ⟨rfl, inT8, by decide, by decide, tw_213, rfl⟩
theorem fd_X3_43 : qFd RX3 RX8 43 8 6 RX8 TX8 14 := ⟨rfl, inT8, by decide, by decide, tw_217, rfl⟩
theorem fd_X3_46 : qFd RX3 RX8 46 8 11 RX8 TX8 14 := ⟨rfl, inT8, by decide, by decide, tw_232, rfl⟩
theorem fd_X3_55 : qFd RX3 RX3 55 3 2 RX3 TX3 7 := ⟨rfl, inT3, by decide, by decide, tw_163, rfl⟩
theorem fd_X3_64 : qFd RX3 RX3 64 3 6 RX3 TX3 7 := ⟨rfl, inT3, by decide, by decide, tw_170, rfl⟩
theorem fd_X3_67 : qFd RX3 RX3 67 3 5 RX3 TX3 7 := ⟨rfl, inT3, by decide, by decide, tw_167, rfl⟩
theorem fd_X3_9 : qFd RX3 RX3 9 3 0 RX3 TX3 7 := ⟨rfl, inT3, by decide, by decide, tw_161, rfl⟩
theorem fd_X4_13 : qFd RX4 RX0 13 0 1 RX0 TX0 4 := ⟨rfl, inT0, by decide, by decide, tw_298, rfl⟩
theorem fd_X4_23 : qFd RX4 RX0 23 0 2 RX0 TX0 4 := ⟨rfl, inT0, by decide, by decide, tw_302, rfl⟩
theorem fd_X5_7 : qFd RX5 RX8 7 8 4 RX8 TX8 14 := ⟨rfl, inT8, by decide, by decide, tw_205, rfl⟩
theorem fd_X6_15 : qFd RX6 RX6 15 6 1 RX6 TX6 4 := ⟨rfl, inT6, by decide, by decide, tw_276, rfl⟩
theorem fd_X6_18 : qFd RX6 RX6 18 6 2 RX6 TX6 4 := ⟨rfl, inT6, by decide, by decide, tw_277, rfl⟩
theorem fd_X6_22 : qFd RX6 RX6 22 6 3 RX6 TX6 4 := ⟨rfl, inT6, by decide, by decide, tw_278, rfl⟩
theorem fd_X6_9 : qFd RX6 RX6 9 6 0 RX6 TX6 4 := ⟨rfl, inT6, by decide, by decide, tw_275, rfl⟩
theorem fd_X7_13 : qFd RX7 RX8 13 8 5 RX8 TX8 14 := ⟨rfl, inT8, by decide, by decide, tw_211, rfl⟩
theorem fd_X8_15 : qFd RX8 RX8 15 8 1 RX8 TX8 14 := ⟨rfl, inT8, by decide, by decide, tw_198, rfl⟩
theorem fd_X8_19 : qFd RX8 RX8 19 8 13 RX8 TX8 14 := ⟨rfl, inT8, by decide, by decide, tw_236, rfl⟩
theorem fd_X8_23 : qFd RX8 RX3 23 3 4 RX3 TX3 7 := ⟨rfl, inT3, by decide, by decide, tw_165, rfl⟩
theorem fd_X8_28 : qFd RX8 RX8 28 8 12 RX8 TX8 14 := ⟨rfl, inT8, by decide, by decide, tw_234, rfl⟩
theorem fd_X8_29 : qFd RX8 RX8 29 8 2 RX8 TX8 14 := ⟨rfl, inT8, by decide, by decide, tw_199, rfl⟩
theorem fd_X8_33 : qFd RX8 RX8 33 8 3 RX8 TX8 14 := ⟨rfl, inT8, by decide, by decide, tw_201, rfl⟩
theorem fd_X8_36 : qFd RX8 RX8 36 8 4 RX8 TX8 14 := ⟨rfl, inT8, by decide, by decide, tw_204, rfl⟩
theorem fd_X8_39 : qFd RX8 RX8 39 8 5 RX8 TX8 14 := ⟨rfl, inT8, by decide, by decide, tw_209, rfl⟩
theorem fd_X8_42 : qFd RX8 RX8 42 8 6 RX8 TX8 14 := ⟨rfl, inT8, by decide, by decide, tw_215, rfl⟩
theorem fd_X8_45 : qFd RX8 RX8 45 8 7 RX8 TX8 14 := ⟨rfl, inT8, by decide, by decide, tw_219, rfl⟩
theorem fd_X8_48 : qFd RX8 RX8 48 8 8 RX8 TX8 14 := ⟨rfl, inT8, by decide, by decide, tw_221, rfl⟩
theorem fd_X8_51 : qFd RX8 RX8 51 8 9 RX8 TX8 14 := ⟨rfl, inT8, by decide, by decide, tw_224, rfl⟩
theorem fd_X8_61 : qFd RX8 RX8 61 8 10 RX8 TX8 14 := ⟨rfl, inT8, by decide, by decide, tw_229, rfl⟩
theorem fd_X8_64 : qFd RX8 RX8 64 8 11 RX8 TX8 14 := ⟨rfl, inT8, by decide, by decide, tw_231, rfl⟩
theorem fd_X8_71 : qFd RX8 RX3 71 3 5 RX3 TX3 7 := ⟨rfl, inT3, by decide, by decide, tw_168, rfl⟩
theorem fd_X8_9 : qFd RX8 RX8 9 8 0 RX8 TX8 14 := ⟨rfl, inT8, by decide, by decide, tw_196, rfl⟩
theorem fd_X9_13 : qFd RX9 RX8 13 8 9 RX8 TX8 14 := ⟨rfl, inT8, by decide, by decide, tw_225, rfl⟩
theorem fd_X9_17 : qFd RX9 RX8 17 8 5 RX8 TX8 14 := ⟨rfl, inT8, by decide, by decide, tw_212, rfl⟩
theorem fd_X9_7 : qFd RX9 RX8 7 8 10 RX8 TX8 14 := ⟨rfl, inT8, by decide, by decide, tw_227, rfl⟩
theorem kd_0_0 : qkind 0 0 = 2 := by decide +kernel
theorem kd_0_1 : qkind 0 1 = 0 := by decide +kernel
theorem kd_0_2 : qkind 0 2 = 0 := by decide +kernel
theorem kd_0_3 : qkind 0 3 = 0 := by decide +kernel
theorem kd_11_0 : qkind 11 0 = 2 := by decide +kernel
theorem kd_11_1 : qkind 11 1 = 2 := by decide +kernel
theorem kd_11_10 : qkind 11 10 = 2 := by decide +kernel
theorem kd_11_11 : qkind 11 11 = 0 := by decide +kernel
theorem kd_11_12 : qkind 11 12 = 2 := by decide +kernel
theorem kd_11_13 : qkind 11 13 = 0 := by decide +kernel
theorem kd_11_14 : qkind 11 14 = 2 := by decide +kernel
theorem kd_11_15 : qkind 11 15 = 2 := by decide +kernel
theorem kd_11_16 : qkind 11 16 = 2 := by decide +kernel
theorem kd_11_17 : qkind 11 17 = 2 := by decide +kernel
theorem kd_11_2 : qkind 11 2 = 2 := by decide +kernel
theorem kd_11_3 : qkind 11 3 = 2 := by decide +kernel
theorem kd_11_4 : qkind 11 4 = 2 := by decide +kernel
theorem kd_11_5 : qkind 11 5 = 2 := by decide +kernel
theorem kd_11_6 : qkind 11 6 = 2 := by decide +kernel
theorem kd_11_7 : qkind 11 7 = 2 := by decide +kernel
theorem kd_11_8 : qkind 11 8 = 2 := by decide +kernel
theorem kd_11_9 : qkind 11 9 = 0 := by decide +kernel
theorem kd_12_0 : qkind 12 0 = 0 := by decide +kernel
theorem kd_12_1 : qkind 12 1 = 0 := by decide +kernel
theorem kd_12_10 : qkind 12 10 = 0 := by decide +kernel
theorem kd_12_11 : qkind 12 11 = 0 := by decide +kernel
theorem kd_12_12 : qkind 12 12 = 0 := by decide +kernel
theorem kd_12_13 : qkind 12 13 = 0 := by decide +kernel
theorem kd_12_14 : qkind 12 14 = 0 := by decide +kernel
theorem kd_12_15 : qkind 12 15 = 2 := by decide +kernel
theorem kd_12_16 : qkind 12 16 = 2 := by decide +kernel
theorem kd_12_17 : qkind 12 17 = 2 := by decide +kernel
theorem kd_12_18 : qkind 12 18 = 2 := by decide +kernel
theorem kd_12_19 : qkind 12 19 = 2 := by decide +kernel
theorem kd_12_2 : qkind 12 2 = 0 := by decide +kernel
theorem kd_12_20 : qkind 12 20 = 2 := by decide +kernel
theorem kd_12_21 : qkind 12 21 = 2 := by decide +kernel
theorem kd_12_22 : qkind 12 22 = 2 := by decide +kernel
theorem kd_12_23 : qkind 12 23 = 0 := by decide +kernel
theorem kd_12_24 : qkind 12 24 = 0 := by decide +kernel
theorem kd_12_25 : qkind 12 25 = 0 := by decide +kernel
theorem kd_12_26 : qkind 12 26 = 2 := by decide +kernel
theorem kd_12_27 : qkind 12 27 = 0 := by decide +kernel
theorem kd_12_28 : qkind 12 28 = 2 := by decide +kernel
theorem kd_12_29 : qkind 12 29 = 0 := by decide +kernel
theorem kd_12_3 : qkind 12 3 = 2 := by decide +kernel
theorem kd_12_30 : qkind 12 30 = 0 := by decide +kernel
theorem kd_12_31 : qkind 12 31 = 0 := by decide +kernel
theorem kd_12_32 : qkind 12 32 = 0 := by decide +kernel
theorem kd_12_33 : qkind 12 33 = 2 := by decide +kernel
theorem kd_12_34 : qkind 12 34 = 2 := by decide +kernel
theorem kd_12_35 : qkind 12 35 = 2 := by decide +kernel
theorem kd_12_36 : qkind 12 36 = 2 := by decide +kernel
theorem kd_12_37 : qkind 12 37 = 0 := by decide +kernel
theorem kd_12_38 : qkind 12 38 = 2 := by decide +kernel
theorem kd_12_39 : qkind 12 39 = 2 := by decide +kernel
theorem kd_12_4 : qkind 12 4 = 2 := by decide +kernel
theorem kd_12_40 : qkind 12 40 = 2 := by decide +kernel
theorem kd_12_41 : qkind 12 41 = 0 := by decide +kernel
theorem kd_12_42 : qkind 12 42 = 0 := by decide +kernel
theorem kd_12_43 : qkind 12 43 = 2 := by decide +kernel
theorem kd_12_44 : qkind 12 44 = 2 := by decide +kernel
theorem kd_12_45 : qkind 12 45 = 2 := by decide +kernel
theorem kd_12_46 : qkind 12 46 = 2 := by decide +kernel
theorem kd_12_47 : qkind 12 47 = 0 := by decide +kernel
theorem kd_12_48 : qkind 12 48 = 0 := by decide +kernel
theorem kd_12_49 : qkind 12 49 = 0 := by decide +kernel
theorem kd_12_5 : qkind 12 5 = 2 := by decide +kernel
theorem kd_12_50 : qkind 12 50 = 0 := by decide +kernel
theorem kd_12_51 : qkind 12 51 = 0 := by decide +kernel
theorem kd_12_52 : qkind 12 52 = 0 := by decide +kernel
theorem kd_12_53 : qkind 12 53 = 0 := by decide +kernel
theorem kd_12_54 : qkind 12 54 = 0 := by decide +kernel
theorem kd_12_55 : qkind 12 55 = 2 := by decide +kernel
theorem kd_12_56 : qkind 12 56 = 2 := by decide +kernel
theorem kd_12_57 : qkind 12 57 = 2 := by decide +kernel
theorem kd_12_58 : qkind 12 58 = 2 := by decide +kernel
theorem kd_12_59 : qkind 12 59 = 2 := by decide +kernel
theorem kd_12_6 : qkind 12 6 = 2 := by decide +kernel
theorem kd_12_60 : qkind 12 60 = 2 := by decide +kernel
theorem kd_12_61 : qkind 12 61 = 2 := by decide +kernel
theorem kd_12_62 : qkind 12 62 = 2 := by decide +kernel
theorem kd_12_63 : qkind 12 63 = 2 := by decide +kernel
theorem kd_12_64 : qkind 12 64 = 2 := by decide +kernel
theorem kd_12_65 : qkind 12 65 = 2 := by decide +kernel
theorem kd_12_66 : qkind 12 66 = 2 := by decide +kernel
theorem kd_12_67 : qkind 12 67 = 2 := by decide +kernel
theorem kd_12_68 : qkind 12 68 = 2 := by decide +kernel
theorem kd_12_69 : qkind 12 69 = 0 := by decide +kernel
theorem kd_12_7 : qkind 12 7 = 2 := by decide +kernel
theorem kd_12_70 : qkind 12 70 = 2 := by decide +kernel
theorem kd_12_71 : qkind 12 71 = 2 := by decide +kernel
theorem kd_12_72 : qkind 12 72 = 2 := by decide +kernel
theorem kd_12_73 : qkind 12 73 = 2 := by decide +kernel
theorem kd_12_74 : qkind 12 74 = 2 := by decide +kernel
theorem kd_12_8 : qkind 12 8 = 2 := by decide +kernel
theorem kd_12_9 : qkind 12 9 = 2 := by decide +kernel
theorem kd_3_0 : qkind 3 0 = 2 := by decide +kernel
theorem kd_3_1 : qkind 3 1 = 2 := by decide +kernel
theorem kd_3_2 : qkind 3 2 = 0 := by decide +kernel
theorem kd_3_3 : qkind 3 3 = 0 := by decide +kernel
theorem kd_3_4 : qkind 3 4 = 0 := by decide +kernel
theorem kd_3_5 : qkind 3 5 = 0 := by decide +kernel
theorem kd_3_6 : qkind 3 6 = 0 := by decide +kernel
theorem kd_6_0 : qkind 6 0 = 0 := by decide +kernel
theorem kd_6_1 : qkind 6 1 = 0 := by decide +kernel
theorem kd_6_2 : qkind 6 2 = 2 := by decide +kernel
theorem kd_6_3 : qkind 6 3 = 0 := by decide +kernel
theorem kd_8_0 : qkind 8 0 = 2 := by decide +kernel
theorem kd_8_1 : qkind 8 1 = 0 := by decide +kernel
theorem kd_8_10 : qkind 8 10 = 0 := by decide +kernel
theorem kd_8_11 : qkind 8 11 = 0 := by decide +kernel
theorem kd_8_12 : qkind 8 12 = 0 := by decide +kernel
theorem kd_8_13 : qkind 8 13 = 3 := by decide +kernel
theorem kd_8_2 : qkind 8 2 = 2 := by decide +kernel
theorem kd_8_3 : qkind 8 3 = 2 := by decide +kernel
theorem kd_8_4 : qkind 8 4 = 2 := by decide +kernel
theorem kd_8_5 : qkind 8 5 = 2 := by decide +kernel
theorem kd_8_6 : qkind 8 6 = 2 := by decide +kernel
theorem kd_8_7 : qkind 8 7 = 2 := by decide +kernel
theorem kd_8_8 : qkind 8 8 = 2 := by decide +kernel
theorem kd_8_9 : qkind 8 9 = 2 := by decide +kernel
theorem aaH : ∀ ci ∈ [3], qfitA 105 ci := fun ci h => Or.inl ⟨rfl, List.mem_singleton.mp h⟩
theorem aaP : ∀ ci ∈ qPk, qfitA 104 ci := by
  intro ci h
  unfold qPk at h
  simp only [List.mem_cons, List.not_mem_nil, or_false] at h
  rcases h with rfl | rfl | rfl | rfl | rfl | rfl | rfl
  · exact Or.inr (Or.inl ⟨rfl, rfl⟩)
  · exact Or.inr (Or.inr ⟨rfl, by decide, _, rfl, tw_1454⟩)
  · exact Or.inr (Or.inr ⟨rfl, by decide, _, rfl, tw_1455⟩)
  · exact Or.inr (Or.inr ⟨rfl, by decide, _, rfl, tw_1456⟩)
  · exact Or.inr (Or.inr ⟨rfl, by decide, _, rfl, tw_1457⟩)
  · exact Or.inr (Or.inr ⟨rfl, by decide, _, rfl, tw_1458⟩)
  · exact Or.inr (Or.inr ⟨rfl, by decide, _, rfl, tw_1459⟩)
