theorem fl_X7_31 : FL RX7 31 8 0 := ⟨_, TX7, 6, "FreightPaths", rfl, by decide, by decide +kernel, Or.inl rfl⟩
theorem fl_X7_35 : FL RX7 35 8 1 := ⟨_, TX7, 6, "FreightPaths", rfl, by decide, by decide +kernel, Or.inl rfl⟩
theorem fl_X7_39 : FL RX7 39 8 2 := ⟨_, TX7, 6, "FreightPaths", rfl, by decide, by decide +kernel, Or.inl rfl⟩
theorem fl_X7_48 : FL RX7 48 8 3 := ⟨_, TX7, 6, "FreightPaths", rfl, by decide, by decide +kernel, Or.inl rfl⟩
theorem fl_X7_55 : FL RX7 55 8 4 := ⟨_, TX7, 6, "FreightPaths", rfl, by decide, by decide +kernel, Or.inl rfl⟩
theorem fl_X7_62 : FL RX7 62 8 5 := ⟨_, TX7, 6, "FreightPaths", rfl, by decide, by decide +kernel, Or.inl rfl⟩
theorem fl_X7_88 : FL RX7 88 4 4 := ⟨_, TX3, 10, "FreightPaths$Line", rfl, by decide, by decide +kernel, Or.inl rfl⟩
theorem fl_X7_92 : FL RX7 92 4 9 := ⟨_, TX3, 10, "FreightPaths$Line", rfl, by decide, by decide +kernel, Or.inl rfl⟩
theorem fl_X7_96 : FL RX7 96 4 8 := ⟨_, TX3, 10, "FreightPaths$Line", rfl, by decide, by decide +kernel, Or.inl rfl⟩
theorem fl_X7_106 : FL RX7 106 4 0 := ⟨_, TX3, 10, "FreightPaths$Line", rfl, by decide, by decide +kernel, Or.inl rfl⟩
theorem fl_X7_125 : FL RX7 125 1 0 := ⟨_, TX0, 14, "FreightPaths$Bid", rfl, by decide, by decide +kernel, Or.inl rfl⟩
theorem fl_X7_132 : FL RX7 132 1 9 := ⟨_, TX0, 14, "FreightPaths$Bid", rfl, by decide, by decide +kernel, Or.inl rfl⟩
theorem fl_X7_139 : FL RX7 139 5 5 := ⟨_, TX4, 7, "FreightPaths$PathSearch", rfl, by decide, by decide +kernel, Or.inl rfl⟩
theorem fl_X7_142 : FL RX7 142 5 6 := ⟨_, TX4, 7, "FreightPaths$PathSearch", rfl, by decide, by decide +kernel, Or.inl rfl⟩
theorem fl_X7_149 : FL RX7 149 1 10 := ⟨_, TX0, 14, "FreightPaths$Bid", rfl, by decide, by decide +kernel, Or.inl rfl⟩
theorem fl_X7_169 : FL RX7 169 1 12 := ⟨_, TX0, 14, "FreightPaths$Bid", rfl, by decide, by decide +kernel, Or.inl rfl⟩
theorem fl_X7_170 : FL RX7 170 1 11 := ⟨_, TX0, 14, "FreightPaths$Bid", rfl, by decide, by decide +kernel, Or.inl rfl⟩
theorem fl_X7_175 : FL RX7 175 3 2 := ⟨_, TX2, 5, "FreightPaths$Breaks", rfl, by decide, by decide +kernel, Or.inl rfl⟩
theorem fl_X7_178 : FL RX7 178 3 3 := ⟨_, TX2, 5, "FreightPaths$Breaks", rfl, by decide, by decide +kernel, Or.inl rfl⟩
theorem fl_X7_181 : FL RX7 181 3 4 := ⟨_, TX2, 5, "FreightPaths$Breaks", rfl, by decide, by decide +kernel, Or.inl rfl⟩
theorem fl_X7_184 : FL RX7 184 1 13 := ⟨_, TX0, 14, "FreightPaths$Bid", rfl, by decide, by decide +kernel, Or.inl rfl⟩
theorem fl_X7_194 : FL RX7 194 7 8 := ⟨_, TX6, 11, "FreightPaths$Run", rfl, by decide, by decide +kernel, Or.inl rfl⟩
theorem if_X7_8_0 : iF RX7 8 0 := fun _ _ _ z => by cases z; exact ⟨rfl, rfl⟩
theorem if_X7_8_1 : iF RX7 8 1 := fun _ _ _ z => by cases z; exact ⟨rfl, rfl⟩
theorem if_X7_8_2 : iF RX7 8 2 := fun _ _ _ z => by cases z; exact ⟨rfl, rfl⟩
theorem if_X7_8_3 : iF RX7 8 3 := fun _ _ _ z => by cases z; exact ⟨rfl, rfl⟩
theorem if_X7_8_4 : iF RX7 8 4 := fun _ _ _ z => by cases z; exact ⟨rfl, rfl⟩
theorem if_X7_8_5 : iF RX7 8 5 := fun _ _ _ z => by cases z; exact ⟨rfl, rfl⟩
theorem nl_X7_7 : NL RX7 7 "FreightPaths$Line" 4 10 := ⟨⟨TX3, rfl⟩, by decide +kernel, by decide +kernel, by decide +kernel⟩
theorem nl_X7_23 : NL RX7 23 "FreightPaths$Book" 2 2 := ⟨⟨TX1, rfl⟩, by decide +kernel, by decide +kernel, by decide +kernel⟩
theorem nl_X7_26 : NL RX7 26 "FreightPaths$PathSearch" 5 7 := ⟨⟨TX4, rfl⟩, by decide +kernel, by decide +kernel, by decide +kernel⟩
theorem nl_X7_43 : NL RX7 43 "FreightPaths$Rounds" 6 7 := ⟨⟨TX5, rfl⟩, by decide +kernel, by decide +kernel, by decide +kernel⟩
theorem nl_X7_52 : NL RX7 52 "FreightPaths$Breaks" 3 5 := ⟨⟨TX2, rfl⟩, by decide +kernel, by decide +kernel, by decide +kernel⟩
theorem nl_X7_59 : NL RX7 59 "FreightPaths$Run" 7 11 := ⟨⟨TX6, rfl⟩, by decide +kernel, by decide +kernel, by decide +kernel⟩
theorem nl_X7_110 : NL RX7 110 "FreightPaths$Bid" 1 14 := ⟨⟨TX0, rfl⟩, by decide +kernel, by decide +kernel, by decide +kernel⟩
theorem lk_X7_1 : Cond.methodLink RX7 1 objectInit ∈ GT := by decide +kernel
theorem lk_X7_11 : Cond.methodLink RX7 11 Lib.Math.min.name ∈ GT := by decide +kernel
theorem lk_X7_17 : Cond.methodLink RX7 17 Lib.Math.max.name ∈ GT := by decide +kernel
theorem me_X3_init : Cond.instanceMethod yX3_init ∈ GT ∧ Cond.initialized RX3 ∈ GT ∧ Cond.code yX3_init cX3_init 3 none ∈ GT := ⟨by decide +kernel, by decide +kernel, by decide +kernel⟩
theorem cl_X7_20 : IL RX7 20 yX3_init cX3_init 3 1 := ⟨⟨by decide +kernel, me_X3_init⟩, rfl, by decide, by decide, by decide +kernel⟩
theorem me_X1_init : Cond.instanceMethod yX1_init ∈ GT ∧ Cond.initialized RX1 ∈ GT ∧ Cond.code yX1_init cX1_init 1 none ∈ GT := ⟨by decide +kernel, by decide +kernel, by decide +kernel⟩
theorem cl_X7_25 : (Cond.instanceMethod yX1_init ∈ GT ∧ Cond.initialized RX1 ∈ GT ∧ Cond.code yX1_init cX1_init 1 none ∈ GT) ∧ (parseMethodDescriptor yX1_init.desc).map (fun d => d.parameters.length) = some 0 := ⟨me_X1_init, by decide +kernel⟩
theorem me_X4_init : Cond.instanceMethod yX4_init ∈ GT ∧ Cond.initialized RX4 ∈ GT ∧ Cond.code yX4_init cX4_init 3 none ∈ GT := ⟨by decide +kernel, by decide +kernel, by decide +kernel⟩
theorem cl_X7_28 : IL RX7 28 yX4_init cX4_init 3 2 := ⟨⟨by decide +kernel, me_X4_init⟩, rfl, by decide, by decide, by decide +kernel⟩
theorem me_X5_init : Cond.instanceMethod yX5_init ∈ GT ∧ Cond.initialized RX5 ∈ GT ∧ Cond.code yX5_init cX5_init 3 none ∈ GT := ⟨by decide +kernel, by decide +kernel, by decide +kernel⟩
theorem cl_X7_45 : IL RX7 45 yX5_init cX5_init 3 2 := ⟨⟨by decide +kernel, me_X5_init⟩, rfl, by decide, by decide, by decide +kernel⟩
theorem me_X2_init : Cond.instanceMethod yX2_init ∈ GT ∧ Cond.initialized RX2 ∈ GT ∧ Cond.code yX2_init cX2_init 3 none ∈ GT := ⟨by decide +kernel, by decide +kernel, by decide +kernel⟩
theorem cl_X7_54 : IL RX7 54 yX2_init cX2_init 3 2 := ⟨⟨by decide +kernel, me_X2_init⟩, rfl, by decide, by decide, by decide +kernel⟩
theorem me_X6_init : Cond.instanceMethod yX6_init ∈ GT ∧ Cond.initialized RX6 ∈ GT ∧ Cond.code yX6_init cX6_init 3 none ∈ GT := ⟨by decide +kernel, by decide +kernel, by decide +kernel⟩
theorem cl_X7_61 : IL RX7 61 yX6_init cX6_init 3 2 := ⟨⟨by decide +kernel, me_X6_init⟩, rfl, by decide, by decide, by decide +kernel⟩
theorem me_X3_hasSection : Cond.instanceMethod yX3_hasSection ∈ GT ∧ Cond.selects RX3 yX3_hasSection yX3_hasSection ∈ GT ∧ Cond.initialized RX3 ∈ GT ∧ Cond.code yX3_hasSection cX3_hasSection 2 (some .boolean) ∈ GT := ⟨by decide +kernel, by decide +kernel, by decide +kernel, by decide +kernel⟩
theorem cl_X7_66 : VL RX7 66 4 yX3_hasSection cX3_hasSection 2 (some .boolean) 1 := ⟨⟨TX3, 10, rfl⟩, ⟨by decide +kernel, me_X3_hasSection⟩, by decide, by decide, by decide +kernel⟩
theorem me_X7_isWithin : Cond.static yX7_isWithin ∈ GT ∧ Cond.initialized RX7 ∈ GT ∧ Cond.code yX7_isWithin cX7_isWithin 3 (some .boolean) ∈ GT := ⟨by decide +kernel, by decide +kernel, by decide +kernel⟩
theorem cl_X7_70 : SL RX7 70 yX7_isWithin cX7_isWithin 3 (some .boolean) 3 := ⟨⟨by decide +kernel, me_X7_isWithin⟩, by decide, by decide, by decide +kernel⟩
theorem me_X1_pathsGiven : Cond.instanceMethod yX1_pathsGiven ∈ GT ∧ Cond.selects RX1 yX1_pathsGiven yX1_pathsGiven ∈ GT ∧ Cond.initialized RX1 ∈ GT ∧ Cond.code yX1_pathsGiven cX1_pathsGiven 3 (some .int) ∈ GT := ⟨by decide +kernel, by decide +kernel, by decide +kernel, by decide +kernel⟩
theorem cl_X7_74 : VL RX7 74 2 yX1_pathsGiven cX1_pathsGiven 3 (some .int) 0 := ⟨⟨TX1, 2, rfl⟩, ⟨by decide +kernel, me_X1_pathsGiven⟩, by decide, by decide, by decide +kernel⟩
theorem me_X3_setSection : Cond.instanceMethod yX3_setSection ∈ GT ∧ Cond.selects RX3 yX3_setSection yX3_setSection ∈ GT ∧ Cond.initialized RX3 ∈ GT ∧ Cond.code yX3_setSection cX3_setSection 5 none ∈ GT := ⟨by decide +kernel, by decide +kernel, by decide +kernel, by decide +kernel⟩
theorem cl_X7_78 : VL RX7 78 4 yX3_setSection cX3_setSection 5 none 4 := ⟨⟨TX3, 10, rfl⟩, ⟨by decide +kernel, me_X3_setSection⟩, by decide, by decide, by decide +kernel⟩
theorem me_X6_forget : Cond.instanceMethod yX6_forget ∈ GT ∧ Cond.selects RX6 yX6_forget yX6_forget ∈ GT ∧ Cond.initialized RX6 ∈ GT ∧ Cond.code yX6_forget cX6_forget 1 none ∈ GT := ⟨by decide +kernel, by decide +kernel, by decide +kernel, by decide +kernel⟩
theorem cl_X7_82 : VL RX7 82 7 yX6_forget cX6_forget 1 none 0 := ⟨⟨TX6, 11, rfl⟩, ⟨by decide +kernel, me_X6_forget⟩, by decide, by decide, by decide +kernel⟩
theorem me_X3_hasStation : Cond.instanceMethod yX3_hasStation ∈ GT ∧ Cond.selects RX3 yX3_hasStation yX3_hasStation ∈ GT ∧ Cond.initialized RX3 ∈ GT ∧ Cond.code yX3_hasStation cX3_hasStation 2 (some .boolean) ∈ GT := ⟨by decide +kernel, by decide +kernel, by decide +kernel, by decide +kernel⟩
theorem cl_X7_85 : VL RX7 85 4 yX3_hasStation cX3_hasStation 2 (some .boolean) 1 := ⟨⟨TX3, 10, rfl⟩, ⟨by decide +kernel, me_X3_hasStation⟩, by decide, by decide, by decide +kernel⟩
theorem me_X3_addWorks : Cond.instanceMethod yX3_addWorks ∈ GT ∧ Cond.selects RX3 yX3_addWorks yX3_addWorks ∈ GT ∧ Cond.initialized RX3 ∈ GT ∧ Cond.code yX3_addWorks cX3_addWorks 4 none ∈ GT := ⟨by decide +kernel, by decide +kernel, by decide +kernel, by decide +kernel⟩
theorem cl_X7_99 : VL RX7 99 4 yX3_addWorks cX3_addWorks 4 none 3 := ⟨⟨TX3, 10, rfl⟩, ⟨by decide +kernel, me_X3_addWorks⟩, by decide, by decide, by decide +kernel⟩
theorem cl_X7_103 : VL RX7 103 2 yX1_size cX1_size 1 (some .int) 0 := ⟨⟨TX1, 2, rfl⟩, ⟨by decide +kernel, me_X1_size⟩, by decide, by decide, by decide +kernel⟩
theorem me_X0_isWhat : Cond.static yX0_isWhat ∈ GT ∧ Cond.initialized RX0 ∈ GT ∧ Cond.code yX0_isWhat cX0_isWhat 4 (some .boolean) ∈ GT := ⟨by decide +kernel, by decide +kernel, by decide +kernel⟩
theorem cl_X7_109 : SL RX7 109 yX0_isWhat cX0_isWhat 4 (some .boolean) 2 := ⟨⟨by decide +kernel, me_X0_isWhat⟩, by decide, by decide, by decide +kernel⟩
theorem me_X0_isWhen : Cond.static yX0_isWhen ∈ GT ∧ Cond.initialized RX0 ∈ GT ∧ Cond.code yX0_isWhen cX0_isWhen 1 (some .boolean) ∈ GT := ⟨by decide +kernel, by decide +kernel, by decide +kernel⟩
theorem cl_X7_115 : SL RX7 115 yX0_isWhen cX0_isWhen 1 (some .boolean) 1 := ⟨⟨by decide +kernel, me_X0_isWhen⟩, by decide, by decide, by decide +kernel⟩
theorem me_X0_init : Cond.instanceMethod yX0_init ∈ GT ∧ Cond.initialized RX0 ∈ GT ∧ Cond.code yX0_init cX0_init 6 none ∈ GT := ⟨by decide +kernel, by decide +kernel, by decide +kernel⟩
theorem cl_X7_118 : IL RX7 118 yX0_init cX0_init 6 5 := ⟨⟨by decide +kernel, me_X0_init⟩, rfl, by decide, by decide, by decide +kernel⟩
theorem me_X1_add : Cond.instanceMethod yX1_add ∈ GT ∧ Cond.selects RX1 yX1_add yX1_add ∈ GT ∧ Cond.initialized RX1 ∈ GT ∧ Cond.code yX1_add cX1_add 3 none ∈ GT := ⟨by decide +kernel, by decide +kernel, by decide +kernel, by decide +kernel⟩
theorem cl_X7_121 : VL RX7 121 2 yX1_add cX1_add 3 none 1 := ⟨⟨TX1, 2, rfl⟩, ⟨by decide +kernel, me_X1_add⟩, by decide, by decide, by decide +kernel⟩
theorem cl_X7_128 : VL RX7 128 2 yX1_at cX1_at 2 (some (.object "FreightPaths$Bid")) 1 := ⟨⟨TX1, 2, rfl⟩, ⟨by decide +kernel, me_X1_at⟩, by decide, by decide, by decide +kernel⟩
theorem cl_X7_135 : VL RX7 135 5 yX4_endFor cX4_endFor 4 (some .int) 1 := ⟨⟨TX4, 7, rfl⟩, ⟨by decide +kernel, me_X4_endFor⟩, by decide, by decide, by decide +kernel⟩
theorem cl_X7_145 : VL RX7 145 1 yX0_takePath cX0_takePath 4 none 2 := ⟨⟨TX0, 14, rfl⟩, ⟨by decide +kernel, me_X0_takePath⟩, by decide, by decide, by decide +kernel⟩
theorem me_X5_comeByRank : Cond.instanceMethod yX5_comeByRank ∈ GT ∧ Cond.selects RX5 yX5_comeByRank yX5_comeByRank ∈ GT ∧ Cond.initialized RX5 ∈ GT ∧ Cond.code yX5_comeByRank cX5_comeByRank 3 none ∈ GT := ⟨by decide +kernel, by decide +kernel, by decide +kernel, by decide +kernel⟩
theorem cl_X7_153 : VL RX7 153 6 yX5_comeByRank cX5_comeByRank 3 none 0 := ⟨⟨TX5, 7, rfl⟩, ⟨by decide +kernel, me_X5_comeByRank⟩, by decide, by decide, by decide +kernel⟩
theorem me_X5_comeByBestOrder : Cond.instanceMethod yX5_comeByBestOrder ∈ GT ∧ Cond.selects RX5 yX5_comeByBestOrder yX5_comeByBestOrder ∈ GT ∧ Cond.initialized RX5 ∈ GT ∧ Cond.code yX5_comeByBestOrder cX5_comeByBestOrder 4 none ∈ GT := ⟨by decide +kernel, by decide +kernel, by decide +kernel, by decide +kernel⟩
theorem cl_X7_156 : VL RX7 156 6 yX5_comeByBestOrder cX5_comeByBestOrder 4 none 0 := ⟨⟨TX5, 7, rfl⟩, ⟨by decide +kernel, me_X5_comeByBestOrder⟩, by decide, by decide, by decide +kernel⟩
theorem me_X1_worthsGiven : Cond.instanceMethod yX1_worthsGiven ∈ GT ∧ Cond.selects RX1 yX1_worthsGiven yX1_worthsGiven ∈ GT ∧ Cond.initialized RX1 ∈ GT ∧ Cond.code yX1_worthsGiven cX1_worthsGiven 3 (some .int) ∈ GT := ⟨by decide +kernel, by decide +kernel, by decide +kernel, by decide +kernel⟩
theorem cl_X7_159 : VL RX7 159 2 yX1_worthsGiven cX1_worthsGiven 3 (some .int) 0 := ⟨⟨TX1, 2, rfl⟩, ⟨by decide +kernel, me_X1_worthsGiven⟩, by decide, by decide, by decide +kernel⟩
theorem cl_X7_162 : VL RX7 162 1 yX0_stepAtStation cX0_stepAtStation 2 (some .int) 1 := ⟨⟨TX0, 14, rfl⟩, ⟨by decide +kernel, me_X0_stepAtStation⟩, by decide, by decide, by decide +kernel⟩
theorem cl_X7_166 : VL RX7 166 1 yX0_steps cX0_steps 1 (some .int) 0 := ⟨⟨TX0, 14, rfl⟩, ⟨by decide +kernel, me_X0_steps⟩, by decide, by decide, by decide +kernel⟩
theorem me_X2_seekFirst : Cond.instanceMethod yX2_seekFirst ∈ GT ∧ Cond.selects RX2 yX2_seekFirst yX2_seekFirst ∈ GT ∧ Cond.initialized RX2 ∈ GT ∧ Cond.code yX2_seekFirst cX2_seekFirst 5 (some .boolean) ∈ GT := ⟨by decide +kernel, by decide +kernel, by decide +kernel, by decide +kernel⟩
theorem cl_X7_171 : VL RX7 171 3 yX2_seekFirst cX2_seekFirst 5 (some .boolean) 0 := ⟨⟨TX2, 5, rfl⟩, ⟨by decide +kernel, me_X2_seekFirst⟩, by decide, by decide, by decide +kernel⟩
theorem me_X6_bringUpToDate : Cond.instanceMethod yX6_bringUpToDate ∈ GT ∧ Cond.selects RX6 yX6_bringUpToDate yX6_bringUpToDate ∈ GT ∧ Cond.initialized RX6 ∈ GT ∧ Cond.code yX6_bringUpToDate cX6_bringUpToDate 4 none ∈ GT := ⟨by decide +kernel, by decide +kernel, by decide +kernel, by decide +kernel⟩
theorem cl_X7_187 : VL RX7 187 7 yX6_bringUpToDate cX6_bringUpToDate 4 none 0 := ⟨⟨TX6, 11, rfl⟩, ⟨by decide +kernel, me_X6_bringUpToDate⟩, by decide, by decide, by decide +kernel⟩
theorem me_X6_told : Cond.instanceMethod yX6_told ∈ GT ∧ Cond.selects RX6 yX6_told yX6_told ∈ GT ∧ Cond.initialized RX6 ∈ GT ∧ Cond.code yX6_told cX6_told 6 (some .int) ∈ GT := ⟨by decide +kernel, by decide +kernel, by decide +kernel, by decide +kernel⟩
theorem cl_X7_190 : VL RX7 190 7 yX6_told cX6_told 6 (some .int) 2 := ⟨⟨TX6, 11, rfl⟩, ⟨by decide +kernel, me_X6_told⟩, by decide, by decide, by decide +kernel⟩
theorem me_X6_coinsOf : Cond.instanceMethod yX6_coinsOf ∈ GT ∧ Cond.selects RX6 yX6_coinsOf yX6_coinsOf ∈ GT ∧ Cond.initialized RX6 ∈ GT ∧ Cond.code yX6_coinsOf cX6_coinsOf 6 (some .int) ∈ GT := ⟨by decide +kernel, by decide +kernel, by decide +kernel, by decide +kernel⟩
theorem cl_X7_197 : VL RX7 197 7 yX6_coinsOf cX6_coinsOf 6 (some .int) 1 := ⟨⟨TX6, 11, rfl⟩, ⟨by decide +kernel, me_X6_coinsOf⟩, by decide, by decide, by decide +kernel⟩
section
variable {p : Program} {l : Launch} {e : Env} {s : State} {m : MethodId} {args : Array Value} {below : List Frame} {meth : Method} {c : Code} {G : GG}
abbrev rm_X7_init : Room := { frames := 5, cells := 31, slots := 2920, locals := 100 }
def f_X7_init (E : Nat × Nat) (this : Nat) (a0 : Int32) (h : Hp) : Option (Unit × Hp) :=
nwO h 4 (fun n4 h =>
bd (f_X3_init n4 (if 2 < (if a0 < 8 then a0 else 8) then (if a0 < 8 then a0 else 8) else 2) h) (fun u18 h =>
nwO h 2 (fun n22 h =>
bd (f_X1_init E n22 h) (fun u26 h =>
nwO h 5 (fun n30 h =>
bd (f_X4_init n30 (some n4) (some n22) h) (fun u36 h =>
pR h (some this) 8 0 (some n4) (fun h =>
pR h (some this) 8 1 (some n22) (fun h =>
pR h (some this) 8 2 (some n30) (fun h =>
nwO h 6 (fun n58 h =>
bd (f_X5_init n58 (some n22) (some n30) h) (fun u65 h =>
pR h (some this) 8 3 (some n58) (fun h =>
nwO h 3 (fun n72 h =>
bd (f_X2_init n72 (some n4) (some n22) h) (fun u78 h =>
pR h (some this) 8 4 (some n72) (fun h =>
nwO h 7 (fun n85 h =>
bd (f_X6_init n85 (some n4) (some n22) h) (fun u91 h =>
pR h (some this) 8 5 (some n85) (fun h =>
rtV h))))))))))))))))))
set_option maxHeartbeats 4000000 in
set_option maxRecDepth 100000 in
theorem c_X7_init (l : Launch) {G : GG} (this : Nat) (a0 : Int32) (h : Hp) (v : Unit) (h1 : Hp) (hq : f_X7_init G.1.2 this a0 h = some (v, h1)) : Met l yX7_init (Cond.code yX7_init cX7_init 5 none :: GT) rm_X7_init (va_Pc [.ref this, .int a0] (Cn G h)) (Qx G none h1) 31 2920 (AA G) := by
  refine xMet (cc := cX7_init) (by decide) (Nat.le_of_ble_eq_true rfl) (List.forall_mem_cons.mpr ⟨rfl, (List.forall_mem_cons.mpr ⟨rfl, (fun _ z => by cases z)⟩)⟩) ?_
  intro p e s m below meth c ls Z hr hlk hin hR hS hl
  have hx := Z.1
  have hb := Z.2.1
  have hl : LV ls 5 [(0, va_rf (some this)), (1, .int a0)] := hl
  unfold f_X7_init at hq
  refine xaln hx hb hl (x := (some this)) 0 rfl dX7_init_0 ?_
  refine xoi Z hl lk_X7_1 (by decide) (by decide) dX7_init_1 ?_
  refine xnO Z hR hS hq nl_X7_7 (by decide) (by decide) dX7_init_4 (fun n4 h H hq hR hS => ?_)
  refine lv_dup hx hb dX7_init_7 (rf_cat (some n4)) ?_
  refine lv_iconst (v := 2) hx hb dX7_init_8 (by decide) ?_
  refine lv_bipush (v := 8) hx hb dX7_init_9 (by decide) ?_
  refine xiln hx hb hl (x := a0) 1 rfl dX7_init_11 ?_
  refine xmn Z hl lk_X7_11 (by decide) (by first | decide | (simp only [List.map_cons, List.map_nil, rf_cat, ct_int, ct_ref, List.sum_cons, List.sum_nil] <;> decide)) (by decide) (by decide) dX7_init_12 ?_
  refine xmx Z hl lk_X7_17 (by decide) (by first | decide | (simp only [List.map_cons, List.map_nil, rf_cat, ct_int, ct_ref, List.sum_cons, List.sum_nil] <;> decide)) (by decide) (by decide) dX7_init_15 ?_
  refine xcI Z hR hS hl (rest := [va_rf (some n4)]) (b := n4) (As := [.int (if 2 < (if a0 < 8 then a0 else 8) then (if a0 < 8 then a0 else 8) else 2)]) hq cl_X7_20 (fun x h1 hc => c_X3_init l n4 (if 2 < (if a0 < 8 then a0 else 8) then (if a0 < 8 then a0 else 8) else 2) h x h1 hc) ⟨⟨rfl, rfl⟩, (by decide), (by decide)⟩ rfl rfl (by first | decide | (simp only [List.map_cons, List.map_nil, rf_cat, ct_int, ct_ref, List.sum_cons, List.sum_nil] <;> decide)) dX7_init_18 (by decide) (fun u18 h H locs hq hR hS => ?_)
  refine xasn hx hb hl (x := (some n4)) (lv' := [(2, va_rf (some n4)), (0, va_rf (some this)), (1, .int a0)]) (by decide) dX7_init_21 rfl (fun ls hl => ?_)
  refine xnO Z hR hS hq nl_X7_23 (by decide) (by decide) dX7_init_22 (fun n22 h H hq hR hS => ?_)
  refine lv_dup hx hb dX7_init_25 (rf_cat (some n22)) ?_
  refine xcN Z hR hS hl (rest := [va_rf (some n22)]) (b := n22) (As := []) hq cl_X7_25 (fun x h1 hc => c_X1_init l n22 h x h1 hc) ⟨⟨rfl, rfl⟩, (by decide), (by decide)⟩ rfl rfl (by first | decide | (simp only [List.map_cons, List.map_nil, rf_cat, ct_int, ct_ref, List.sum_cons, List.sum_nil] <;> decide)) dX7_init_26 (by decide) (fun u26 h H locs hq hR hS => ?_)
  refine xasn hx hb hl (x := (some n22)) (lv' := [(3, va_rf (some n22)), (2, va_rf (some n4)), (0, va_rf (some this)), (1, .int a0)]) (by decide) dX7_init_29 rfl (fun ls hl => ?_)
  refine xnO Z hR hS hq nl_X7_26 (by decide) (by decide) dX7_init_30 (fun n30 h H hq hR hS => ?_)
  refine lv_dup hx hb dX7_init_33 (rf_cat (some n30)) ?_
  refine xaln hx hb hl (x := (some n4)) 1 rfl dX7_init_34 ?_
  refine xaln hx hb hl (x := (some n22)) 0 rfl dX7_init_35 ?_
  refine xcI Z hR hS hl (rest := [va_rf (some n30)]) (b := n30) (As := [va_rf (some n4), va_rf (some n22)]) hq cl_X7_28 (fun x h1 hc => c_X4_init l n30 (some n4) (some n22) h x h1 hc) ⟨⟨rfl, rfl⟩, (by decide), (by decide)⟩ rfl rfl (by first | decide | (simp only [List.map_cons, List.map_nil, rf_cat, ct_int, ct_ref, List.sum_cons, List.sum_nil] <;> decide)) dX7_init_36 (by decide) (fun u36 h H locs hq hR hS => ?_)
  refine xas hx hb hl (x := (some n30)) (lv' := [(4, va_rf (some n30)), (3, va_rf (some n22)), (2, va_rf (some n4)), (0, va_rf (some this)), (1, .int a0)]) (by decide) dX7_init_39 rfl (fun ls hl => ?_)
  refine xaln hx hb hl (x := (some this)) 3 rfl dX7_init_41 ?_
  refine xaln hx hb hl (x := (some n4)) 2 rfl dX7_init_42 ?_
  refine xpR Z hR hS hq fl_X7_31 rfl (Or.inr ⟨if_X7_8_0, hin⟩) dX7_init_43 (fun h H locs hq hR hS => ?_)
  refine xaln hx hb hl (x := (some this)) 3 rfl dX7_init_46 ?_
  refine xaln hx hb hl (x := (some n22)) 1 rfl dX7_init_47 ?_
  refine xpR Z hR hS hq fl_X7_35 rfl (Or.inr ⟨if_X7_8_1, hin⟩) dX7_init_48 (fun h H locs hq hR hS => ?_)
  refine xaln hx hb hl (x := (some this)) 3 rfl dX7_init_51 ?_
  refine xal hx hb hl (x := (some n30)) 0 rfl dX7_init_52 ?_
  refine xpR Z hR hS hq fl_X7_39 rfl (Or.inr ⟨if_X7_8_2, hin⟩) dX7_init_54 (fun h H locs hq hR hS => ?_)
  refine xaln hx hb hl (x := (some this)) 3 rfl dX7_init_57 ?_
  refine xnO Z hR hS hq nl_X7_43 (by decide) (by decide) dX7_init_58 (fun n58 h H hq hR hS => ?_)
  refine lv_dup hx hb dX7_init_61 (rf_cat (some n58)) ?_
  refine xaln hx hb hl (x := (some n22)) 1 rfl dX7_init_62 ?_
  refine xal hx hb hl (x := (some n30)) 0 rfl dX7_init_63 ?_
  refine xcI Z hR hS hl (rest := [va_rf (some n58), va_rf (some this)]) (b := n58) (As := [va_rf (some n22), va_rf (some n30)]) hq cl_X7_45 (fun x h1 hc => c_X5_init l n58 (some n22) (some n30) h x h1 hc) ⟨⟨rfl, rfl⟩, (by decide), (by decide)⟩ rfl rfl (by first | decide | (simp only [List.map_cons, List.map_nil, rf_cat, ct_int, ct_ref, List.sum_cons, List.sum_nil] <;> decide)) dX7_init_65 (by decide) (fun u65 h H locs hq hR hS => ?_)
  refine xpR Z hR hS hq fl_X7_48 rfl (Or.inr ⟨if_X7_8_3, hin⟩) dX7_init_68 (fun h H locs hq hR hS => ?_)
  refine xaln hx hb hl (x := (some this)) 3 rfl dX7_init_71 ?_
  refine xnO Z hR hS hq nl_X7_52 (by decide) (by decide) dX7_init_72 (fun n72 h H hq hR hS => ?_)
  refine lv_dup hx hb dX7_init_75 (rf_cat (some n72)) ?_
  refine xaln hx hb hl (x := (some n4)) 2 rfl dX7_init_76 ?_
  refine xaln hx hb hl (x := (some n22)) 1 rfl dX7_init_77 ?_
  refine xcI Z hR hS hl (rest := [va_rf (some n72), va_rf (some this)]) (b := n72) (As := [va_rf (some n4), va_rf (some n22)]) hq cl_X7_54 (fun x h1 hc => c_X2_init l n72 (some n4) (some n22) h x h1 hc) ⟨⟨rfl, rfl⟩, (by decide), (by decide)⟩ rfl rfl (by first | decide | (simp only [List.map_cons, List.map_nil, rf_cat, ct_int, ct_ref, List.sum_cons, List.sum_nil] <;> decide)) dX7_init_78 (by decide) (fun u78 h H locs hq hR hS => ?_)
  refine xpR Z hR hS hq fl_X7_55 rfl (Or.inr ⟨if_X7_8_4, hin⟩) dX7_init_81 (fun h H locs hq hR hS => ?_)
  refine xaln hx hb hl (x := (some this)) 3 rfl dX7_init_84 ?_
  refine xnO Z hR hS hq nl_X7_59 (by decide) (by decide) dX7_init_85 (fun n85 h H hq hR hS => ?_)
  refine lv_dup hx hb dX7_init_88 (rf_cat (some n85)) ?_
  refine xaln hx hb hl (x := (some n4)) 2 rfl dX7_init_89 ?_
  refine xaln hx hb hl (x := (some n22)) 1 rfl dX7_init_90 ?_
  refine xcI Z hR hS hl (rest := [va_rf (some n85), va_rf (some this)]) (b := n85) (As := [va_rf (some n4), va_rf (some n22)]) hq cl_X7_61 (fun x h1 hc => c_X6_init l n85 (some n4) (some n22) h x h1 hc) ⟨⟨rfl, rfl⟩, (by decide), (by decide)⟩ rfl rfl (by first | decide | (simp only [List.map_cons, List.map_nil, rf_cat, ct_int, ct_ref, List.sum_cons, List.sum_nil] <;> decide)) dX7_init_91 (by decide) (fun u91 h H locs hq hR hS => ?_)
  refine xpR Z hR hS hq fl_X7_62 rfl (Or.inr ⟨if_X7_8_5, hin⟩) dX7_init_94 (fun h H locs hq hR hS => ?_)
  exact xrV hx hb hr hlk hR hS hq (by decide) (by decide) dX7_init_97
abbrev rm_X7_isWithin : Room := { frames := 0, cells := 0, slots := 0, locals := 0 }
def f_X7_isWithin_15  (s0 : Int32) (h : Hp) : Option (Int32 × Hp) :=
rtZ s0 h
set_option maxHeartbeats 4000000 in
set_option maxRecDepth 100000 in
theorem t_X7_isWithin_15 (Z : ZZ p s m args c cX7_isWithin RX7 3 G) (hr : meth.sig.returnType = (some .boolean)) (hlk : meth.locks = false) (hin : meth.name = "isWithin") {v : Int32} {h1 : Hp} : ∀ (s0 : Int32) (h : Hp) (H : Heap) (locs : List Loc) (ls : Array Slot), f_X7_isWithin_15 s0 h = some (v, h1) → Rep G h H → va_S (AA G) s.heap H locs → LV ls 3 [] → W p l e rm_X7_isWithin s m args below meth c H locs 0 0 (MQ below (Qx G (some (.int v)) h1) args s 0 0 (AA G)) (F0 m 15 ls [.int s0]) := by
  intro s0 h H locs ls hq hR hS hl
  have hx := Z.1
  have hb := Z.2.1
  unfold f_X7_isWithin_15 at hq
  exact xrZ hx hb hr hlk hR hS hq (by decide) (by decide) dX7_isWithin_15
def f_X7_isWithin_14   (h : Hp) : Option (Int32 × Hp) :=
f_X7_isWithin_15 0 h
set_option maxHeartbeats 4000000 in
set_option maxRecDepth 100000 in
theorem t_X7_isWithin_14 (Z : ZZ p s m args c cX7_isWithin RX7 3 G) (hr : meth.sig.returnType = (some .boolean)) (hlk : meth.locks = false) (hin : meth.name = "isWithin") {v : Int32} {h1 : Hp} : ∀  (h : Hp) (H : Heap) (locs : List Loc) (ls : Array Slot), f_X7_isWithin_14  h = some (v, h1) → Rep G h H → va_S (AA G) s.heap H locs → LV ls 3 [] → W p l e rm_X7_isWithin s m args below meth c H locs 0 0 (MQ below (Qx G (some (.int v)) h1) args s 0 0 (AA G)) (F0 m 14 ls []) := by
  intro  h H locs ls hq hR hS hl
  have hx := Z.1
  have hb := Z.2.1
  unfold f_X7_isWithin_14 at hq
  refine lv_iconst (v := 0) hx hb dX7_isWithin_14 (by decide) ?_
  exact t_X7_isWithin_15 Z hr hlk hin 0 h H locs ls hq hR hS (hl.sub [] rfl)
def f_X7_isWithin (a0 : Int32) (a1 : Int32) (a2 : Int32) (h : Hp) : Option (Int32 × Hp) :=
(if a0 < a1 then
f_X7_isWithin_14  h
else
(if a2 < a0 then
f_X7_isWithin_14  h
else
f_X7_isWithin_15 1 h))
set_option maxHeartbeats 4000000 in
set_option maxRecDepth 100000 in
theorem c_X7_isWithin (l : Launch) {G : GG} (a0 : Int32) (a1 : Int32) (a2 : Int32) (h : Hp) (v : Int32) (h1 : Hp) (hq : f_X7_isWithin a0 a1 a2 h = some (v, h1)) : Met l yX7_isWithin (Cond.code yX7_isWithin cX7_isWithin 3 (some .boolean) :: GT) rm_X7_isWithin (va_Pc [.int a0, .int a1, .int a2] (Cn G h)) (Qx G (some (.int v)) h1) 0 0 (AA G) := by
  refine xMet (cc := cX7_isWithin) (by decide) (Nat.le_of_ble_eq_true rfl) (List.forall_mem_cons.mpr ⟨rfl, (List.forall_mem_cons.mpr ⟨rfl, (List.forall_mem_cons.mpr ⟨rfl, (fun _ z => by cases z)⟩)⟩)⟩) ?_
  intro p e s m below meth c ls Z hr hlk hin hR hS hl
  have hx := Z.1
  have hb := Z.2.1
  have hl : LV ls 3 [(0, .int a0), (1, .int a1), (2, .int a2)] := hl
  unfold f_X7_isWithin at hq
  refine xiln hx hb hl (x := a0) 0 rfl dX7_isWithin_0 ?_
  refine xiln hx hb hl (x := a1) 1 rfl dX7_isWithin_1 ?_
  refine xcLt hx hb hq (tgt := 14) dX7_isWithin_2 (by decide) (fun hq => ?_) (fun hq => ?_)
  · exact t_X7_isWithin_14 Z hr hlk hin  h _ _ ls hq hR hS (hl.sub [] rfl)
  refine xiln hx hb hl (x := a0) 0 rfl dX7_isWithin_5 ?_
  refine xiln hx hb hl (x := a2) 2 rfl dX7_isWithin_6 ?_
  refine xcGt hx hb hq (tgt := 14) dX7_isWithin_7 (by decide) (fun hq => ?_) (fun hq => ?_)
  · exact t_X7_isWithin_14 Z hr hlk hin  h _ _ ls hq hR hS (hl.sub [] rfl)
  refine lv_iconst (v := 1) hx hb dX7_isWithin_10 (by decide) ?_
  refine lv_goto (tgt := 15) hx hb dX7_isWithin_11 (by decide) ?_
  exact t_X7_isWithin_15 Z hr hlk hin 1 h _ _ ls hq hR hS (hl.sub [] rfl)
abbrev rm_X7_section : Room := { frames := 4, cells := 0, slots := 0, locals := 86 }
def f_X7_section_32   (h : Hp) : Option (Int32 × Hp) :=
rtZ 0 h
set_option maxHeartbeats 4000000 in
set_option maxRecDepth 100000 in
theorem t_X7_section_32 (Z : ZZ p s m args c cX7_section RX7 5 G) (hr : meth.sig.returnType = (some .boolean)) (hlk : meth.locks = false) (hin : meth.name = "section") {v : Int32} {h1 : Hp} : ∀  (h : Hp) (H : Heap) (locs : List Loc) (ls : Array Slot), f_X7_section_32  h = some (v, h1) → Rep G h H → va_S (AA G) s.heap H locs → LV ls 5 [] → W p l e rm_X7_section s m args below meth c H locs 0 0 (MQ below (Qx G (some (.int v)) h1) args s 0 0 (AA G)) (F0 m 32 ls []) := by
  intro  h H locs ls hq hR hS hl
  have hx := Z.1
  have hb := Z.2.1
  unfold f_X7_section_32 at hq
  refine lv_iconst (v := 0) hx hb dX7_section_32 (by decide) ?_
  exact xrZ hx hb hr hlk hR hS hq (by decide) (by decide) dX7_section_33
def f_X7_section (this : Nat) (a0 : Int32) (a1 : Int32) (a2 : Int32) (a3 : Int32) (h : Hp) : Option (Int32 × Hp) :=
gR h (some this) 8 0 (fun x1 =>
rcv h x1 4 (fun b5 => bd (f_X3_hasSection b5 a0 h) (fun x5 h =>
(if x5 = 0 then
f_X7_section_32  h
else
bd (f_X7_isWithin a2 1 30 h) (fun x15 h =>
(if x15 = 0 then
f_X7_section_32  h
else
bd (f_X7_isWithin a3 1 30 h) (fun x26 h =>
(if x26 = 0 then
f_X7_section_32  h
else
gR h (some this) 8 1 (fun x35 =>
rcv h x35 2 (fun b38 => bd (f_X1_pathsGiven b38 h) (fun x38 h =>
(if x38 ≤ 0 then
gR h (some this) 8 0 (fun x47 =>
rcv h x47 4 (fun b55 => bd (f_X3_setSection b55 a0 a1 a2 a3 h) (fun u55 h =>
gR h (some this) 8 5 (fun x59 =>
rcv h x59 7 (fun b62 => bd (f_X6_forget b62 h) (fun u62 h =>
rtZ 1 h))))))
else
rtZ 0 h))))))))))))
set_option maxHeartbeats 4000000 in
set_option maxRecDepth 100000 in
theorem c_X7_section (l : Launch) {G : GG} (this : Nat) (a0 : Int32) (a1 : Int32) (a2 : Int32) (a3 : Int32) (h : Hp) (v : Int32) (h1 : Hp) (hq : f_X7_section this a0 a1 a2 a3 h = some (v, h1)) : Met l yX7_section (Cond.code yX7_section cX7_section 5 (some .boolean) :: GT) rm_X7_section (va_Pc [.ref this, .int a0, .int a1, .int a2, .int a3] (Cn G h)) (Qx G (some (.int v)) h1) 0 0 (AA G) := by
  refine xMet (cc := cX7_section) (by decide) (Nat.le_of_ble_eq_true rfl) (List.forall_mem_cons.mpr ⟨rfl, (List.forall_mem_cons.mpr ⟨rfl, (List.forall_mem_cons.mpr ⟨rfl, (List.forall_mem_cons.mpr ⟨rfl, (List.forall_mem_cons.mpr ⟨rfl, (fun _ z => by cases z)⟩)⟩)⟩)⟩)⟩) ?_
  intro p e s m below meth c ls Z hr hlk hin hR hS hl
  have hx := Z.1
  have hb := Z.2.1
  have hl : LV ls 5 [(0, va_rf (some this)), (1, .int a0), (2, .int a1), (3, .int a2), (4, .int a3)] := hl
  unfold f_X7_section at hq
  refine xaln hx hb hl (x := (some this)) 0 rfl dX7_section_0 ?_
  refine xgR Z hR hq fl_X7_31 rfl dX7_section_1 (fun x1 hq => ?_)
  refine xiln hx hb hl (x := a0) 1 rfl dX7_section_4 ?_
  refine xcV Z hR hS hl (rest := []) (As := [.int a0]) hq cl_X7_66 (fun b x h1 hc => c_X3_hasSection l b a0 h x h1 hc) ⟨⟨rfl, rfl⟩, (by decide), (by decide)⟩ rfl rfl (by first | decide | (simp only [List.map_cons, List.map_nil, rf_cat, ct_int, ct_ref, List.sum_cons, List.sum_nil] <;> decide)) dX7_section_5 (by decide) (fun x5 h H locs hq hR hS => ?_)
  refine xzEq hx hb hq (tgt := 32) dX7_section_8 (by decide) (fun hq => ?_) (fun hq => ?_)
  · exact t_X7_section_32 Z hr hlk hin  h _ _ ls hq hR hS (hl.sub [] rfl)
  refine xiln hx hb hl (x := a2) 3 rfl dX7_section_11 ?_
  refine lv_iconst (v := 1) hx hb dX7_section_12 (by decide) ?_
  refine lv_bipush (v := 30) hx hb dX7_section_13 (by decide) ?_
  refine xcS Z hR hS hl (rest := []) (As := [.int a2, .int 1, .int 30]) hq cl_X7_70 (fun x h1 hc => c_X7_isWithin l a2 1 30 h x h1 hc) ⟨⟨rfl, rfl⟩, (by decide), (by decide)⟩ rfl rfl (by first | decide | (simp only [List.map_cons, List.map_nil, rf_cat, ct_int, ct_ref, List.sum_cons, List.sum_nil] <;> decide)) dX7_section_15 (by decide) (fun x15 h H locs hq hR hS => ?_)
  refine xzEq hx hb hq (tgt := 32) dX7_section_18 (by decide) (fun hq => ?_) (fun hq => ?_)
  · exact t_X7_section_32 Z hr hlk hin  h _ _ ls hq hR hS (hl.sub [] rfl)
  refine xil hx hb hl (x := a3) 4 rfl dX7_section_21 ?_
  refine lv_iconst (v := 1) hx hb dX7_section_23 (by decide) ?_
  refine lv_bipush (v := 30) hx hb dX7_section_24 (by decide) ?_
  refine xcS Z hR hS hl (rest := []) (As := [.int a3, .int 1, .int 30]) hq cl_X7_70 (fun x h1 hc => c_X7_isWithin l a3 1 30 h x h1 hc) ⟨⟨rfl, rfl⟩, (by decide), (by decide)⟩ rfl rfl (by first | decide | (simp only [List.map_cons, List.map_nil, rf_cat, ct_int, ct_ref, List.sum_cons, List.sum_nil] <;> decide)) dX7_section_26 (by decide) (fun x26 h H locs hq hR hS => ?_)
  refine xzNe hx hb hq (tgt := 34) dX7_section_29 (by decide) (fun hq => ?_) (fun hq => ?_)
  · refine xaln hx hb hl (x := (some this)) 0 rfl dX7_section_34 ?_
    refine xgR Z hR hq fl_X7_35 rfl dX7_section_35 (fun x35 hq => ?_)
    refine xcV Z hR hS hl (rest := []) (As := []) hq cl_X7_74 (fun b x h1 hc => c_X1_pathsGiven l b h x h1 hc) ⟨⟨rfl, rfl⟩, (by decide), (by decide)⟩ rfl rfl (by first | decide | (simp only [List.map_cons, List.map_nil, rf_cat, ct_int, ct_ref, List.sum_cons, List.sum_nil] <;> decide)) dX7_section_38 (by decide) (fun x38 h H locs hq hR hS => ?_)
    refine xzLe hx hb hq (tgt := 46) dX7_section_41 (by decide) (fun hq => ?_) (fun hq => ?_)
    · refine xaln hx hb hl (x := (some this)) 0 rfl dX7_section_46 ?_
      refine xgR Z hR hq fl_X7_31 rfl dX7_section_47 (fun x47 hq => ?_)
      refine xiln hx hb hl (x := a0) 1 rfl dX7_section_50 ?_
      refine xiln hx hb hl (x := a1) 2 rfl dX7_section_51 ?_
      refine xiln hx hb hl (x := a2) 3 rfl dX7_section_52 ?_
      refine xil hx hb hl (x := a3) 4 rfl dX7_section_53 ?_
      refine xcV Z hR hS hl (rest := []) (As := [.int a0, .int a1, .int a2, .int a3]) hq cl_X7_78 (fun b x h1 hc => c_X3_setSection l b a0 a1 a2 a3 h x h1 hc) ⟨⟨rfl, rfl⟩, (by decide), (by decide)⟩ rfl rfl (by first | decide | (simp only [List.map_cons, List.map_nil, rf_cat, ct_int, ct_ref, List.sum_cons, List.sum_nil] <;> decide)) dX7_section_55 (by decide) (fun u55 h H locs hq hR hS => ?_)
      refine xaln hx hb hl (x := (some this)) 0 rfl dX7_section_58 ?_
      refine xgR Z hR hq fl_X7_62 rfl dX7_section_59 (fun x59 hq => ?_)
      refine xcV Z hR hS hl (rest := []) (As := []) hq cl_X7_82 (fun b x h1 hc => c_X6_forget l b h x h1 hc) ⟨⟨rfl, rfl⟩, (by decide), (by decide)⟩ rfl rfl (by first | decide | (simp only [List.map_cons, List.map_nil, rf_cat, ct_int, ct_ref, List.sum_cons, List.sum_nil] <;> decide)) dX7_section_62 (by decide) (fun u62 h H locs hq hR hS => ?_)
      refine lv_iconst (v := 1) hx hb dX7_section_65 (by decide) ?_
      exact xrZ hx hb hr hlk hR hS hq (by decide) (by decide) dX7_section_66
    refine lv_iconst (v := 0) hx hb dX7_section_44 (by decide) ?_
    exact xrZ hx hb hr hlk hR hS hq (by decide) (by decide) dX7_section_45
  exact t_X7_section_32 Z hr hlk hin  h _ _ ls hq hR hS (hl.sub [] rfl)
abbrev rm_X7_tracks : Room := { frames := 1, cells := 0, slots := 0, locals := 22 }
def f_X7_tracks_21   (h : Hp) : Option (Int32 × Hp) :=
rtZ 0 h
set_option maxHeartbeats 4000000 in
set_option maxRecDepth 100000 in
theorem t_X7_tracks_21 (Z : ZZ p s m args c cX7_tracks RX7 3 G) (hr : meth.sig.returnType = (some .boolean)) (hlk : meth.locks = false) (hin : meth.name = "tracks") {v : Int32} {h1 : Hp} : ∀  (h : Hp) (H : Heap) (locs : List Loc) (ls : Array Slot), f_X7_tracks_21  h = some (v, h1) → Rep G h H → va_S (AA G) s.heap H locs → LV ls 3 [] → W p l e rm_X7_tracks s m args below meth c H locs 0 0 (MQ below (Qx G (some (.int v)) h1) args s 0 0 (AA G)) (F0 m 21 ls []) := by
  intro  h H locs ls hq hR hS hl
  have hx := Z.1
  have hb := Z.2.1
  unfold f_X7_tracks_21 at hq
  refine lv_iconst (v := 0) hx hb dX7_tracks_21 (by decide) ?_
  exact xrZ hx hb hr hlk hR hS hq (by decide) (by decide) dX7_tracks_22
def f_X7_tracks (this : Nat) (a0 : Int32) (a1 : Int32) (h : Hp) : Option (Int32 × Hp) :=
gR h (some this) 8 0 (fun x1 =>
rcv h x1 4 (fun b5 => bd (f_X3_hasStation b5 a0 h) (fun x5 h =>
(if x5 = 0 then
f_X7_tracks_21  h
else
bd (f_X7_isWithin a1 0 9 h) (fun x15 h =>
(if x15 = 0 then
f_X7_tracks_21  h
else
gR h (some this) 8 0 (fun x24 =>
gR h x24 4 4 (fun x27 =>
stI h x27 a0 a1 (fun h =>
rtZ 1 h)))))))))
set_option maxHeartbeats 4000000 in
set_option maxRecDepth 100000 in
theorem c_X7_tracks (l : Launch) {G : GG} (this : Nat) (a0 : Int32) (a1 : Int32) (h : Hp) (v : Int32) (h1 : Hp) (hq : f_X7_tracks this a0 a1 h = some (v, h1)) : Met l yX7_tracks (Cond.code yX7_tracks cX7_tracks 3 (some .boolean) :: GT) rm_X7_tracks (va_Pc [.ref this, .int a0, .int a1] (Cn G h)) (Qx G (some (.int v)) h1) 0 0 (AA G) := by
  refine xMet (cc := cX7_tracks) (by decide) (Nat.le_of_ble_eq_true rfl) (List.forall_mem_cons.mpr ⟨rfl, (List.forall_mem_cons.mpr ⟨rfl, (List.forall_mem_cons.mpr ⟨rfl, (fun _ z => by cases z)⟩)⟩)⟩) ?_
  intro p e s m below meth c ls Z hr hlk hin hR hS hl
  have hx := Z.1
  have hb := Z.2.1
  have hl : LV ls 3 [(0, va_rf (some this)), (1, .int a0), (2, .int a1)] := hl
  unfold f_X7_tracks at hq
  refine xaln hx hb hl (x := (some this)) 0 rfl dX7_tracks_0 ?_
  refine xgR Z hR hq fl_X7_31 rfl dX7_tracks_1 (fun x1 hq => ?_)
  refine xiln hx hb hl (x := a0) 1 rfl dX7_tracks_4 ?_
  refine xcV Z hR hS hl (rest := []) (As := [.int a0]) hq cl_X7_85 (fun b x h1 hc => c_X3_hasStation l b a0 h x h1 hc) ⟨⟨rfl, rfl⟩, (by decide), (by decide)⟩ rfl rfl (by first | decide | (simp only [List.map_cons, List.map_nil, rf_cat, ct_int, ct_ref, List.sum_cons, List.sum_nil] <;> decide)) dX7_tracks_5 (by decide) (fun x5 h H locs hq hR hS => ?_)
  refine xzEq hx hb hq (tgt := 21) dX7_tracks_8 (by decide) (fun hq => ?_) (fun hq => ?_)
  · exact t_X7_tracks_21 Z hr hlk hin  h _ _ ls hq hR hS (hl.sub [] rfl)
  refine xiln hx hb hl (x := a1) 2 rfl dX7_tracks_11 ?_
  refine lv_iconst (v := 0) hx hb dX7_tracks_12 (by decide) ?_
  refine lv_bipush (v := 9) hx hb dX7_tracks_13 (by decide) ?_
  refine xcS Z hR hS hl (rest := []) (As := [.int a1, .int 0, .int 9]) hq cl_X7_70 (fun x h1 hc => c_X7_isWithin l a1 0 9 h x h1 hc) ⟨⟨rfl, rfl⟩, (by decide), (by decide)⟩ rfl rfl (by first | decide | (simp only [List.map_cons, List.map_nil, rf_cat, ct_int, ct_ref, List.sum_cons, List.sum_nil] <;> decide)) dX7_tracks_15 (by decide) (fun x15 h H locs hq hR hS => ?_)
  refine xzNe hx hb hq (tgt := 23) dX7_tracks_18 (by decide) (fun hq => ?_) (fun hq => ?_)
  · refine xaln hx hb hl (x := (some this)) 0 rfl dX7_tracks_23 ?_
    refine xgR Z hR hq fl_X7_31 rfl dX7_tracks_24 (fun x24 hq => ?_)
    refine xgR Z hR hq fl_X7_88 rfl dX7_tracks_27 (fun x27 hq => ?_)
    refine xiln hx hb hl (x := a0) 1 rfl dX7_tracks_30 ?_
    refine xiln hx hb hl (x := a1) 2 rfl dX7_tracks_31 ?_
    refine xsI Z hR hS hq dX7_tracks_32 (fun h H locs hq hR hS => ?_)
    refine lv_iconst (v := 1) hx hb dX7_tracks_33 (by decide) ?_
    exact xrZ hx hb hr hlk hR hS hq (by decide) (by decide) dX7_tracks_34
  exact t_X7_tracks_21 Z hr hlk hin  h _ _ ls hq hR hS (hl.sub [] rfl)
abbrev rm_X7_headway : Room := { frames := 1, cells := 0, slots := 0, locals := 22 }
def f_X7_headway (this : Nat) (a0 : Int32) (h : Hp) : Option (Int32 × Hp) :=
bd (f_X7_isWithin a0 0 9 h) (fun x4 h =>
(if x4 = 0 then
rtZ 0 h
else
gR h (some this) 8 0 (fun x13 =>
pI h x13 4 9 a0 (fun h =>
gR h (some this) 8 5 (fun x21 =>
rcv h x21 7 (fun b24 => bd (f_X6_forget b24 h) (fun u24 h =>
rtZ 1 h)))))))
set_option maxHeartbeats 4000000 in
set_option maxRecDepth 100000 in
theorem c_X7_headway (l : Launch) {G : GG} (this : Nat) (a0 : Int32) (h : Hp) (v : Int32) (h1 : Hp) (hq : f_X7_headway this a0 h = some (v, h1)) : Met l yX7_headway (Cond.code yX7_headway cX7_headway 2 (some .boolean) :: GT) rm_X7_headway (va_Pc [.ref this, .int a0] (Cn G h)) (Qx G (some (.int v)) h1) 0 0 (AA G) := by
  refine xMet (cc := cX7_headway) (by decide) (Nat.le_of_ble_eq_true rfl) (List.forall_mem_cons.mpr ⟨rfl, (List.forall_mem_cons.mpr ⟨rfl, (fun _ z => by cases z)⟩)⟩) ?_
  intro p e s m below meth c ls Z hr hlk hin hR hS hl
  have hx := Z.1
  have hb := Z.2.1
  have hl : LV ls 2 [(0, va_rf (some this)), (1, .int a0)] := hl
  unfold f_X7_headway at hq
  refine xiln hx hb hl (x := a0) 1 rfl dX7_headway_0 ?_
  refine lv_iconst (v := 0) hx hb dX7_headway_1 (by decide) ?_
  refine lv_bipush (v := 9) hx hb dX7_headway_2 (by decide) ?_
  refine xcS Z hR hS hl (rest := []) (As := [.int a0, .int 0, .int 9]) hq cl_X7_70 (fun x h1 hc => c_X7_isWithin l a0 0 9 h x h1 hc) ⟨⟨rfl, rfl⟩, (by decide), (by decide)⟩ rfl rfl (by first | decide | (simp only [List.map_cons, List.map_nil, rf_cat, ct_int, ct_ref, List.sum_cons, List.sum_nil] <;> decide)) dX7_headway_4 (by decide) (fun x4 h H locs hq hR hS => ?_)
  refine xzNe hx hb hq (tgt := 12) dX7_headway_7 (by decide) (fun hq => ?_) (fun hq => ?_)
  · refine xaln hx hb hl (x := (some this)) 0 rfl dX7_headway_12 ?_
    refine xgR Z hR hq fl_X7_31 rfl dX7_headway_13 (fun x13 hq => ?_)
    refine xiln hx hb hl (x := a0) 1 rfl dX7_headway_16 ?_
    refine xpI Z hR hS hq fl_X7_92 rfl (Or.inl nf_4_9) dX7_headway_17 (fun h H locs hq hR hS => ?_)
    refine xaln hx hb hl (x := (some this)) 0 rfl dX7_headway_20 ?_
    refine xgR Z hR hq fl_X7_62 rfl dX7_headway_21 (fun x21 hq => ?_)
    refine xcV Z hR hS hl (rest := []) (As := []) hq cl_X7_82 (fun b x h1 hc => c_X6_forget l b h x h1 hc) ⟨⟨rfl, rfl⟩, (by decide), (by decide)⟩ rfl rfl (by first | decide | (simp only [List.map_cons, List.map_nil, rf_cat, ct_int, ct_ref, List.sum_cons, List.sum_nil] <;> decide)) dX7_headway_24 (by decide) (fun u24 h H locs hq hR hS => ?_)
    refine lv_iconst (v := 1) hx hb dX7_headway_27 (by decide) ?_
    exact xrZ hx hb hr hlk hR hS hq (by decide) (by decide) dX7_headway_28
  refine lv_iconst (v := 0) hx hb dX7_headway_10 (by decide) ?_
  exact xrZ hx hb hr hlk hR hS hq (by decide) (by decide) dX7_headway_11
abbrev rm_X7_works : Room := { frames := 1, cells := 0, slots := 0, locals := 23 }
def f_X7_works_39   (h : Hp) : Option (Int32 × Hp) :=
rtZ 0 h
set_option maxHeartbeats 4000000 in
set_option maxRecDepth 100000 in
theorem t_X7_works_39 (Z : ZZ p s m args c cX7_works RX7 4 G) (hr : meth.sig.returnType = (some .boolean)) (hlk : meth.locks = false) (hin : meth.name = "works") {v : Int32} {h1 : Hp} : ∀  (h : Hp) (H : Heap) (locs : List Loc) (ls : Array Slot), f_X7_works_39  h = some (v, h1) → Rep G h H → va_S (AA G) s.heap H locs → LV ls 4 [] → W p l e rm_X7_works s m args below meth c H locs 0 0 (MQ below (Qx G (some (.int v)) h1) args s 0 0 (AA G)) (F0 m 39 ls []) := by
  intro  h H locs ls hq hR hS hl
  have hx := Z.1
  have hb := Z.2.1
  unfold f_X7_works_39 at hq
  refine lv_iconst (v := 0) hx hb dX7_works_39 (by decide) ?_
  exact xrZ hx hb hr hlk hR hS hq (by decide) (by decide) dX7_works_40
def f_X7_works (this : Nat) (a0 : Int32) (a1 : Int32) (a2 : Int32) (h : Hp) : Option (Int32 × Hp) :=
gR h (some this) 8 0 (fun x1 =>
rcv h x1 4 (fun b5 => bd (f_X3_hasSection b5 a0 h) (fun x5 h =>
(if x5 = 0 then
f_X7_works_39  h
else
(if a1 < 0 then
f_X7_works_39  h
else
(if 480 < a2 then
f_X7_works_39  h
else
(if a2 ≤ a1 then
f_X7_works_39  h
else
gR h (some this) 8 0 (fun x28 =>
gI h x28 4 8 (fun x31 =>
(if x31 < 10 then
gR h (some this) 8 0 (fun x42 =>
rcv h x42 4 (fun b48 => bd (f_X3_addWorks b48 a0 a1 a2 h) (fun u48 h =>
gR h (some this) 8 5 (fun x52 =>
rcv h x52 7 (fun b55 => bd (f_X6_forget b55 h) (fun u55 h =>
rtZ 1 h))))))
else
f_X7_works_39  h))))))))))
set_option maxHeartbeats 4000000 in
set_option maxRecDepth 100000 in
theorem c_X7_works (l : Launch) {G : GG} (this : Nat) (a0 : Int32) (a1 : Int32) (a2 : Int32) (h : Hp) (v : Int32) (h1 : Hp) (hq : f_X7_works this a0 a1 a2 h = some (v, h1)) : Met l yX7_works (Cond.code yX7_works cX7_works 4 (some .boolean) :: GT) rm_X7_works (va_Pc [.ref this, .int a0, .int a1, .int a2] (Cn G h)) (Qx G (some (.int v)) h1) 0 0 (AA G) := by
  refine xMet (cc := cX7_works) (by decide) (Nat.le_of_ble_eq_true rfl) (List.forall_mem_cons.mpr ⟨rfl, (List.forall_mem_cons.mpr ⟨rfl, (List.forall_mem_cons.mpr ⟨rfl, (List.forall_mem_cons.mpr ⟨rfl, (fun _ z => by cases z)⟩)⟩)⟩)⟩) ?_
  intro p e s m below meth c ls Z hr hlk hin hR hS hl
  have hx := Z.1
  have hb := Z.2.1
  have hl : LV ls 4 [(0, va_rf (some this)), (1, .int a0), (2, .int a1), (3, .int a2)] := hl
  unfold f_X7_works at hq
  refine xaln hx hb hl (x := (some this)) 0 rfl dX7_works_0 ?_
  refine xgR Z hR hq fl_X7_31 rfl dX7_works_1 (fun x1 hq => ?_)
  refine xiln hx hb hl (x := a0) 1 rfl dX7_works_4 ?_
  refine xcV Z hR hS hl (rest := []) (As := [.int a0]) hq cl_X7_66 (fun b x h1 hc => c_X3_hasSection l b a0 h x h1 hc) ⟨⟨rfl, rfl⟩, (by decide), (by decide)⟩ rfl rfl (by first | decide | (simp only [List.map_cons, List.map_nil, rf_cat, ct_int, ct_ref, List.sum_cons, List.sum_nil] <;> decide)) dX7_works_5 (by decide) (fun x5 h H locs hq hR hS => ?_)
  refine xzEq hx hb hq (tgt := 39) dX7_works_8 (by decide) (fun hq => ?_) (fun hq => ?_)
  · exact t_X7_works_39 Z hr hlk hin  h _ _ ls hq hR hS (hl.sub [] rfl)
  refine xiln hx hb hl (x := a1) 2 rfl dX7_works_11 ?_
  refine xzLt hx hb hq (tgt := 39) dX7_works_12 (by decide) (fun hq => ?_) (fun hq => ?_)
  · exact t_X7_works_39 Z hr hlk hin  h _ _ ls hq hR hS (hl.sub [] rfl)
  refine xiln hx hb hl (x := a2) 3 rfl dX7_works_15 ?_
  refine lv_sipush (v := 480) hx hb dX7_works_16 (by decide) ?_
  refine xcGt hx hb hq (tgt := 39) dX7_works_19 (by decide) (fun hq => ?_) (fun hq => ?_)
  · exact t_X7_works_39 Z hr hlk hin  h _ _ ls hq hR hS (hl.sub [] rfl)
  refine xiln hx hb hl (x := a2) 3 rfl dX7_works_22 ?_
  refine xiln hx hb hl (x := a1) 2 rfl dX7_works_23 ?_
  refine xcLe hx hb hq (tgt := 39) dX7_works_24 (by decide) (fun hq => ?_) (fun hq => ?_)
  · exact t_X7_works_39 Z hr hlk hin  h _ _ ls hq hR hS (hl.sub [] rfl)
  refine xaln hx hb hl (x := (some this)) 0 rfl dX7_works_27 ?_
  refine xgR Z hR hq fl_X7_31 rfl dX7_works_28 (fun x28 hq => ?_)
  refine xgI Z hR hq fl_X7_96 rfl dX7_works_31 (fun x31 hq => ?_)
  refine lv_bipush (v := 10) hx hb dX7_works_34 (by decide) ?_
  refine xcLt hx hb hq (tgt := 41) dX7_works_36 (by decide) (fun hq => ?_) (fun hq => ?_)
  · refine xaln hx hb hl (x := (some this)) 0 rfl dX7_works_41 ?_
    refine xgR Z hR hq fl_X7_31 rfl dX7_works_42 (fun x42 hq => ?_)
    refine xiln hx hb hl (x := a0) 1 rfl dX7_works_45 ?_
    refine xiln hx hb hl (x := a1) 2 rfl dX7_works_46 ?_
    refine xiln hx hb hl (x := a2) 3 rfl dX7_works_47 ?_
    refine xcV Z hR hS hl (rest := []) (As := [.int a0, .int a1, .int a2]) hq cl_X7_99 (fun b x h1 hc => c_X3_addWorks l b a0 a1 a2 h x h1 hc) ⟨⟨rfl, rfl⟩, (by decide), (by decide)⟩ rfl rfl (by first | decide | (simp only [List.map_cons, List.map_nil, rf_cat, ct_int, ct_ref, List.sum_cons, List.sum_nil] <;> decide)) dX7_works_48 (by decide) (fun u48 h H locs hq hR hS => ?_)
    refine xaln hx hb hl (x := (some this)) 0 rfl dX7_works_51 ?_
    refine xgR Z hR hq fl_X7_62 rfl dX7_works_52 (fun x52 hq => ?_)
    refine xcV Z hR hS hl (rest := []) (As := []) hq cl_X7_82 (fun b x h1 hc => c_X6_forget l b h x h1 hc) ⟨⟨rfl, rfl⟩, (by decide), (by decide)⟩ rfl rfl (by first | decide | (simp only [List.map_cons, List.map_nil, rf_cat, ct_int, ct_ref, List.sum_cons, List.sum_nil] <;> decide)) dX7_works_55 (by decide) (fun u55 h H locs hq hR hS => ?_)
    refine lv_iconst (v := 1) hx hb dX7_works_58 (by decide) ?_
    exact xrZ hx hb hr hlk hR hS hq (by decide) (by decide) dX7_works_59
  exact t_X7_works_39 Z hr hlk hin  h _ _ ls hq hR hS (hl.sub [] rfl)
abbrev rm_X7_bid : Room := { frames := 8, cells := 6, slots := 238, locals := 193 }
def f_X7_bid_34  (E : Nat × Nat)  (h : Hp) : Option (Int32 × Hp) :=
rtI (-1) h
set_option maxHeartbeats 4000000 in
set_option maxRecDepth 100000 in
theorem t_X7_bid_34 (Z : ZZ p s m args c cX7_bid RX7 6 G) (hr : meth.sig.returnType = (some .int)) (hlk : meth.locks = false) (hin : meth.name = "bid") {v : Int32} {h1 : Hp} : ∀  (h : Hp) (H : Heap) (locs : List Loc) (ls : Array Slot), f_X7_bid_34 G.1.2  h = some (v, h1) → Rep G h H → va_S (AA G) s.heap H locs → LV ls 6 [] → W p l e rm_X7_bid s m args below meth c H locs 0 0 (MQ below (Qx G (some (.int v)) h1) args s 6 238 (AA G)) (F0 m 34 ls []) := by
  intro  h H locs ls hq hR hS hl
  have hx := Z.1
  have hb := Z.2.1
  unfold f_X7_bid_34 at hq
  refine lv_iconst (v := (-1)) hx hb dX7_bid_34 (by decide) ?_
  exact xrI hx hb hr hlk hR hS hq (by decide) (by decide) dX7_bid_35
def f_X7_bid_57  (E : Nat × Nat)  (h : Hp) : Option (Int32 × Hp) :=
rtI (-1) h
set_option maxHeartbeats 4000000 in
set_option maxRecDepth 100000 in
theorem t_X7_bid_57 (Z : ZZ p s m args c cX7_bid RX7 6 G) (hr : meth.sig.returnType = (some .int)) (hlk : meth.locks = false) (hin : meth.name = "bid") {v : Int32} {h1 : Hp} : ∀  (h : Hp) (H : Heap) (locs : List Loc) (ls : Array Slot), f_X7_bid_57 G.1.2  h = some (v, h1) → Rep G h H → va_S (AA G) s.heap H locs → LV ls 6 [] → W p l e rm_X7_bid s m args below meth c H locs 0 0 (MQ below (Qx G (some (.int v)) h1) args s 6 238 (AA G)) (F0 m 57 ls []) := by
  intro  h H locs ls hq hR hS hl
  have hx := Z.1
  have hb := Z.2.1
  unfold f_X7_bid_57 at hq
  refine lv_iconst (v := (-1)) hx hb dX7_bid_57 (by decide) ?_
  exact xrI hx hb hr hlk hR hS hq (by decide) (by decide) dX7_bid_58
def f_X7_bid (E : Nat × Nat) (this : Nat) (a0 : Int32) (a1 : Int32) (a2 : Int32) (a3 : Int32) (h : Hp) : Option (Int32 × Hp) :=
gR h (some this) 8 1 (fun x1 =>
rcv h x1 2 (fun b4 => bd (f_X1_size b4 h) (fun x4 h =>
(if 16 ≤ x4 then
f_X7_bid_34 E  h
else
bd (f_X7_isWithin a2 0 1000 h) (fun x17 h =>
(if x17 = 0 then
f_X7_bid_34 E  h
else
bd (f_X7_isWithin a3 0 99 h) (fun x28 h =>
(if x28 = 0 then
f_X7_bid_34 E  h
else
gR h (some this) 8 0 (fun x38 =>
gI h x38 4 0 (fun x41 =>
bd (f_X0_isWhat a0 x41 h) (fun x44 h =>
(if x44 = 0 then
f_X7_bid_57 E  h
else
bd (f_X0_isWhen a1 h) (fun x51 h =>
(if x51 = 0 then
f_X7_bid_57 E  h
else
nwO h 1 (fun n59 h =>
gR h (some this) 8 1 (fun x64 =>
rcv h x64 2 (fun b67 => bd (f_X1_size b67 h) (fun x67 h =>
bd (f_X0_init n59 x67 a0 a1 a2 a3 h) (fun u75 h =>
gR h (some this) 8 1 (fun x81 =>
rcv h x81 2 (fun b86 => bd (f_X1_add E b86 (some n59) h) (fun u86 h =>
gR h (some this) 8 5 (fun x90 =>
rcv h x90 7 (fun b93 => bd (f_X6_forget b93 h) (fun u93 h =>
gI h (some n59) 1 0 (fun x98 =>
rtI x98 h))))))))))))))))))))))))))
set_option maxHeartbeats 4000000 in
set_option maxRecDepth 100000 in
theorem c_X7_bid (l : Launch) {G : GG} (this : Nat) (a0 : Int32) (a1 : Int32) (a2 : Int32) (a3 : Int32) (h : Hp) (v : Int32) (h1 : Hp) (hq : f_X7_bid G.1.2 this a0 a1 a2 a3 h = some (v, h1)) : Met l yX7_bid (Cond.code yX7_bid cX7_bid 6 (some .int) :: GT) rm_X7_bid (va_Pc [.ref this, .int a0, .int a1, .int a2, .int a3] (Cn G h)) (Qx G (some (.int v)) h1) 6 238 (AA G) := by
  refine xMet (cc := cX7_bid) (by decide) (Nat.le_of_ble_eq_true rfl) (List.forall_mem_cons.mpr ⟨rfl, (List.forall_mem_cons.mpr ⟨rfl, (List.forall_mem_cons.mpr ⟨rfl, (List.forall_mem_cons.mpr ⟨rfl, (List.forall_mem_cons.mpr ⟨rfl, (fun _ z => by cases z)⟩)⟩)⟩)⟩)⟩) ?_
  intro p e s m below meth c ls Z hr hlk hin hR hS hl
  have hx := Z.1
  have hb := Z.2.1
  have hl : LV ls 6 [(0, va_rf (some this)), (1, .int a0), (2, .int a1), (3, .int a2), (4, .int a3)] := hl
  unfold f_X7_bid at hq
  refine xaln hx hb hl (x := (some this)) 0 rfl dX7_bid_0 ?_
  refine xgR Z hR hq fl_X7_35 rfl dX7_bid_1 (fun x1 hq => ?_)
  refine xcV Z hR hS hl (rest := []) (As := []) hq cl_X7_103 (fun b x h1 hc => c_X1_size l b h x h1 hc) ⟨⟨rfl, rfl⟩, (by decide), (by decide)⟩ rfl rfl (by first | decide | (simp only [List.map_cons, List.map_nil, rf_cat, ct_int, ct_ref, List.sum_cons, List.sum_nil] <;> decide)) dX7_bid_4 (by decide) (fun x4 h H locs hq hR hS => ?_)
  refine lv_bipush (v := 16) hx hb dX7_bid_7 (by decide) ?_
  refine xcGe hx hb hq (tgt := 34) dX7_bid_9 (by decide) (fun hq => ?_) (fun hq => ?_)
  · exact t_X7_bid_34 Z hr hlk hin  h _ _ ls hq hR hS (hl.sub [] rfl)
  refine xiln hx hb hl (x := a2) 3 rfl dX7_bid_12 ?_
  refine lv_iconst (v := 0) hx hb dX7_bid_13 (by decide) ?_
  refine lv_sipush (v := 1000) hx hb dX7_bid_14 (by decide) ?_
  refine xcS Z hR hS hl (rest := []) (As := [.int a2, .int 0, .int 1000]) hq cl_X7_70 (fun x h1 hc => c_X7_isWithin l a2 0 1000 h x h1 hc) ⟨⟨rfl, rfl⟩, (by decide), (by decide)⟩ rfl rfl (by first | decide | (simp only [List.map_cons, List.map_nil, rf_cat, ct_int, ct_ref, List.sum_cons, List.sum_nil] <;> decide)) dX7_bid_17 (by decide) (fun x17 h H locs hq hR hS => ?_)
  refine xzEq hx hb hq (tgt := 34) dX7_bid_20 (by decide) (fun hq => ?_) (fun hq => ?_)
  · exact t_X7_bid_34 Z hr hlk hin  h _ _ ls hq hR hS (hl.sub [] rfl)
  refine xil hx hb hl (x := a3) 4 rfl dX7_bid_23 ?_
  refine lv_iconst (v := 0) hx hb dX7_bid_25 (by decide) ?_
  refine lv_bipush (v := 99) hx hb dX7_bid_26 (by decide) ?_
  refine xcS Z hR hS hl (rest := []) (As := [.int a3, .int 0, .int 99]) hq cl_X7_70 (fun x h1 hc => c_X7_isWithin l a3 0 99 h x h1 hc) ⟨⟨rfl, rfl⟩, (by decide), (by decide)⟩ rfl rfl (by first | decide | (simp only [List.map_cons, List.map_nil, rf_cat, ct_int, ct_ref, List.sum_cons, List.sum_nil] <;> decide)) dX7_bid_28 (by decide) (fun x28 h H locs hq hR hS => ?_)
  refine xzNe hx hb hq (tgt := 36) dX7_bid_31 (by decide) (fun hq => ?_) (fun hq => ?_)
  · refine xiln hx hb hl (x := a0) 1 rfl dX7_bid_36 ?_
    refine xaln hx hb hl (x := (some this)) 0 rfl dX7_bid_37 ?_
    refine xgR Z hR hq fl_X7_31 rfl dX7_bid_38 (fun x38 hq => ?_)
    refine xgI Z hR hq fl_X7_106 rfl dX7_bid_41 (fun x41 hq => ?_)
    refine xcS Z hR hS hl (rest := []) (As := [.int a0, .int x41]) hq cl_X7_109 (fun x h1 hc => c_X0_isWhat l a0 x41 h x h1 hc) ⟨⟨rfl, rfl⟩, (by decide), (by decide)⟩ rfl rfl (by first | decide | (simp only [List.map_cons, List.map_nil, rf_cat, ct_int, ct_ref, List.sum_cons, List.sum_nil] <;> decide)) dX7_bid_44 (by decide) (fun x44 h H locs hq hR hS => ?_)
    refine xzEq hx hb hq (tgt := 57) dX7_bid_47 (by decide) (fun hq => ?_) (fun hq => ?_)
    · exact t_X7_bid_57 Z hr hlk hin  h _ _ ls hq hR hS (hl.sub [] rfl)
    refine xiln hx hb hl (x := a1) 2 rfl dX7_bid_50 ?_
    refine xcS Z hR hS hl (rest := []) (As := [.int a1]) hq cl_X7_115 (fun x h1 hc => c_X0_isWhen l a1 h x h1 hc) ⟨⟨rfl, rfl⟩, (by decide), (by decide)⟩ rfl rfl (by first | decide | (simp only [List.map_cons, List.map_nil, rf_cat, ct_int, ct_ref, List.sum_cons, List.sum_nil] <;> decide)) dX7_bid_51 (by decide) (fun x51 h H locs hq hR hS => ?_)
    refine xzNe hx hb hq (tgt := 59) dX7_bid_54 (by decide) (fun hq => ?_) (fun hq => ?_)
    · refine xnO Z hR hS hq nl_X7_110 (by decide) (by decide) dX7_bid_59 (fun n59 h H hq hR hS => ?_)
      refine lv_dup hx hb dX7_bid_62 (rf_cat (some n59)) ?_
      refine xaln hx hb hl (x := (some this)) 0 rfl dX7_bid_63 ?_
      refine xgR Z hR hq fl_X7_35 rfl dX7_bid_64 (fun x64 hq => ?_)
      refine xcV Z hR hS hl (rest := [va_rf (some n59), va_rf (some n59)]) (As := []) hq cl_X7_103 (fun b x h1 hc => c_X1_size l b h x h1 hc) ⟨⟨rfl, rfl⟩, (by decide), (by decide)⟩ rfl rfl (by first | decide | (simp only [List.map_cons, List.map_nil, rf_cat, ct_int, ct_ref, List.sum_cons, List.sum_nil] <;> decide)) dX7_bid_67 (by decide) (fun x67 h H locs hq hR hS => ?_)
      refine xiln hx hb hl (x := a0) 1 rfl dX7_bid_70 ?_
      refine xiln hx hb hl (x := a1) 2 rfl dX7_bid_71 ?_
      refine xiln hx hb hl (x := a2) 3 rfl dX7_bid_72 ?_
      refine xil hx hb hl (x := a3) 4 rfl dX7_bid_73 ?_
      refine xcI Z hR hS hl (rest := [va_rf (some n59)]) (b := n59) (As := [.int x67, .int a0, .int a1, .int a2, .int a3]) hq cl_X7_118 (fun x h1 hc => c_X0_init l n59 x67 a0 a1 a2 a3 h x h1 hc) ⟨⟨rfl, rfl⟩, (by decide), (by decide)⟩ rfl rfl (by first | decide | (simp only [List.map_cons, List.map_nil, rf_cat, ct_int, ct_ref, List.sum_cons, List.sum_nil] <;> decide)) dX7_bid_75 (by decide) (fun u75 h H locs hq hR hS => ?_)
      refine xas hx hb hl (x := (some n59)) (lv' := [(5, va_rf (some n59)), (0, va_rf (some this)), (1, .int a0), (2, .int a1), (3, .int a2), (4, .int a3)]) (by decide) dX7_bid_78 rfl (fun ls hl => ?_)
      refine xaln hx hb hl (x := (some this)) 1 rfl dX7_bid_80 ?_
      refine xgR Z hR hq fl_X7_35 rfl dX7_bid_81 (fun x81 hq => ?_)
      refine xal hx hb hl (x := (some n59)) 0 rfl dX7_bid_84 ?_
      refine xcV Z hR hS hl (rest := []) (As := [va_rf (some n59)]) hq cl_X7_121 (fun b x h1 hc => c_X1_add l b (some n59) h x h1 hc) ⟨⟨rfl, rfl⟩, (by decide), (by decide)⟩ rfl rfl (by first | decide | (simp only [List.map_cons, List.map_nil, rf_cat, ct_int, ct_ref, List.sum_cons, List.sum_nil] <;> decide)) dX7_bid_86 (by decide) (fun u86 h H locs hq hR hS => ?_)
      refine xaln hx hb hl (x := (some this)) 1 rfl dX7_bid_89 ?_
      refine xgR Z hR hq fl_X7_62 rfl dX7_bid_90 (fun x90 hq => ?_)
      refine xcV Z hR hS hl (rest := []) (As := []) hq cl_X7_82 (fun b x h1 hc => c_X6_forget l b h x h1 hc) ⟨⟨rfl, rfl⟩, (by decide), (by decide)⟩ rfl rfl (by first | decide | (simp only [List.map_cons, List.map_nil, rf_cat, ct_int, ct_ref, List.sum_cons, List.sum_nil] <;> decide)) dX7_bid_93 (by decide) (fun u93 h H locs hq hR hS => ?_)
      refine xal hx hb hl (x := (some n59)) 0 rfl dX7_bid_96 ?_
      refine xgI Z hR hq fl_X7_125 rfl dX7_bid_98 (fun x98 hq => ?_)
      exact xrI hx hb hr hlk hR hS hq (by decide) (by decide) dX7_bid_101
    exact t_X7_bid_57 Z hr hlk hin  h _ _ ls hq hR hS (hl.sub [] rfl)
  exact t_X7_bid_34 Z hr hlk hin  h _ _ ls hq hR hS (hl.sub [] rfl)
abbrev rm_X7_link : Room := { frames := 4, cells := 0, slots := 0, locals := 85 }
def f_X7_link_50   (h : Hp) : Option (Int32 × Hp) :=
rtZ 0 h
set_option maxHeartbeats 4000000 in
set_option maxRecDepth 100000 in
theorem t_X7_link_50 (Z : ZZ p s m args c cX7_link RX7 5 G) (hr : meth.sig.returnType = (some .boolean)) (hlk : meth.locks = false) (hin : meth.name = "link") {v : Int32} {h1 : Hp} : ∀  (h : Hp) (H : Heap) (locs : List Loc) (ls : Array Slot), f_X7_link_50  h = some (v, h1) → Rep G h H → va_S (AA G) s.heap H locs → LV ls 5 [] → W p l e rm_X7_link s m args below meth c H locs 0 0 (MQ below (Qx G (some (.int v)) h1) args s 0 0 (AA G)) (F0 m 50 ls []) := by
  intro  h H locs ls hq hR hS hl
  have hx := Z.1
  have hb := Z.2.1
  unfold f_X7_link_50 at hq
  refine lv_iconst (v := 0) hx hb dX7_link_50 (by decide) ?_
  exact xrZ hx hb hr hlk hR hS hq (by decide) (by decide) dX7_link_51
def f_X7_link (this : Nat) (a0 : Int32) (a1 : Int32) (h : Hp) : Option (Int32 × Hp) :=
gR h (some this) 8 1 (fun x1 =>
rcv h x1 2 (fun b5 => bd (f_X1_at b5 a0 h) (fun x5 h =>
gR h (some this) 8 1 (fun x10 =>
rcv h x10 2 (fun b14 => bd (f_X1_at b14 a1 h) (fun x14 h =>
(if x5 = none then
f_X7_link_50  h
else
(if x14 = none then
f_X7_link_50  h
else
(if a0 = a1 then
f_X7_link_50  h
else
gI h x5 1 9 (fun x34 =>
(if x34 = (-1) then
gI h x14 1 9 (fun x43 =>
(if x43 = (-1) then
pI h x5 1 9 a1 (fun h =>
pI h x14 1 9 a0 (fun h =>
rtZ 1 h))
else
f_X7_link_50  h))
else
f_X7_link_50  h)))))))))))
set_option maxHeartbeats 4000000 in
set_option maxRecDepth 100000 in
theorem c_X7_link (l : Launch) {G : GG} (this : Nat) (a0 : Int32) (a1 : Int32) (h : Hp) (v : Int32) (h1 : Hp) (hq : f_X7_link this a0 a1 h = some (v, h1)) : Met l yX7_link (Cond.code yX7_link cX7_link 5 (some .boolean) :: GT) rm_X7_link (va_Pc [.ref this, .int a0, .int a1] (Cn G h)) (Qx G (some (.int v)) h1) 0 0 (AA G) := by
  refine xMet (cc := cX7_link) (by decide) (Nat.le_of_ble_eq_true rfl) (List.forall_mem_cons.mpr ⟨rfl, (List.forall_mem_cons.mpr ⟨rfl, (List.forall_mem_cons.mpr ⟨rfl, (fun _ z => by cases z)⟩)⟩)⟩) ?_
  intro p e s m below meth c ls Z hr hlk hin hR hS hl
  have hx := Z.1
  have hb := Z.2.1
  have hl : LV ls 5 [(0, va_rf (some this)), (1, .int a0), (2, .int a1)] := hl
  unfold f_X7_link at hq
  refine xaln hx hb hl (x := (some this)) 0 rfl dX7_link_0 ?_
  refine xgR Z hR hq fl_X7_35 rfl dX7_link_1 (fun x1 hq => ?_)
  refine xiln hx hb hl (x := a0) 1 rfl dX7_link_4 ?_
  refine xcV Z hR hS hl (rest := []) (As := [.int a0]) hq cl_X7_128 (fun b x h1 hc => c_X1_at l b a0 h x h1 hc) ⟨⟨rfl, rfl⟩, (by decide), (by decide)⟩ rfl rfl (by first | decide | (simp only [List.map_cons, List.map_nil, rf_cat, ct_int, ct_ref, List.sum_cons, List.sum_nil] <;> decide)) dX7_link_5 (by decide) (fun x5 h H locs hq hR hS => ?_)
  refine xasn hx hb hl (x := x5) (lv' := [(3, va_rf x5), (0, va_rf (some this)), (1, .int a0), (2, .int a1)]) (by decide) dX7_link_8 rfl (fun ls hl => ?_)
  refine xaln hx hb hl (x := (some this)) 1 rfl dX7_link_9 ?_
  refine xgR Z hR hq fl_X7_35 rfl dX7_link_10 (fun x10 hq => ?_)
  refine xiln hx hb hl (x := a1) 3 rfl dX7_link_13 ?_
  refine xcV Z hR hS hl (rest := []) (As := [.int a1]) hq cl_X7_128 (fun b x h1 hc => c_X1_at l b a1 h x h1 hc) ⟨⟨rfl, rfl⟩, (by decide), (by decide)⟩ rfl rfl (by first | decide | (simp only [List.map_cons, List.map_nil, rf_cat, ct_int, ct_ref, List.sum_cons, List.sum_nil] <;> decide)) dX7_link_14 (by decide) (fun x14 h H locs hq hR hS => ?_)
  refine xas hx hb hl (x := x14) (lv' := [(4, va_rf x14), (3, va_rf x5), (0, va_rf (some this)), (1, .int a0), (2, .int a1)]) (by decide) dX7_link_17 rfl (fun ls hl => ?_)
  refine xaln hx hb hl (x := x5) 1 rfl dX7_link_19 ?_
  refine xnul hx hb hq (tgt := 50) dX7_link_20 (by decide) (fun hq => ?_) (fun hq => ?_)
  · exact t_X7_link_50 Z hr hlk hin  h _ _ ls hq hR hS (hl.sub [] rfl)
  refine xal hx hb hl (x := x14) 0 rfl dX7_link_23 ?_
  refine xnul hx hb hq (tgt := 50) dX7_link_25 (by decide) (fun hq => ?_) (fun hq => ?_)
  · exact t_X7_link_50 Z hr hlk hin  h _ _ ls hq hR hS (hl.sub [] rfl)
  refine xiln hx hb hl (x := a0) 3 rfl dX7_link_28 ?_
  refine xiln hx hb hl (x := a1) 4 rfl dX7_link_29 ?_
  refine xcEq hx hb hq (tgt := 50) dX7_link_30 (by decide) (fun hq => ?_) (fun hq => ?_)
  · exact t_X7_link_50 Z hr hlk hin  h _ _ ls hq hR hS (hl.sub [] rfl)
  refine xaln hx hb hl (x := x5) 1 rfl dX7_link_33 ?_
  refine xgI Z hR hq fl_X7_132 rfl dX7_link_34 (fun x34 hq => ?_)
  refine lv_iconst (v := (-1)) hx hb dX7_link_37 (by decide) ?_
  refine xcNe hx hb hq (tgt := 50) dX7_link_38 (by decide) (fun hq => ?_) (fun hq => ?_)
  · exact t_X7_link_50 Z hr hlk hin  h _ _ ls hq hR hS (hl.sub [] rfl)
  refine xal hx hb hl (x := x14) 0 rfl dX7_link_41 ?_
  refine xgI Z hR hq fl_X7_132 rfl dX7_link_43 (fun x43 hq => ?_)
  refine lv_iconst (v := (-1)) hx hb dX7_link_46 (by decide) ?_
  refine xcEq hx hb hq (tgt := 52) dX7_link_47 (by decide) (fun hq => ?_) (fun hq => ?_)
  · refine xaln hx hb hl (x := x5) 1 rfl dX7_link_52 ?_
    refine xiln hx hb hl (x := a1) 4 rfl dX7_link_53 ?_
    refine xpI Z hR hS hq fl_X7_132 rfl (Or.inl nf_1_9) dX7_link_54 (fun h H locs hq hR hS => ?_)
    refine xal hx hb hl (x := x14) 0 rfl dX7_link_57 ?_
    refine xiln hx hb hl (x := a0) 3 rfl dX7_link_59 ?_
    refine xpI Z hR hS hq fl_X7_132 rfl (Or.inl nf_1_9) dX7_link_60 (fun h H locs hq hR hS => ?_)
    refine lv_iconst (v := 1) hx hb dX7_link_63 (by decide) ?_
    exact xrZ hx hb hr hlk hR hS hq (by decide) (by decide) dX7_link_64
  exact t_X7_link_50 Z hr hlk hin  h _ _ ls hq hR hS (hl.sub [] rfl)
abbrev rm_X7_find : Room := { frames := 5, cells := 0, slots := 0, locals := 116 }
def f_X7_find_25  (s0 : Int32) (h : Hp) : Option (Int32 × Hp) :=
rtI s0 h
set_option maxHeartbeats 4000000 in
set_option maxRecDepth 100000 in
theorem t_X7_find_25 (Z : ZZ p s m args c cX7_find RX7 3 G) (hr : meth.sig.returnType = (some .int)) (hlk : meth.locks = false) (hin : meth.name = "find") {v : Int32} {h1 : Hp} : ∀ (s0 : Int32) (h : Hp) (H : Heap) (locs : List Loc) (ls : Array Slot), f_X7_find_25 s0 h = some (v, h1) → Rep G h H → va_S (AA G) s.heap H locs → LV ls 3 [] → W p l e rm_X7_find s m args below meth c H locs 0 0 (MQ below (Qx G (some (.int v)) h1) args s 0 0 (AA G)) (F0 m 25 ls [.int s0]) := by
  intro s0 h H locs ls hq hR hS hl
  have hx := Z.1
  have hb := Z.2.1
  unfold f_X7_find_25 at hq
  exact xrI hx hb hr hlk hR hS hq (by decide) (by decide) dX7_find_25
def f_X7_find (this : Nat) (a0 : Int32) (h : Hp) : Option (Int32 × Hp) :=
gR h (some this) 8 1 (fun x1 =>
rcv h x1 2 (fun b5 => bd (f_X1_at b5 a0 h) (fun x5 h =>
(if x5 = none then
f_X7_find_25 (-1) h
else
gR h (some this) 8 2 (fun x18 =>
rcv h x18 5 (fun b22 => bd (f_X4_endFor b22 x5 h) (fun x22 h =>
f_X7_find_25 x22 h)))))))
set_option maxHeartbeats 4000000 in
set_option maxRecDepth 100000 in
theorem c_X7_find (l : Launch) {G : GG} (this : Nat) (a0 : Int32) (h : Hp) (v : Int32) (h1 : Hp) (hq : f_X7_find this a0 h = some (v, h1)) : Met l yX7_find (Cond.code yX7_find cX7_find 3 (some .int) :: GT) rm_X7_find (va_Pc [.ref this, .int a0] (Cn G h)) (Qx G (some (.int v)) h1) 0 0 (AA G) := by
  refine xMet (cc := cX7_find) (by decide) (Nat.le_of_ble_eq_true rfl) (List.forall_mem_cons.mpr ⟨rfl, (List.forall_mem_cons.mpr ⟨rfl, (fun _ z => by cases z)⟩)⟩) ?_
  intro p e s m below meth c ls Z hr hlk hin hR hS hl
  have hx := Z.1
  have hb := Z.2.1
  have hl : LV ls 3 [(0, va_rf (some this)), (1, .int a0)] := hl
  unfold f_X7_find at hq
  refine xaln hx hb hl (x := (some this)) 0 rfl dX7_find_0 ?_
  refine xgR Z hR hq fl_X7_35 rfl dX7_find_1 (fun x1 hq => ?_)
  refine xiln hx hb hl (x := a0) 1 rfl dX7_find_4 ?_
  refine xcV Z hR hS hl (rest := []) (As := [.int a0]) hq cl_X7_128 (fun b x h1 hc => c_X1_at l b a0 h x h1 hc) ⟨⟨rfl, rfl⟩, (by decide), (by decide)⟩ rfl rfl (by first | decide | (simp only [List.map_cons, List.map_nil, rf_cat, ct_int, ct_ref, List.sum_cons, List.sum_nil] <;> decide)) dX7_find_5 (by decide) (fun x5 h H locs hq hR hS => ?_)
  refine xasn hx hb hl (x := x5) (lv' := [(2, va_rf x5), (0, va_rf (some this)), (1, .int a0)]) (by decide) dX7_find_8 rfl (fun ls hl => ?_)
  refine xaln hx hb hl (x := x5) 0 rfl dX7_find_9 ?_
  refine xnon hx hb hq (tgt := 17) dX7_find_10 (by decide) (fun hq => ?_) (fun hq => ?_)
  · refine xaln hx hb hl (x := (some this)) 1 rfl dX7_find_17 ?_
    refine xgR Z hR hq fl_X7_39 rfl dX7_find_18 (fun x18 hq => ?_)
    refine xaln hx hb hl (x := x5) 0 rfl dX7_find_21 ?_
    refine xcV Z hR hS hl (rest := []) (As := [va_rf x5]) hq cl_X7_135 (fun b x h1 hc => c_X4_endFor l b x5 h x h1 hc) ⟨⟨rfl, rfl⟩, (by decide), (by decide)⟩ rfl rfl (by first | decide | (simp only [List.map_cons, List.map_nil, rf_cat, ct_int, ct_ref, List.sum_cons, List.sum_nil] <;> decide)) dX7_find_22 (by decide) (fun x22 h H locs hq hR hS => ?_)
    exact t_X7_find_25 Z hr hlk hin x22 h _ _ ls hq hR hS (hl.sub [] rfl)
  refine lv_iconst (v := (-1)) hx hb dX7_find_13 (by decide) ?_
  refine lv_goto (tgt := 25) hx hb dX7_find_14 (by decide) ?_
  exact t_X7_find_25 Z hr hlk hin (-1) h _ _ ls hq hR hS (hl.sub [] rfl)
abbrev rm_X7_give : Room := { frames := 5, cells := 0, slots := 0, locals := 116 }
def f_X7_give_25   (h : Hp) : Option (Int32 × Hp) :=
rtZ 0 h
set_option maxHeartbeats 4000000 in
set_option maxRecDepth 100000 in
theorem t_X7_give_25 (Z : ZZ p s m args c cX7_give RX7 3 G) (hr : meth.sig.returnType = (some .boolean)) (hlk : meth.locks = false) (hin : meth.name = "give") {v : Int32} {h1 : Hp} : ∀  (h : Hp) (H : Heap) (locs : List Loc) (ls : Array Slot), f_X7_give_25  h = some (v, h1) → Rep G h H → va_S (AA G) s.heap H locs → LV ls 3 [] → W p l e rm_X7_give s m args below meth c H locs 0 0 (MQ below (Qx G (some (.int v)) h1) args s 0 0 (AA G)) (F0 m 25 ls []) := by
  intro  h H locs ls hq hR hS hl
  have hx := Z.1
  have hb := Z.2.1
  unfold f_X7_give_25 at hq
  refine lv_iconst (v := 0) hx hb dX7_give_25 (by decide) ?_
  exact xrZ hx hb hr hlk hR hS hq (by decide) (by decide) dX7_give_26
def f_X7_give (this : Nat) (a0 : Int32) (h : Hp) : Option (Int32 × Hp) :=
gR h (some this) 8 1 (fun x1 =>
rcv h x1 2 (fun b5 => bd (f_X1_at b5 a0 h) (fun x5 h =>
(if x5 = none then
f_X7_give_25  h
else
gR h (some this) 8 2 (fun x14 =>
rcv h x14 5 (fun b18 => bd (f_X4_endFor b18 x5 h) (fun x18 h =>
(if x18 = (-1) then
f_X7_give_25  h
else
gR h (some this) 8 2 (fun x29 =>
gR h x29 5 5 (fun x32 =>
gR h (some this) 8 2 (fun x36 =>
gR h x36 5 6 (fun x39 =>
rcv h x5 1 (fun b42 => bd (f_X0_takePath b42 x32 x39 h) (fun u42 h =>
gR h (some this) 8 5 (fun x46 =>
rcv h x46 7 (fun b49 => bd (f_X6_forget b49 h) (fun u49 h =>
rtZ 1 h)))))))))))))))))
set_option maxHeartbeats 4000000 in
set_option maxRecDepth 100000 in
theorem c_X7_give (l : Launch) {G : GG} (this : Nat) (a0 : Int32) (h : Hp) (v : Int32) (h1 : Hp) (hq : f_X7_give this a0 h = some (v, h1)) : Met l yX7_give (Cond.code yX7_give cX7_give 3 (some .boolean) :: GT) rm_X7_give (va_Pc [.ref this, .int a0] (Cn G h)) (Qx G (some (.int v)) h1) 0 0 (AA G) := by
  refine xMet (cc := cX7_give) (by decide) (Nat.le_of_ble_eq_true rfl) (List.forall_mem_cons.mpr ⟨rfl, (List.forall_mem_cons.mpr ⟨rfl, (fun _ z => by cases z)⟩)⟩) ?_
  intro p e s m below meth c ls Z hr hlk hin hR hS hl
  have hx := Z.1
  have hb := Z.2.1
  have hl : LV ls 3 [(0, va_rf (some this)), (1, .int a0)] := hl
  unfold f_X7_give at hq
  refine xaln hx hb hl (x := (some this)) 0 rfl dX7_give_0 ?_
  refine xgR Z hR hq fl_X7_35 rfl dX7_give_1 (fun x1 hq => ?_)
  refine xiln hx hb hl (x := a0) 1 rfl dX7_give_4 ?_
  refine xcV Z hR hS hl (rest := []) (As := [.int a0]) hq cl_X7_128 (fun b x h1 hc => c_X1_at l b a0 h x h1 hc) ⟨⟨rfl, rfl⟩, (by decide), (by decide)⟩ rfl rfl (by first | decide | (simp only [List.map_cons, List.map_nil, rf_cat, ct_int, ct_ref, List.sum_cons, List.sum_nil] <;> decide)) dX7_give_5 (by decide) (fun x5 h H locs hq hR hS => ?_)
  refine xasn hx hb hl (x := x5) (lv' := [(2, va_rf x5), (0, va_rf (some this)), (1, .int a0)]) (by decide) dX7_give_8 rfl (fun ls hl => ?_)
  refine xaln hx hb hl (x := x5) 0 rfl dX7_give_9 ?_
  refine xnul hx hb hq (tgt := 25) dX7_give_10 (by decide) (fun hq => ?_) (fun hq => ?_)
  · exact t_X7_give_25 Z hr hlk hin  h _ _ ls hq hR hS (hl.sub [] rfl)
  refine xaln hx hb hl (x := (some this)) 1 rfl dX7_give_13 ?_
  refine xgR Z hR hq fl_X7_39 rfl dX7_give_14 (fun x14 hq => ?_)
  refine xaln hx hb hl (x := x5) 0 rfl dX7_give_17 ?_
  refine xcV Z hR hS hl (rest := []) (As := [va_rf x5]) hq cl_X7_135 (fun b x h1 hc => c_X4_endFor l b x5 h x h1 hc) ⟨⟨rfl, rfl⟩, (by decide), (by decide)⟩ rfl rfl (by first | decide | (simp only [List.map_cons, List.map_nil, rf_cat, ct_int, ct_ref, List.sum_cons, List.sum_nil] <;> decide)) dX7_give_18 (by decide) (fun x18 h H locs hq hR hS => ?_)
  refine lv_iconst (v := (-1)) hx hb dX7_give_21 (by decide) ?_
  refine xcNe hx hb hq (tgt := 27) dX7_give_22 (by decide) (fun hq => ?_) (fun hq => ?_)
  · refine xaln hx hb hl (x := x5) 0 rfl dX7_give_27 ?_
    refine xaln hx hb hl (x := (some this)) 1 rfl dX7_give_28 ?_
    refine xgR Z hR hq fl_X7_39 rfl dX7_give_29 (fun x29 hq => ?_)
    refine xgR Z hR hq fl_X7_139 rfl dX7_give_32 (fun x32 hq => ?_)
    refine xaln hx hb hl (x := (some this)) 1 rfl dX7_give_35 ?_
    refine xgR Z hR hq fl_X7_39 rfl dX7_give_36 (fun x36 hq => ?_)
    refine xgR Z hR hq fl_X7_142 rfl dX7_give_39 (fun x39 hq => ?_)
    refine xcV Z hR hS hl (rest := []) (As := [va_rf x32, va_rf x39]) hq cl_X7_145 (fun b x h1 hc => c_X0_takePath l b x32 x39 h x h1 hc) ⟨⟨rfl, rfl⟩, (by decide), (by decide)⟩ rfl rfl (by first | decide | (simp only [List.map_cons, List.map_nil, rf_cat, ct_int, ct_ref, List.sum_cons, List.sum_nil] <;> decide)) dX7_give_42 (by decide) (fun u42 h H locs hq hR hS => ?_)
    refine xaln hx hb hl (x := (some this)) 1 rfl dX7_give_45 ?_
    refine xgR Z hR hq fl_X7_62 rfl dX7_give_46 (fun x46 hq => ?_)
    refine xcV Z hR hS hl (rest := []) (As := []) hq cl_X7_82 (fun b x h1 hc => c_X6_forget l b h x h1 hc) ⟨⟨rfl, rfl⟩, (by decide), (by decide)⟩ rfl rfl (by first | decide | (simp only [List.map_cons, List.map_nil, rf_cat, ct_int, ct_ref, List.sum_cons, List.sum_nil] <;> decide)) dX7_give_49 (by decide) (fun u49 h H locs hq hR hS => ?_)
    refine lv_iconst (v := 1) hx hb dX7_give_52 (by decide) ?_
    exact xrZ hx hb hr hlk hR hS hq (by decide) (by decide) dX7_give_53
  exact t_X7_give_25 Z hr hlk hin  h _ _ ls hq hR hS (hl.sub [] rfl)
abbrev rm_X7_drop : Room := { frames := 4, cells := 0, slots := 0, locals := 85 }
def f_X7_drop_20   (h : Hp) : Option (Int32 × Hp) :=
rtZ 0 h
set_option maxHeartbeats 4000000 in
set_option maxRecDepth 100000 in
theorem t_X7_drop_20 (Z : ZZ p s m args c cX7_drop RX7 3 G) (hr : meth.sig.returnType = (some .boolean)) (hlk : meth.locks = false) (hin : meth.name = "drop") {v : Int32} {h1 : Hp} : ∀  (h : Hp) (H : Heap) (locs : List Loc) (ls : Array Slot), f_X7_drop_20  h = some (v, h1) → Rep G h H → va_S (AA G) s.heap H locs → LV ls 3 [] → W p l e rm_X7_drop s m args below meth c H locs 0 0 (MQ below (Qx G (some (.int v)) h1) args s 0 0 (AA G)) (F0 m 20 ls []) := by
  intro  h H locs ls hq hR hS hl
  have hx := Z.1
  have hb := Z.2.1
  unfold f_X7_drop_20 at hq
  refine lv_iconst (v := 0) hx hb dX7_drop_20 (by decide) ?_
  exact xrZ hx hb hr hlk hR hS hq (by decide) (by decide) dX7_drop_21
def f_X7_drop (this : Nat) (a0 : Int32) (h : Hp) : Option (Int32 × Hp) :=
gR h (some this) 8 1 (fun x1 =>
rcv h x1 2 (fun b5 => bd (f_X1_at b5 a0 h) (fun x5 h =>
(if x5 = none then
f_X7_drop_20  h
else
gI h x5 1 10 (fun x14 =>
(if x14 = 0 then
f_X7_drop_20  h
else
pZ h x5 1 10 0 (fun h =>
gR h (some this) 8 5 (fun x28 =>
rcv h x28 7 (fun b31 => bd (f_X6_forget b31 h) (fun u31 h =>
rtZ 1 h))))))))))
set_option maxHeartbeats 4000000 in
set_option maxRecDepth 100000 in
theorem c_X7_drop (l : Launch) {G : GG} (this : Nat) (a0 : Int32) (h : Hp) (v : Int32) (h1 : Hp) (hq : f_X7_drop this a0 h = some (v, h1)) : Met l yX7_drop (Cond.code yX7_drop cX7_drop 3 (some .boolean) :: GT) rm_X7_drop (va_Pc [.ref this, .int a0] (Cn G h)) (Qx G (some (.int v)) h1) 0 0 (AA G) := by
  refine xMet (cc := cX7_drop) (by decide) (Nat.le_of_ble_eq_true rfl) (List.forall_mem_cons.mpr ⟨rfl, (List.forall_mem_cons.mpr ⟨rfl, (fun _ z => by cases z)⟩)⟩) ?_
  intro p e s m below meth c ls Z hr hlk hin hR hS hl
  have hx := Z.1
  have hb := Z.2.1
  have hl : LV ls 3 [(0, va_rf (some this)), (1, .int a0)] := hl
  unfold f_X7_drop at hq
  refine xaln hx hb hl (x := (some this)) 0 rfl dX7_drop_0 ?_
  refine xgR Z hR hq fl_X7_35 rfl dX7_drop_1 (fun x1 hq => ?_)
  refine xiln hx hb hl (x := a0) 1 rfl dX7_drop_4 ?_
  refine xcV Z hR hS hl (rest := []) (As := [.int a0]) hq cl_X7_128 (fun b x h1 hc => c_X1_at l b a0 h x h1 hc) ⟨⟨rfl, rfl⟩, (by decide), (by decide)⟩ rfl rfl (by first | decide | (simp only [List.map_cons, List.map_nil, rf_cat, ct_int, ct_ref, List.sum_cons, List.sum_nil] <;> decide)) dX7_drop_5 (by decide) (fun x5 h H locs hq hR hS => ?_)
  refine xasn hx hb hl (x := x5) (lv' := [(2, va_rf x5), (0, va_rf (some this)), (1, .int a0)]) (by decide) dX7_drop_8 rfl (fun ls hl => ?_)
  refine xaln hx hb hl (x := x5) 0 rfl dX7_drop_9 ?_
  refine xnul hx hb hq (tgt := 20) dX7_drop_10 (by decide) (fun hq => ?_) (fun hq => ?_)
  · exact t_X7_drop_20 Z hr hlk hin  h _ _ ls hq hR hS (hl.sub [] rfl)
  refine xaln hx hb hl (x := x5) 0 rfl dX7_drop_13 ?_
  refine xgI Z hR hq fl_X7_149 rfl dX7_drop_14 (fun x14 hq => ?_)
  refine xzNe hx hb hq (tgt := 22) dX7_drop_17 (by decide) (fun hq => ?_) (fun hq => ?_)
  · refine xaln hx hb hl (x := x5) 0 rfl dX7_drop_22 ?_
    refine lv_iconst (v := 0) hx hb dX7_drop_23 (by decide) ?_
    refine xpZ Z hR hS hq fl_X7_149 rfl (Or.inl nf_1_10) dX7_drop_24 (fun h H locs hq hR hS => ?_)
    refine xaln hx hb hl (x := (some this)) 1 rfl dX7_drop_27 ?_
    refine xgR Z hR hq fl_X7_62 rfl dX7_drop_28 (fun x28 hq => ?_)
    refine xcV Z hR hS hl (rest := []) (As := []) hq cl_X7_82 (fun b x h1 hc => c_X6_forget l b h x h1 hc) ⟨⟨rfl, rfl⟩, (by decide), (by decide)⟩ rfl rfl (by first | decide | (simp only [List.map_cons, List.map_nil, rf_cat, ct_int, ct_ref, List.sum_cons, List.sum_nil] <;> decide)) dX7_drop_31 (by decide) (fun u31 h H locs hq hR hS => ?_)
    refine lv_iconst (v := 1) hx hb dX7_drop_34 (by decide) ?_
    exact xrZ hx hb hr hlk hR hS hq (by decide) (by decide) dX7_drop_35
  exact t_X7_drop_20 Z hr hlk hin  h _ _ ls hq hR hS (hl.sub [] rfl)
abbrev rm_X7_round : Room := { frames := 7, cells := 0, slots := 0, locals := 161 }
def f_X7_round (this : Nat) (h : Hp) : Option (Int32 × Hp) :=
gR h (some this) 8 3 (fun x1 =>
rcv h x1 6 (fun b4 => bd (f_X5_comeByRank b4 h) (fun u4 h =>
gR h (some this) 8 5 (fun x8 =>
rcv h x8 7 (fun b11 => bd (f_X6_forget b11 h) (fun u11 h =>
gR h (some this) 8 1 (fun x15 =>
rcv h x15 2 (fun b18 => bd (f_X1_pathsGiven b18 h) (fun x18 h =>
rtI x18 h)))))))))
set_option maxHeartbeats 4000000 in
set_option maxRecDepth 100000 in
theorem c_X7_round (l : Launch) {G : GG} (this : Nat) (h : Hp) (v : Int32) (h1 : Hp) (hq : f_X7_round this h = some (v, h1)) : Met l yX7_round (Cond.code yX7_round cX7_round 1 (some .int) :: GT) rm_X7_round (va_Pc [.ref this] (Cn G h)) (Qx G (some (.int v)) h1) 0 0 (AA G) := by
  refine xMet (cc := cX7_round) (by decide) (Nat.le_of_ble_eq_true rfl) (List.forall_mem_cons.mpr ⟨rfl, (fun _ z => by cases z)⟩) ?_
  intro p e s m below meth c ls Z hr hlk hin hR hS hl
  have hx := Z.1
  have hb := Z.2.1
  have hl : LV ls 1 [(0, va_rf (some this))] := hl
  unfold f_X7_round at hq
  refine xaln hx hb hl (x := (some this)) 0 rfl dX7_round_0 ?_
  refine xgR Z hR hq fl_X7_48 rfl dX7_round_1 (fun x1 hq => ?_)
  refine xcV Z hR hS hl (rest := []) (As := []) hq cl_X7_153 (fun b x h1 hc => c_X5_comeByRank l b h x h1 hc) ⟨⟨rfl, rfl⟩, (by decide), (by decide)⟩ rfl rfl (by first | decide | (simp only [List.map_cons, List.map_nil, rf_cat, ct_int, ct_ref, List.sum_cons, List.sum_nil] <;> decide)) dX7_round_4 (by decide) (fun u4 h H locs hq hR hS => ?_)
  refine xaln hx hb hl (x := (some this)) 0 rfl dX7_round_7 ?_
  refine xgR Z hR hq fl_X7_62 rfl dX7_round_8 (fun x8 hq => ?_)
  refine xcV Z hR hS hl (rest := []) (As := []) hq cl_X7_82 (fun b x h1 hc => c_X6_forget l b h x h1 hc) ⟨⟨rfl, rfl⟩, (by decide), (by decide)⟩ rfl rfl (by first | decide | (simp only [List.map_cons, List.map_nil, rf_cat, ct_int, ct_ref, List.sum_cons, List.sum_nil] <;> decide)) dX7_round_11 (by decide) (fun u11 h H locs hq hR hS => ?_)
  refine xaln hx hb hl (x := (some this)) 0 rfl dX7_round_14 ?_
  refine xgR Z hR hq fl_X7_35 rfl dX7_round_15 (fun x15 hq => ?_)
  refine xcV Z hR hS hl (rest := []) (As := []) hq cl_X7_74 (fun b x h1 hc => c_X1_pathsGiven l b h x h1 hc) ⟨⟨rfl, rfl⟩, (by decide), (by decide)⟩ rfl rfl (by first | decide | (simp only [List.map_cons, List.map_nil, rf_cat, ct_int, ct_ref, List.sum_cons, List.sum_nil] <;> decide)) dX7_round_18 (by decide) (fun x18 h H locs hq hR hS => ?_)
  exact xrI hx hb hr hlk hR hS hq (by decide) (by decide) dX7_round_21
abbrev rm_X7_best : Room := { frames := 15, cells := 0, slots := 0, locals := 468 }
def f_X7_best_22   (h : Hp) : Option (Int32 × Hp) :=
rtI (-1) h
set_option maxHeartbeats 4000000 in
set_option maxRecDepth 100000 in
theorem t_X7_best_22 (Z : ZZ p s m args c cX7_best RX7 1 G) (hr : meth.sig.returnType = (some .int)) (hlk : meth.locks = false) (hin : meth.name = "best") {v : Int32} {h1 : Hp} : ∀  (h : Hp) (H : Heap) (locs : List Loc) (ls : Array Slot), f_X7_best_22  h = some (v, h1) → Rep G h H → va_S (AA G) s.heap H locs → LV ls 1 [] → W p l e rm_X7_best s m args below meth c H locs 0 0 (MQ below (Qx G (some (.int v)) h1) args s 0 0 (AA G)) (F0 m 22 ls []) := by
  intro  h H locs ls hq hR hS hl
  have hx := Z.1
  have hb := Z.2.1
  unfold f_X7_best_22 at hq
  refine lv_iconst (v := (-1)) hx hb dX7_best_22 (by decide) ?_
  exact xrI hx hb hr hlk hR hS hq (by decide) (by decide) dX7_best_23
def f_X7_best (this : Nat) (h : Hp) : Option (Int32 × Hp) :=
gR h (some this) 8 1 (fun x1 =>
rcv h x1 2 (fun b4 => bd (f_X1_size b4 h) (fun x4 h =>
(if x4 < 1 then
f_X7_best_22  h
else
gR h (some this) 8 1 (fun x12 =>
rcv h x12 2 (fun b15 => bd (f_X1_size b15 h) (fun x15 h =>
(if x15 ≤ 5 then
gR h (some this) 8 3 (fun x25 =>
rcv h x25 6 (fun b28 => bd (f_X5_comeByBestOrder b28 h) (fun u28 h =>
gR h (some this) 8 5 (fun x32 =>
rcv h x32 7 (fun b35 => bd (f_X6_forget b35 h) (fun u35 h =>
gR h (some this) 8 1 (fun x39 =>
rcv h x39 2 (fun b42 => bd (f_X1_worthsGiven b42 h) (fun x42 h =>
rtI x42 h)))))))))
else
f_X7_best_22  h))))))))
set_option maxHeartbeats 4000000 in
set_option maxRecDepth 100000 in
theorem c_X7_best (l : Launch) {G : GG} (this : Nat) (h : Hp) (v : Int32) (h1 : Hp) (hq : f_X7_best this h = some (v, h1)) : Met l yX7_best (Cond.code yX7_best cX7_best 1 (some .int) :: GT) rm_X7_best (va_Pc [.ref this] (Cn G h)) (Qx G (some (.int v)) h1) 0 0 (AA G) := by
  refine xMet (cc := cX7_best) (by decide) (Nat.le_of_ble_eq_true rfl) (List.forall_mem_cons.mpr ⟨rfl, (fun _ z => by cases z)⟩) ?_
  intro p e s m below meth c ls Z hr hlk hin hR hS hl
  have hx := Z.1
  have hb := Z.2.1
  have hl : LV ls 1 [(0, va_rf (some this))] := hl
  unfold f_X7_best at hq
  refine xaln hx hb hl (x := (some this)) 0 rfl dX7_best_0 ?_
  refine xgR Z hR hq fl_X7_35 rfl dX7_best_1 (fun x1 hq => ?_)
  refine xcV Z hR hS hl (rest := []) (As := []) hq cl_X7_103 (fun b x h1 hc => c_X1_size l b h x h1 hc) ⟨⟨rfl, rfl⟩, (by decide), (by decide)⟩ rfl rfl (by first | decide | (simp only [List.map_cons, List.map_nil, rf_cat, ct_int, ct_ref, List.sum_cons, List.sum_nil] <;> decide)) dX7_best_4 (by decide) (fun x4 h H locs hq hR hS => ?_)
  refine lv_iconst (v := 1) hx hb dX7_best_7 (by decide) ?_
  refine xcLt hx hb hq (tgt := 22) dX7_best_8 (by decide) (fun hq => ?_) (fun hq => ?_)
  · exact t_X7_best_22 Z hr hlk hin  h _ _ ls hq hR hS (hl.sub [] rfl)
  refine xaln hx hb hl (x := (some this)) 0 rfl dX7_best_11 ?_
  refine xgR Z hR hq fl_X7_35 rfl dX7_best_12 (fun x12 hq => ?_)
  refine xcV Z hR hS hl (rest := []) (As := []) hq cl_X7_103 (fun b x h1 hc => c_X1_size l b h x h1 hc) ⟨⟨rfl, rfl⟩, (by decide), (by decide)⟩ rfl rfl (by first | decide | (simp only [List.map_cons, List.map_nil, rf_cat, ct_int, ct_ref, List.sum_cons, List.sum_nil] <;> decide)) dX7_best_15 (by decide) (fun x15 h H locs hq hR hS => ?_)
  refine lv_iconst (v := 5) hx hb dX7_best_18 (by decide) ?_
  refine xcLe hx hb hq (tgt := 24) dX7_best_19 (by decide) (fun hq => ?_) (fun hq => ?_)
  · refine xaln hx hb hl (x := (some this)) 0 rfl dX7_best_24 ?_
    refine xgR Z hR hq fl_X7_48 rfl dX7_best_25 (fun x25 hq => ?_)
    refine xcV Z hR hS hl (rest := []) (As := []) hq cl_X7_156 (fun b x h1 hc => c_X5_comeByBestOrder l b h x h1 hc) ⟨⟨rfl, rfl⟩, (by decide), (by decide)⟩ rfl rfl (by first | decide | (simp only [List.map_cons, List.map_nil, rf_cat, ct_int, ct_ref, List.sum_cons, List.sum_nil] <;> decide)) dX7_best_28 (by decide) (fun u28 h H locs hq hR hS => ?_)
    refine xaln hx hb hl (x := (some this)) 0 rfl dX7_best_31 ?_
    refine xgR Z hR hq fl_X7_62 rfl dX7_best_32 (fun x32 hq => ?_)
    refine xcV Z hR hS hl (rest := []) (As := []) hq cl_X7_82 (fun b x h1 hc => c_X6_forget l b h x h1 hc) ⟨⟨rfl, rfl⟩, (by decide), (by decide)⟩ rfl rfl (by first | decide | (simp only [List.map_cons, List.map_nil, rf_cat, ct_int, ct_ref, List.sum_cons, List.sum_nil] <;> decide)) dX7_best_35 (by decide) (fun u35 h H locs hq hR hS => ?_)
    refine xaln hx hb hl (x := (some this)) 0 rfl dX7_best_38 ?_
    refine xgR Z hR hq fl_X7_35 rfl dX7_best_39 (fun x39 hq => ?_)
    refine xcV Z hR hS hl (rest := []) (As := []) hq cl_X7_159 (fun b x h1 hc => c_X1_worthsGiven l b h x h1 hc) ⟨⟨rfl, rfl⟩, (by decide), (by decide)⟩ rfl rfl (by first | decide | (simp only [List.map_cons, List.map_nil, rf_cat, ct_int, ct_ref, List.sum_cons, List.sum_nil] <;> decide)) dX7_best_42 (by decide) (fun x42 h H locs hq hR hS => ?_)
    exact xrI hx hb hr hlk hR hS hq (by decide) (by decide) dX7_best_45
  exact t_X7_best_22 Z hr hlk hin  h _ _ ls hq hR hS (hl.sub [] rfl)
abbrev rm_X7_path : Room := { frames := 4, cells := 0, slots := 0, locals := 85 }
def f_X7_path_20   (h : Hp) : Option (Int32 × Hp) :=
rtI (-1) h
set_option maxHeartbeats 4000000 in
set_option maxRecDepth 100000 in
theorem t_X7_path_20 (Z : ZZ p s m args c cX7_path RX7 5 G) (hr : meth.sig.returnType = (some .int)) (hlk : meth.locks = false) (hin : meth.name = "path") {v : Int32} {h1 : Hp} : ∀  (h : Hp) (H : Heap) (locs : List Loc) (ls : Array Slot), f_X7_path_20  h = some (v, h1) → Rep G h H → va_S (AA G) s.heap H locs → LV ls 5 [] → W p l e rm_X7_path s m args below meth c H locs 0 0 (MQ below (Qx G (some (.int v)) h1) args s 0 0 (AA G)) (F0 m 20 ls []) := by
  intro  h H locs ls hq hR hS hl
  have hx := Z.1
  have hb := Z.2.1
  unfold f_X7_path_20 at hq
  refine lv_iconst (v := (-1)) hx hb dX7_path_20 (by decide) ?_
  exact xrI hx hb hr hlk hR hS hq (by decide) (by decide) dX7_path_21
def f_X7_path_63  (s0 : Int32) (h : Hp) : Option (Int32 × Hp) :=
rtI s0 h
set_option maxHeartbeats 4000000 in
set_option maxRecDepth 100000 in
theorem t_X7_path_63 (Z : ZZ p s m args c cX7_path RX7 5 G) (hr : meth.sig.returnType = (some .int)) (hlk : meth.locks = false) (hin : meth.name = "path") {v : Int32} {h1 : Hp} : ∀ (s0 : Int32) (h : Hp) (H : Heap) (locs : List Loc) (ls : Array Slot), f_X7_path_63 s0 h = some (v, h1) → Rep G h H → va_S (AA G) s.heap H locs → LV ls 5 [] → W p l e rm_X7_path s m args below meth c H locs 0 0 (MQ below (Qx G (some (.int v)) h1) args s 0 0 (AA G)) (F0 m 63 ls [.int s0]) := by
  intro s0 h H locs ls hq hR hS hl
  have hx := Z.1
  have hb := Z.2.1
  unfold f_X7_path_63 at hq
  exact xrI hx hb hr hlk hR hS hq (by decide) (by decide) dX7_path_63
def f_X7_path (this : Nat) (a0 : Int32) (a1 : Int32) (h : Hp) : Option (Int32 × Hp) :=
gR h (some this) 8 1 (fun x1 =>
rcv h x1 2 (fun b5 => bd (f_X1_at b5 a0 h) (fun x5 h =>
(if x5 = none then
f_X7_path_20  h
else
gI h x5 1 10 (fun x14 =>
(if x14 = 0 then
f_X7_path_20  h
else
rcv h x5 1 (fun b24 => bd (f_X0_stepAtStation b24 a1 h) (fun x24 h =>
(if x24 = (-1) then
rtI (-1) h
else
rcv h x5 1 (fun b40 => bd (f_X0_steps b40 h) (fun x40 h =>
(if x24 = x40 then
gR h x5 1 12 (fun x47 =>
ldI h x47 x24 (fun x52 =>
f_X7_path_63 x52 h))
else
gR h x5 1 11 (fun x57 =>
ldI h x57 x24 (fun x62 =>
f_X7_path_63 x62 h))))))))))))))
set_option maxHeartbeats 4000000 in
set_option maxRecDepth 100000 in
theorem c_X7_path (l : Launch) {G : GG} (this : Nat) (a0 : Int32) (a1 : Int32) (h : Hp) (v : Int32) (h1 : Hp) (hq : f_X7_path this a0 a1 h = some (v, h1)) : Met l yX7_path (Cond.code yX7_path cX7_path 5 (some .int) :: GT) rm_X7_path (va_Pc [.ref this, .int a0, .int a1] (Cn G h)) (Qx G (some (.int v)) h1) 0 0 (AA G) := by
  refine xMet (cc := cX7_path) (by decide) (Nat.le_of_ble_eq_true rfl) (List.forall_mem_cons.mpr ⟨rfl, (List.forall_mem_cons.mpr ⟨rfl, (List.forall_mem_cons.mpr ⟨rfl, (fun _ z => by cases z)⟩)⟩)⟩) ?_
  intro p e s m below meth c ls Z hr hlk hin hR hS hl
  have hx := Z.1
  have hb := Z.2.1
  have hl : LV ls 5 [(0, va_rf (some this)), (1, .int a0), (2, .int a1)] := hl
  unfold f_X7_path at hq
  refine xaln hx hb hl (x := (some this)) 0 rfl dX7_path_0 ?_
  refine xgR Z hR hq fl_X7_35 rfl dX7_path_1 (fun x1 hq => ?_)
  refine xiln hx hb hl (x := a0) 1 rfl dX7_path_4 ?_
  refine xcV Z hR hS hl (rest := []) (As := [.int a0]) hq cl_X7_128 (fun b x h1 hc => c_X1_at l b a0 h x h1 hc) ⟨⟨rfl, rfl⟩, (by decide), (by decide)⟩ rfl rfl (by first | decide | (simp only [List.map_cons, List.map_nil, rf_cat, ct_int, ct_ref, List.sum_cons, List.sum_nil] <;> decide)) dX7_path_5 (by decide) (fun x5 h H locs hq hR hS => ?_)
  refine xasn hx hb hl (x := x5) (lv' := [(3, va_rf x5), (0, va_rf (some this)), (1, .int a0), (2, .int a1)]) (by decide) dX7_path_8 rfl (fun ls hl => ?_)
  refine xaln hx hb hl (x := x5) 0 rfl dX7_path_9 ?_
  refine xnul hx hb hq (tgt := 20) dX7_path_10 (by decide) (fun hq => ?_) (fun hq => ?_)
  · exact t_X7_path_20 Z hr hlk hin  h _ _ ls hq hR hS (hl.sub [] rfl)
  refine xaln hx hb hl (x := x5) 0 rfl dX7_path_13 ?_
  refine xgI Z hR hq fl_X7_149 rfl dX7_path_14 (fun x14 hq => ?_)
  refine xzNe hx hb hq (tgt := 22) dX7_path_17 (by decide) (fun hq => ?_) (fun hq => ?_)
  · refine xaln hx hb hl (x := x5) 0 rfl dX7_path_22 ?_
    refine xiln hx hb hl (x := a1) 3 rfl dX7_path_23 ?_
    refine xcV Z hR hS hl (rest := []) (As := [.int a1]) hq cl_X7_162 (fun b x h1 hc => c_X0_stepAtStation l b a1 h x h1 hc) ⟨⟨rfl, rfl⟩, (by decide), (by decide)⟩ rfl rfl (by first | decide | (simp only [List.map_cons, List.map_nil, rf_cat, ct_int, ct_ref, List.sum_cons, List.sum_nil] <;> decide)) dX7_path_24 (by decide) (fun x24 h H locs hq hR hS => ?_)
    refine xis hx hb hl (x := x24) (lv' := [(4, .int x24), (3, va_rf x5), (0, va_rf (some this)), (1, .int a0), (2, .int a1)]) (by decide) dX7_path_27 rfl (fun ls hl => ?_)
    refine xil hx hb hl (x := x24) 0 rfl dX7_path_29 ?_
    refine lv_iconst (v := (-1)) hx hb dX7_path_31 (by decide) ?_
    refine xcNe hx hb hq (tgt := 37) dX7_path_32 (by decide) (fun hq => ?_) (fun hq => ?_)
    · refine xil hx hb hl (x := x24) 0 rfl dX7_path_37 ?_
      refine xaln hx hb hl (x := x5) 1 rfl dX7_path_39 ?_
      refine xcV Z hR hS hl (rest := [.int x24]) (As := []) hq cl_X7_166 (fun b x h1 hc => c_X0_steps l b h x h1 hc) ⟨⟨rfl, rfl⟩, (by decide), (by decide)⟩ rfl rfl (by first | decide | (simp only [List.map_cons, List.map_nil, rf_cat, ct_int, ct_ref, List.sum_cons, List.sum_nil] <;> decide)) dX7_path_40 (by decide) (fun x40 h H locs hq hR hS => ?_)
      refine xcNe hx hb hq (tgt := 56) dX7_path_43 (by decide) (fun hq => ?_) (fun hq => ?_)
      · refine xaln hx hb hl (x := x5) 1 rfl dX7_path_56 ?_
        refine xgR Z hR hq fl_X7_170 rfl dX7_path_57 (fun x57 hq => ?_)
        refine xil hx hb hl (x := x24) 0 rfl dX7_path_60 ?_
        refine xaI Z hR hq dX7_path_62 (fun x62 hq => ?_)
        exact t_X7_path_63 Z hr hlk hin x62 h _ _ ls hq hR hS (hl.sub [] rfl)
      refine xaln hx hb hl (x := x5) 1 rfl dX7_path_46 ?_
      refine xgR Z hR hq fl_X7_169 rfl dX7_path_47 (fun x47 hq => ?_)
      refine xil hx hb hl (x := x24) 0 rfl dX7_path_50 ?_
      refine xaI Z hR hq dX7_path_52 (fun x52 hq => ?_)
      refine lv_goto (tgt := 63) hx hb dX7_path_53 (by decide) ?_
      exact t_X7_path_63 Z hr hlk hin x52 h _ _ ls hq hR hS (hl.sub [] rfl)
    refine lv_iconst (v := (-1)) hx hb dX7_path_35 (by decide) ?_
    exact xrI hx hb hr hlk hR hS hq (by decide) (by decide) dX7_path_36
  exact t_X7_path_20 Z hr hlk hin  h _ _ ls hq hR hS (hl.sub [] rfl)
abbrev rm_X7_why : Room := { frames := 7, cells := 0, slots := 0, locals := 160 }
def f_X7_why_19   (h : Hp) : Option (Int32 × Hp) :=
rtI (-1) h
set_option maxHeartbeats 4000000 in
set_option maxRecDepth 100000 in
theorem t_X7_why_19 (Z : ZZ p s m args c cX7_why RX7 2 G) (hr : meth.sig.returnType = (some .int)) (hlk : meth.locks = false) (hin : meth.name = "why") {v : Int32} {h1 : Hp} : ∀  (h : Hp) (H : Heap) (locs : List Loc) (ls : Array Slot), f_X7_why_19  h = some (v, h1) → Rep G h H → va_S (AA G) s.heap H locs → LV ls 2 [] → W p l e rm_X7_why s m args below meth c H locs 0 0 (MQ below (Qx G (some (.int v)) h1) args s 0 0 (AA G)) (F0 m 19 ls []) := by
  intro  h H locs ls hq hR hS hl
  have hx := Z.1
  have hb := Z.2.1
  unfold f_X7_why_19 at hq
  refine lv_iconst (v := (-1)) hx hb dX7_why_19 (by decide) ?_
  exact xrI hx hb hr hlk hR hS hq (by decide) (by decide) dX7_why_20
def f_X7_why_55  (s0 : Int32) (h : Hp) : Option (Int32 × Hp) :=
rtI s0 h
set_option maxHeartbeats 4000000 in
set_option maxRecDepth 100000 in
theorem t_X7_why_55 (Z : ZZ p s m args c cX7_why RX7 2 G) (hr : meth.sig.returnType = (some .int)) (hlk : meth.locks = false) (hin : meth.name = "why") {v : Int32} {h1 : Hp} : ∀ (s0 : Int32) (h : Hp) (H : Heap) (locs : List Loc) (ls : Array Slot), f_X7_why_55 s0 h = some (v, h1) → Rep G h H → va_S (AA G) s.heap H locs → LV ls 2 [] → W p l e rm_X7_why s m args below meth c H locs 0 0 (MQ below (Qx G (some (.int v)) h1) args s 0 0 (AA G)) (F0 m 55 ls [.int s0]) := by
  intro s0 h H locs ls hq hR hS hl
  have hx := Z.1
  have hb := Z.2.1
  unfold f_X7_why_55 at hq
  exact xrI hx hb hr hlk hR hS hq (by decide) (by decide) dX7_why_55
def f_X7_why (this : Nat) (a0 : Int32) (h : Hp) : Option (Int32 × Hp) :=
bd (f_X7_isWithin a0 0 2 h) (fun x3 h =>
(if x3 = 0 then
f_X7_why_19  h
else
gR h (some this) 8 4 (fun x10 =>
rcv h x10 3 (fun b13 => bd (f_X2_seekFirst b13 h) (fun x13 h =>
(if x13 = 0 then
f_X7_why_19  h
else
(if a0 = 0 then
gR h (some this) 8 4 (fun x26 =>
gI h x26 3 2 (fun x29 =>
rtI x29 h))
else
(if a0 = 1 then
gR h (some this) 8 4 (fun x39 =>
gI h x39 3 3 (fun x42 =>
f_X7_why_55 x42 h))
else
gR h (some this) 8 4 (fun x49 =>
gI h x49 3 4 (fun x52 =>
f_X7_why_55 x52 h))))))))))
set_option maxHeartbeats 4000000 in
set_option maxRecDepth 100000 in
theorem c_X7_why (l : Launch) {G : GG} (this : Nat) (a0 : Int32) (h : Hp) (v : Int32) (h1 : Hp) (hq : f_X7_why this a0 h = some (v, h1)) : Met l yX7_why (Cond.code yX7_why cX7_why 2 (some .int) :: GT) rm_X7_why (va_Pc [.ref this, .int a0] (Cn G h)) (Qx G (some (.int v)) h1) 0 0 (AA G) := by
  refine xMet (cc := cX7_why) (by decide) (Nat.le_of_ble_eq_true rfl) (List.forall_mem_cons.mpr ⟨rfl, (List.forall_mem_cons.mpr ⟨rfl, (fun _ z => by cases z)⟩)⟩) ?_
  intro p e s m below meth c ls Z hr hlk hin hR hS hl
  have hx := Z.1
  have hb := Z.2.1
  have hl : LV ls 2 [(0, va_rf (some this)), (1, .int a0)] := hl
  unfold f_X7_why at hq
  refine xiln hx hb hl (x := a0) 1 rfl dX7_why_0 ?_
  refine lv_iconst (v := 0) hx hb dX7_why_1 (by decide) ?_
  refine lv_iconst (v := 2) hx hb dX7_why_2 (by decide) ?_
  refine xcS Z hR hS hl (rest := []) (As := [.int a0, .int 0, .int 2]) hq cl_X7_70 (fun x h1 hc => c_X7_isWithin l a0 0 2 h x h1 hc) ⟨⟨rfl, rfl⟩, (by decide), (by decide)⟩ rfl rfl (by first | decide | (simp only [List.map_cons, List.map_nil, rf_cat, ct_int, ct_ref, List.sum_cons, List.sum_nil] <;> decide)) dX7_why_3 (by decide) (fun x3 h H locs hq hR hS => ?_)
  refine xzEq hx hb hq (tgt := 19) dX7_why_6 (by decide) (fun hq => ?_) (fun hq => ?_)
  · exact t_X7_why_19 Z hr hlk hin  h _ _ ls hq hR hS (hl.sub [] rfl)
  refine xaln hx hb hl (x := (some this)) 0 rfl dX7_why_9 ?_
  refine xgR Z hR hq fl_X7_55 rfl dX7_why_10 (fun x10 hq => ?_)
  refine xcV Z hR hS hl (rest := []) (As := []) hq cl_X7_171 (fun b x h1 hc => c_X2_seekFirst l b h x h1 hc) ⟨⟨rfl, rfl⟩, (by decide), (by decide)⟩ rfl rfl (by first | decide | (simp only [List.map_cons, List.map_nil, rf_cat, ct_int, ct_ref, List.sum_cons, List.sum_nil] <;> decide)) dX7_why_13 (by decide) (fun x13 h H locs hq hR hS => ?_)
  refine xzNe hx hb hq (tgt := 21) dX7_why_16 (by decide) (fun hq => ?_) (fun hq => ?_)
  · refine xiln hx hb hl (x := a0) 1 rfl dX7_why_21 ?_
    refine xzNe hx hb hq (tgt := 33) dX7_why_22 (by decide) (fun hq => ?_) (fun hq => ?_)
    · refine xiln hx hb hl (x := a0) 1 rfl dX7_why_33 ?_
      refine lv_iconst (v := 1) hx hb dX7_why_34 (by decide) ?_
      refine xcNe hx hb hq (tgt := 48) dX7_why_35 (by decide) (fun hq => ?_) (fun hq => ?_)
      · refine xaln hx hb hl (x := (some this)) 0 rfl dX7_why_48 ?_
        refine xgR Z hR hq fl_X7_55 rfl dX7_why_49 (fun x49 hq => ?_)
        refine xgI Z hR hq fl_X7_181 rfl dX7_why_52 (fun x52 hq => ?_)
        exact t_X7_why_55 Z hr hlk hin x52 h _ _ ls hq hR hS (hl.sub [] rfl)
      refine xaln hx hb hl (x := (some this)) 0 rfl dX7_why_38 ?_
      refine xgR Z hR hq fl_X7_55 rfl dX7_why_39 (fun x39 hq => ?_)
      refine xgI Z hR hq fl_X7_178 rfl dX7_why_42 (fun x42 hq => ?_)
      refine lv_goto (tgt := 55) hx hb dX7_why_45 (by decide) ?_
      exact t_X7_why_55 Z hr hlk hin x42 h _ _ ls hq hR hS (hl.sub [] rfl)
    refine xaln hx hb hl (x := (some this)) 0 rfl dX7_why_25 ?_
    refine xgR Z hR hq fl_X7_55 rfl dX7_why_26 (fun x26 hq => ?_)
    refine xgI Z hR hq fl_X7_175 rfl dX7_why_29 (fun x29 hq => ?_)
    exact xrI hx hb hr hlk hR hS hq (by decide) (by decide) dX7_why_32
  exact t_X7_why_19 Z hr hlk hin  h _ _ ls hq hR hS (hl.sub [] rfl)
abbrev rm_X7_delay : Room := { frames := 4, cells := 0, slots := 0, locals := 85 }
def f_X7_delay_36   (h : Hp) : Option (Int32 × Hp) :=
rtZ 0 h
set_option maxHeartbeats 4000000 in
set_option maxRecDepth 100000 in
theorem t_X7_delay_36 (Z : ZZ p s m args c cX7_delay RX7 5 G) (hr : meth.sig.returnType = (some .boolean)) (hlk : meth.locks = false) (hin : meth.name = "delay") {v : Int32} {h1 : Hp} : ∀  (h : Hp) (H : Heap) (locs : List Loc) (ls : Array Slot), f_X7_delay_36  h = some (v, h1) → Rep G h H → va_S (AA G) s.heap H locs → LV ls 5 [] → W p l e rm_X7_delay s m args below meth c H locs 0 0 (MQ below (Qx G (some (.int v)) h1) args s 0 0 (AA G)) (F0 m 36 ls []) := by
  intro  h H locs ls hq hR hS hl
  have hx := Z.1
  have hb := Z.2.1
  unfold f_X7_delay_36 at hq
  refine lv_iconst (v := 0) hx hb dX7_delay_36 (by decide) ?_
  exact xrZ hx hb hr hlk hR hS hq (by decide) (by decide) dX7_delay_37
def f_X7_delay (this : Nat) (a0 : Int32) (a1 : Int32) (a2 : Int32) (h : Hp) : Option (Int32 × Hp) :=
gR h (some this) 8 1 (fun x1 =>
rcv h x1 2 (fun b5 => bd (f_X1_at b5 a0 h) (fun x5 h =>
(if x5 = none then
f_X7_delay_36  h
else
gR h (some this) 8 0 (fun x16 =>
rcv h x16 4 (fun b20 => bd (f_X3_hasStation b20 a1 h) (fun x20 h =>
(if x20 = 0 then
f_X7_delay_36  h
else
bd (f_X7_isWithin a2 0 60 h) (fun x30 h =>
(if x30 = 0 then
f_X7_delay_36  h
else
gR h x5 1 13 (fun x40 =>
stI h x40 a1 a2 (fun h =>
gR h (some this) 8 5 (fun x47 =>
rcv h x47 7 (fun b50 => bd (f_X6_forget b50 h) (fun u50 h =>
rtZ 1 h)))))))))))))))
set_option maxHeartbeats 4000000 in
set_option maxRecDepth 100000 in
theorem c_X7_delay (l : Launch) {G : GG} (this : Nat) (a0 : Int32) (a1 : Int32) (a2 : Int32) (h : Hp) (v : Int32) (h1 : Hp) (hq : f_X7_delay this a0 a1 a2 h = some (v, h1)) : Met l yX7_delay (Cond.code yX7_delay cX7_delay 5 (some .boolean) :: GT) rm_X7_delay (va_Pc [.ref this, .int a0, .int a1, .int a2] (Cn G h)) (Qx G (some (.int v)) h1) 0 0 (AA G) := by
  refine xMet (cc := cX7_delay) (by decide) (Nat.le_of_ble_eq_true rfl) (List.forall_mem_cons.mpr ⟨rfl, (List.forall_mem_cons.mpr ⟨rfl, (List.forall_mem_cons.mpr ⟨rfl, (List.forall_mem_cons.mpr ⟨rfl, (fun _ z => by cases z)⟩)⟩)⟩)⟩) ?_
  intro p e s m below meth c ls Z hr hlk hin hR hS hl
  have hx := Z.1
  have hb := Z.2.1
  have hl : LV ls 5 [(0, va_rf (some this)), (1, .int a0), (2, .int a1), (3, .int a2)] := hl
  unfold f_X7_delay at hq
  refine xaln hx hb hl (x := (some this)) 0 rfl dX7_delay_0 ?_
  refine xgR Z hR hq fl_X7_35 rfl dX7_delay_1 (fun x1 hq => ?_)
  refine xiln hx hb hl (x := a0) 1 rfl dX7_delay_4 ?_
  refine xcV Z hR hS hl (rest := []) (As := [.int a0]) hq cl_X7_128 (fun b x h1 hc => c_X1_at l b a0 h x h1 hc) ⟨⟨rfl, rfl⟩, (by decide), (by decide)⟩ rfl rfl (by first | decide | (simp only [List.map_cons, List.map_nil, rf_cat, ct_int, ct_ref, List.sum_cons, List.sum_nil] <;> decide)) dX7_delay_5 (by decide) (fun x5 h H locs hq hR hS => ?_)
  refine xas hx hb hl (x := x5) (lv' := [(4, va_rf x5), (0, va_rf (some this)), (1, .int a0), (2, .int a1), (3, .int a2)]) (by decide) dX7_delay_8 rfl (fun ls hl => ?_)
  refine xal hx hb hl (x := x5) 0 rfl dX7_delay_10 ?_
  refine xnul hx hb hq (tgt := 36) dX7_delay_12 (by decide) (fun hq => ?_) (fun hq => ?_)
  · exact t_X7_delay_36 Z hr hlk hin  h _ _ ls hq hR hS (hl.sub [] rfl)
  refine xaln hx hb hl (x := (some this)) 1 rfl dX7_delay_15 ?_
  refine xgR Z hR hq fl_X7_31 rfl dX7_delay_16 (fun x16 hq => ?_)
  refine xiln hx hb hl (x := a1) 3 rfl dX7_delay_19 ?_
  refine xcV Z hR hS hl (rest := []) (As := [.int a1]) hq cl_X7_85 (fun b x h1 hc => c_X3_hasStation l b a1 h x h1 hc) ⟨⟨rfl, rfl⟩, (by decide), (by decide)⟩ rfl rfl (by first | decide | (simp only [List.map_cons, List.map_nil, rf_cat, ct_int, ct_ref, List.sum_cons, List.sum_nil] <;> decide)) dX7_delay_20 (by decide) (fun x20 h H locs hq hR hS => ?_)
  refine xzEq hx hb hq (tgt := 36) dX7_delay_23 (by decide) (fun hq => ?_) (fun hq => ?_)
  · exact t_X7_delay_36 Z hr hlk hin  h _ _ ls hq hR hS (hl.sub [] rfl)
  refine xiln hx hb hl (x := a2) 4 rfl dX7_delay_26 ?_
  refine lv_iconst (v := 0) hx hb dX7_delay_27 (by decide) ?_
  refine lv_bipush (v := 60) hx hb dX7_delay_28 (by decide) ?_
  refine xcS Z hR hS hl (rest := []) (As := [.int a2, .int 0, .int 60]) hq cl_X7_70 (fun x h1 hc => c_X7_isWithin l a2 0 60 h x h1 hc) ⟨⟨rfl, rfl⟩, (by decide), (by decide)⟩ rfl rfl (by first | decide | (simp only [List.map_cons, List.map_nil, rf_cat, ct_int, ct_ref, List.sum_cons, List.sum_nil] <;> decide)) dX7_delay_30 (by decide) (fun x30 h H locs hq hR hS => ?_)
  refine xzNe hx hb hq (tgt := 38) dX7_delay_33 (by decide) (fun hq => ?_) (fun hq => ?_)
  · refine xal hx hb hl (x := x5) 0 rfl dX7_delay_38 ?_
    refine xgR Z hR hq fl_X7_184 rfl dX7_delay_40 (fun x40 hq => ?_)
    refine xiln hx hb hl (x := a1) 3 rfl dX7_delay_43 ?_
    refine xiln hx hb hl (x := a2) 4 rfl dX7_delay_44 ?_
    refine xsI Z hR hS hq dX7_delay_45 (fun h H locs hq hR hS => ?_)
    refine xaln hx hb hl (x := (some this)) 1 rfl dX7_delay_46 ?_
    refine xgR Z hR hq fl_X7_62 rfl dX7_delay_47 (fun x47 hq => ?_)
    refine xcV Z hR hS hl (rest := []) (As := []) hq cl_X7_82 (fun b x h1 hc => c_X6_forget l b h x h1 hc) ⟨⟨rfl, rfl⟩, (by decide), (by decide)⟩ rfl rfl (by first | decide | (simp only [List.map_cons, List.map_nil, rf_cat, ct_int, ct_ref, List.sum_cons, List.sum_nil] <;> decide)) dX7_delay_50 (by decide) (fun u50 h H locs hq hR hS => ?_)
    refine lv_iconst (v := 1) hx hb dX7_delay_53 (by decide) ?_
    exact xrZ hx hb hr hlk hR hS hq (by decide) (by decide) dX7_delay_54
  exact t_X7_delay_36 Z hr hlk hin  h _ _ ls hq hR hS (hl.sub [] rfl)
abbrev rm_X7_ran : Room := { frames := 5, cells := 0, slots := 0, locals := 109 }
def f_X7_ran_20   (h : Hp) : Option (Int32 × Hp) :=
rtI (-1) h
set_option maxHeartbeats 4000000 in
set_option maxRecDepth 100000 in
theorem t_X7_ran_20 (Z : ZZ p s m args c cX7_ran RX7 4 G) (hr : meth.sig.returnType = (some .int)) (hlk : meth.locks = false) (hin : meth.name = "ran") {v : Int32} {h1 : Hp} : ∀  (h : Hp) (H : Heap) (locs : List Loc) (ls : Array Slot), f_X7_ran_20  h = some (v, h1) → Rep G h H → va_S (AA G) s.heap H locs → LV ls 4 [] → W p l e rm_X7_ran s m args below meth c H locs 0 0 (MQ below (Qx G (some (.int v)) h1) args s 0 0 (AA G)) (F0 m 20 ls []) := by
  intro  h H locs ls hq hR hS hl
  have hx := Z.1
  have hb := Z.2.1
  unfold f_X7_ran_20 at hq
  refine lv_iconst (v := (-1)) hx hb dX7_ran_20 (by decide) ?_
  exact xrI hx hb hr hlk hR hS hq (by decide) (by decide) dX7_ran_21
def f_X7_ran (this : Nat) (a0 : Int32) (a1 : Int32) (h : Hp) : Option (Int32 × Hp) :=
gR h (some this) 8 1 (fun x1 =>
rcv h x1 2 (fun b5 => bd (f_X1_at b5 a0 h) (fun x5 h =>
(if x5 = none then
f_X7_ran_20  h
else
gI h x5 1 10 (fun x14 =>
(if x14 = 0 then
f_X7_ran_20  h
else
gR h (some this) 8 5 (fun x23 =>
rcv h x23 7 (fun b26 => bd (f_X6_bringUpToDate b26 h) (fun u26 h =>
gR h (some this) 8 5 (fun x30 =>
rcv h x30 7 (fun b35 => bd (f_X6_told b35 x5 a1 h) (fun x35 h =>
rtI x35 h))))))))))))
set_option maxHeartbeats 4000000 in
set_option maxRecDepth 100000 in
theorem c_X7_ran (l : Launch) {G : GG} (this : Nat) (a0 : Int32) (a1 : Int32) (h : Hp) (v : Int32) (h1 : Hp) (hq : f_X7_ran this a0 a1 h = some (v, h1)) : Met l yX7_ran (Cond.code yX7_ran cX7_ran 4 (some .int) :: GT) rm_X7_ran (va_Pc [.ref this, .int a0, .int a1] (Cn G h)) (Qx G (some (.int v)) h1) 0 0 (AA G) := by
  refine xMet (cc := cX7_ran) (by decide) (Nat.le_of_ble_eq_true rfl) (List.forall_mem_cons.mpr ⟨rfl, (List.forall_mem_cons.mpr ⟨rfl, (List.forall_mem_cons.mpr ⟨rfl, (fun _ z => by cases z)⟩)⟩)⟩) ?_
  intro p e s m below meth c ls Z hr hlk hin hR hS hl
  have hx := Z.1
  have hb := Z.2.1
  have hl : LV ls 4 [(0, va_rf (some this)), (1, .int a0), (2, .int a1)] := hl
  unfold f_X7_ran at hq
  refine xaln hx hb hl (x := (some this)) 0 rfl dX7_ran_0 ?_
  refine xgR Z hR hq fl_X7_35 rfl dX7_ran_1 (fun x1 hq => ?_)
  refine xiln hx hb hl (x := a0) 1 rfl dX7_ran_4 ?_
  refine xcV Z hR hS hl (rest := []) (As := [.int a0]) hq cl_X7_128 (fun b x h1 hc => c_X1_at l b a0 h x h1 hc) ⟨⟨rfl, rfl⟩, (by decide), (by decide)⟩ rfl rfl (by first | decide | (simp only [List.map_cons, List.map_nil, rf_cat, ct_int, ct_ref, List.sum_cons, List.sum_nil] <;> decide)) dX7_ran_5 (by decide) (fun x5 h H locs hq hR hS => ?_)
  refine xasn hx hb hl (x := x5) (lv' := [(3, va_rf x5), (0, va_rf (some this)), (1, .int a0), (2, .int a1)]) (by decide) dX7_ran_8 rfl (fun ls hl => ?_)
  refine xaln hx hb hl (x := x5) 0 rfl dX7_ran_9 ?_
  refine xnul hx hb hq (tgt := 20) dX7_ran_10 (by decide) (fun hq => ?_) (fun hq => ?_)
  · exact t_X7_ran_20 Z hr hlk hin  h _ _ ls hq hR hS (hl.sub [] rfl)
  refine xaln hx hb hl (x := x5) 0 rfl dX7_ran_13 ?_
  refine xgI Z hR hq fl_X7_149 rfl dX7_ran_14 (fun x14 hq => ?_)
  refine xzNe hx hb hq (tgt := 22) dX7_ran_17 (by decide) (fun hq => ?_) (fun hq => ?_)
  · refine xaln hx hb hl (x := (some this)) 1 rfl dX7_ran_22 ?_
    refine xgR Z hR hq fl_X7_62 rfl dX7_ran_23 (fun x23 hq => ?_)
    refine xcV Z hR hS hl (rest := []) (As := []) hq cl_X7_187 (fun b x h1 hc => c_X6_bringUpToDate l b h x h1 hc) ⟨⟨rfl, rfl⟩, (by decide), (by decide)⟩ rfl rfl (by first | decide | (simp only [List.map_cons, List.map_nil, rf_cat, ct_int, ct_ref, List.sum_cons, List.sum_nil] <;> decide)) dX7_ran_26 (by decide) (fun u26 h H locs hq hR hS => ?_)
    refine xaln hx hb hl (x := (some this)) 1 rfl dX7_ran_29 ?_
    refine xgR Z hR hq fl_X7_62 rfl dX7_ran_30 (fun x30 hq => ?_)
    refine xaln hx hb hl (x := x5) 0 rfl dX7_ran_33 ?_
    refine xiln hx hb hl (x := a1) 3 rfl dX7_ran_34 ?_
    refine xcV Z hR hS hl (rest := []) (As := [va_rf x5, .int a1]) hq cl_X7_190 (fun b x h1 hc => c_X6_told l b x5 a1 h x h1 hc) ⟨⟨rfl, rfl⟩, (by decide), (by decide)⟩ rfl rfl (by first | decide | (simp only [List.map_cons, List.map_nil, rf_cat, ct_int, ct_ref, List.sum_cons, List.sum_nil] <;> decide)) dX7_ran_35 (by decide) (fun x35 h H locs hq hR hS => ?_)
    exact xrI hx hb hr hlk hR hS hq (by decide) (by decide) dX7_ran_38
  exact t_X7_ran_20 Z hr hlk hin  h _ _ ls hq hR hS (hl.sub [] rfl)
abbrev rm_X7_blame : Room := { frames := 5, cells := 0, slots := 0, locals := 109 }
def f_X7_blame_22   (h : Hp) : Option (Int32 × Hp) :=
rtI (-1) h
set_option maxHeartbeats 4000000 in
set_option maxRecDepth 100000 in
theorem t_X7_blame_22 (Z : ZZ p s m args c cX7_blame RX7 3 G) (hr : meth.sig.returnType = (some .int)) (hlk : meth.locks = false) (hin : meth.name = "blame") {v : Int32} {h1 : Hp} : ∀  (h : Hp) (H : Heap) (locs : List Loc) (ls : Array Slot), f_X7_blame_22  h = some (v, h1) → Rep G h H → va_S (AA G) s.heap H locs → LV ls 3 [] → W p l e rm_X7_blame s m args below meth c H locs 0 0 (MQ below (Qx G (some (.int v)) h1) args s 0 0 (AA G)) (F0 m 22 ls []) := by
  intro  h H locs ls hq hR hS hl
  have hx := Z.1
  have hb := Z.2.1
  unfold f_X7_blame_22 at hq
  refine lv_iconst (v := (-1)) hx hb dX7_blame_22 (by decide) ?_
  exact xrI hx hb hr hlk hR hS hq (by decide) (by decide) dX7_blame_23
def f_X7_blame (this : Nat) (a0 : Int32) (a1 : Int32) (h : Hp) : Option (Int32 × Hp) :=
gR h (some this) 8 1 (fun x1 =>
rcv h x1 2 (fun b5 => bd (f_X1_at b5 a0 h) (fun x5 h =>
(if x5 = none then
f_X7_blame_22  h
else
gR h (some this) 8 1 (fun x12 =>
rcv h x12 2 (fun b16 => bd (f_X1_at b16 a1 h) (fun x16 h =>
(if x16 = none then
f_X7_blame_22  h
else
gR h (some this) 8 5 (fun x25 =>
rcv h x25 7 (fun b28 => bd (f_X6_bringUpToDate b28 h) (fun u28 h =>
gR h (some this) 8 5 (fun x32 =>
gR h x32 7 8 (fun x35 =>
ldI h x35 ((a0 * 16) + a1) (fun x44 =>
rtI x44 h))))))))))))))
set_option maxHeartbeats 4000000 in
set_option maxRecDepth 100000 in
theorem c_X7_blame (l : Launch) {G : GG} (this : Nat) (a0 : Int32) (a1 : Int32) (h : Hp) (v : Int32) (h1 : Hp) (hq : f_X7_blame this a0 a1 h = some (v, h1)) : Met l yX7_blame (Cond.code yX7_blame cX7_blame 3 (some .int) :: GT) rm_X7_blame (va_Pc [.ref this, .int a0, .int a1] (Cn G h)) (Qx G (some (.int v)) h1) 0 0 (AA G) := by
  refine xMet (cc := cX7_blame) (by decide) (Nat.le_of_ble_eq_true rfl) (List.forall_mem_cons.mpr ⟨rfl, (List.forall_mem_cons.mpr ⟨rfl, (List.forall_mem_cons.mpr ⟨rfl, (fun _ z => by cases z)⟩)⟩)⟩) ?_
  intro p e s m below meth c ls Z hr hlk hin hR hS hl
  have hx := Z.1
  have hb := Z.2.1
  have hl : LV ls 3 [(0, va_rf (some this)), (1, .int a0), (2, .int a1)] := hl
  unfold f_X7_blame at hq
  refine xaln hx hb hl (x := (some this)) 0 rfl dX7_blame_0 ?_
  refine xgR Z hR hq fl_X7_35 rfl dX7_blame_1 (fun x1 hq => ?_)
  refine xiln hx hb hl (x := a0) 1 rfl dX7_blame_4 ?_
  refine xcV Z hR hS hl (rest := []) (As := [.int a0]) hq cl_X7_128 (fun b x h1 hc => c_X1_at l b a0 h x h1 hc) ⟨⟨rfl, rfl⟩, (by decide), (by decide)⟩ rfl rfl (by first | decide | (simp only [List.map_cons, List.map_nil, rf_cat, ct_int, ct_ref, List.sum_cons, List.sum_nil] <;> decide)) dX7_blame_5 (by decide) (fun x5 h H locs hq hR hS => ?_)
  refine xnul hx hb hq (tgt := 22) dX7_blame_8 (by decide) (fun hq => ?_) (fun hq => ?_)
  · exact t_X7_blame_22 Z hr hlk hin  h _ _ ls hq hR hS (hl.sub [] rfl)
  refine xaln hx hb hl (x := (some this)) 0 rfl dX7_blame_11 ?_
  refine xgR Z hR hq fl_X7_35 rfl dX7_blame_12 (fun x12 hq => ?_)
  refine xiln hx hb hl (x := a1) 2 rfl dX7_blame_15 ?_
  refine xcV Z hR hS hl (rest := []) (As := [.int a1]) hq cl_X7_128 (fun b x h1 hc => c_X1_at l b a1 h x h1 hc) ⟨⟨rfl, rfl⟩, (by decide), (by decide)⟩ rfl rfl (by first | decide | (simp only [List.map_cons, List.map_nil, rf_cat, ct_int, ct_ref, List.sum_cons, List.sum_nil] <;> decide)) dX7_blame_16 (by decide) (fun x16 h H locs hq hR hS => ?_)
  refine xnon hx hb hq (tgt := 24) dX7_blame_19 (by decide) (fun hq => ?_) (fun hq => ?_)
  · refine xaln hx hb hl (x := (some this)) 0 rfl dX7_blame_24 ?_
    refine xgR Z hR hq fl_X7_62 rfl dX7_blame_25 (fun x25 hq => ?_)
    refine xcV Z hR hS hl (rest := []) (As := []) hq cl_X7_187 (fun b x h1 hc => c_X6_bringUpToDate l b h x h1 hc) ⟨⟨rfl, rfl⟩, (by decide), (by decide)⟩ rfl rfl (by first | decide | (simp only [List.map_cons, List.map_nil, rf_cat, ct_int, ct_ref, List.sum_cons, List.sum_nil] <;> decide)) dX7_blame_28 (by decide) (fun u28 h H locs hq hR hS => ?_)
    refine xaln hx hb hl (x := (some this)) 0 rfl dX7_blame_31 ?_
    refine xgR Z hR hq fl_X7_62 rfl dX7_blame_32 (fun x32 hq => ?_)
    refine xgR Z hR hq fl_X7_194 rfl dX7_blame_35 (fun x35 hq => ?_)
    refine xiln hx hb hl (x := a0) 1 rfl dX7_blame_38 ?_
    refine lv_bipush (v := 16) hx hb dX7_blame_39 (by decide) ?_
    refine lv_imul hx hb dX7_blame_41 ?_
    refine xiln hx hb hl (x := a1) 2 rfl dX7_blame_42 ?_
    refine lv_iadd hx hb dX7_blame_43 ?_
    refine xaI Z hR hq dX7_blame_44 (fun x44 hq => ?_)
    exact xrI hx hb hr hlk hR hS hq (by decide) (by decide) dX7_blame_45
  exact t_X7_blame_22 Z hr hlk hin  h _ _ ls hq hR hS (hl.sub [] rfl)
abbrev rm_X7_balance : Room := { frames := 5, cells := 0, slots := 0, locals := 109 }
def f_X7_balance (this : Nat) (a0 : Int32) (h : Hp) : Option (Int32 × Hp) :=
bd (f_X7_isWithin a0 0 5 h) (fun x3 h =>
(if x3 = 0 then
rtI 0 h
else
gR h (some this) 8 5 (fun x12 =>
rcv h x12 7 (fun b15 => bd (f_X6_bringUpToDate b15 h) (fun u15 h =>
gR h (some this) 8 5 (fun x19 =>
rcv h x19 7 (fun b23 => bd (f_X6_coinsOf b23 a0 h) (fun x23 h =>
rtI x23 h))))))))
set_option maxHeartbeats 4000000 in
set_option maxRecDepth 100000 in
theorem c_X7_balance (l : Launch) {G : GG} (this : Nat) (a0 : Int32) (h : Hp) (v : Int32) (h1 : Hp) (hq : f_X7_balance this a0 h = some (v, h1)) : Met l yX7_balance (Cond.code yX7_balance cX7_balance 2 (some .int) :: GT) rm_X7_balance (va_Pc [.ref this, .int a0] (Cn G h)) (Qx G (some (.int v)) h1) 0 0 (AA G) := by
  refine xMet (cc := cX7_balance) (by decide) (Nat.le_of_ble_eq_true rfl) (List.forall_mem_cons.mpr ⟨rfl, (List.forall_mem_cons.mpr ⟨rfl, (fun _ z => by cases z)⟩)⟩) ?_
  intro p e s m below meth c ls Z hr hlk hin hR hS hl
  have hx := Z.1
  have hb := Z.2.1
  have hl : LV ls 2 [(0, va_rf (some this)), (1, .int a0)] := hl
  unfold f_X7_balance at hq
  refine xiln hx hb hl (x := a0) 1 rfl dX7_balance_0 ?_
  refine lv_iconst (v := 0) hx hb dX7_balance_1 (by decide) ?_
  refine lv_iconst (v := 5) hx hb dX7_balance_2 (by decide) ?_
  refine xcS Z hR hS hl (rest := []) (As := [.int a0, .int 0, .int 5]) hq cl_X7_70 (fun x h1 hc => c_X7_isWithin l a0 0 5 h x h1 hc) ⟨⟨rfl, rfl⟩, (by decide), (by decide)⟩ rfl rfl (by first | decide | (simp only [List.map_cons, List.map_nil, rf_cat, ct_int, ct_ref, List.sum_cons, List.sum_nil] <;> decide)) dX7_balance_3 (by decide) (fun x3 h H locs hq hR hS => ?_)
  refine xzNe hx hb hq (tgt := 11) dX7_balance_6 (by decide) (fun hq => ?_) (fun hq => ?_)
  · refine xaln hx hb hl (x := (some this)) 0 rfl dX7_balance_11 ?_
    refine xgR Z hR hq fl_X7_62 rfl dX7_balance_12 (fun x12 hq => ?_)
    refine xcV Z hR hS hl (rest := []) (As := []) hq cl_X7_187 (fun b x h1 hc => c_X6_bringUpToDate l b h x h1 hc) ⟨⟨rfl, rfl⟩, (by decide), (by decide)⟩ rfl rfl (by first | decide | (simp only [List.map_cons, List.map_nil, rf_cat, ct_int, ct_ref, List.sum_cons, List.sum_nil] <;> decide)) dX7_balance_15 (by decide) (fun u15 h H locs hq hR hS => ?_)
    refine xaln hx hb hl (x := (some this)) 0 rfl dX7_balance_18 ?_
    refine xgR Z hR hq fl_X7_62 rfl dX7_balance_19 (fun x19 hq => ?_)
    refine xiln hx hb hl (x := a0) 1 rfl dX7_balance_22 ?_
    refine xcV Z hR hS hl (rest := []) (As := [.int a0]) hq cl_X7_197 (fun b x h1 hc => c_X6_coinsOf l b a0 h x h1 hc) ⟨⟨rfl, rfl⟩, (by decide), (by decide)⟩ rfl rfl (by first | decide | (simp only [List.map_cons, List.map_nil, rf_cat, ct_int, ct_ref, List.sum_cons, List.sum_nil] <;> decide)) dX7_balance_23 (by decide) (fun x23 h H locs hq hR hS => ?_)
    exact xrI hx hb hr hlk hR hS hq (by decide) (by decide) dX7_balance_26
  refine lv_iconst (v := 0) hx hb dX7_balance_9 (by decide) ?_
  exact xrI hx hb hr hlk hR hS hq (by decide) (by decide) dX7_balance_10
abbrev rm_X7_count : Room := { frames := 4, cells := 0, slots := 0, locals := 86 }
def f_X7_count (this : Nat) (a0 : Int32) (h : Hp) : Option (Int32 × Hp) :=
(if a0 = 0 then
gR h (some this) 8 0 (fun x41 =>
gI h x41 4 0 (fun x44 =>
rtI x44 h))
else
if a0 = 1 then
gR h (some this) 8 1 (fun x49 =>
rcv h x49 2 (fun b52 => bd (f_X1_size b52 h) (fun x52 h =>
rtI x52 h)))
else
if a0 = 2 then
gR h (some this) 8 1 (fun x57 =>
rcv h x57 2 (fun b60 => bd (f_X1_pathsGiven b60 h) (fun x60 h =>
rtI x60 h)))
else
if a0 = 3 then
gR h (some this) 8 1 (fun x65 =>
rcv h x65 2 (fun b68 => bd (f_X1_worthsGiven b68 h) (fun x68 h =>
rtI x68 h)))
else
if a0 = 4 then
gR h (some this) 8 0 (fun x73 =>
gI h x73 4 8 (fun x76 =>
rtI x76 h))
else
if a0 = 5 then
gR h (some this) 8 0 (fun x81 =>
gI h x81 4 9 (fun x84 =>
rtI x84 h))
else
rtI (-1) h)
set_option maxHeartbeats 4000000 in
set_option maxRecDepth 100000 in
theorem c_X7_count (l : Launch) {G : GG} (this : Nat) (a0 : Int32) (h : Hp) (v : Int32) (h1 : Hp) (hq : f_X7_count this a0 h = some (v, h1)) : Met l yX7_count (Cond.code yX7_count cX7_count 2 (some .int) :: GT) rm_X7_count (va_Pc [.ref this, .int a0] (Cn G h)) (Qx G (some (.int v)) h1) 0 0 (AA G) := by
  refine xMet (cc := cX7_count) (by decide) (Nat.le_of_ble_eq_true rfl) (List.forall_mem_cons.mpr ⟨rfl, (List.forall_mem_cons.mpr ⟨rfl, (fun _ z => by cases z)⟩)⟩) ?_
  intro p e s m below meth c ls Z hr hlk hin hR hS hl
  have hx := Z.1
  have hb := Z.2.1
  have hl : LV ls 2 [(0, va_rf (some this)), (1, .int a0)] := hl
  unfold f_X7_count at hq
  refine xiln hx hb hl (x := a0) 1 rfl dX7_count_0 ?_
  by_cases e1_0 : a0 = 0
  · have hq := ite_t hq e1_0
    refine lv_tableIn (x := a0) (off := 39) (tgt := 40) hx hb dX7_count_1 (by rw [e1_0]; decide) (by rw [e1_0]; decide) (by rw [e1_0]; rfl) (by decide) ?_
    refine xaln hx hb hl (x := (some this)) 0 rfl dX7_count_40 ?_
    refine xgR Z hR hq fl_X7_31 rfl dX7_count_41 (fun x41 hq => ?_)
    refine xgI Z hR hq fl_X7_106 rfl dX7_count_44 (fun x44 hq => ?_)
    exact xrI hx hb hr hlk hR hS hq (by decide) (by decide) dX7_count_47
  replace hq := ite_f hq e1_0
  by_cases e1_1 : a0 = 1
  · have hq := ite_t hq e1_1
    refine lv_tableIn (x := a0) (off := 47) (tgt := 48) hx hb dX7_count_1 (by rw [e1_1]; decide) (by rw [e1_1]; decide) (by rw [e1_1]; rfl) (by decide) ?_
    refine xaln hx hb hl (x := (some this)) 0 rfl dX7_count_48 ?_
    refine xgR Z hR hq fl_X7_35 rfl dX7_count_49 (fun x49 hq => ?_)
    refine xcV Z hR hS hl (rest := []) (As := []) hq cl_X7_103 (fun b x h1 hc => c_X1_size l b h x h1 hc) ⟨⟨rfl, rfl⟩, (by decide), (by decide)⟩ rfl rfl (by first | decide | (simp only [List.map_cons, List.map_nil, rf_cat, ct_int, ct_ref, List.sum_cons, List.sum_nil] <;> decide)) dX7_count_52 (by decide) (fun x52 h H locs hq hR hS => ?_)
    exact xrI hx hb hr hlk hR hS hq (by decide) (by decide) dX7_count_55
  replace hq := ite_f hq e1_1
  by_cases e1_2 : a0 = 2
  · have hq := ite_t hq e1_2
    refine lv_tableIn (x := a0) (off := 55) (tgt := 56) hx hb dX7_count_1 (by rw [e1_2]; decide) (by rw [e1_2]; decide) (by rw [e1_2]; rfl) (by decide) ?_
    refine xaln hx hb hl (x := (some this)) 0 rfl dX7_count_56 ?_
    refine xgR Z hR hq fl_X7_35 rfl dX7_count_57 (fun x57 hq => ?_)
    refine xcV Z hR hS hl (rest := []) (As := []) hq cl_X7_74 (fun b x h1 hc => c_X1_pathsGiven l b h x h1 hc) ⟨⟨rfl, rfl⟩, (by decide), (by decide)⟩ rfl rfl (by first | decide | (simp only [List.map_cons, List.map_nil, rf_cat, ct_int, ct_ref, List.sum_cons, List.sum_nil] <;> decide)) dX7_count_60 (by decide) (fun x60 h H locs hq hR hS => ?_)
    exact xrI hx hb hr hlk hR hS hq (by decide) (by decide) dX7_count_63
  replace hq := ite_f hq e1_2
  by_cases e1_3 : a0 = 3
  · have hq := ite_t hq e1_3
    refine lv_tableIn (x := a0) (off := 63) (tgt := 64) hx hb dX7_count_1 (by rw [e1_3]; decide) (by rw [e1_3]; decide) (by rw [e1_3]; rfl) (by decide) ?_
    refine xaln hx hb hl (x := (some this)) 0 rfl dX7_count_64 ?_
    refine xgR Z hR hq fl_X7_35 rfl dX7_count_65 (fun x65 hq => ?_)
    refine xcV Z hR hS hl (rest := []) (As := []) hq cl_X7_159 (fun b x h1 hc => c_X1_worthsGiven l b h x h1 hc) ⟨⟨rfl, rfl⟩, (by decide), (by decide)⟩ rfl rfl (by first | decide | (simp only [List.map_cons, List.map_nil, rf_cat, ct_int, ct_ref, List.sum_cons, List.sum_nil] <;> decide)) dX7_count_68 (by decide) (fun x68 h H locs hq hR hS => ?_)
    exact xrI hx hb hr hlk hR hS hq (by decide) (by decide) dX7_count_71
  replace hq := ite_f hq e1_3
  by_cases e1_4 : a0 = 4
  · have hq := ite_t hq e1_4
    refine lv_tableIn (x := a0) (off := 71) (tgt := 72) hx hb dX7_count_1 (by rw [e1_4]; decide) (by rw [e1_4]; decide) (by rw [e1_4]; rfl) (by decide) ?_
    refine xaln hx hb hl (x := (some this)) 0 rfl dX7_count_72 ?_
    refine xgR Z hR hq fl_X7_31 rfl dX7_count_73 (fun x73 hq => ?_)
    refine xgI Z hR hq fl_X7_96 rfl dX7_count_76 (fun x76 hq => ?_)
    exact xrI hx hb hr hlk hR hS hq (by decide) (by decide) dX7_count_79
  replace hq := ite_f hq e1_4
  by_cases e1_5 : a0 = 5
  · have hq := ite_t hq e1_5
    refine lv_tableIn (x := a0) (off := 79) (tgt := 80) hx hb dX7_count_1 (by rw [e1_5]; decide) (by rw [e1_5]; decide) (by rw [e1_5]; rfl) (by decide) ?_
    refine xaln hx hb hl (x := (some this)) 0 rfl dX7_count_80 ?_
    refine xgR Z hR hq fl_X7_31 rfl dX7_count_81 (fun x81 hq => ?_)
    refine xgI Z hR hq fl_X7_92 rfl dX7_count_84 (fun x84 hq => ?_)
    exact xrI hx hb hr hlk hR hS hq (by decide) (by decide) dX7_count_87
  replace hq := ite_f hq e1_5
  refine lv_tableOut (x := a0) (tgt := 88) hx hb dX7_count_1 (sw_out 6 (by decide) (by intro j hj; match j, hj with | 0, _ => exact e1_0 | 1, _ => exact e1_1 | 2, _ => exact e1_2 | 3, _ => exact e1_3 | 4, _ => exact e1_4 | 5, _ => exact e1_5 | j + 6, hj => exact absurd hj (by omega))) (by decide) ?_
  refine lv_iconst (v := (-1)) hx hb dX7_count_88 (by decide) ?_
  exact xrI hx hb hr hlk hR hS hq (by decide) (by decide) dX7_count_89
end
