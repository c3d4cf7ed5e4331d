def ex_Good (w : Cond) : Bool := match w with
  | .declares _ => true
  | .castable _ _ => true
  | .methodLinkNest _ _ _ _ => true
  | .arrayOver (.object _) => true
  | w => goodWord w
def ex_W (w : Cond) : Prop := w ∈ lw_tbl ∧ ex_Good w = true
theorem ex_warm {s0 s : State} (hW : s0.WarmedH s.vm) {A0 args : Array Value} {w : Cond} (hg : ex_Good w = true) (h : w.before A0 s0 = true) : w.before args s = true := by
  unfold ex_Good at hg
  split at hg
  · exact va_Nw.use rfl (va_Nw.warmD hW (va_Nw.of rfl h))
  · exact va_Nw.use rfl (va_Nw.warmC hW (va_Nw.of rfl h))
  · exact va_Nw.use rfl (va_Nw.warmM hW (va_Nw.of rfl h))
  · exact va_AO.use (va_AO.moved hW.alike (va_AO.of h))
  · exact word_at hW (good_of_word hg) h
theorem wd_0 : ex_W (.initialized "StreamTowerLaw") := ⟨List.mem_append_right _ (List.mem_of_getElem? (i := 0) rfl), rfl⟩
theorem wd_1 : ex_W (.initialized "StreamTower") := ⟨List.mem_append_right _ (List.mem_of_getElem? (i := 1) rfl), rfl⟩
theorem wd_2 : ex_W (.initialized "StreamTower$Stream") := ⟨List.mem_append_right _ (List.mem_of_getElem? (i := 2) rfl), rfl⟩
theorem wd_3 : ex_W (.initialized "StreamTower$Source") := ⟨List.mem_append_right _ (List.mem_of_getElem? (i := 3) rfl), rfl⟩
theorem wd_4 : ex_W (.initialized "StreamTower$Row") := ⟨List.mem_append_right _ (List.mem_of_getElem? (i := 4) rfl), rfl⟩
theorem wd_5 : ex_W (.initialized "StreamTowerModel") := ⟨List.mem_append_right _ (List.mem_of_getElem? (i := 5) rfl), rfl⟩
theorem wd_6 : ex_W (.initialized "java/lang/Throwable") := ⟨List.mem_append_right _ (List.mem_of_getElem? (i := 6) rfl), rfl⟩
theorem wd_7 : ex_W (.initialized "java/lang/Exception") := ⟨List.mem_append_right _ (List.mem_of_getElem? (i := 7) rfl), rfl⟩
theorem wd_8 : ex_W (.initialized "java/lang/RuntimeException") := ⟨List.mem_append_right _ (List.mem_of_getElem? (i := 8) rfl), rfl⟩
theorem wd_9 : ex_W (.initialized "java/lang/IllegalArgumentException") := ⟨List.mem_append_right _ (List.mem_of_getElem? (i := 9) rfl), rfl⟩
theorem wd_10 : ex_W (.initialized "java/lang/IllegalStateException") := ⟨List.mem_append_right _ (List.mem_of_getElem? (i := 10) rfl), rfl⟩
theorem wd_11 : ex_W (.initialized "StreamTower$Buffer") := ⟨List.mem_append_right _ (List.mem_of_getElem? (i := 11) rfl), rfl⟩
theorem wd_12 : ex_W (.initialized "StreamTower$Pushback") := ⟨List.mem_append_right _ (List.mem_of_getElem? (i := 12) rfl), rfl⟩
theorem wd_13 : ex_W (.initialized "StreamTower$Passing") := ⟨List.mem_append_right _ (List.mem_of_getElem? (i := 13) rfl), rfl⟩
theorem wd_14 : ex_W (.initialized "StreamTower$Limit") := ⟨List.mem_append_right _ (List.mem_of_getElem? (i := 14) rfl), rfl⟩
theorem wd_15 : ex_W (.initialized "StreamTower$Code") := ⟨List.mem_append_right _ (List.mem_of_getElem? (i := 15) rfl), rfl⟩
theorem wd_16 : ex_W (.initialized "StreamTower$Lines") := ⟨List.mem_append_right _ (List.mem_of_getElem? (i := 16) rfl), rfl⟩
theorem wd_17 : ex_W (.initialized "java/lang/Math") := ⟨List.mem_append_right _ (List.mem_of_getElem? (i := 17) rfl), rfl⟩
theorem wd_18 : ex_W (.initialized "java/lang/System") := ⟨List.mem_append_right _ (List.mem_of_getElem? (i := 18) rfl), rfl⟩
theorem wd_19 : ex_W (.initialized "java/util/NoSuchElementException") := ⟨List.mem_append_right _ (List.mem_of_getElem? (i := 19) rfl), rfl⟩
theorem wd_20 : ex_W (.initialized "java/lang/UnsupportedOperationException") := ⟨List.mem_append_right _ (List.mem_of_getElem? (i := 20) rfl), rfl⟩
theorem wd_21 : ex_W (.classLink "StreamTowerLaw" 8 "StreamTower") := ⟨List.mem_append_right _ (List.mem_of_getElem? (i := 21) rfl), rfl⟩
theorem wd_22 : ex_W (.instantiable "StreamTower" 10) := ⟨List.mem_append_right _ (List.mem_of_getElem? (i := 22) rfl), rfl⟩
theorem wd_23 : ex_W (.methodLink "StreamTowerLaw" 58 ⟨"StreamTower", "<init>", "()V"⟩) := ⟨List.mem_append_right _ (List.mem_of_getElem? (i := 23) rfl), rfl⟩
theorem wd_24 : ex_W (.instanceMethod ⟨"StreamTower", "<init>", "()V"⟩) := ⟨List.mem_append_right _ (List.mem_of_getElem? (i := 24) rfl), rfl⟩
theorem wd_25 : ex_W (.code ⟨"StreamTower", "<init>", "()V"⟩ prog_1_method_1_code 1 none) := ⟨List.mem_append_right _ (List.mem_of_getElem? (i := 25) rfl), rfl⟩
theorem wd_26 : ex_W (.methodLink "StreamTower" 3 ⟨"java/lang/Object", "<init>", "()V"⟩) := ⟨List.mem_append_right _ (List.mem_of_getElem? (i := 26) rfl), rfl⟩
theorem wd_27 : ex_W (.instanceMethod ⟨"java/lang/Object", "<init>", "()V"⟩) := ⟨List.mem_append_right _ (List.mem_of_getElem? (i := 27) rfl), rfl⟩
theorem wd_28 : ex_W (.code ⟨"java/lang/Object", "<init>", "()V"⟩ object_method_1_code 1 none) := ⟨List.mem_append_right _ (List.mem_of_getElem? (i := 28) rfl), rfl⟩
theorem wd_29 : ex_W (.classLink "StreamTower" 9 "StreamTower$Source") := ⟨List.mem_append_right _ (List.mem_of_getElem? (i := 29) rfl), rfl⟩
theorem wd_30 : ex_W (.instantiable "StreamTower$Source" 5) := ⟨List.mem_append_right _ (List.mem_of_getElem? (i := 30) rfl), rfl⟩
theorem wd_31 : ex_W (.methodLink "StreamTower" 11 ⟨"StreamTower$Source", "<init>", "()V"⟩) := ⟨List.mem_append_right _ (List.mem_of_getElem? (i := 31) rfl), rfl⟩
theorem wd_32 : ex_W (.instanceMethod ⟨"StreamTower$Source", "<init>", "()V"⟩) := ⟨List.mem_append_right _ (List.mem_of_getElem? (i := 32) rfl), rfl⟩
theorem wd_33 : ex_W (.code ⟨"StreamTower$Source", "<init>", "()V"⟩ prog_9_method_1_code 1 none) := ⟨List.mem_append_right _ (List.mem_of_getElem? (i := 33) rfl), rfl⟩
theorem wd_34 : ex_W (.methodLinkNest "StreamTower$Source" 3 ⟨"StreamTower$Stream", "<init>", "()V"⟩ "StreamTower") := ⟨List.mem_append_right _ (List.mem_of_getElem? (i := 34) rfl), rfl⟩
theorem wd_35 : ex_W (.instanceMethod ⟨"StreamTower$Stream", "<init>", "()V"⟩) := ⟨List.mem_append_right _ (List.mem_of_getElem? (i := 35) rfl), rfl⟩
theorem wd_36 : ex_W (.code ⟨"StreamTower$Stream", "<init>", "()V"⟩ prog_10_method_1_code 1 none) := ⟨List.mem_append_right _ (List.mem_of_getElem? (i := 36) rfl), rfl⟩
theorem wd_37 : ex_W (.methodLink "StreamTower$Stream" 1 ⟨"java/lang/Object", "<init>", "()V"⟩) := ⟨List.mem_append_right _ (List.mem_of_getElem? (i := 37) rfl), rfl⟩
theorem wd_38 : ex_W (.fieldLink "StreamTower$Source" 9 "StreamTower$Source" "bytes" "[I") := ⟨List.mem_append_right _ (List.mem_of_getElem? (i := 38) rfl), rfl⟩
theorem wd_39 : ex_W (.fieldLink "StreamTower$Source" 15 "StreamTower$Source" "startsPortion" "[Z") := ⟨List.mem_append_right _ (List.mem_of_getElem? (i := 39) rfl), rfl⟩
theorem wd_40 : ex_W (.fieldLink "StreamTower$Source" 19 "StreamTower$Source" "broken" "[Z") := ⟨List.mem_append_right _ (List.mem_of_getElem? (i := 40) rfl), rfl⟩
theorem wd_41 : ex_W (.fieldLink "StreamTower$Source" 22 "StreamTower$Source" "count" "I") := ⟨List.mem_append_right _ (List.mem_of_getElem? (i := 41) rfl), rfl⟩
theorem wd_42 : ex_W (.fieldLink "StreamTower" 55 "StreamTower$Source" "count" "I") := ⟨List.mem_append_right _ (List.mem_of_getElem? (i := 42) rfl), rfl⟩
theorem wd_43 : ex_W (.fieldLink "StreamTower$Source" 30 "StreamTower$Source" "taken" "I") := ⟨List.mem_append_right _ (List.mem_of_getElem? (i := 43) rfl), rfl⟩
theorem wd_44 : ex_W (.laysFinal "StreamTower$Source" "StreamTower$Source" "bytes" "[I") := ⟨List.mem_append_right _ (List.mem_of_getElem? (i := 44) rfl), rfl⟩
theorem wd_45 : ex_W (.soleField "StreamTower$Source" "bytes") := ⟨List.mem_append_right _ (List.mem_of_getElem? (i := 45) rfl), rfl⟩
theorem wd_46 : ex_W (.laysFinal "StreamTower$Source" "StreamTower$Source" "startsPortion" "[Z") := ⟨List.mem_append_right _ (List.mem_of_getElem? (i := 46) rfl), rfl⟩
theorem wd_47 : ex_W (.soleField "StreamTower$Source" "startsPortion") := ⟨List.mem_append_right _ (List.mem_of_getElem? (i := 47) rfl), rfl⟩
theorem wd_48 : ex_W (.laysFinal "StreamTower$Source" "StreamTower$Source" "broken" "[Z") := ⟨List.mem_append_right _ (List.mem_of_getElem? (i := 48) rfl), rfl⟩
theorem wd_49 : ex_W (.soleField "StreamTower$Source" "broken") := ⟨List.mem_append_right _ (List.mem_of_getElem? (i := 49) rfl), rfl⟩
theorem wd_50 : ex_W (.lays "StreamTower$Source" "StreamTower$Source" "count" "I") := ⟨List.mem_append_right _ (List.mem_of_getElem? (i := 50) rfl), rfl⟩
theorem wd_51 : ex_W (.soleField "StreamTower$Source" "count") := ⟨List.mem_append_right _ (List.mem_of_getElem? (i := 51) rfl), rfl⟩
theorem wd_52 : ex_W (.lays "StreamTower$Source" "StreamTower$Source" "taken" "I") := ⟨List.mem_append_right _ (List.mem_of_getElem? (i := 52) rfl), rfl⟩
theorem wd_53 : ex_W (.soleField "StreamTower$Source" "taken") := ⟨List.mem_append_right _ (List.mem_of_getElem? (i := 53) rfl), rfl⟩
theorem wd_54 : ex_W (.superclass "StreamTower$Source" "StreamTower$Stream") := ⟨List.mem_append_right _ (List.mem_of_getElem? (i := 54) rfl), rfl⟩
theorem wd_55 : ex_W (.arrayClass FieldType.int) := ⟨List.mem_append_right _ (List.mem_of_getElem? (i := 55) rfl), rfl⟩
theorem wd_56 : ex_W (.arrayClass FieldType.boolean) := ⟨List.mem_append_right _ (List.mem_of_getElem? (i := 56) rfl), rfl⟩
theorem wd_57 : ex_W (.classLink "StreamTower" 16 "StreamTower$Stream") := ⟨List.mem_append_right _ (List.mem_of_getElem? (i := 57) rfl), rfl⟩
theorem wd_58 : ex_W (.arrayOver (FieldType.object "StreamTower$Stream")) := ⟨List.mem_append_right _ (List.mem_of_getElem? (i := 58) rfl), rfl⟩
theorem wd_59 : ex_W (.classLink "StreamTower" 26 "StreamTower$Row") := ⟨List.mem_append_right _ (List.mem_of_getElem? (i := 59) rfl), rfl⟩
theorem wd_60 : ex_W (.instantiable "StreamTower$Row" 2) := ⟨List.mem_append_right _ (List.mem_of_getElem? (i := 60) rfl), rfl⟩
theorem wd_61 : ex_W (.methodLink "StreamTower" 28 ⟨"StreamTower$Row", "<init>", "(I)V"⟩) := ⟨List.mem_append_right _ (List.mem_of_getElem? (i := 61) rfl), rfl⟩
theorem wd_62 : ex_W (.instanceMethod ⟨"StreamTower$Row", "<init>", "(I)V"⟩) := ⟨List.mem_append_right _ (List.mem_of_getElem? (i := 62) rfl), rfl⟩
theorem wd_63 : ex_W (.code ⟨"StreamTower$Row", "<init>", "(I)V"⟩ prog_8_method_1_code 2 none) := ⟨List.mem_append_right _ (List.mem_of_getElem? (i := 63) rfl), rfl⟩
theorem wd_64 : ex_W (.methodLink "StreamTower$Row" 3 ⟨"java/lang/Object", "<init>", "()V"⟩) := ⟨List.mem_append_right _ (List.mem_of_getElem? (i := 64) rfl), rfl⟩
theorem wd_65 : ex_W (.fieldLink "StreamTower$Row" 9 "StreamTower$Row" "items" "[I") := ⟨List.mem_append_right _ (List.mem_of_getElem? (i := 65) rfl), rfl⟩
theorem wd_66 : ex_W (.fieldLink "StreamTower$Row" 15 "StreamTower$Row" "count" "I") := ⟨List.mem_append_right _ (List.mem_of_getElem? (i := 66) rfl), rfl⟩
theorem wd_67 : ex_W (.fieldLink "StreamTower" 111 "StreamTower$Row" "count" "I") := ⟨List.mem_append_right _ (List.mem_of_getElem? (i := 67) rfl), rfl⟩
theorem wd_68 : ex_W (.laysFinal "StreamTower$Row" "StreamTower$Row" "items" "[I") := ⟨List.mem_append_right _ (List.mem_of_getElem? (i := 68) rfl), rfl⟩
theorem wd_69 : ex_W (.soleField "StreamTower$Row" "items") := ⟨List.mem_append_right _ (List.mem_of_getElem? (i := 69) rfl), rfl⟩
theorem wd_70 : ex_W (.lays "StreamTower$Row" "StreamTower$Row" "count" "I") := ⟨List.mem_append_right _ (List.mem_of_getElem? (i := 70) rfl), rfl⟩
theorem wd_71 : ex_W (.soleField "StreamTower$Row" "count") := ⟨List.mem_append_right _ (List.mem_of_getElem? (i := 71) rfl), rfl⟩
theorem wd_72 : ex_W (.superclass "StreamTower$Row" "java/lang/Object") := ⟨List.mem_append_right _ (List.mem_of_getElem? (i := 72) rfl), rfl⟩
theorem wd_73 : ex_W (.fieldLink "StreamTower" 12 "StreamTower" "source" "LStreamTower$Source;") := ⟨List.mem_append_right _ (List.mem_of_getElem? (i := 73) rfl), rfl⟩
theorem wd_74 : ex_W (.fieldLink "StreamTower" 18 "StreamTower" "layers" "[LStreamTower$Stream;") := ⟨List.mem_append_right _ (List.mem_of_getElem? (i := 74) rfl), rfl⟩
theorem wd_75 : ex_W (.fieldLink "StreamTower" 22 "StreamTower" "answered" "[I") := ⟨List.mem_append_right _ (List.mem_of_getElem? (i := 75) rfl), rfl⟩
theorem wd_76 : ex_W (.fieldLink "StreamTower" 31 "StreamTower" "bag" "LStreamTower$Row;") := ⟨List.mem_append_right _ (List.mem_of_getElem? (i := 76) rfl), rfl⟩
theorem wd_77 : ex_W (.fieldLink "StreamTower" 35 "StreamTower" "letters" "LStreamTower$Row;") := ⟨List.mem_append_right _ (List.mem_of_getElem? (i := 77) rfl), rfl⟩
theorem wd_78 : ex_W (.fieldLink "StreamTower" 38 "StreamTower" "top" "LStreamTower$Stream;") := ⟨List.mem_append_right _ (List.mem_of_getElem? (i := 78) rfl), rfl⟩
theorem wd_79 : ex_W (.fieldLink "StreamTower" 76 "StreamTower" "layerCount" "I") := ⟨List.mem_append_right _ (List.mem_of_getElem? (i := 79) rfl), rfl⟩
theorem wd_80 : ex_W (.fieldLink "StreamTower" 72 "StreamTower" "closed" "Z") := ⟨List.mem_append_right _ (List.mem_of_getElem? (i := 80) rfl), rfl⟩
theorem wd_81 : ex_W (.fieldLink "StreamTower" 112 "StreamTower" "leavesOutLineFeed" "Z") := ⟨List.mem_append_right _ (List.mem_of_getElem? (i := 81) rfl), rfl⟩
theorem wd_82 : ex_W (.fieldLink "StreamTower" 131 "StreamTower" "leftOutLineFeedAtMark" "Z") := ⟨List.mem_append_right _ (List.mem_of_getElem? (i := 82) rfl), rfl⟩
theorem wd_83 : ex_W (.laysFinal "StreamTower" "StreamTower" "source" "LStreamTower$Source;") := ⟨List.mem_append_right _ (List.mem_of_getElem? (i := 83) rfl), rfl⟩
theorem wd_84 : ex_W (.soleField "StreamTower" "source") := ⟨List.mem_append_right _ (List.mem_of_getElem? (i := 84) rfl), rfl⟩
theorem wd_85 : ex_W (.laysFinal "StreamTower" "StreamTower" "layers" "[LStreamTower$Stream;") := ⟨List.mem_append_right _ (List.mem_of_getElem? (i := 85) rfl), rfl⟩
theorem wd_86 : ex_W (.soleField "StreamTower" "layers") := ⟨List.mem_append_right _ (List.mem_of_getElem? (i := 86) rfl), rfl⟩
theorem wd_87 : ex_W (.laysFinal "StreamTower" "StreamTower" "answered" "[I") := ⟨List.mem_append_right _ (List.mem_of_getElem? (i := 87) rfl), rfl⟩
theorem wd_88 : ex_W (.soleField "StreamTower" "answered") := ⟨List.mem_append_right _ (List.mem_of_getElem? (i := 88) rfl), rfl⟩
theorem wd_89 : ex_W (.laysFinal "StreamTower" "StreamTower" "bag" "LStreamTower$Row;") := ⟨List.mem_append_right _ (List.mem_of_getElem? (i := 89) rfl), rfl⟩
theorem wd_90 : ex_W (.soleField "StreamTower" "bag") := ⟨List.mem_append_right _ (List.mem_of_getElem? (i := 90) rfl), rfl⟩
theorem wd_91 : ex_W (.laysFinal "StreamTower" "StreamTower" "letters" "LStreamTower$Row;") := ⟨List.mem_append_right _ (List.mem_of_getElem? (i := 91) rfl), rfl⟩
theorem wd_92 : ex_W (.soleField "StreamTower" "letters") := ⟨List.mem_append_right _ (List.mem_of_getElem? (i := 92) rfl), rfl⟩
theorem wd_93 : ex_W (.lays "StreamTower" "StreamTower" "top" "LStreamTower$Stream;") := ⟨List.mem_append_right _ (List.mem_of_getElem? (i := 93) rfl), rfl⟩
theorem wd_94 : ex_W (.soleField "StreamTower" "top") := ⟨List.mem_append_right _ (List.mem_of_getElem? (i := 94) rfl), rfl⟩
theorem wd_95 : ex_W (.lays "StreamTower" "StreamTower" "layerCount" "I") := ⟨List.mem_append_right _ (List.mem_of_getElem? (i := 95) rfl), rfl⟩
theorem wd_96 : ex_W (.soleField "StreamTower" "layerCount") := ⟨List.mem_append_right _ (List.mem_of_getElem? (i := 96) rfl), rfl⟩
theorem wd_97 : ex_W (.lays "StreamTower" "StreamTower" "closed" "Z") := ⟨List.mem_append_right _ (List.mem_of_getElem? (i := 97) rfl), rfl⟩
theorem wd_98 : ex_W (.soleField "StreamTower" "closed") := ⟨List.mem_append_right _ (List.mem_of_getElem? (i := 98) rfl), rfl⟩
theorem wd_99 : ex_W (.lays "StreamTower" "StreamTower" "leavesOutLineFeed" "Z") := ⟨List.mem_append_right _ (List.mem_of_getElem? (i := 99) rfl), rfl⟩
theorem wd_100 : ex_W (.soleField "StreamTower" "leavesOutLineFeed") := ⟨List.mem_append_right _ (List.mem_of_getElem? (i := 100) rfl), rfl⟩
theorem wd_101 : ex_W (.lays "StreamTower" "StreamTower" "leftOutLineFeedAtMark" "Z") := ⟨List.mem_append_right _ (List.mem_of_getElem? (i := 101) rfl), rfl⟩
theorem wd_102 : ex_W (.soleField "StreamTower" "leftOutLineFeedAtMark") := ⟨List.mem_append_right _ (List.mem_of_getElem? (i := 102) rfl), rfl⟩
theorem wd_103 : ex_W (.superclass "StreamTower" "java/lang/Object") := ⟨List.mem_append_right _ (List.mem_of_getElem? (i := 103) rfl), rfl⟩
theorem wd_104 : ex_W (.methodLink "StreamTowerLaw" 71 ⟨"StreamTower", "portion", "()V"⟩) := ⟨List.mem_append_right _ (List.mem_of_getElem? (i := 104) rfl), rfl⟩
theorem wd_105 : ex_W (.instanceMethod ⟨"StreamTower", "portion", "()V"⟩) := ⟨List.mem_append_right _ (List.mem_of_getElem? (i := 105) rfl), rfl⟩
theorem wd_106 : ex_W (.selects "StreamTower" ⟨"StreamTower", "portion", "()V"⟩ ⟨"StreamTower", "portion", "()V"⟩) := ⟨List.mem_append_right _ (List.mem_of_getElem? (i := 106) rfl), rfl⟩
theorem wd_107 : ex_W (.code ⟨"StreamTower", "portion", "()V"⟩ prog_1_method_3_code 1 none) := ⟨List.mem_append_right _ (List.mem_of_getElem? (i := 107) rfl), rfl⟩
theorem wd_108 : ex_W (.methodLink "StreamTower" 59 ⟨"StreamTower$Source", "startPortion", "()V"⟩) := ⟨List.mem_append_right _ (List.mem_of_getElem? (i := 108) rfl), rfl⟩
theorem wd_109 : ex_W (.instanceMethod ⟨"StreamTower$Source", "startPortion", "()V"⟩) := ⟨List.mem_append_right _ (List.mem_of_getElem? (i := 109) rfl), rfl⟩
theorem wd_110 : ex_W (.selects "StreamTower$Source" ⟨"StreamTower$Source", "startPortion", "()V"⟩ ⟨"StreamTower$Source", "startPortion", "()V"⟩) := ⟨List.mem_append_right _ (List.mem_of_getElem? (i := 110) rfl), rfl⟩
theorem wd_111 : ex_W (.code ⟨"StreamTower$Source", "startPortion", "()V"⟩ prog_9_method_4_code 1 none) := ⟨List.mem_append_right _ (List.mem_of_getElem? (i := 111) rfl), rfl⟩
theorem wd_112 : ex_W (.methodLink "StreamTowerLaw" 75 ⟨"StreamTower", "breakAt", "(I)Z"⟩) := ⟨List.mem_append_right _ (List.mem_of_getElem? (i := 112) rfl), rfl⟩
theorem wd_113 : ex_W (.instanceMethod ⟨"StreamTower", "breakAt", "(I)Z"⟩) := ⟨List.mem_append_right _ (List.mem_of_getElem? (i := 113) rfl), rfl⟩
theorem wd_114 : ex_W (.selects "StreamTower" ⟨"StreamTower", "breakAt", "(I)Z"⟩ ⟨"StreamTower", "breakAt", "(I)Z"⟩) := ⟨List.mem_append_right _ (List.mem_of_getElem? (i := 114) rfl), rfl⟩
theorem wd_115 : ex_W (.code ⟨"StreamTower", "breakAt", "(I)Z"⟩ prog_1_method_4_code 2 (some FieldType.boolean)) := ⟨List.mem_append_right _ (List.mem_of_getElem? (i := 115) rfl), rfl⟩
theorem wd_116 : ex_W (.methodLink "StreamTower" 62 ⟨"StreamTower$Source", "mend", "()V"⟩) := ⟨List.mem_append_right _ (List.mem_of_getElem? (i := 116) rfl), rfl⟩
theorem wd_117 : ex_W (.instanceMethod ⟨"StreamTower$Source", "mend", "()V"⟩) := ⟨List.mem_append_right _ (List.mem_of_getElem? (i := 117) rfl), rfl⟩
theorem wd_118 : ex_W (.selects "StreamTower$Source" ⟨"StreamTower$Source", "mend", "()V"⟩ ⟨"StreamTower$Source", "mend", "()V"⟩) := ⟨List.mem_append_right _ (List.mem_of_getElem? (i := 118) rfl), rfl⟩
theorem wd_119 : ex_W (.code ⟨"StreamTower$Source", "mend", "()V"⟩ prog_9_method_5_code 2 none) := ⟨List.mem_append_right _ (List.mem_of_getElem? (i := 119) rfl), rfl⟩
theorem wd_120 : ex_W (.methodLink "StreamTower" 65 ⟨"StreamTower$Source", "breakPlace", "(I)Z"⟩) := ⟨List.mem_append_right _ (List.mem_of_getElem? (i := 120) rfl), rfl⟩
theorem wd_121 : ex_W (.instanceMethod ⟨"StreamTower$Source", "breakPlace", "(I)Z"⟩) := ⟨List.mem_append_right _ (List.mem_of_getElem? (i := 121) rfl), rfl⟩
theorem wd_122 : ex_W (.selects "StreamTower$Source" ⟨"StreamTower$Source", "breakPlace", "(I)Z"⟩ ⟨"StreamTower$Source", "breakPlace", "(I)Z"⟩) := ⟨List.mem_append_right _ (List.mem_of_getElem? (i := 122) rfl), rfl⟩
theorem wd_123 : ex_W (.code ⟨"StreamTower$Source", "breakPlace", "(I)Z"⟩ prog_9_method_6_code 2 (some FieldType.boolean)) := ⟨List.mem_append_right _ (List.mem_of_getElem? (i := 123) rfl), rfl⟩
theorem wd_124 : ex_W (.methodLink "StreamTowerLaw" 117 ⟨"StreamTower", "available", "()I"⟩) := ⟨List.mem_append_right _ (List.mem_of_getElem? (i := 124) rfl), rfl⟩
theorem wd_125 : ex_W (.instanceMethod ⟨"StreamTower", "available", "()I"⟩) := ⟨List.mem_append_right _ (List.mem_of_getElem? (i := 125) rfl), rfl⟩
theorem wd_126 : ex_W (.selects "StreamTower" ⟨"StreamTower", "available", "()I"⟩ ⟨"StreamTower", "available", "()I"⟩) := ⟨List.mem_append_right _ (List.mem_of_getElem? (i := 126) rfl), rfl⟩
theorem wd_127 : ex_W (.code ⟨"StreamTower", "available", "()I"⟩ prog_1_method_16_code 1 (some FieldType.int)) := ⟨List.mem_append_right _ (List.mem_of_getElem? (i := 127) rfl), rfl⟩
theorem wd_128 : ex_W (.methodLink "StreamTower" 145 ⟨"StreamTower$Stream", "ready", "()I"⟩) := ⟨List.mem_append_right _ (List.mem_of_getElem? (i := 128) rfl), rfl⟩
theorem wd_129 : ex_W (.declares ⟨"StreamTower$Stream", "ready", "()I"⟩) := ⟨List.mem_append_right _ (List.mem_of_getElem? (i := 129) rfl), rfl⟩
theorem wd_130 : ex_W (.sameMethod "StreamTower$Stream" "StreamTower$Stream" "ready" "()I") := ⟨List.mem_append_right _ (List.mem_of_getElem? (i := 130) rfl), rfl⟩
theorem wd_131 : ex_W (.selects "StreamTower$Buffer" ⟨"StreamTower$Stream", "ready", "()I"⟩ ⟨"StreamTower$Buffer", "ready", "()I"⟩) := ⟨List.mem_append_right _ (List.mem_of_getElem? (i := 131) rfl), rfl⟩
theorem wd_132 : ex_W (.instanceMethod ⟨"StreamTower$Buffer", "ready", "()I"⟩) := ⟨List.mem_append_right _ (List.mem_of_getElem? (i := 132) rfl), rfl⟩
theorem wd_133 : ex_W (.code ⟨"StreamTower$Buffer", "ready", "()I"⟩ prog_2_method_5_code 1 (some FieldType.int)) := ⟨List.mem_append_right _ (List.mem_of_getElem? (i := 133) rfl), rfl⟩
theorem wd_134 : ex_W (.methodLink "StreamTower$Buffer" 62 ⟨"StreamTower$Stream", "ready", "()I"⟩) := ⟨List.mem_append_right _ (List.mem_of_getElem? (i := 134) rfl), rfl⟩
theorem wd_135 : ex_W (.instanceMethod ⟨"StreamTower$Passing", "ready", "()I"⟩) := ⟨List.mem_append_right _ (List.mem_of_getElem? (i := 135) rfl), rfl⟩
theorem wd_136 : ex_W (.code ⟨"StreamTower$Passing", "ready", "()I"⟩ prog_6_method_4_code 1 (some FieldType.int)) := ⟨List.mem_append_right _ (List.mem_of_getElem? (i := 136) rfl), rfl⟩
theorem wd_137 : ex_W (.methodLink "StreamTower$Passing" 13 ⟨"StreamTower$Stream", "ready", "()I"⟩) := ⟨List.mem_append_right _ (List.mem_of_getElem? (i := 137) rfl), rfl⟩
theorem wd_138 : ex_W (.instanceMethod ⟨"StreamTower$Limit", "ready", "()I"⟩) := ⟨List.mem_append_right _ (List.mem_of_getElem? (i := 138) rfl), rfl⟩
theorem wd_139 : ex_W (.code ⟨"StreamTower$Limit", "ready", "()I"⟩ prog_4_method_3_code 1 (some FieldType.int)) := ⟨List.mem_append_right _ (List.mem_of_getElem? (i := 139) rfl), rfl⟩
theorem wd_140 : ex_W (.methodLink "StreamTower$Limit" 34 ⟨"StreamTower$Stream", "ready", "()I"⟩) := ⟨List.mem_append_right _ (List.mem_of_getElem? (i := 140) rfl), rfl⟩
theorem wd_141 : ex_W (.instanceMethod ⟨"StreamTower$Pushback", "ready", "()I"⟩) := ⟨List.mem_append_right _ (List.mem_of_getElem? (i := 141) rfl), rfl⟩
theorem wd_142 : ex_W (.code ⟨"StreamTower$Pushback", "ready", "()I"⟩ prog_7_method_4_code 1 (some FieldType.int)) := ⟨List.mem_append_right _ (List.mem_of_getElem? (i := 142) rfl), rfl⟩
theorem wd_143 : ex_W (.methodLink "StreamTower$Pushback" 31 ⟨"StreamTower$Stream", "ready", "()I"⟩) := ⟨List.mem_append_right _ (List.mem_of_getElem? (i := 143) rfl), rfl⟩
theorem wd_144 : ex_W (.instanceMethod ⟨"StreamTower$Source", "ready", "()I"⟩) := ⟨List.mem_append_right _ (List.mem_of_getElem? (i := 144) rfl), rfl⟩
theorem wd_145 : ex_W (.code ⟨"StreamTower$Source", "ready", "()I"⟩ prog_9_method_8_code 2 (some FieldType.int)) := ⟨List.mem_append_right _ (List.mem_of_getElem? (i := 145) rfl), rfl⟩
theorem wd_146 : ex_W (.methodLink "StreamTower$Limit" 22 ⟨"java/lang/Math", "min", "(II)I"⟩) := ⟨List.mem_append_right _ (List.mem_of_getElem? (i := 146) rfl), rfl⟩
theorem wd_147 : ex_W (.static ⟨"java/lang/Math", "min", "(II)I"⟩) := ⟨List.mem_append_right _ (List.mem_of_getElem? (i := 147) rfl), rfl⟩
theorem wd_148 : ex_W (.code ⟨"java/lang/Math", "min", "(II)I"⟩ prog_16_method_69_code 2 (some FieldType.int)) := ⟨List.mem_append_right _ (List.mem_of_getElem? (i := 148) rfl), rfl⟩
theorem wd_149 : ex_W (.selects "StreamTower$Code" ⟨"StreamTower$Stream", "ready", "()I"⟩ ⟨"StreamTower$Passing", "ready", "()I"⟩) := ⟨List.mem_append_right _ (List.mem_of_getElem? (i := 149) rfl), rfl⟩
theorem wd_150 : ex_W (.selects "StreamTower$Limit" ⟨"StreamTower$Stream", "ready", "()I"⟩ ⟨"StreamTower$Limit", "ready", "()I"⟩) := ⟨List.mem_append_right _ (List.mem_of_getElem? (i := 150) rfl), rfl⟩
theorem wd_151 : ex_W (.selects "StreamTower$Lines" ⟨"StreamTower$Stream", "ready", "()I"⟩ ⟨"StreamTower$Passing", "ready", "()I"⟩) := ⟨List.mem_append_right _ (List.mem_of_getElem? (i := 151) rfl), rfl⟩
theorem wd_152 : ex_W (.selects "StreamTower$Pushback" ⟨"StreamTower$Stream", "ready", "()I"⟩ ⟨"StreamTower$Pushback", "ready", "()I"⟩) := ⟨List.mem_append_right _ (List.mem_of_getElem? (i := 152) rfl), rfl⟩
theorem wd_153 : ex_W (.selects "StreamTower$Source" ⟨"StreamTower$Stream", "ready", "()I"⟩ ⟨"StreamTower$Source", "ready", "()I"⟩) := ⟨List.mem_append_right _ (List.mem_of_getElem? (i := 153) rfl), rfl⟩
theorem wd_154 : ex_W (.methodLink "StreamTowerLaw" 121 ⟨"StreamTower", "close", "()V"⟩) := ⟨List.mem_append_right _ (List.mem_of_getElem? (i := 154) rfl), rfl⟩
theorem wd_155 : ex_W (.instanceMethod ⟨"StreamTower", "close", "()V"⟩) := ⟨List.mem_append_right _ (List.mem_of_getElem? (i := 155) rfl), rfl⟩
theorem wd_156 : ex_W (.selects "StreamTower" ⟨"StreamTower", "close", "()V"⟩ ⟨"StreamTower", "close", "()V"⟩) := ⟨List.mem_append_right _ (List.mem_of_getElem? (i := 156) rfl), rfl⟩
theorem wd_157 : ex_W (.code ⟨"StreamTower", "close", "()V"⟩ prog_1_method_17_code 1 none) := ⟨List.mem_append_right _ (List.mem_of_getElem? (i := 157) rfl), rfl⟩
theorem wd_158 : ex_W (.methodLink "StreamTowerLaw" 125 ⟨"StreamTower", "about", "(I)I"⟩) := ⟨List.mem_append_right _ (List.mem_of_getElem? (i := 158) rfl), rfl⟩
theorem wd_159 : ex_W (.instanceMethod ⟨"StreamTower", "about", "(I)I"⟩) := ⟨List.mem_append_right _ (List.mem_of_getElem? (i := 159) rfl), rfl⟩
theorem wd_160 : ex_W (.selects "StreamTower" ⟨"StreamTower", "about", "(I)I"⟩ ⟨"StreamTower", "about", "(I)I"⟩) := ⟨List.mem_append_right _ (List.mem_of_getElem? (i := 160) rfl), rfl⟩
theorem wd_161 : ex_W (.code ⟨"StreamTower", "about", "(I)I"⟩ prog_1_method_18_code 3 (some FieldType.int)) := ⟨List.mem_append_right _ (List.mem_of_getElem? (i := 161) rfl), rfl⟩
theorem wd_162 : ex_W (.methodLink "StreamTower" 149 ⟨"StreamTower$Source", "state", "()I"⟩) := ⟨List.mem_append_right _ (List.mem_of_getElem? (i := 162) rfl), rfl⟩
theorem wd_163 : ex_W (.instanceMethod ⟨"StreamTower$Source", "state", "()I"⟩) := ⟨List.mem_append_right _ (List.mem_of_getElem? (i := 163) rfl), rfl⟩
theorem wd_164 : ex_W (.selects "StreamTower$Source" ⟨"StreamTower$Source", "state", "()I"⟩ ⟨"StreamTower$Source", "state", "()I"⟩) := ⟨List.mem_append_right _ (List.mem_of_getElem? (i := 164) rfl), rfl⟩
theorem wd_165 : ex_W (.code ⟨"StreamTower$Source", "state", "()I"⟩ prog_9_method_9_code 1 (some FieldType.int)) := ⟨List.mem_append_right _ (List.mem_of_getElem? (i := 165) rfl), rfl⟩
theorem wd_166 : ex_W (.methodLink "StreamTower" 152 ⟨"StreamTower$Stream", "state", "()I"⟩) := ⟨List.mem_append_right _ (List.mem_of_getElem? (i := 166) rfl), rfl⟩
theorem wd_167 : ex_W (.declares ⟨"StreamTower$Stream", "state", "()I"⟩) := ⟨List.mem_append_right _ (List.mem_of_getElem? (i := 167) rfl), rfl⟩
theorem wd_168 : ex_W (.sameMethod "StreamTower$Stream" "StreamTower$Stream" "state" "()I") := ⟨List.mem_append_right _ (List.mem_of_getElem? (i := 168) rfl), rfl⟩
theorem wd_169 : ex_W (.selects "StreamTower$Buffer" ⟨"StreamTower$Stream", "state", "()I"⟩ ⟨"StreamTower$Buffer", "state", "()I"⟩) := ⟨List.mem_append_right _ (List.mem_of_getElem? (i := 169) rfl), rfl⟩
theorem wd_170 : ex_W (.instanceMethod ⟨"StreamTower$Buffer", "state", "()I"⟩) := ⟨List.mem_append_right _ (List.mem_of_getElem? (i := 170) rfl), rfl⟩
theorem wd_171 : ex_W (.code ⟨"StreamTower$Buffer", "state", "()I"⟩ prog_2_method_6_code 1 (some FieldType.int)) := ⟨List.mem_append_right _ (List.mem_of_getElem? (i := 171) rfl), rfl⟩
theorem wd_172 : ex_W (.selects "StreamTower$Code" ⟨"StreamTower$Stream", "state", "()I"⟩ ⟨"StreamTower$Code", "state", "()I"⟩) := ⟨List.mem_append_right _ (List.mem_of_getElem? (i := 172) rfl), rfl⟩
theorem wd_173 : ex_W (.instanceMethod ⟨"StreamTower$Code", "state", "()I"⟩) := ⟨List.mem_append_right _ (List.mem_of_getElem? (i := 173) rfl), rfl⟩
theorem wd_174 : ex_W (.code ⟨"StreamTower$Code", "state", "()I"⟩ prog_3_method_3_code 1 (some FieldType.int)) := ⟨List.mem_append_right _ (List.mem_of_getElem? (i := 174) rfl), rfl⟩
theorem wd_175 : ex_W (.selects "StreamTower$Limit" ⟨"StreamTower$Stream", "state", "()I"⟩ ⟨"StreamTower$Limit", "state", "()I"⟩) := ⟨List.mem_append_right _ (List.mem_of_getElem? (i := 175) rfl), rfl⟩
theorem wd_176 : ex_W (.instanceMethod ⟨"StreamTower$Limit", "state", "()I"⟩) := ⟨List.mem_append_right _ (List.mem_of_getElem? (i := 176) rfl), rfl⟩
theorem wd_177 : ex_W (.code ⟨"StreamTower$Limit", "state", "()I"⟩ prog_4_method_4_code 1 (some FieldType.int)) := ⟨List.mem_append_right _ (List.mem_of_getElem? (i := 177) rfl), rfl⟩
theorem wd_178 : ex_W (.selects "StreamTower$Lines" ⟨"StreamTower$Stream", "state", "()I"⟩ ⟨"StreamTower$Lines", "state", "()I"⟩) := ⟨List.mem_append_right _ (List.mem_of_getElem? (i := 178) rfl), rfl⟩
theorem wd_179 : ex_W (.instanceMethod ⟨"StreamTower$Lines", "state", "()I"⟩) := ⟨List.mem_append_right _ (List.mem_of_getElem? (i := 179) rfl), rfl⟩
theorem wd_180 : ex_W (.code ⟨"StreamTower$Lines", "state", "()I"⟩ prog_5_method_4_code 1 (some FieldType.int)) := ⟨List.mem_append_right _ (List.mem_of_getElem? (i := 180) rfl), rfl⟩
theorem wd_181 : ex_W (.selects "StreamTower$Pushback" ⟨"StreamTower$Stream", "state", "()I"⟩ ⟨"StreamTower$Pushback", "state", "()I"⟩) := ⟨List.mem_append_right _ (List.mem_of_getElem? (i := 181) rfl), rfl⟩
theorem wd_182 : ex_W (.instanceMethod ⟨"StreamTower$Pushback", "state", "()I"⟩) := ⟨List.mem_append_right _ (List.mem_of_getElem? (i := 182) rfl), rfl⟩
theorem wd_183 : ex_W (.code ⟨"StreamTower$Pushback", "state", "()I"⟩ prog_7_method_5_code 1 (some FieldType.int)) := ⟨List.mem_append_right _ (List.mem_of_getElem? (i := 183) rfl), rfl⟩
theorem wd_184 : ex_W (.selects "StreamTower$Source" ⟨"StreamTower$Stream", "state", "()I"⟩ ⟨"StreamTower$Source", "state", "()I"⟩) := ⟨List.mem_append_right _ (List.mem_of_getElem? (i := 184) rfl), rfl⟩
theorem wd_185 : ex_W (.methodLink "StreamTowerLaw" 129 ⟨"StreamTower", "size", "(Z)I"⟩) := ⟨List.mem_append_right _ (List.mem_of_getElem? (i := 185) rfl), rfl⟩
theorem wd_186 : ex_W (.instanceMethod ⟨"StreamTower", "size", "(Z)I"⟩) := ⟨List.mem_append_right _ (List.mem_of_getElem? (i := 186) rfl), rfl⟩
theorem wd_187 : ex_W (.selects "StreamTower" ⟨"StreamTower", "size", "(Z)I"⟩ ⟨"StreamTower", "size", "(Z)I"⟩) := ⟨List.mem_append_right _ (List.mem_of_getElem? (i := 187) rfl), rfl⟩
theorem wd_188 : ex_W (.code ⟨"StreamTower", "size", "(Z)I"⟩ prog_1_method_19_code 2 (some FieldType.int)) := ⟨List.mem_append_right _ (List.mem_of_getElem? (i := 188) rfl), rfl⟩
theorem wd_189 : ex_W (.methodLink "StreamTower" 153 ⟨"StreamTower", "rowOf", "(Z)LStreamTower$Row;"⟩) := ⟨List.mem_append_right _ (List.mem_of_getElem? (i := 189) rfl), rfl⟩
theorem wd_191 : ex_W (.instanceMethod ⟨"StreamTower", "rowOf", "(Z)LStreamTower$Row;"⟩) := ⟨List.mem_append_right _ (List.mem_of_getElem? (i := 191) rfl), rfl⟩
theorem wd_192 : ex_W (.code ⟨"StreamTower", "rowOf", "(Z)LStreamTower$Row;"⟩ prog_1_method_21_code 2 (some (FieldType.object "StreamTower$Row"))) := ⟨List.mem_append_right _ (List.mem_of_getElem? (i := 192) rfl), rfl⟩
theorem wd_193 : ex_W (.methodLink "StreamTowerLaw" 134 ⟨"StreamTower", "at", "(IZ)I"⟩) := ⟨List.mem_append_right _ (List.mem_of_getElem? (i := 193) rfl), rfl⟩
theorem wd_194 : ex_W (.instanceMethod ⟨"StreamTower", "at", "(IZ)I"⟩) := ⟨List.mem_append_right _ (List.mem_of_getElem? (i := 194) rfl), rfl⟩
theorem wd_195 : ex_W (.selects "StreamTower" ⟨"StreamTower", "at", "(IZ)I"⟩ ⟨"StreamTower", "at", "(IZ)I"⟩) := ⟨List.mem_append_right _ (List.mem_of_getElem? (i := 195) rfl), rfl⟩
theorem wd_196 : ex_W (.code ⟨"StreamTower", "at", "(IZ)I"⟩ prog_1_method_20_code 3 (some FieldType.int)) := ⟨List.mem_append_right _ (List.mem_of_getElem? (i := 196) rfl), rfl⟩
theorem wd_197 : ex_W (.methodLink "StreamTower" 94 ⟨"StreamTower$Row", "get", "(I)I"⟩) := ⟨List.mem_append_right _ (List.mem_of_getElem? (i := 197) rfl), rfl⟩
theorem wd_198 : ex_W (.instanceMethod ⟨"StreamTower$Row", "get", "(I)I"⟩) := ⟨List.mem_append_right _ (List.mem_of_getElem? (i := 198) rfl), rfl⟩
theorem wd_199 : ex_W (.selects "StreamTower$Row" ⟨"StreamTower$Row", "get", "(I)I"⟩ ⟨"StreamTower$Row", "get", "(I)I"⟩) := ⟨List.mem_append_right _ (List.mem_of_getElem? (i := 199) rfl), rfl⟩
theorem wd_200 : ex_W (.code ⟨"StreamTower$Row", "get", "(I)I"⟩ prog_8_method_5_code 2 (some FieldType.int)) := ⟨List.mem_append_right _ (List.mem_of_getElem? (i := 200) rfl), rfl⟩
theorem wd_201 : ex_W (.methodLink "StreamTowerLaw" 62 ⟨"StreamTowerLaw", "feed", "(LStreamTower;II[J)I"⟩) := ⟨List.mem_append_right _ (List.mem_of_getElem? (i := 201) rfl), rfl⟩
theorem wd_202 : ex_W (.static ⟨"StreamTowerLaw", "feed", "(LStreamTower;II[J)I"⟩) := ⟨List.mem_append_right _ (List.mem_of_getElem? (i := 202) rfl), rfl⟩
theorem wd_203 : ex_W (.codeWith ⟨"StreamTowerLaw", "feed", "(LStreamTower;II[J)I"⟩ method_3_code 5 (some FieldType.int) [(0, 10, 13, 13), (0, 10, 17, 15)]) := ⟨List.mem_append_right _ (List.mem_of_getElem? (i := 203) rfl), rfl⟩
theorem wd_204 : ex_W (.classLink "StreamTowerLaw" 13 "java/lang/IllegalArgumentException") := ⟨List.mem_append_right _ (List.mem_of_getElem? (i := 204) rfl), rfl⟩
theorem wd_205 : ex_W (.classLink "StreamTowerLaw" 15 "java/lang/IllegalStateException") := ⟨List.mem_append_right _ (List.mem_of_getElem? (i := 205) rfl), rfl⟩
theorem wd_206 : ex_W (.methodLink "StreamTowerLaw" 7 ⟨"StreamTower", "feed", "(II)I"⟩) := ⟨List.mem_append_right _ (List.mem_of_getElem? (i := 206) rfl), rfl⟩
theorem wd_207 : ex_W (.instanceMethod ⟨"StreamTower", "feed", "(II)I"⟩) := ⟨List.mem_append_right _ (List.mem_of_getElem? (i := 207) rfl), rfl⟩
theorem wd_208 : ex_W (.selects "StreamTower" ⟨"StreamTower", "feed", "(II)I"⟩ ⟨"StreamTower", "feed", "(II)I"⟩) := ⟨List.mem_append_right _ (List.mem_of_getElem? (i := 208) rfl), rfl⟩
theorem wd_209 : ex_W (.code ⟨"StreamTower", "feed", "(II)I"⟩ prog_1_method_2_code 4 (some FieldType.int)) := ⟨List.mem_append_right _ (List.mem_of_getElem? (i := 209) rfl), rfl⟩
theorem wd_210 : ex_W (.classLink "StreamTower" 42 "java/lang/IllegalArgumentException") := ⟨List.mem_append_right _ (List.mem_of_getElem? (i := 210) rfl), rfl⟩
theorem wd_211 : ex_W (.instantiable "java/lang/IllegalArgumentException" 6) := ⟨List.mem_append_right _ (List.mem_of_getElem? (i := 211) rfl), rfl⟩
theorem wd_212 : ex_W (.castable "java/lang/IllegalArgumentException" "java/lang/IllegalArgumentException") := ⟨List.mem_append_right _ (List.mem_of_getElem? (i := 212) rfl), rfl⟩
theorem wd_213 : ex_W (.declares ⟨"java/lang/RuntimeException", "<init>", "()V"⟩) := ⟨List.mem_append_right _ (List.mem_of_getElem? (i := 213) rfl), rfl⟩
theorem wd_214 : ex_W (.declares ⟨"java/lang/RuntimeException", "<init>", "(Ljava/lang/String;)V"⟩) := ⟨List.mem_append_right _ (List.mem_of_getElem? (i := 214) rfl), rfl⟩
theorem wd_215 : ex_W (.declares ⟨"java/lang/Exception", "<init>", "()V"⟩) := ⟨List.mem_append_right _ (List.mem_of_getElem? (i := 215) rfl), rfl⟩
theorem wd_216 : ex_W (.declares ⟨"java/lang/Exception", "<init>", "(Ljava/lang/String;)V"⟩) := ⟨List.mem_append_right _ (List.mem_of_getElem? (i := 216) rfl), rfl⟩
theorem wd_217 : ex_W (.declares ⟨"java/lang/Throwable", "<init>", "()V"⟩) := ⟨List.mem_append_right _ (List.mem_of_getElem? (i := 217) rfl), rfl⟩
theorem wd_218 : ex_W (.declares ⟨"java/lang/Throwable", "<init>", "(Ljava/lang/String;)V"⟩) := ⟨List.mem_append_right _ (List.mem_of_getElem? (i := 218) rfl), rfl⟩
theorem wd_219 : ex_W (.selects "java/lang/IllegalArgumentException" ⟨"java/lang/Throwable", "fillInStackTrace", "(I)Ljava/lang/Throwable;"⟩ ⟨"java/lang/Throwable", "fillInStackTrace", "(I)Ljava/lang/Throwable;"⟩) := ⟨List.mem_append_right _ (List.mem_of_getElem? (i := 219) rfl), rfl⟩
theorem wd_220 : ex_W (.selects "java/lang/IllegalArgumentException" ⟨"java/lang/Throwable", "fillInStackTrace", "()Ljava/lang/Throwable;"⟩ ⟨"java/lang/Throwable", "fillInStackTrace", "()Ljava/lang/Throwable;"⟩) := ⟨List.mem_append_right _ (List.mem_of_getElem? (i := 220) rfl), rfl⟩
theorem wd_221 : ex_W (.lays "java/lang/IllegalArgumentException" "java/lang/Throwable" "cause" "Ljava/lang/Throwable;") := ⟨List.mem_append_right _ (List.mem_of_getElem? (i := 221) rfl), rfl⟩
theorem wd_222 : ex_W (.lays "java/lang/Throwable" "java/lang/Throwable" "cause" "Ljava/lang/Throwable;") := ⟨List.mem_append_right _ (List.mem_of_getElem? (i := 222) rfl), rfl⟩
theorem wd_223 : ex_W (.lays "java/lang/IllegalArgumentException" "java/lang/Throwable" "stackTrace" "[Ljava/lang/StackTraceElement;") := ⟨List.mem_append_right _ (List.mem_of_getElem? (i := 223) rfl), rfl⟩
theorem wd_224 : ex_W (.lays "java/lang/Throwable" "java/lang/Throwable" "stackTrace" "[Ljava/lang/StackTraceElement;") := ⟨List.mem_append_right _ (List.mem_of_getElem? (i := 224) rfl), rfl⟩
theorem wd_225 : ex_W (.lays "java/lang/IllegalArgumentException" "java/lang/Throwable" "suppressedExceptions" "Ljava/util/List;") := ⟨List.mem_append_right _ (List.mem_of_getElem? (i := 225) rfl), rfl⟩
theorem wd_226 : ex_W (.lays "java/lang/Throwable" "java/lang/Throwable" "suppressedExceptions" "Ljava/util/List;") := ⟨List.mem_append_right _ (List.mem_of_getElem? (i := 226) rfl), rfl⟩
theorem wd_227 : ex_W (.lays "java/lang/IllegalArgumentException" "java/lang/Throwable" "detailMessage" "Ljava/lang/String;") := ⟨List.mem_append_right _ (List.mem_of_getElem? (i := 227) rfl), rfl⟩
theorem wd_228 : ex_W (.lays "java/lang/Throwable" "java/lang/Throwable" "detailMessage" "Ljava/lang/String;") := ⟨List.mem_append_right _ (List.mem_of_getElem? (i := 228) rfl), rfl⟩
theorem wd_229 : ex_W (.lays "java/lang/IllegalArgumentException" "java/lang/Throwable" "backtrace" "Ljava/lang/Object;") := ⟨List.mem_append_right _ (List.mem_of_getElem? (i := 229) rfl), rfl⟩
theorem wd_230 : ex_W (.lays "java/lang/Throwable" "java/lang/Throwable" "backtrace" "Ljava/lang/Object;") := ⟨List.mem_append_right _ (List.mem_of_getElem? (i := 230) rfl), rfl⟩
theorem wd_231 : ex_W (.fieldLink "java/lang/Throwable" 198 "java/lang/Throwable" "backtrace" "Ljava/lang/Object;") := ⟨List.mem_append_right _ (List.mem_of_getElem? (i := 231) rfl), rfl⟩
theorem wd_232 : ex_W (.superclass "java/lang/Throwable" "java/lang/Object") := ⟨List.mem_append_right _ (List.mem_of_getElem? (i := 232) rfl), rfl⟩
theorem wd_233 : ex_W (.instanceMethod ⟨"java/lang/Throwable", "<init>", "()V"⟩) := ⟨List.mem_append_right _ (List.mem_of_getElem? (i := 233) rfl), rfl⟩
theorem wd_234 : ex_W (.code ⟨"java/lang/Throwable", "<init>", "()V"⟩ prog_19_method_1_code 1 none) := ⟨List.mem_append_right _ (List.mem_of_getElem? (i := 234) rfl), rfl⟩
theorem wd_235 : ex_W (.methodLink "java/lang/Throwable" 1 ⟨"java/lang/Object", "<init>", "()V"⟩) := ⟨List.mem_append_right _ (List.mem_of_getElem? (i := 235) rfl), rfl⟩
theorem wd_236 : ex_W (.fieldLink "java/lang/Throwable" 13 "java/lang/Throwable" "UNASSIGNED_STACK" "[Ljava/lang/StackTraceElement;") := ⟨List.mem_append_right _ (List.mem_of_getElem? (i := 236) rfl), rfl⟩
theorem wd_238 : ex_W (.fieldLink "java/lang/Throwable" 20 "java/lang/Throwable" "SUPPRESSED_SENTINEL" "Ljava/util/List;") := ⟨List.mem_append_right _ (List.mem_of_getElem? (i := 238) rfl), rfl⟩
theorem wd_240 : ex_W (.methodLink "java/lang/Throwable" 27 ⟨"java/lang/Throwable", "fillInStackTrace", "()Ljava/lang/Throwable;"⟩) := ⟨List.mem_append_right _ (List.mem_of_getElem? (i := 240) rfl), rfl⟩
theorem wd_241 : ex_W (.instanceMethod ⟨"java/lang/Throwable", "fillInStackTrace", "()Ljava/lang/Throwable;"⟩) := ⟨List.mem_append_right _ (List.mem_of_getElem? (i := 241) rfl), rfl⟩
theorem wd_242 : ex_W (.sameMethod "java/lang/Throwable" "java/lang/Throwable" "fillInStackTrace" "()Ljava/lang/Throwable;") := ⟨List.mem_append_right _ (List.mem_of_getElem? (i := 242) rfl), rfl⟩
theorem wd_243 : ex_W (.selects "java/lang/IllegalStateException" ⟨"java/lang/Throwable", "fillInStackTrace", "()Ljava/lang/Throwable;"⟩ ⟨"java/lang/Throwable", "fillInStackTrace", "()Ljava/lang/Throwable;"⟩) := ⟨List.mem_append_right _ (List.mem_of_getElem? (i := 243) rfl), rfl⟩
theorem wd_244 : ex_W (.selects "java/lang/UnsupportedOperationException" ⟨"java/lang/Throwable", "fillInStackTrace", "()Ljava/lang/Throwable;"⟩ ⟨"java/lang/Throwable", "fillInStackTrace", "()Ljava/lang/Throwable;"⟩) := ⟨List.mem_append_right _ (List.mem_of_getElem? (i := 244) rfl), rfl⟩
theorem wd_245 : ex_W (.selects "java/util/NoSuchElementException" ⟨"java/lang/Throwable", "fillInStackTrace", "()Ljava/lang/Throwable;"⟩ ⟨"java/lang/Throwable", "fillInStackTrace", "()Ljava/lang/Throwable;"⟩) := ⟨List.mem_append_right _ (List.mem_of_getElem? (i := 245) rfl), rfl⟩
theorem wd_246 : ex_W (.codeSync ⟨"java/lang/Throwable", "fillInStackTrace", "()Ljava/lang/Throwable;"⟩ prog_19_method_18_code 1 (some (FieldType.object "java/lang/Throwable"))) := ⟨List.mem_append_right _ (List.mem_of_getElem? (i := 246) rfl), rfl⟩
theorem wd_247 : ex_W (.methodLink "java/lang/Throwable" 202 ⟨"java/lang/Throwable", "fillInStackTrace", "(I)Ljava/lang/Throwable;"⟩) := ⟨List.mem_append_right _ (List.mem_of_getElem? (i := 247) rfl), rfl⟩
theorem wd_249 : ex_W (.instanceMethod ⟨"java/lang/Throwable", "fillInStackTrace", "(I)Ljava/lang/Throwable;"⟩) := ⟨List.mem_append_right _ (List.mem_of_getElem? (i := 249) rfl), rfl⟩
theorem wd_250 : ex_W (.instantiable "java/lang/Throwable" 6) := ⟨List.mem_append_right _ (List.mem_of_getElem? (i := 250) rfl), rfl⟩
theorem wd_251 : ex_W (.native ⟨"java/lang/Throwable", "fillInStackTrace", "(I)Ljava/lang/Throwable;"⟩) := ⟨List.mem_append_right _ (List.mem_of_getElem? (i := 251) rfl), rfl⟩
theorem wd_252 : ex_W (.methodLink "StreamTower" 44 ⟨"java/lang/IllegalArgumentException", "<init>", "()V"⟩) := ⟨List.mem_append_right _ (List.mem_of_getElem? (i := 252) rfl), rfl⟩
theorem wd_253 : ex_W (.instanceMethod ⟨"java/lang/IllegalArgumentException", "<init>", "()V"⟩) := ⟨List.mem_append_right _ (List.mem_of_getElem? (i := 253) rfl), rfl⟩
theorem wd_254 : ex_W (.code ⟨"java/lang/IllegalArgumentException", "<init>", "()V"⟩ prog_14_method_1_code 1 none) := ⟨List.mem_append_right _ (List.mem_of_getElem? (i := 254) rfl), rfl⟩
theorem wd_255 : ex_W (.methodLink "java/lang/IllegalArgumentException" 1 ⟨"java/lang/RuntimeException", "<init>", "()V"⟩) := ⟨List.mem_append_right _ (List.mem_of_getElem? (i := 255) rfl), rfl⟩
theorem wd_256 : ex_W (.instanceMethod ⟨"java/lang/RuntimeException", "<init>", "()V"⟩) := ⟨List.mem_append_right _ (List.mem_of_getElem? (i := 256) rfl), rfl⟩
theorem wd_257 : ex_W (.code ⟨"java/lang/RuntimeException", "<init>", "()V"⟩ prog_17_method_1_code 1 none) := ⟨List.mem_append_right _ (List.mem_of_getElem? (i := 257) rfl), rfl⟩
theorem wd_258 : ex_W (.methodLink "java/lang/RuntimeException" 1 ⟨"java/lang/Exception", "<init>", "()V"⟩) := ⟨List.mem_append_right _ (List.mem_of_getElem? (i := 258) rfl), rfl⟩
theorem wd_259 : ex_W (.instanceMethod ⟨"java/lang/Exception", "<init>", "()V"⟩) := ⟨List.mem_append_right _ (List.mem_of_getElem? (i := 259) rfl), rfl⟩
theorem wd_260 : ex_W (.code ⟨"java/lang/Exception", "<init>", "()V"⟩ prog_13_method_1_code 1 none) := ⟨List.mem_append_right _ (List.mem_of_getElem? (i := 260) rfl), rfl⟩
theorem wd_261 : ex_W (.methodLink "java/lang/Exception" 1 ⟨"java/lang/Throwable", "<init>", "()V"⟩) := ⟨List.mem_append_right _ (List.mem_of_getElem? (i := 261) rfl), rfl⟩
theorem wd_263 : ex_W (.fieldLink "java/lang/Throwable" 7 "java/lang/Throwable" "cause" "Ljava/lang/Throwable;") := ⟨List.mem_append_right _ (List.mem_of_getElem? (i := 263) rfl), rfl⟩
theorem wd_264 : ex_W (.fieldLink "java/lang/Throwable" 17 "java/lang/Throwable" "stackTrace" "[Ljava/lang/StackTraceElement;") := ⟨List.mem_append_right _ (List.mem_of_getElem? (i := 264) rfl), rfl⟩
theorem wd_265 : ex_W (.fieldLink "java/lang/Throwable" 24 "java/lang/Throwable" "suppressedExceptions" "Ljava/util/List;") := ⟨List.mem_append_right _ (List.mem_of_getElem? (i := 265) rfl), rfl⟩
theorem wd_266 : ex_W (.soleField "java/lang/Throwable" "backtrace") := ⟨List.mem_append_right _ (List.mem_of_getElem? (i := 266) rfl), rfl⟩
theorem wd_267 : ex_W (.soleField "java/lang/Throwable" "detailMessage") := ⟨List.mem_append_right _ (List.mem_of_getElem? (i := 267) rfl), rfl⟩
theorem wd_268 : ex_W (.soleField "java/lang/Throwable" "cause") := ⟨List.mem_append_right _ (List.mem_of_getElem? (i := 268) rfl), rfl⟩
theorem wd_269 : ex_W (.soleField "java/lang/Throwable" "stackTrace") := ⟨List.mem_append_right _ (List.mem_of_getElem? (i := 269) rfl), rfl⟩
theorem wd_270 : ex_W (.lays "java/lang/IllegalArgumentException" "java/lang/Throwable" "depth" "I") := ⟨List.mem_append_right _ (List.mem_of_getElem? (i := 270) rfl), rfl⟩
theorem wd_271 : ex_W (.soleField "java/lang/Throwable" "depth") := ⟨List.mem_append_right _ (List.mem_of_getElem? (i := 271) rfl), rfl⟩
theorem wd_272 : ex_W (.soleField "java/lang/Throwable" "suppressedExceptions") := ⟨List.mem_append_right _ (List.mem_of_getElem? (i := 272) rfl), rfl⟩
theorem wd_273 : ex_W (.superclass "java/lang/IllegalArgumentException" "java/lang/RuntimeException") := ⟨List.mem_append_right _ (List.mem_of_getElem? (i := 273) rfl), rfl⟩
theorem wd_274 : ex_W (.methodLink "StreamTower" 45 ⟨"StreamTower$Source", "hasRoomFor", "(I)Z"⟩) := ⟨List.mem_append_right _ (List.mem_of_getElem? (i := 274) rfl), rfl⟩
theorem wd_275 : ex_W (.instanceMethod ⟨"StreamTower$Source", "hasRoomFor", "(I)Z"⟩) := ⟨List.mem_append_right _ (List.mem_of_getElem? (i := 275) rfl), rfl⟩
theorem wd_276 : ex_W (.selects "StreamTower$Source" ⟨"StreamTower$Source", "hasRoomFor", "(I)Z"⟩ ⟨"StreamTower$Source", "hasRoomFor", "(I)Z"⟩) := ⟨List.mem_append_right _ (List.mem_of_getElem? (i := 276) rfl), rfl⟩
theorem wd_277 : ex_W (.code ⟨"StreamTower$Source", "hasRoomFor", "(I)Z"⟩ prog_9_method_2_code 2 (some FieldType.boolean)) := ⟨List.mem_append_right _ (List.mem_of_getElem? (i := 277) rfl), rfl⟩
theorem wd_278 : ex_W (.classLink "StreamTower" 49 "java/lang/IllegalStateException") := ⟨List.mem_append_right _ (List.mem_of_getElem? (i := 278) rfl), rfl⟩
theorem wd_279 : ex_W (.instantiable "java/lang/IllegalStateException" 6) := ⟨List.mem_append_right _ (List.mem_of_getElem? (i := 279) rfl), rfl⟩
theorem wd_280 : ex_W (.castable "java/lang/IllegalStateException" "java/lang/IllegalStateException") := ⟨List.mem_append_right _ (List.mem_of_getElem? (i := 280) rfl), rfl⟩
theorem wd_281 : ex_W (.selects "java/lang/IllegalStateException" ⟨"java/lang/Throwable", "fillInStackTrace", "(I)Ljava/lang/Throwable;"⟩ ⟨"java/lang/Throwable", "fillInStackTrace", "(I)Ljava/lang/Throwable;"⟩) := ⟨List.mem_append_right _ (List.mem_of_getElem? (i := 281) rfl), rfl⟩
theorem wd_282 : ex_W (.lays "java/lang/IllegalStateException" "java/lang/Throwable" "cause" "Ljava/lang/Throwable;") := ⟨List.mem_append_right _ (List.mem_of_getElem? (i := 282) rfl), rfl⟩
theorem wd_283 : ex_W (.lays "java/lang/IllegalStateException" "java/lang/Throwable" "stackTrace" "[Ljava/lang/StackTraceElement;") := ⟨List.mem_append_right _ (List.mem_of_getElem? (i := 283) rfl), rfl⟩
theorem wd_284 : ex_W (.lays "java/lang/IllegalStateException" "java/lang/Throwable" "suppressedExceptions" "Ljava/util/List;") := ⟨List.mem_append_right _ (List.mem_of_getElem? (i := 284) rfl), rfl⟩
theorem wd_285 : ex_W (.lays "java/lang/IllegalStateException" "java/lang/Throwable" "detailMessage" "Ljava/lang/String;") := ⟨List.mem_append_right _ (List.mem_of_getElem? (i := 285) rfl), rfl⟩
theorem wd_286 : ex_W (.lays "java/lang/IllegalStateException" "java/lang/Throwable" "backtrace" "Ljava/lang/Object;") := ⟨List.mem_append_right _ (List.mem_of_getElem? (i := 286) rfl), rfl⟩
theorem wd_287 : ex_W (.methodLink "StreamTower" 51 ⟨"java/lang/IllegalStateException", "<init>", "()V"⟩) := ⟨List.mem_append_right _ (List.mem_of_getElem? (i := 287) rfl), rfl⟩
theorem wd_288 : ex_W (.instanceMethod ⟨"java/lang/IllegalStateException", "<init>", "()V"⟩) := ⟨List.mem_append_right _ (List.mem_of_getElem? (i := 288) rfl), rfl⟩
theorem wd_289 : ex_W (.code ⟨"java/lang/IllegalStateException", "<init>", "()V"⟩ prog_15_method_1_code 1 none) := ⟨List.mem_append_right _ (List.mem_of_getElem? (i := 289) rfl), rfl⟩
theorem wd_290 : ex_W (.methodLink "java/lang/IllegalStateException" 1 ⟨"java/lang/RuntimeException", "<init>", "()V"⟩) := ⟨List.mem_append_right _ (List.mem_of_getElem? (i := 290) rfl), rfl⟩
theorem wd_291 : ex_W (.lays "java/lang/IllegalStateException" "java/lang/Throwable" "depth" "I") := ⟨List.mem_append_right _ (List.mem_of_getElem? (i := 291) rfl), rfl⟩
theorem wd_292 : ex_W (.superclass "java/lang/IllegalStateException" "java/lang/RuntimeException") := ⟨List.mem_append_right _ (List.mem_of_getElem? (i := 292) rfl), rfl⟩
theorem wd_293 : ex_W (.methodLink "StreamTower" 52 ⟨"StreamTower$Source", "append", "(I)V"⟩) := ⟨List.mem_append_right _ (List.mem_of_getElem? (i := 293) rfl), rfl⟩
theorem wd_294 : ex_W (.instanceMethod ⟨"StreamTower$Source", "append", "(I)V"⟩) := ⟨List.mem_append_right _ (List.mem_of_getElem? (i := 294) rfl), rfl⟩
theorem wd_295 : ex_W (.selects "StreamTower$Source" ⟨"StreamTower$Source", "append", "(I)V"⟩ ⟨"StreamTower$Source", "append", "(I)V"⟩) := ⟨List.mem_append_right _ (List.mem_of_getElem? (i := 295) rfl), rfl⟩
theorem wd_296 : ex_W (.code ⟨"StreamTower$Source", "append", "(I)V"⟩ prog_9_method_3_code 2 none) := ⟨List.mem_append_right _ (List.mem_of_getElem? (i := 296) rfl), rfl⟩
theorem wd_297 : ex_W (.methodLink "StreamTower$Source" 26 ⟨"StreamTower$Source", "hasRoomFor", "(I)Z"⟩) := ⟨List.mem_append_right _ (List.mem_of_getElem? (i := 297) rfl), rfl⟩
theorem wd_298 : ex_W (.methodLink "StreamTowerLaw" 80 ⟨"StreamTowerLaw", "push", "(LStreamTower;II[J)I"⟩) := ⟨List.mem_append_right _ (List.mem_of_getElem? (i := 298) rfl), rfl⟩
theorem wd_299 : ex_W (.static ⟨"StreamTowerLaw", "push", "(LStreamTower;II[J)I"⟩) := ⟨List.mem_append_right _ (List.mem_of_getElem? (i := 299) rfl), rfl⟩
theorem wd_300 : ex_W (.codeWith ⟨"StreamTowerLaw", "push", "(LStreamTower;II[J)I"⟩ method_4_code 5 (some FieldType.int) [(0, 10, 13, 13), (0, 10, 17, 15)]) := ⟨List.mem_append_right _ (List.mem_of_getElem? (i := 300) rfl), rfl⟩
set_option maxRecDepth 10000 in
theorem wd_301 : ex_W (.methodLink "StreamTowerLaw" 17 ⟨"StreamTower", "push", "(II)I"⟩) := ⟨List.mem_append_right _ (List.mem_of_getElem? (i := 301) rfl), rfl⟩
set_option maxRecDepth 10000 in
theorem wd_302 : ex_W (.instanceMethod ⟨"StreamTower", "push", "(II)I"⟩) := ⟨List.mem_append_right _ (List.mem_of_getElem? (i := 302) rfl), rfl⟩
set_option maxRecDepth 10000 in
theorem wd_303 : ex_W (.selects "StreamTower" ⟨"StreamTower", "push", "(II)I"⟩ ⟨"StreamTower", "push", "(II)I"⟩) := ⟨List.mem_append_right _ (List.mem_of_getElem? (i := 303) rfl), rfl⟩
set_option maxRecDepth 10000 in
theorem wd_304 : ex_W (.code ⟨"StreamTower", "push", "(II)I"⟩ prog_1_method_5_code 3 (some FieldType.int)) := ⟨List.mem_append_right _ (List.mem_of_getElem? (i := 304) rfl), rfl⟩
set_option maxRecDepth 10000 in
theorem wd_305 : ex_W (.methodLink "StreamTower" 68 ⟨"StreamTower", "isSizeOfKind", "(II)Z"⟩) := ⟨List.mem_append_right _ (List.mem_of_getElem? (i := 305) rfl), rfl⟩
set_option maxRecDepth 10000 in
theorem wd_306 : ex_W (.static ⟨"StreamTower", "isSizeOfKind", "(II)Z"⟩) := ⟨List.mem_append_right _ (List.mem_of_getElem? (i := 306) rfl), rfl⟩
set_option maxRecDepth 10000 in
theorem wd_307 : ex_W (.code ⟨"StreamTower", "isSizeOfKind", "(II)Z"⟩ prog_1_method_22_code 2 (some FieldType.boolean)) := ⟨List.mem_append_right _ (List.mem_of_getElem? (i := 307) rfl), rfl⟩
set_option maxRecDepth 10000 in
theorem wd_308 : ex_W (.methodLink "StreamTower" 79 ⟨"StreamTower", "layerOver", "(LStreamTower$Stream;II)LStreamTower$Stream;"⟩) := ⟨List.mem_append_right _ (List.mem_of_getElem? (i := 308) rfl), rfl⟩
set_option maxRecDepth 10000 in
theorem wd_309 : ex_W (.static ⟨"StreamTower", "layerOver", "(LStreamTower$Stream;II)LStreamTower$Stream;"⟩) := ⟨List.mem_append_right _ (List.mem_of_getElem? (i := 309) rfl), rfl⟩
set_option maxRecDepth 10000 in
theorem wd_310 : ex_W (.code ⟨"StreamTower", "layerOver", "(LStreamTower$Stream;II)LStreamTower$Stream;"⟩ prog_1_method_23_code 3 (some (FieldType.object "StreamTower$Stream"))) := ⟨List.mem_append_right _ (List.mem_of_getElem? (i := 310) rfl), rfl⟩
set_option maxRecDepth 10000 in
theorem wd_311 : ex_W (.classLink "StreamTower" 157 "StreamTower$Buffer") := ⟨List.mem_append_right _ (List.mem_of_getElem? (i := 311) rfl), rfl⟩
set_option maxRecDepth 10000 in
theorem wd_312 : ex_W (.instantiable "StreamTower$Buffer" 8) := ⟨List.mem_append_right _ (List.mem_of_getElem? (i := 312) rfl), rfl⟩
set_option maxRecDepth 10000 in
theorem wd_313 : ex_W (.methodLink "StreamTower" 159 ⟨"StreamTower$Buffer", "<init>", "(LStreamTower$Stream;I)V"⟩) := ⟨List.mem_append_right _ (List.mem_of_getElem? (i := 313) rfl), rfl⟩
set_option maxRecDepth 10000 in
theorem wd_314 : ex_W (.instanceMethod ⟨"StreamTower$Buffer", "<init>", "(LStreamTower$Stream;I)V"⟩) := ⟨List.mem_append_right _ (List.mem_of_getElem? (i := 314) rfl), rfl⟩
set_option maxRecDepth 10000 in
theorem wd_315 : ex_W (.code ⟨"StreamTower$Buffer", "<init>", "(LStreamTower$Stream;I)V"⟩ prog_2_method_1_code 3 none) := ⟨List.mem_append_right _ (List.mem_of_getElem? (i := 315) rfl), rfl⟩
set_option maxRecDepth 10000 in
theorem wd_316 : ex_W (.methodLinkNest "StreamTower$Buffer" 3 ⟨"StreamTower$Stream", "<init>", "()V"⟩ "StreamTower") := ⟨List.mem_append_right _ (List.mem_of_getElem? (i := 316) rfl), rfl⟩
set_option maxRecDepth 10000 in
theorem wd_317 : ex_W (.fieldLink "StreamTower$Buffer" 9 "StreamTower$Buffer" "below" "LStreamTower$Stream;") := ⟨List.mem_append_right _ (List.mem_of_getElem? (i := 317) rfl), rfl⟩
set_option maxRecDepth 10000 in
theorem wd_318 : ex_W (.fieldLink "StreamTower$Buffer" 15 "StreamTower$Buffer" "room" "I") := ⟨List.mem_append_right _ (List.mem_of_getElem? (i := 318) rfl), rfl⟩
set_option maxRecDepth 10000 in
theorem wd_319 : ex_W (.fieldLink "StreamTower$Buffer" 19 "StreamTower$Buffer" "kept" "[I") := ⟨List.mem_append_right _ (List.mem_of_getElem? (i := 319) rfl), rfl⟩
set_option maxRecDepth 10000 in
theorem wd_320 : ex_W (.fieldLink "StreamTower$Buffer" 56 "StreamTower$Buffer" "first" "I") := ⟨List.mem_append_right _ (List.mem_of_getElem? (i := 320) rfl), rfl⟩
set_option maxRecDepth 10000 in
theorem wd_321 : ex_W (.fieldLink "StreamTower$Buffer" 23 "StreamTower$Buffer" "next" "I") := ⟨List.mem_append_right _ (List.mem_of_getElem? (i := 321) rfl), rfl⟩
set_option maxRecDepth 10000 in
theorem wd_322 : ex_W (.fieldLink "StreamTower$Buffer" 26 "StreamTower$Buffer" "end" "I") := ⟨List.mem_append_right _ (List.mem_of_getElem? (i := 322) rfl), rfl⟩
set_option maxRecDepth 10000 in
theorem wd_323 : ex_W (.fieldLink "StreamTower$Buffer" 29 "StreamTower$Buffer" "marked" "Z") := ⟨List.mem_append_right _ (List.mem_of_getElem? (i := 323) rfl), rfl⟩
set_option maxRecDepth 10000 in
theorem wd_324 : ex_W (.fieldLink "StreamTower$Buffer" 59 "StreamTower$Buffer" "markLimit" "I") := ⟨List.mem_append_right _ (List.mem_of_getElem? (i := 324) rfl), rfl⟩
set_option maxRecDepth 10000 in
theorem wd_325 : ex_W (.laysFinal "StreamTower$Buffer" "StreamTower$Buffer" "below" "LStreamTower$Stream;") := ⟨List.mem_append_right _ (List.mem_of_getElem? (i := 325) rfl), rfl⟩
set_option maxRecDepth 10000 in
theorem wd_326 : ex_W (.soleField "StreamTower$Buffer" "below") := ⟨List.mem_append_right _ (List.mem_of_getElem? (i := 326) rfl), rfl⟩
set_option maxRecDepth 10000 in
theorem wd_327 : ex_W (.laysFinal "StreamTower$Buffer" "StreamTower$Buffer" "room" "I") := ⟨List.mem_append_right _ (List.mem_of_getElem? (i := 327) rfl), rfl⟩
set_option maxRecDepth 10000 in
theorem wd_328 : ex_W (.soleField "StreamTower$Buffer" "room") := ⟨List.mem_append_right _ (List.mem_of_getElem? (i := 328) rfl), rfl⟩
set_option maxRecDepth 10000 in
theorem wd_329 : ex_W (.laysFinal "StreamTower$Buffer" "StreamTower$Buffer" "kept" "[I") := ⟨List.mem_append_right _ (List.mem_of_getElem? (i := 329) rfl), rfl⟩
set_option maxRecDepth 10000 in
theorem wd_330 : ex_W (.soleField "StreamTower$Buffer" "kept") := ⟨List.mem_append_right _ (List.mem_of_getElem? (i := 330) rfl), rfl⟩
set_option maxRecDepth 10000 in
theorem wd_331 : ex_W (.lays "StreamTower$Buffer" "StreamTower$Buffer" "first" "I") := ⟨List.mem_append_right _ (List.mem_of_getElem? (i := 331) rfl), rfl⟩
set_option maxRecDepth 10000 in
theorem wd_332 : ex_W (.soleField "StreamTower$Buffer" "first") := ⟨List.mem_append_right _ (List.mem_of_getElem? (i := 332) rfl), rfl⟩
set_option maxRecDepth 10000 in
theorem wd_333 : ex_W (.lays "StreamTower$Buffer" "StreamTower$Buffer" "next" "I") := ⟨List.mem_append_right _ (List.mem_of_getElem? (i := 333) rfl), rfl⟩
set_option maxRecDepth 10000 in
theorem wd_334 : ex_W (.soleField "StreamTower$Buffer" "next") := ⟨List.mem_append_right _ (List.mem_of_getElem? (i := 334) rfl), rfl⟩
set_option maxRecDepth 10000 in
theorem wd_335 : ex_W (.lays "StreamTower$Buffer" "StreamTower$Buffer" "end" "I") := ⟨List.mem_append_right _ (List.mem_of_getElem? (i := 335) rfl), rfl⟩
set_option maxRecDepth 10000 in
theorem wd_336 : ex_W (.soleField "StreamTower$Buffer" "end") := ⟨List.mem_append_right _ (List.mem_of_getElem? (i := 336) rfl), rfl⟩
set_option maxRecDepth 10000 in
theorem wd_337 : ex_W (.lays "StreamTower$Buffer" "StreamTower$Buffer" "marked" "Z") := ⟨List.mem_append_right _ (List.mem_of_getElem? (i := 337) rfl), rfl⟩
set_option maxRecDepth 10000 in
theorem wd_338 : ex_W (.soleField "StreamTower$Buffer" "marked") := ⟨List.mem_append_right _ (List.mem_of_getElem? (i := 338) rfl), rfl⟩
set_option maxRecDepth 10000 in
theorem wd_339 : ex_W (.lays "StreamTower$Buffer" "StreamTower$Buffer" "markLimit" "I") := ⟨List.mem_append_right _ (List.mem_of_getElem? (i := 339) rfl), rfl⟩
set_option maxRecDepth 10000 in
theorem wd_340 : ex_W (.soleField "StreamTower$Buffer" "markLimit") := ⟨List.mem_append_right _ (List.mem_of_getElem? (i := 340) rfl), rfl⟩
set_option maxRecDepth 10000 in
theorem wd_341 : ex_W (.superclass "StreamTower$Buffer" "StreamTower$Stream") := ⟨List.mem_append_right _ (List.mem_of_getElem? (i := 341) rfl), rfl⟩
set_option maxRecDepth 10000 in
theorem wd_342 : ex_W (.classLink "StreamTower" 140 "StreamTower$Pushback") := ⟨List.mem_append_right _ (List.mem_of_getElem? (i := 342) rfl), rfl⟩
set_option maxRecDepth 10000 in
theorem wd_343 : ex_W (.instantiable "StreamTower$Pushback" 3) := ⟨List.mem_append_right _ (List.mem_of_getElem? (i := 343) rfl), rfl⟩
set_option maxRecDepth 10000 in
theorem wd_344 : ex_W (.methodLink "StreamTower" 162 ⟨"StreamTower$Pushback", "<init>", "(LStreamTower$Stream;I)V"⟩) := ⟨List.mem_append_right _ (List.mem_of_getElem? (i := 344) rfl), rfl⟩
set_option maxRecDepth 10000 in
theorem wd_345 : ex_W (.instanceMethod ⟨"StreamTower$Pushback", "<init>", "(LStreamTower$Stream;I)V"⟩) := ⟨List.mem_append_right _ (List.mem_of_getElem? (i := 345) rfl), rfl⟩
set_option maxRecDepth 10000 in
theorem wd_346 : ex_W (.code ⟨"StreamTower$Pushback", "<init>", "(LStreamTower$Stream;I)V"⟩ prog_7_method_1_code 3 none) := ⟨List.mem_append_right _ (List.mem_of_getElem? (i := 346) rfl), rfl⟩
set_option maxRecDepth 10000 in
theorem wd_347 : ex_W (.methodLinkNest "StreamTower$Pushback" 1 ⟨"StreamTower$Stream", "<init>", "()V"⟩ "StreamTower") := ⟨List.mem_append_right _ (List.mem_of_getElem? (i := 347) rfl), rfl⟩
set_option maxRecDepth 10000 in
theorem wd_348 : ex_W (.fieldLink "StreamTower$Pushback" 7 "StreamTower$Pushback" "below" "LStreamTower$Stream;") := ⟨List.mem_append_right _ (List.mem_of_getElem? (i := 348) rfl), rfl⟩
set_option maxRecDepth 10000 in
theorem wd_349 : ex_W (.fieldLink "StreamTower$Pushback" 13 "StreamTower$Pushback" "bytes" "[I") := ⟨List.mem_append_right _ (List.mem_of_getElem? (i := 349) rfl), rfl⟩
set_option maxRecDepth 10000 in
theorem wd_350 : ex_W (.fieldLink "StreamTower$Pushback" 17 "StreamTower$Pushback" "count" "I") := ⟨List.mem_append_right _ (List.mem_of_getElem? (i := 350) rfl), rfl⟩
set_option maxRecDepth 10000 in
theorem wd_351 : ex_W (.laysFinal "StreamTower$Pushback" "StreamTower$Pushback" "below" "LStreamTower$Stream;") := ⟨List.mem_append_right _ (List.mem_of_getElem? (i := 351) rfl), rfl⟩
set_option maxRecDepth 10000 in
theorem wd_352 : ex_W (.soleField "StreamTower$Pushback" "below") := ⟨List.mem_append_right _ (List.mem_of_getElem? (i := 352) rfl), rfl⟩
set_option maxRecDepth 10000 in
theorem wd_353 : ex_W (.laysFinal "StreamTower$Pushback" "StreamTower$Pushback" "bytes" "[I") := ⟨List.mem_append_right _ (List.mem_of_getElem? (i := 353) rfl), rfl⟩
set_option maxRecDepth 10000 in
theorem wd_354 : ex_W (.soleField "StreamTower$Pushback" "bytes") := ⟨List.mem_append_right _ (List.mem_of_getElem? (i := 354) rfl), rfl⟩
set_option maxRecDepth 10000 in
theorem wd_355 : ex_W (.lays "StreamTower$Pushback" "StreamTower$Pushback" "count" "I") := ⟨List.mem_append_right _ (List.mem_of_getElem? (i := 355) rfl), rfl⟩
set_option maxRecDepth 10000 in
theorem wd_356 : ex_W (.soleField "StreamTower$Pushback" "count") := ⟨List.mem_append_right _ (List.mem_of_getElem? (i := 356) rfl), rfl⟩
set_option maxRecDepth 10000 in
theorem wd_357 : ex_W (.superclass "StreamTower$Pushback" "StreamTower$Stream") := ⟨List.mem_append_right _ (List.mem_of_getElem? (i := 357) rfl), rfl⟩
set_option maxRecDepth 10000 in
theorem wd_358 : ex_W (.classLink "StreamTower" 163 "StreamTower$Limit") := ⟨List.mem_append_right _ (List.mem_of_getElem? (i := 358) rfl), rfl⟩
set_option maxRecDepth 10000 in
theorem wd_359 : ex_W (.instantiable "StreamTower$Limit" 3) := ⟨List.mem_append_right _ (List.mem_of_getElem? (i := 359) rfl), rfl⟩
set_option maxRecDepth 10000 in
theorem wd_360 : ex_W (.methodLink "StreamTower" 165 ⟨"StreamTower$Limit", "<init>", "(LStreamTower$Stream;I)V"⟩) := ⟨List.mem_append_right _ (List.mem_of_getElem? (i := 360) rfl), rfl⟩
set_option maxRecDepth 10000 in
theorem wd_361 : ex_W (.instanceMethod ⟨"StreamTower$Limit", "<init>", "(LStreamTower$Stream;I)V"⟩) := ⟨List.mem_append_right _ (List.mem_of_getElem? (i := 361) rfl), rfl⟩
set_option maxRecDepth 10000 in
theorem wd_362 : ex_W (.code ⟨"StreamTower$Limit", "<init>", "(LStreamTower$Stream;I)V"⟩ prog_4_method_1_code 3 none) := ⟨List.mem_append_right _ (List.mem_of_getElem? (i := 362) rfl), rfl⟩
set_option maxRecDepth 10000 in
theorem wd_363 : ex_W (.methodLink "StreamTower$Limit" 3 ⟨"StreamTower$Passing", "<init>", "(LStreamTower$Stream;)V"⟩) := ⟨List.mem_append_right _ (List.mem_of_getElem? (i := 363) rfl), rfl⟩
set_option maxRecDepth 10000 in
theorem wd_364 : ex_W (.instanceMethod ⟨"StreamTower$Passing", "<init>", "(LStreamTower$Stream;)V"⟩) := ⟨List.mem_append_right _ (List.mem_of_getElem? (i := 364) rfl), rfl⟩
set_option maxRecDepth 10000 in
theorem wd_365 : ex_W (.code ⟨"StreamTower$Passing", "<init>", "(LStreamTower$Stream;)V"⟩ prog_6_method_1_code 2 none) := ⟨List.mem_append_right _ (List.mem_of_getElem? (i := 365) rfl), rfl⟩
set_option maxRecDepth 10000 in
theorem wd_366 : ex_W (.methodLinkNest "StreamTower$Passing" 1 ⟨"StreamTower$Stream", "<init>", "()V"⟩ "StreamTower") := ⟨List.mem_append_right _ (List.mem_of_getElem? (i := 366) rfl), rfl⟩
set_option maxRecDepth 10000 in
theorem wd_367 : ex_W (.fieldLink "StreamTower$Limit" 9 "StreamTower$Limit" "left" "I") := ⟨List.mem_append_right _ (List.mem_of_getElem? (i := 367) rfl), rfl⟩
set_option maxRecDepth 10000 in
theorem wd_368 : ex_W (.fieldLink "StreamTower$Limit" 15 "StreamTower$Limit" "leftAtMark" "I") := ⟨List.mem_append_right _ (List.mem_of_getElem? (i := 368) rfl), rfl⟩
set_option maxRecDepth 10000 in
theorem wd_369 : ex_W (.fieldLink "StreamTower$Passing" 7 "StreamTower$Passing" "below" "LStreamTower$Stream;") := ⟨List.mem_append_right _ (List.mem_of_getElem? (i := 369) rfl), rfl⟩
set_option maxRecDepth 10000 in
theorem wd_370 : ex_W (.fieldLink "StreamTower$Code" 15 "StreamTower$Code" "below" "LStreamTower$Stream;") := ⟨List.mem_append_right _ (List.mem_of_getElem? (i := 370) rfl), rfl⟩
set_option maxRecDepth 10000 in
theorem wd_371 : ex_W (.sameField "StreamTower$Code" "StreamTower$Passing" "below" "LStreamTower$Stream;") := ⟨List.mem_append_right _ (List.mem_of_getElem? (i := 371) rfl), rfl⟩
set_option maxRecDepth 10000 in
theorem wd_372 : ex_W (.fieldLink "StreamTower$Lines" 9 "StreamTower$Lines" "below" "LStreamTower$Stream;") := ⟨List.mem_append_right _ (List.mem_of_getElem? (i := 372) rfl), rfl⟩
set_option maxRecDepth 10000 in
theorem wd_373 : ex_W (.sameField "StreamTower$Lines" "StreamTower$Passing" "below" "LStreamTower$Stream;") := ⟨List.mem_append_right _ (List.mem_of_getElem? (i := 373) rfl), rfl⟩
set_option maxRecDepth 10000 in
theorem wd_374 : ex_W (.fieldLink "StreamTower$Limit" 18 "StreamTower$Limit" "below" "LStreamTower$Stream;") := ⟨List.mem_append_right _ (List.mem_of_getElem? (i := 374) rfl), rfl⟩
set_option maxRecDepth 10000 in
theorem wd_375 : ex_W (.sameField "StreamTower$Limit" "StreamTower$Passing" "below" "LStreamTower$Stream;") := ⟨List.mem_append_right _ (List.mem_of_getElem? (i := 375) rfl), rfl⟩
set_option maxRecDepth 10000 in
theorem wd_376 : ex_W (.lays "StreamTower$Limit" "StreamTower$Limit" "left" "I") := ⟨List.mem_append_right _ (List.mem_of_getElem? (i := 376) rfl), rfl⟩
set_option maxRecDepth 10000 in
theorem wd_377 : ex_W (.soleField "StreamTower$Limit" "left") := ⟨List.mem_append_right _ (List.mem_of_getElem? (i := 377) rfl), rfl⟩
set_option maxRecDepth 10000 in
theorem wd_378 : ex_W (.lays "StreamTower$Limit" "StreamTower$Limit" "leftAtMark" "I") := ⟨List.mem_append_right _ (List.mem_of_getElem? (i := 378) rfl), rfl⟩
set_option maxRecDepth 10000 in
theorem wd_379 : ex_W (.soleField "StreamTower$Limit" "leftAtMark") := ⟨List.mem_append_right _ (List.mem_of_getElem? (i := 379) rfl), rfl⟩
set_option maxRecDepth 10000 in
theorem wd_380 : ex_W (.laysFinal "StreamTower$Limit" "StreamTower$Passing" "below" "LStreamTower$Stream;") := ⟨List.mem_append_right _ (List.mem_of_getElem? (i := 380) rfl), rfl⟩
set_option maxRecDepth 10000 in
theorem wd_381 : ex_W (.soleField "StreamTower$Passing" "below") := ⟨List.mem_append_right _ (List.mem_of_getElem? (i := 381) rfl), rfl⟩
set_option maxRecDepth 10000 in
theorem wd_382 : ex_W (.superclass "StreamTower$Limit" "StreamTower$Passing") := ⟨List.mem_append_right _ (List.mem_of_getElem? (i := 382) rfl), rfl⟩
set_option maxRecDepth 10000 in
theorem wd_383 : ex_W (.classLink "StreamTower" 166 "StreamTower$Code") := ⟨List.mem_append_right _ (List.mem_of_getElem? (i := 383) rfl), rfl⟩
set_option maxRecDepth 10000 in
theorem wd_384 : ex_W (.instantiable "StreamTower$Code" 4) := ⟨List.mem_append_right _ (List.mem_of_getElem? (i := 384) rfl), rfl⟩
set_option maxRecDepth 10000 in
theorem wd_385 : ex_W (.methodLink "StreamTower" 168 ⟨"StreamTower$Code", "<init>", "(LStreamTower$Stream;I)V"⟩) := ⟨List.mem_append_right _ (List.mem_of_getElem? (i := 385) rfl), rfl⟩
set_option maxRecDepth 10000 in
theorem wd_386 : ex_W (.instanceMethod ⟨"StreamTower$Code", "<init>", "(LStreamTower$Stream;I)V"⟩) := ⟨List.mem_append_right _ (List.mem_of_getElem? (i := 386) rfl), rfl⟩
set_option maxRecDepth 10000 in
theorem wd_387 : ex_W (.code ⟨"StreamTower$Code", "<init>", "(LStreamTower$Stream;I)V"⟩ prog_3_method_1_code 3 none) := ⟨List.mem_append_right _ (List.mem_of_getElem? (i := 387) rfl), rfl⟩
set_option maxRecDepth 10000 in
theorem wd_388 : ex_W (.methodLink "StreamTower$Code" 3 ⟨"StreamTower$Passing", "<init>", "(LStreamTower$Stream;)V"⟩) := ⟨List.mem_append_right _ (List.mem_of_getElem? (i := 388) rfl), rfl⟩
set_option maxRecDepth 10000 in
theorem wd_389 : ex_W (.fieldLink "StreamTower$Code" 9 "StreamTower$Code" "key" "I") := ⟨List.mem_append_right _ (List.mem_of_getElem? (i := 389) rfl), rfl⟩
set_option maxRecDepth 10000 in
theorem wd_390 : ex_W (.fieldLink "StreamTower$Code" 25 "StreamTower$Code" "coded" "I") := ⟨List.mem_append_right _ (List.mem_of_getElem? (i := 390) rfl), rfl⟩
set_option maxRecDepth 10000 in
theorem wd_391 : ex_W (.fieldLink "StreamTower$Code" 28 "StreamTower$Code" "codedAtMark" "I") := ⟨List.mem_append_right _ (List.mem_of_getElem? (i := 391) rfl), rfl⟩
set_option maxRecDepth 10000 in
theorem wd_392 : ex_W (.laysFinal "StreamTower$Code" "StreamTower$Code" "key" "I") := ⟨List.mem_append_right _ (List.mem_of_getElem? (i := 392) rfl), rfl⟩
set_option maxRecDepth 10000 in
theorem wd_393 : ex_W (.soleField "StreamTower$Code" "key") := ⟨List.mem_append_right _ (List.mem_of_getElem? (i := 393) rfl), rfl⟩
set_option maxRecDepth 10000 in
theorem wd_394 : ex_W (.lays "StreamTower$Code" "StreamTower$Code" "coded" "I") := ⟨List.mem_append_right _ (List.mem_of_getElem? (i := 394) rfl), rfl⟩
set_option maxRecDepth 10000 in
theorem wd_395 : ex_W (.soleField "StreamTower$Code" "coded") := ⟨List.mem_append_right _ (List.mem_of_getElem? (i := 395) rfl), rfl⟩
set_option maxRecDepth 10000 in
theorem wd_396 : ex_W (.lays "StreamTower$Code" "StreamTower$Code" "codedAtMark" "I") := ⟨List.mem_append_right _ (List.mem_of_getElem? (i := 396) rfl), rfl⟩
set_option maxRecDepth 10000 in
theorem wd_397 : ex_W (.soleField "StreamTower$Code" "codedAtMark") := ⟨List.mem_append_right _ (List.mem_of_getElem? (i := 397) rfl), rfl⟩
set_option maxRecDepth 10000 in
theorem wd_398 : ex_W (.laysFinal "StreamTower$Code" "StreamTower$Passing" "below" "LStreamTower$Stream;") := ⟨List.mem_append_right _ (List.mem_of_getElem? (i := 398) rfl), rfl⟩
set_option maxRecDepth 10000 in
theorem wd_399 : ex_W (.superclass "StreamTower$Code" "StreamTower$Passing") := ⟨List.mem_append_right _ (List.mem_of_getElem? (i := 399) rfl), rfl⟩
set_option maxRecDepth 10000 in
theorem wd_400 : ex_W (.classLink "StreamTower" 169 "StreamTower$Lines") := ⟨List.mem_append_right _ (List.mem_of_getElem? (i := 400) rfl), rfl⟩
set_option maxRecDepth 10000 in
theorem wd_401 : ex_W (.instantiable "StreamTower$Lines" 5) := ⟨List.mem_append_right _ (List.mem_of_getElem? (i := 401) rfl), rfl⟩
set_option maxRecDepth 10000 in
theorem wd_402 : ex_W (.methodLink "StreamTower" 171 ⟨"StreamTower$Lines", "<init>", "(LStreamTower$Stream;)V"⟩) := ⟨List.mem_append_right _ (List.mem_of_getElem? (i := 402) rfl), rfl⟩
set_option maxRecDepth 10000 in
theorem wd_403 : ex_W (.instanceMethod ⟨"StreamTower$Lines", "<init>", "(LStreamTower$Stream;)V"⟩) := ⟨List.mem_append_right _ (List.mem_of_getElem? (i := 403) rfl), rfl⟩
set_option maxRecDepth 10000 in
theorem wd_404 : ex_W (.code ⟨"StreamTower$Lines", "<init>", "(LStreamTower$Stream;)V"⟩ prog_5_method_1_code 2 none) := ⟨List.mem_append_right _ (List.mem_of_getElem? (i := 404) rfl), rfl⟩
set_option maxRecDepth 10000 in
theorem wd_405 : ex_W (.methodLink "StreamTower$Lines" 3 ⟨"StreamTower$Passing", "<init>", "(LStreamTower$Stream;)V"⟩) := ⟨List.mem_append_right _ (List.mem_of_getElem? (i := 405) rfl), rfl⟩
set_option maxRecDepth 10000 in
theorem wd_406 : ex_W (.fieldLink "StreamTower$Lines" 29 "StreamTower$Lines" "lineEnds" "I") := ⟨List.mem_append_right _ (List.mem_of_getElem? (i := 406) rfl), rfl⟩
set_option maxRecDepth 10000 in
theorem wd_407 : ex_W (.fieldLink "StreamTower$Lines" 33 "StreamTower$Lines" "lineEndsAtMark" "I") := ⟨List.mem_append_right _ (List.mem_of_getElem? (i := 407) rfl), rfl⟩
set_option maxRecDepth 10000 in
theorem wd_408 : ex_W (.fieldLink "StreamTower$Lines" 25 "StreamTower$Lines" "lastWasReturn" "Z") := ⟨List.mem_append_right _ (List.mem_of_getElem? (i := 408) rfl), rfl⟩
set_option maxRecDepth 10000 in
theorem wd_409 : ex_W (.fieldLink "StreamTower$Lines" 36 "StreamTower$Lines" "lastWasReturnAtMark" "Z") := ⟨List.mem_append_right _ (List.mem_of_getElem? (i := 409) rfl), rfl⟩
set_option maxRecDepth 10000 in
theorem wd_410 : ex_W (.lays "StreamTower$Lines" "StreamTower$Lines" "lineEnds" "I") := ⟨List.mem_append_right _ (List.mem_of_getElem? (i := 410) rfl), rfl⟩
set_option maxRecDepth 10000 in
theorem wd_411 : ex_W (.soleField "StreamTower$Lines" "lineEnds") := ⟨List.mem_append_right _ (List.mem_of_getElem? (i := 411) rfl), rfl⟩
set_option maxRecDepth 10000 in
theorem wd_412 : ex_W (.lays "StreamTower$Lines" "StreamTower$Lines" "lineEndsAtMark" "I") := ⟨List.mem_append_right _ (List.mem_of_getElem? (i := 412) rfl), rfl⟩
set_option maxRecDepth 10000 in
theorem wd_413 : ex_W (.soleField "StreamTower$Lines" "lineEndsAtMark") := ⟨List.mem_append_right _ (List.mem_of_getElem? (i := 413) rfl), rfl⟩
set_option maxRecDepth 10000 in
theorem wd_414 : ex_W (.lays "StreamTower$Lines" "StreamTower$Lines" "lastWasReturn" "Z") := ⟨List.mem_append_right _ (List.mem_of_getElem? (i := 414) rfl), rfl⟩
set_option maxRecDepth 10000 in
theorem wd_415 : ex_W (.soleField "StreamTower$Lines" "lastWasReturn") := ⟨List.mem_append_right _ (List.mem_of_getElem? (i := 415) rfl), rfl⟩
set_option maxRecDepth 10000 in
theorem wd_416 : ex_W (.lays "StreamTower$Lines" "StreamTower$Lines" "lastWasReturnAtMark" "Z") := ⟨List.mem_append_right _ (List.mem_of_getElem? (i := 416) rfl), rfl⟩
set_option maxRecDepth 10000 in
theorem wd_417 : ex_W (.soleField "StreamTower$Lines" "lastWasReturnAtMark") := ⟨List.mem_append_right _ (List.mem_of_getElem? (i := 417) rfl), rfl⟩
set_option maxRecDepth 10000 in
theorem wd_418 : ex_W (.laysFinal "StreamTower$Lines" "StreamTower$Passing" "below" "LStreamTower$Stream;") := ⟨List.mem_append_right _ (List.mem_of_getElem? (i := 418) rfl), rfl⟩
set_option maxRecDepth 10000 in
theorem wd_419 : ex_W (.superclass "StreamTower$Lines" "StreamTower$Passing") := ⟨List.mem_append_right _ (List.mem_of_getElem? (i := 419) rfl), rfl⟩
set_option maxRecDepth 10000 in
theorem wd_420 : ex_W (.methodLink "StreamTowerLaw" 83 ⟨"StreamTowerLaw", "read", "(LStreamTower;[J)I"⟩) := ⟨List.mem_append_right _ (List.mem_of_getElem? (i := 420) rfl), rfl⟩
set_option maxRecDepth 10000 in
theorem wd_421 : ex_W (.static ⟨"StreamTowerLaw", "read", "(LStreamTower;[J)I"⟩) := ⟨List.mem_append_right _ (List.mem_of_getElem? (i := 421) rfl), rfl⟩
set_option maxRecDepth 10000 in
theorem wd_422 : ex_W (.codeWith ⟨"StreamTowerLaw", "read", "(LStreamTower;[J)I"⟩ method_5_code 3 (some FieldType.int) [(0, 8, 11, 15)]) := ⟨List.mem_append_right _ (List.mem_of_getElem? (i := 422) rfl), rfl⟩
set_option maxRecDepth 10000 in
theorem wd_423 : ex_W (.methodLink "StreamTowerLaw" 20 ⟨"StreamTower", "read", "()I"⟩) := ⟨List.mem_append_right _ (List.mem_of_getElem? (i := 423) rfl), rfl⟩
set_option maxRecDepth 10000 in
theorem wd_424 : ex_W (.instanceMethod ⟨"StreamTower", "read", "()I"⟩) := ⟨List.mem_append_right _ (List.mem_of_getElem? (i := 424) rfl), rfl⟩
set_option maxRecDepth 10000 in
theorem wd_425 : ex_W (.selects "StreamTower" ⟨"StreamTower", "read", "()I"⟩ ⟨"StreamTower", "read", "()I"⟩) := ⟨List.mem_append_right _ (List.mem_of_getElem? (i := 425) rfl), rfl⟩
set_option maxRecDepth 10000 in
theorem wd_426 : ex_W (.code ⟨"StreamTower", "read", "()I"⟩ prog_1_method_6_code 2 (some FieldType.int)) := ⟨List.mem_append_right _ (List.mem_of_getElem? (i := 426) rfl), rfl⟩
set_option maxRecDepth 10000 in
theorem wd_427 : ex_W (.methodLink "StreamTower" 83 ⟨"StreamTower", "startReading", "()V"⟩) := ⟨List.mem_append_right _ (List.mem_of_getElem? (i := 427) rfl), rfl⟩
set_option maxRecDepth 10000 in
theorem wd_429 : ex_W (.instanceMethod ⟨"StreamTower", "startReading", "()V"⟩) := ⟨List.mem_append_right _ (List.mem_of_getElem? (i := 429) rfl), rfl⟩
set_option maxRecDepth 10000 in
theorem wd_430 : ex_W (.code ⟨"StreamTower", "startReading", "()V"⟩ prog_1_method_25_code 1 none) := ⟨List.mem_append_right _ (List.mem_of_getElem? (i := 430) rfl), rfl⟩
set_option maxRecDepth 10000 in
theorem wd_431 : ex_W (.methodLink "StreamTower" 174 ⟨"StreamTower$Row", "clear", "()V"⟩) := ⟨List.mem_append_right _ (List.mem_of_getElem? (i := 431) rfl), rfl⟩
set_option maxRecDepth 10000 in
theorem wd_432 : ex_W (.instanceMethod ⟨"StreamTower$Row", "clear", "()V"⟩) := ⟨List.mem_append_right _ (List.mem_of_getElem? (i := 432) rfl), rfl⟩
set_option maxRecDepth 10000 in
theorem wd_433 : ex_W (.selects "StreamTower$Row" ⟨"StreamTower$Row", "clear", "()V"⟩ ⟨"StreamTower$Row", "clear", "()V"⟩) := ⟨List.mem_append_right _ (List.mem_of_getElem? (i := 433) rfl), rfl⟩
set_option maxRecDepth 10000 in
theorem wd_434 : ex_W (.code ⟨"StreamTower$Row", "clear", "()V"⟩ prog_8_method_2_code 1 none) := ⟨List.mem_append_right _ (List.mem_of_getElem? (i := 434) rfl), rfl⟩
set_option maxRecDepth 10000 in
theorem wd_435 : ex_W (.methodLink "StreamTower" 118 ⟨"StreamTower", "refuseWhenClosed", "()V"⟩) := ⟨List.mem_append_right _ (List.mem_of_getElem? (i := 435) rfl), rfl⟩
set_option maxRecDepth 10000 in
theorem wd_437 : ex_W (.instanceMethod ⟨"StreamTower", "refuseWhenClosed", "()V"⟩) := ⟨List.mem_append_right _ (List.mem_of_getElem? (i := 437) rfl), rfl⟩
set_option maxRecDepth 10000 in
theorem wd_438 : ex_W (.code ⟨"StreamTower", "refuseWhenClosed", "()V"⟩ prog_1_method_24_code 1 none) := ⟨List.mem_append_right _ (List.mem_of_getElem? (i := 438) rfl), rfl⟩
set_option maxRecDepth 10000 in
theorem wd_439 : ex_W (.methodLink "StreamTower" 86 ⟨"StreamTower", "request", "(I)I"⟩) := ⟨List.mem_append_right _ (List.mem_of_getElem? (i := 439) rfl), rfl⟩
set_option maxRecDepth 10000 in
theorem wd_441 : ex_W (.instanceMethod ⟨"StreamTower", "request", "(I)I"⟩) := ⟨List.mem_append_right _ (List.mem_of_getElem? (i := 441) rfl), rfl⟩
set_option maxRecDepth 10000 in
theorem wd_442 : ex_W (.code ⟨"StreamTower", "request", "(I)I"⟩ prog_1_method_26_code 3 (some FieldType.int)) := ⟨List.mem_append_right _ (List.mem_of_getElem? (i := 442) rfl), rfl⟩
set_option maxRecDepth 10000 in
theorem wd_443 : ex_W (.methodLink "StreamTower" 177 ⟨"StreamTower$Stream", "answer", "(I[II)I"⟩) := ⟨List.mem_append_right _ (List.mem_of_getElem? (i := 443) rfl), rfl⟩
set_option maxRecDepth 10000 in
theorem wd_444 : ex_W (.declares ⟨"StreamTower$Stream", "answer", "(I[II)I"⟩) := ⟨List.mem_append_right _ (List.mem_of_getElem? (i := 444) rfl), rfl⟩
set_option maxRecDepth 10000 in
theorem wd_445 : ex_W (.sameMethod "StreamTower$Stream" "StreamTower$Stream" "answer" "(I[II)I") := ⟨List.mem_append_right _ (List.mem_of_getElem? (i := 445) rfl), rfl⟩
set_option maxRecDepth 10000 in
theorem wd_446 : ex_W (.selects "StreamTower$Buffer" ⟨"StreamTower$Stream", "answer", "(I[II)I"⟩ ⟨"StreamTower$Buffer", "answer", "(I[II)I"⟩) := ⟨List.mem_append_right _ (List.mem_of_getElem? (i := 446) rfl), rfl⟩
set_option maxRecDepth 10000 in
theorem wd_447 : ex_W (.instanceMethod ⟨"StreamTower$Buffer", "answer", "(I[II)I"⟩) := ⟨List.mem_append_right _ (List.mem_of_getElem? (i := 447) rfl), rfl⟩
set_option maxRecDepth 10000 in
theorem wd_448 : ex_W (.code ⟨"StreamTower$Buffer", "answer", "(I[II)I"⟩ prog_2_method_2_code 5 (some FieldType.int)) := ⟨List.mem_append_right _ (List.mem_of_getElem? (i := 448) rfl), rfl⟩
set_option maxRecDepth 10000 in
theorem wd_449 : ex_W (.methodLink "StreamTower$Buffer" 33 ⟨"StreamTower$Stream", "answer", "(I[II)I"⟩) := ⟨List.mem_append_right _ (List.mem_of_getElem? (i := 449) rfl), rfl⟩
set_option maxRecDepth 10000 in
theorem wd_450 : ex_W (.instanceMethod ⟨"StreamTower$Code", "answer", "(I[II)I"⟩) := ⟨List.mem_append_right _ (List.mem_of_getElem? (i := 450) rfl), rfl⟩
set_option maxRecDepth 10000 in
theorem wd_451 : ex_W (.code ⟨"StreamTower$Code", "answer", "(I[II)I"⟩ prog_3_method_2_code 6 (some FieldType.int)) := ⟨List.mem_append_right _ (List.mem_of_getElem? (i := 451) rfl), rfl⟩
set_option maxRecDepth 10000 in
theorem wd_452 : ex_W (.methodLink "StreamTower$Code" 19 ⟨"StreamTower$Stream", "answer", "(I[II)I"⟩) := ⟨List.mem_append_right _ (List.mem_of_getElem? (i := 452) rfl), rfl⟩
set_option maxRecDepth 10000 in
theorem wd_453 : ex_W (.instanceMethod ⟨"StreamTower$Limit", "answer", "(I[II)I"⟩) := ⟨List.mem_append_right _ (List.mem_of_getElem? (i := 453) rfl), rfl⟩
set_option maxRecDepth 10000 in
theorem wd_454 : ex_W (.code ⟨"StreamTower$Limit", "answer", "(I[II)I"⟩ prog_4_method_2_code 5 (some FieldType.int)) := ⟨List.mem_append_right _ (List.mem_of_getElem? (i := 454) rfl), rfl⟩
set_option maxRecDepth 10000 in
theorem wd_455 : ex_W (.methodLink "StreamTower$Limit" 28 ⟨"StreamTower$Stream", "answer", "(I[II)I"⟩) := ⟨List.mem_append_right _ (List.mem_of_getElem? (i := 455) rfl), rfl⟩
set_option maxRecDepth 10000 in
theorem wd_456 : ex_W (.instanceMethod ⟨"StreamTower$Lines", "answer", "(I[II)I"⟩) := ⟨List.mem_append_right _ (List.mem_of_getElem? (i := 456) rfl), rfl⟩
set_option maxRecDepth 10000 in
theorem wd_457 : ex_W (.code ⟨"StreamTower$Lines", "answer", "(I[II)I"⟩ prog_5_method_2_code 6 (some FieldType.int)) := ⟨List.mem_append_right _ (List.mem_of_getElem? (i := 457) rfl), rfl⟩
set_option maxRecDepth 10000 in
theorem wd_458 : ex_W (.methodLink "StreamTower$Lines" 15 ⟨"StreamTower$Stream", "answer", "(I[II)I"⟩) := ⟨List.mem_append_right _ (List.mem_of_getElem? (i := 458) rfl), rfl⟩
set_option maxRecDepth 10000 in
theorem wd_459 : ex_W (.instanceMethod ⟨"StreamTower$Pushback", "answer", "(I[II)I"⟩) := ⟨List.mem_append_right _ (List.mem_of_getElem? (i := 459) rfl), rfl⟩
set_option maxRecDepth 10000 in
theorem wd_460 : ex_W (.code ⟨"StreamTower$Pushback", "answer", "(I[II)I"⟩ prog_7_method_3_code 6 (some FieldType.int)) := ⟨List.mem_append_right _ (List.mem_of_getElem? (i := 460) rfl), rfl⟩
set_option maxRecDepth 10000 in
theorem wd_461 : ex_W (.methodLink "StreamTower$Pushback" 21 ⟨"StreamTower$Stream", "answer", "(I[II)I"⟩) := ⟨List.mem_append_right _ (List.mem_of_getElem? (i := 461) rfl), rfl⟩
set_option maxRecDepth 10000 in
theorem wd_462 : ex_W (.instanceMethod ⟨"StreamTower$Source", "answer", "(I[II)I"⟩) := ⟨List.mem_append_right _ (List.mem_of_getElem? (i := 462) rfl), rfl⟩
set_option maxRecDepth 10000 in
theorem wd_463 : ex_W (.code ⟨"StreamTower$Source", "answer", "(I[II)I"⟩ prog_9_method_7_code 5 (some FieldType.int)) := ⟨List.mem_append_right _ (List.mem_of_getElem? (i := 463) rfl), rfl⟩
set_option maxRecDepth 10000 in
theorem wd_464 : ex_W (.methodLink "StreamTower$Source" 33 ⟨"StreamTower$Source", "ready", "()I"⟩) := ⟨List.mem_append_right _ (List.mem_of_getElem? (i := 464) rfl), rfl⟩
set_option maxRecDepth 10000 in
theorem wd_465 : ex_W (.methodLink "StreamTower$Source" 37 ⟨"java/lang/Math", "min", "(II)I"⟩) := ⟨List.mem_append_right _ (List.mem_of_getElem? (i := 465) rfl), rfl⟩
set_option maxRecDepth 10000 in
theorem wd_466 : ex_W (.methodLink "StreamTower$Source" 43 ⟨"java/lang/System", "arraycopy", "(Ljava/lang/Object;ILjava/lang/Object;II)V"⟩) := ⟨List.mem_append_right _ (List.mem_of_getElem? (i := 466) rfl), rfl⟩
set_option maxRecDepth 10000 in
theorem wd_467 : ex_W (.static ⟨"java/lang/System", "arraycopy", "(Ljava/lang/Object;ILjava/lang/Object;II)V"⟩) := ⟨List.mem_append_right _ (List.mem_of_getElem? (i := 467) rfl), rfl⟩
set_option maxRecDepth 10000 in
theorem wd_468 : ex_W (.native ⟨"java/lang/System", "arraycopy", "(Ljava/lang/Object;ILjava/lang/Object;II)V"⟩) := ⟨List.mem_append_right _ (List.mem_of_getElem? (i := 468) rfl), rfl⟩
set_option maxRecDepth 10000 in
theorem wd_469 : ex_W (.methodLink "StreamTower$Pushback" 25 ⟨"java/lang/Math", "min", "(II)I"⟩) := ⟨List.mem_append_right _ (List.mem_of_getElem? (i := 469) rfl), rfl⟩
set_option maxRecDepth 10000 in
theorem wd_470 : ex_W (.methodLink "StreamTower$Lines" 21 ⟨"StreamTower$Lines", "countLineEnd", "(I)V"⟩) := ⟨List.mem_append_right _ (List.mem_of_getElem? (i := 470) rfl), rfl⟩
set_option maxRecDepth 10000 in
theorem wd_472 : ex_W (.instanceMethod ⟨"StreamTower$Lines", "countLineEnd", "(I)V"⟩) := ⟨List.mem_append_right _ (List.mem_of_getElem? (i := 472) rfl), rfl⟩
set_option maxRecDepth 10000 in
theorem wd_473 : ex_W (.code ⟨"StreamTower$Lines", "countLineEnd", "(I)V"⟩ prog_5_method_3_code 2 none) := ⟨List.mem_append_right _ (List.mem_of_getElem? (i := 473) rfl), rfl⟩
set_option maxRecDepth 10000 in
theorem wd_474 : ex_W (.methodLink "StreamTower$Buffer" 37 ⟨"StreamTower$Buffer", "fill", "()I"⟩) := ⟨List.mem_append_right _ (List.mem_of_getElem? (i := 474) rfl), rfl⟩
set_option maxRecDepth 10000 in
theorem wd_476 : ex_W (.instanceMethod ⟨"StreamTower$Buffer", "fill", "()I"⟩) := ⟨List.mem_append_right _ (List.mem_of_getElem? (i := 476) rfl), rfl⟩
set_option maxRecDepth 10000 in
theorem wd_477 : ex_W (.code ⟨"StreamTower$Buffer", "fill", "()I"⟩ prog_2_method_3_code 2 (some FieldType.int)) := ⟨List.mem_append_right _ (List.mem_of_getElem? (i := 477) rfl), rfl⟩
set_option maxRecDepth 10000 in
theorem wd_478 : ex_W (.methodLink "StreamTower$Buffer" 47 ⟨"java/lang/System", "arraycopy", "(Ljava/lang/Object;ILjava/lang/Object;II)V"⟩) := ⟨List.mem_append_right _ (List.mem_of_getElem? (i := 478) rfl), rfl⟩
set_option maxRecDepth 10000 in
theorem wd_479 : ex_W (.methodLink "StreamTower$Buffer" 41 ⟨"java/lang/Math", "min", "(II)I"⟩) := ⟨List.mem_append_right _ (List.mem_of_getElem? (i := 479) rfl), rfl⟩
set_option maxRecDepth 10000 in
theorem wd_480 : ex_W (.methodLink "StreamTower$Buffer" 53 ⟨"StreamTower$Buffer", "forgetWhatNoMarkKeeps", "()V"⟩) := ⟨List.mem_append_right _ (List.mem_of_getElem? (i := 480) rfl), rfl⟩
set_option maxRecDepth 10000 in
theorem wd_482 : ex_W (.instanceMethod ⟨"StreamTower$Buffer", "forgetWhatNoMarkKeeps", "()V"⟩) := ⟨List.mem_append_right _ (List.mem_of_getElem? (i := 482) rfl), rfl⟩
set_option maxRecDepth 10000 in
theorem wd_483 : ex_W (.code ⟨"StreamTower$Buffer", "forgetWhatNoMarkKeeps", "()V"⟩ prog_2_method_4_code 1 none) := ⟨List.mem_append_right _ (List.mem_of_getElem? (i := 483) rfl), rfl⟩
set_option maxRecDepth 10000 in
theorem wd_484 : ex_W (.selects "StreamTower$Code" ⟨"StreamTower$Stream", "answer", "(I[II)I"⟩ ⟨"StreamTower$Code", "answer", "(I[II)I"⟩) := ⟨List.mem_append_right _ (List.mem_of_getElem? (i := 484) rfl), rfl⟩
set_option maxRecDepth 10000 in
theorem wd_485 : ex_W (.selects "StreamTower$Limit" ⟨"StreamTower$Stream", "answer", "(I[II)I"⟩ ⟨"StreamTower$Limit", "answer", "(I[II)I"⟩) := ⟨List.mem_append_right _ (List.mem_of_getElem? (i := 485) rfl), rfl⟩
set_option maxRecDepth 10000 in
theorem wd_486 : ex_W (.selects "StreamTower$Lines" ⟨"StreamTower$Stream", "answer", "(I[II)I"⟩ ⟨"StreamTower$Lines", "answer", "(I[II)I"⟩) := ⟨List.mem_append_right _ (List.mem_of_getElem? (i := 486) rfl), rfl⟩
set_option maxRecDepth 10000 in
theorem wd_487 : ex_W (.selects "StreamTower$Pushback" ⟨"StreamTower$Stream", "answer", "(I[II)I"⟩ ⟨"StreamTower$Pushback", "answer", "(I[II)I"⟩) := ⟨List.mem_append_right _ (List.mem_of_getElem? (i := 487) rfl), rfl⟩
set_option maxRecDepth 10000 in
theorem wd_488 : ex_W (.selects "StreamTower$Source" ⟨"StreamTower$Stream", "answer", "(I[II)I"⟩ ⟨"StreamTower$Source", "answer", "(I[II)I"⟩) := ⟨List.mem_append_right _ (List.mem_of_getElem? (i := 488) rfl), rfl⟩
set_option maxRecDepth 10000 in
theorem wd_489 : ex_W (.methodLink "StreamTower" 181 ⟨"java/lang/System", "arraycopy", "(Ljava/lang/Object;ILjava/lang/Object;II)V"⟩) := ⟨List.mem_append_right _ (List.mem_of_getElem? (i := 489) rfl), rfl⟩
set_option maxRecDepth 10000 in
theorem wd_490 : ex_W (.methodLink "StreamTower" 90 ⟨"StreamTower$Row", "addAll", "([II)V"⟩) := ⟨List.mem_append_right _ (List.mem_of_getElem? (i := 490) rfl), rfl⟩
set_option maxRecDepth 10000 in
theorem wd_491 : ex_W (.instanceMethod ⟨"StreamTower$Row", "addAll", "([II)V"⟩) := ⟨List.mem_append_right _ (List.mem_of_getElem? (i := 491) rfl), rfl⟩
set_option maxRecDepth 10000 in
theorem wd_492 : ex_W (.selects "StreamTower$Row" ⟨"StreamTower$Row", "addAll", "([II)V"⟩ ⟨"StreamTower$Row", "addAll", "([II)V"⟩) := ⟨List.mem_append_right _ (List.mem_of_getElem? (i := 492) rfl), rfl⟩
set_option maxRecDepth 10000 in
theorem wd_493 : ex_W (.code ⟨"StreamTower$Row", "addAll", "([II)V"⟩ prog_8_method_4_code 4 none) := ⟨List.mem_append_right _ (List.mem_of_getElem? (i := 493) rfl), rfl⟩
set_option maxRecDepth 10000 in
theorem wd_494 : ex_W (.methodLink "StreamTower$Row" 19 ⟨"StreamTower$Row", "add", "(I)V"⟩) := ⟨List.mem_append_right _ (List.mem_of_getElem? (i := 494) rfl), rfl⟩
set_option maxRecDepth 10000 in
theorem wd_495 : ex_W (.instanceMethod ⟨"StreamTower$Row", "add", "(I)V"⟩) := ⟨List.mem_append_right _ (List.mem_of_getElem? (i := 495) rfl), rfl⟩
set_option maxRecDepth 10000 in
theorem wd_496 : ex_W (.selects "StreamTower$Row" ⟨"StreamTower$Row", "add", "(I)V"⟩ ⟨"StreamTower$Row", "add", "(I)V"⟩) := ⟨List.mem_append_right _ (List.mem_of_getElem? (i := 496) rfl), rfl⟩
set_option maxRecDepth 10000 in
theorem wd_497 : ex_W (.code ⟨"StreamTower$Row", "add", "(I)V"⟩ prog_8_method_3_code 2 none) := ⟨List.mem_append_right _ (List.mem_of_getElem? (i := 497) rfl), rfl⟩
set_option maxRecDepth 10000 in
theorem wd_498 : ex_W (.methodLink "StreamTowerLaw" 87 ⟨"StreamTowerLaw", "some", "(LStreamTower;I[J)I"⟩) := ⟨List.mem_append_right _ (List.mem_of_getElem? (i := 498) rfl), rfl⟩
set_option maxRecDepth 10000 in
theorem wd_499 : ex_W (.static ⟨"StreamTowerLaw", "some", "(LStreamTower;I[J)I"⟩) := ⟨List.mem_append_right _ (List.mem_of_getElem? (i := 499) rfl), rfl⟩
set_option maxRecDepth 10000 in
theorem wd_500 : ex_W (.codeWith ⟨"StreamTowerLaw", "some", "(LStreamTower;I[J)I"⟩ method_6_code 4 (some FieldType.int) [(0, 9, 12, 13), (0, 9, 15, 15)]) := ⟨List.mem_append_right _ (List.mem_of_getElem? (i := 500) rfl), rfl⟩
set_option maxRecDepth 10000 in
theorem wd_501 : ex_W (.methodLink "StreamTowerLaw" 24 ⟨"StreamTower", "some", "(I)I"⟩) := ⟨List.mem_append_right _ (List.mem_of_getElem? (i := 501) rfl), rfl⟩
set_option maxRecDepth 10000 in
theorem wd_502 : ex_W (.instanceMethod ⟨"StreamTower", "some", "(I)I"⟩) := ⟨List.mem_append_right _ (List.mem_of_getElem? (i := 502) rfl), rfl⟩
set_option maxRecDepth 10000 in
theorem wd_503 : ex_W (.selects "StreamTower" ⟨"StreamTower", "some", "(I)I"⟩ ⟨"StreamTower", "some", "(I)I"⟩) := ⟨List.mem_append_right _ (List.mem_of_getElem? (i := 503) rfl), rfl⟩
set_option maxRecDepth 10000 in
theorem wd_504 : ex_W (.code ⟨"StreamTower", "some", "(I)I"⟩ prog_1_method_7_code 3 (some FieldType.int)) := ⟨List.mem_append_right _ (List.mem_of_getElem? (i := 504) rfl), rfl⟩
set_option maxRecDepth 10000 in
theorem wd_505 : ex_W (.methodLink "StreamTowerLaw" 91 ⟨"StreamTowerLaw", "full", "(LStreamTower;I)I"⟩) := ⟨List.mem_append_right _ (List.mem_of_getElem? (i := 505) rfl), rfl⟩
set_option maxRecDepth 10000 in
theorem wd_506 : ex_W (.static ⟨"StreamTowerLaw", "full", "(LStreamTower;I)I"⟩) := ⟨List.mem_append_right _ (List.mem_of_getElem? (i := 506) rfl), rfl⟩
set_option maxRecDepth 10000 in
theorem wd_507 : ex_W (.codeWith ⟨"StreamTowerLaw", "full", "(LStreamTower;I)I"⟩ method_7_code 3 (some FieldType.int) [(0, 5, 8, 13), (0, 5, 11, 15), (0, 5, 14, 32)]) := ⟨List.mem_append_right _ (List.mem_of_getElem? (i := 507) rfl), rfl⟩
set_option maxRecDepth 10000 in
theorem wd_508 : ex_W (.classLink "StreamTowerLaw" 32 "java/util/NoSuchElementException") := ⟨List.mem_append_right _ (List.mem_of_getElem? (i := 508) rfl), rfl⟩
set_option maxRecDepth 10000 in
theorem wd_509 : ex_W (.methodLink "StreamTowerLaw" 28 ⟨"StreamTower", "full", "(I)V"⟩) := ⟨List.mem_append_right _ (List.mem_of_getElem? (i := 509) rfl), rfl⟩
set_option maxRecDepth 10000 in
theorem wd_510 : ex_W (.instanceMethod ⟨"StreamTower", "full", "(I)V"⟩) := ⟨List.mem_append_right _ (List.mem_of_getElem? (i := 510) rfl), rfl⟩
set_option maxRecDepth 10000 in
theorem wd_511 : ex_W (.selects "StreamTower" ⟨"StreamTower", "full", "(I)V"⟩ ⟨"StreamTower", "full", "(I)V"⟩) := ⟨List.mem_append_right _ (List.mem_of_getElem? (i := 511) rfl), rfl⟩
set_option maxRecDepth 10000 in
theorem wd_512 : ex_W (.code ⟨"StreamTower", "full", "(I)V"⟩ prog_1_method_8_code 2 none) := ⟨List.mem_append_right _ (List.mem_of_getElem? (i := 512) rfl), rfl⟩
set_option maxRecDepth 10000 in
theorem wd_513 : ex_W (.methodLink "StreamTower" 97 ⟨"StreamTower", "readAll", "(I)V"⟩) := ⟨List.mem_append_right _ (List.mem_of_getElem? (i := 513) rfl), rfl⟩
set_option maxRecDepth 10000 in
theorem wd_515 : ex_W (.instanceMethod ⟨"StreamTower", "readAll", "(I)V"⟩) := ⟨List.mem_append_right _ (List.mem_of_getElem? (i := 515) rfl), rfl⟩
set_option maxRecDepth 10000 in
theorem wd_516 : ex_W (.code ⟨"StreamTower", "readAll", "(I)V"⟩ prog_1_method_27_code 5 none) := ⟨List.mem_append_right _ (List.mem_of_getElem? (i := 516) rfl), rfl⟩
set_option maxRecDepth 10000 in
theorem wd_517 : ex_W (.classLink "StreamTower" 187 "java/util/NoSuchElementException") := ⟨List.mem_append_right _ (List.mem_of_getElem? (i := 517) rfl), rfl⟩
set_option maxRecDepth 10000 in
theorem wd_518 : ex_W (.instantiable "java/util/NoSuchElementException" 6) := ⟨List.mem_append_right _ (List.mem_of_getElem? (i := 518) rfl), rfl⟩
set_option maxRecDepth 10000 in
theorem wd_519 : ex_W (.castable "java/util/NoSuchElementException" "java/util/NoSuchElementException") := ⟨List.mem_append_right _ (List.mem_of_getElem? (i := 519) rfl), rfl⟩
set_option maxRecDepth 10000 in
theorem wd_520 : ex_W (.selects "java/util/NoSuchElementException" ⟨"java/lang/Throwable", "fillInStackTrace", "(I)Ljava/lang/Throwable;"⟩ ⟨"java/lang/Throwable", "fillInStackTrace", "(I)Ljava/lang/Throwable;"⟩) := ⟨List.mem_append_right _ (List.mem_of_getElem? (i := 520) rfl), rfl⟩
set_option maxRecDepth 10000 in
theorem wd_521 : ex_W (.lays "java/util/NoSuchElementException" "java/lang/Throwable" "cause" "Ljava/lang/Throwable;") := ⟨List.mem_append_right _ (List.mem_of_getElem? (i := 521) rfl), rfl⟩
set_option maxRecDepth 10000 in
theorem wd_522 : ex_W (.lays "java/util/NoSuchElementException" "java/lang/Throwable" "stackTrace" "[Ljava/lang/StackTraceElement;") := ⟨List.mem_append_right _ (List.mem_of_getElem? (i := 522) rfl), rfl⟩
set_option maxRecDepth 10000 in
theorem wd_523 : ex_W (.lays "java/util/NoSuchElementException" "java/lang/Throwable" "suppressedExceptions" "Ljava/util/List;") := ⟨List.mem_append_right _ (List.mem_of_getElem? (i := 523) rfl), rfl⟩
set_option maxRecDepth 10000 in
theorem wd_524 : ex_W (.lays "java/util/NoSuchElementException" "java/lang/Throwable" "detailMessage" "Ljava/lang/String;") := ⟨List.mem_append_right _ (List.mem_of_getElem? (i := 524) rfl), rfl⟩
set_option maxRecDepth 10000 in
theorem wd_525 : ex_W (.lays "java/util/NoSuchElementException" "java/lang/Throwable" "backtrace" "Ljava/lang/Object;") := ⟨List.mem_append_right _ (List.mem_of_getElem? (i := 525) rfl), rfl⟩
set_option maxRecDepth 10000 in
theorem wd_526 : ex_W (.methodLink "StreamTower" 189 ⟨"java/util/NoSuchElementException", "<init>", "()V"⟩) := ⟨List.mem_append_right _ (List.mem_of_getElem? (i := 526) rfl), rfl⟩
set_option maxRecDepth 10000 in
theorem wd_527 : ex_W (.instanceMethod ⟨"java/util/NoSuchElementException", "<init>", "()V"⟩) := ⟨List.mem_append_right _ (List.mem_of_getElem? (i := 527) rfl), rfl⟩
set_option maxRecDepth 10000 in
theorem wd_528 : ex_W (.code ⟨"java/util/NoSuchElementException", "<init>", "()V"⟩ prog_21_method_1_code 1 none) := ⟨List.mem_append_right _ (List.mem_of_getElem? (i := 528) rfl), rfl⟩
set_option maxRecDepth 10000 in
theorem wd_529 : ex_W (.methodLink "java/util/NoSuchElementException" 1 ⟨"java/lang/RuntimeException", "<init>", "()V"⟩) := ⟨List.mem_append_right _ (List.mem_of_getElem? (i := 529) rfl), rfl⟩
set_option maxRecDepth 10000 in
theorem wd_530 : ex_W (.lays "java/util/NoSuchElementException" "java/lang/Throwable" "depth" "I") := ⟨List.mem_append_right _ (List.mem_of_getElem? (i := 530) rfl), rfl⟩
set_option maxRecDepth 10000 in
theorem wd_531 : ex_W (.superclass "java/util/NoSuchElementException" "java/lang/RuntimeException") := ⟨List.mem_append_right _ (List.mem_of_getElem? (i := 531) rfl), rfl⟩
set_option maxRecDepth 10000 in
theorem wd_532 : ex_W (.methodLink "StreamTowerLaw" 95 ⟨"StreamTowerLaw", "skip", "(LStreamTower;I[J)I"⟩) := ⟨List.mem_append_right _ (List.mem_of_getElem? (i := 532) rfl), rfl⟩
set_option maxRecDepth 10000 in
theorem wd_533 : ex_W (.static ⟨"StreamTowerLaw", "skip", "(LStreamTower;I[J)I"⟩) := ⟨List.mem_append_right _ (List.mem_of_getElem? (i := 533) rfl), rfl⟩
set_option maxRecDepth 10000 in
theorem wd_534 : ex_W (.codeWith ⟨"StreamTowerLaw", "skip", "(LStreamTower;I[J)I"⟩ method_8_code 4 (some FieldType.int) [(0, 9, 12, 13), (0, 9, 15, 15)]) := ⟨List.mem_append_right _ (List.mem_of_getElem? (i := 534) rfl), rfl⟩
set_option maxRecDepth 10000 in
theorem wd_535 : ex_W (.methodLink "StreamTowerLaw" 34 ⟨"StreamTower", "skip", "(I)I"⟩) := ⟨List.mem_append_right _ (List.mem_of_getElem? (i := 535) rfl), rfl⟩
set_option maxRecDepth 10000 in
theorem wd_536 : ex_W (.instanceMethod ⟨"StreamTower", "skip", "(I)I"⟩) := ⟨List.mem_append_right _ (List.mem_of_getElem? (i := 536) rfl), rfl⟩
set_option maxRecDepth 10000 in
theorem wd_537 : ex_W (.selects "StreamTower" ⟨"StreamTower", "skip", "(I)I"⟩ ⟨"StreamTower", "skip", "(I)I"⟩) := ⟨List.mem_append_right _ (List.mem_of_getElem? (i := 537) rfl), rfl⟩
set_option maxRecDepth 10000 in
theorem wd_538 : ex_W (.code ⟨"StreamTower", "skip", "(I)I"⟩ prog_1_method_9_code 5 (some FieldType.int)) := ⟨List.mem_append_right _ (List.mem_of_getElem? (i := 538) rfl), rfl⟩
set_option maxRecDepth 10000 in
theorem wd_539 : ex_W (.methodLink "StreamTowerLaw" 98 ⟨"StreamTowerLaw", "number", "(LStreamTower;I[J)I"⟩) := ⟨List.mem_append_right _ (List.mem_of_getElem? (i := 539) rfl), rfl⟩
set_option maxRecDepth 10000 in
theorem wd_540 : ex_W (.static ⟨"StreamTowerLaw", "number", "(LStreamTower;I[J)I"⟩) := ⟨List.mem_append_right _ (List.mem_of_getElem? (i := 540) rfl), rfl⟩
set_option maxRecDepth 10000 in
theorem wd_541 : ex_W (.codeWith ⟨"StreamTowerLaw", "number", "(LStreamTower;I[J)I"⟩ method_9_code 4 (some FieldType.int) [(0, 8, 11, 13), (0, 8, 14, 15), (0, 8, 17, 32)]) := ⟨List.mem_append_right _ (List.mem_of_getElem? (i := 541) rfl), rfl⟩
set_option maxRecDepth 10000 in
theorem wd_542 : ex_W (.methodLink "StreamTowerLaw" 37 ⟨"StreamTower", "number", "(I)J"⟩) := ⟨List.mem_append_right _ (List.mem_of_getElem? (i := 542) rfl), rfl⟩
set_option maxRecDepth 10000 in
theorem wd_543 : ex_W (.instanceMethod ⟨"StreamTower", "number", "(I)J"⟩) := ⟨List.mem_append_right _ (List.mem_of_getElem? (i := 543) rfl), rfl⟩
set_option maxRecDepth 10000 in
theorem wd_544 : ex_W (.selects "StreamTower" ⟨"StreamTower", "number", "(I)J"⟩ ⟨"StreamTower", "number", "(I)J"⟩) := ⟨List.mem_append_right _ (List.mem_of_getElem? (i := 544) rfl), rfl⟩
set_option maxRecDepth 10000 in
theorem wd_545 : ex_W (.code ⟨"StreamTower", "number", "(I)J"⟩ prog_1_method_10_code 2 (some FieldType.long)) := ⟨List.mem_append_right _ (List.mem_of_getElem? (i := 545) rfl), rfl⟩
set_option maxRecDepth 10000 in
theorem wd_546 : ex_W (.methodLink "StreamTower" 100 ⟨"StreamTower", "numberInBag", "(I)J"⟩) := ⟨List.mem_append_right _ (List.mem_of_getElem? (i := 546) rfl), rfl⟩
set_option maxRecDepth 10000 in
theorem wd_548 : ex_W (.instanceMethod ⟨"StreamTower", "numberInBag", "(I)J"⟩) := ⟨List.mem_append_right _ (List.mem_of_getElem? (i := 548) rfl), rfl⟩
set_option maxRecDepth 10000 in
theorem wd_549 : ex_W (.code ⟨"StreamTower", "numberInBag", "(I)J"⟩ prog_1_method_28_code 5 (some FieldType.long)) := ⟨List.mem_append_right _ (List.mem_of_getElem? (i := 549) rfl), rfl⟩
set_option maxRecDepth 10000 in
theorem wd_550 : ex_W (.methodLink "StreamTowerLaw" 101 ⟨"StreamTowerLaw", "text", "(LStreamTower;[J)I"⟩) := ⟨List.mem_append_right _ (List.mem_of_getElem? (i := 550) rfl), rfl⟩
set_option maxRecDepth 10000 in
theorem wd_551 : ex_W (.static ⟨"StreamTowerLaw", "text", "(LStreamTower;[J)I"⟩) := ⟨List.mem_append_right _ (List.mem_of_getElem? (i := 551) rfl), rfl⟩
set_option maxRecDepth 10000 in
theorem wd_552 : ex_W (.codeWith ⟨"StreamTowerLaw", "text", "(LStreamTower;[J)I"⟩ method_10_code 3 (some FieldType.int) [(0, 8, 11, 15), (0, 8, 14, 32), (0, 8, 17, 13)]) := ⟨List.mem_append_right _ (List.mem_of_getElem? (i := 552) rfl), rfl⟩
set_option maxRecDepth 10000 in
theorem wd_553 : ex_W (.methodLink "StreamTowerLaw" 41 ⟨"StreamTower", "text", "()I"⟩) := ⟨List.mem_append_right _ (List.mem_of_getElem? (i := 553) rfl), rfl⟩
set_option maxRecDepth 10000 in
theorem wd_554 : ex_W (.instanceMethod ⟨"StreamTower", "text", "()I"⟩) := ⟨List.mem_append_right _ (List.mem_of_getElem? (i := 554) rfl), rfl⟩
set_option maxRecDepth 10000 in
theorem wd_555 : ex_W (.selects "StreamTower" ⟨"StreamTower", "text", "()I"⟩ ⟨"StreamTower", "text", "()I"⟩) := ⟨List.mem_append_right _ (List.mem_of_getElem? (i := 555) rfl), rfl⟩
set_option maxRecDepth 10000 in
theorem wd_556 : ex_W (.code ⟨"StreamTower", "text", "()I"⟩ prog_1_method_11_code 2 (some FieldType.int)) := ⟨List.mem_append_right _ (List.mem_of_getElem? (i := 556) rfl), rfl⟩
set_option maxRecDepth 10000 in
theorem wd_557 : ex_W (.methodLink "StreamTower" 104 ⟨"StreamTower", "holdsJustLetters", "(LStreamTower$Row;I)Z"⟩) := ⟨List.mem_append_right _ (List.mem_of_getElem? (i := 557) rfl), rfl⟩
set_option maxRecDepth 10000 in
theorem wd_558 : ex_W (.static ⟨"StreamTower", "holdsJustLetters", "(LStreamTower$Row;I)Z"⟩) := ⟨List.mem_append_right _ (List.mem_of_getElem? (i := 558) rfl), rfl⟩
set_option maxRecDepth 10000 in
theorem wd_559 : ex_W (.code ⟨"StreamTower", "holdsJustLetters", "(LStreamTower$Row;I)Z"⟩ prog_1_method_29_code 4 (some FieldType.boolean)) := ⟨List.mem_append_right _ (List.mem_of_getElem? (i := 559) rfl), rfl⟩
set_option maxRecDepth 10000 in
theorem wd_560 : ex_W (.methodLink "StreamTower" 190 ⟨"StreamTower", "letterWidth", "(LStreamTower$Row;I)I"⟩) := ⟨List.mem_append_right _ (List.mem_of_getElem? (i := 560) rfl), rfl⟩
set_option maxRecDepth 10000 in
theorem wd_561 : ex_W (.static ⟨"StreamTower", "letterWidth", "(LStreamTower$Row;I)I"⟩) := ⟨List.mem_append_right _ (List.mem_of_getElem? (i := 561) rfl), rfl⟩
set_option maxRecDepth 10000 in
theorem wd_562 : ex_W (.code ⟨"StreamTower", "letterWidth", "(LStreamTower$Row;I)I"⟩ prog_1_method_31_code 4 (some FieldType.int)) := ⟨List.mem_append_right _ (List.mem_of_getElem? (i := 562) rfl), rfl⟩
set_option maxRecDepth 10000 in
theorem wd_563 : ex_W (.methodLink "StreamTower" 198 ⟨"StreamTower", "widthByFirstByte", "(I)I"⟩) := ⟨List.mem_append_right _ (List.mem_of_getElem? (i := 563) rfl), rfl⟩
set_option maxRecDepth 10000 in
theorem wd_564 : ex_W (.static ⟨"StreamTower", "widthByFirstByte", "(I)I"⟩) := ⟨List.mem_append_right _ (List.mem_of_getElem? (i := 564) rfl), rfl⟩
set_option maxRecDepth 10000 in
theorem wd_565 : ex_W (.code ⟨"StreamTower", "widthByFirstByte", "(I)I"⟩ prog_1_method_32_code 1 (some FieldType.int)) := ⟨List.mem_append_right _ (List.mem_of_getElem? (i := 565) rfl), rfl⟩
set_option maxRecDepth 10000 in
theorem wd_566 : ex_W (.methodLink "StreamTower" 108 ⟨"StreamTower", "takeLetters", "()V"⟩) := ⟨List.mem_append_right _ (List.mem_of_getElem? (i := 566) rfl), rfl⟩
set_option maxRecDepth 10000 in
theorem wd_568 : ex_W (.instanceMethod ⟨"StreamTower", "takeLetters", "()V"⟩) := ⟨List.mem_append_right _ (List.mem_of_getElem? (i := 568) rfl), rfl⟩
set_option maxRecDepth 10000 in
theorem wd_569 : ex_W (.code ⟨"StreamTower", "takeLetters", "()V"⟩ prog_1_method_30_code 3 none) := ⟨List.mem_append_right _ (List.mem_of_getElem? (i := 569) rfl), rfl⟩
set_option maxRecDepth 10000 in
theorem wd_570 : ex_W (.methodLink "StreamTower" 194 ⟨"StreamTower", "letterOf", "(LStreamTower$Row;II)I"⟩) := ⟨List.mem_append_right _ (List.mem_of_getElem? (i := 570) rfl), rfl⟩
set_option maxRecDepth 10000 in
theorem wd_571 : ex_W (.static ⟨"StreamTower", "letterOf", "(LStreamTower$Row;II)I"⟩) := ⟨List.mem_append_right _ (List.mem_of_getElem? (i := 571) rfl), rfl⟩
set_option maxRecDepth 10000 in
theorem wd_572 : ex_W (.code ⟨"StreamTower", "letterOf", "(LStreamTower$Row;II)I"⟩ prog_1_method_33_code 6 (some FieldType.int)) := ⟨List.mem_append_right _ (List.mem_of_getElem? (i := 572) rfl), rfl⟩
set_option maxRecDepth 10000 in
theorem wd_573 : ex_W (.methodLink "StreamTower" 115 ⟨"StreamTower$Row", "add", "(I)V"⟩) := ⟨List.mem_append_right _ (List.mem_of_getElem? (i := 573) rfl), rfl⟩
set_option maxRecDepth 10000 in
theorem wd_574 : ex_W (.methodLink "StreamTowerLaw" 104 ⟨"StreamTowerLaw", "line", "(LStreamTower;[J)I"⟩) := ⟨List.mem_append_right _ (List.mem_of_getElem? (i := 574) rfl), rfl⟩
set_option maxRecDepth 10000 in
theorem wd_575 : ex_W (.static ⟨"StreamTowerLaw", "line", "(LStreamTower;[J)I"⟩) := ⟨List.mem_append_right _ (List.mem_of_getElem? (i := 575) rfl), rfl⟩
set_option maxRecDepth 10000 in
theorem wd_576 : ex_W (.codeWith ⟨"StreamTowerLaw", "line", "(LStreamTower;[J)I"⟩ method_11_code 3 (some FieldType.int) [(0, 8, 11, 15)]) := ⟨List.mem_append_right _ (List.mem_of_getElem? (i := 576) rfl), rfl⟩
set_option maxRecDepth 10000 in
theorem wd_577 : ex_W (.methodLink "StreamTowerLaw" 44 ⟨"StreamTower", "line", "()I"⟩) := ⟨List.mem_append_right _ (List.mem_of_getElem? (i := 577) rfl), rfl⟩
set_option maxRecDepth 10000 in
theorem wd_578 : ex_W (.instanceMethod ⟨"StreamTower", "line", "()I"⟩) := ⟨List.mem_append_right _ (List.mem_of_getElem? (i := 578) rfl), rfl⟩
set_option maxRecDepth 10000 in
theorem wd_579 : ex_W (.selects "StreamTower" ⟨"StreamTower", "line", "()I"⟩ ⟨"StreamTower", "line", "()I"⟩) := ⟨List.mem_append_right _ (List.mem_of_getElem? (i := 579) rfl), rfl⟩
set_option maxRecDepth 10000 in
theorem wd_580 : ex_W (.code ⟨"StreamTower", "line", "()I"⟩ prog_1_method_12_code 4 (some FieldType.int)) := ⟨List.mem_append_right _ (List.mem_of_getElem? (i := 580) rfl), rfl⟩
set_option maxRecDepth 10000 in
theorem wd_581 : ex_W (.methodLink "StreamTowerLaw" 107 ⟨"StreamTowerLaw", "mark", "(LStreamTower;I)I"⟩) := ⟨List.mem_append_right _ (List.mem_of_getElem? (i := 581) rfl), rfl⟩
set_option maxRecDepth 10000 in
theorem wd_582 : ex_W (.static ⟨"StreamTowerLaw", "mark", "(LStreamTower;I)I"⟩) := ⟨List.mem_append_right _ (List.mem_of_getElem? (i := 582) rfl), rfl⟩
set_option maxRecDepth 10000 in
theorem wd_583 : ex_W (.codeWith ⟨"StreamTowerLaw", "mark", "(LStreamTower;I)I"⟩ method_12_code 3 (some FieldType.int) [(0, 5, 8, 15), (0, 5, 11, 13), (0, 5, 14, 50)]) := ⟨List.mem_append_right _ (List.mem_of_getElem? (i := 583) rfl), rfl⟩
set_option maxRecDepth 10000 in
theorem wd_584 : ex_W (.classLink "StreamTowerLaw" 50 "java/lang/UnsupportedOperationException") := ⟨List.mem_append_right _ (List.mem_of_getElem? (i := 584) rfl), rfl⟩
set_option maxRecDepth 10000 in
theorem wd_585 : ex_W (.methodLink "StreamTowerLaw" 47 ⟨"StreamTower", "mark", "(I)V"⟩) := ⟨List.mem_append_right _ (List.mem_of_getElem? (i := 585) rfl), rfl⟩
set_option maxRecDepth 10000 in
theorem wd_586 : ex_W (.instanceMethod ⟨"StreamTower", "mark", "(I)V"⟩) := ⟨List.mem_append_right _ (List.mem_of_getElem? (i := 586) rfl), rfl⟩
set_option maxRecDepth 10000 in
theorem wd_587 : ex_W (.selects "StreamTower" ⟨"StreamTower", "mark", "(I)V"⟩ ⟨"StreamTower", "mark", "(I)V"⟩) := ⟨List.mem_append_right _ (List.mem_of_getElem? (i := 587) rfl), rfl⟩
set_option maxRecDepth 10000 in
theorem wd_588 : ex_W (.code ⟨"StreamTower", "mark", "(I)V"⟩ prog_1_method_13_code 2 none) := ⟨List.mem_append_right _ (List.mem_of_getElem? (i := 588) rfl), rfl⟩
set_option maxRecDepth 10000 in
theorem wd_589 : ex_W (.methodLink "StreamTower" 121 ⟨"StreamTower$Stream", "canBeMarked", "()Z"⟩) := ⟨List.mem_append_right _ (List.mem_of_getElem? (i := 589) rfl), rfl⟩
set_option maxRecDepth 10000 in
theorem wd_590 : ex_W (.instanceMethod ⟨"StreamTower$Stream", "canBeMarked", "()Z"⟩) := ⟨List.mem_append_right _ (List.mem_of_getElem? (i := 590) rfl), rfl⟩
set_option maxRecDepth 10000 in
theorem wd_591 : ex_W (.sameMethod "StreamTower$Stream" "StreamTower$Stream" "canBeMarked" "()Z") := ⟨List.mem_append_right _ (List.mem_of_getElem? (i := 591) rfl), rfl⟩
set_option maxRecDepth 10000 in
theorem wd_592 : ex_W (.selects "StreamTower$Buffer" ⟨"StreamTower$Stream", "canBeMarked", "()Z"⟩ ⟨"StreamTower$Buffer", "canBeMarked", "()Z"⟩) := ⟨List.mem_append_right _ (List.mem_of_getElem? (i := 592) rfl), rfl⟩
set_option maxRecDepth 10000 in
theorem wd_593 : ex_W (.instanceMethod ⟨"StreamTower$Buffer", "canBeMarked", "()Z"⟩) := ⟨List.mem_append_right _ (List.mem_of_getElem? (i := 593) rfl), rfl⟩
set_option maxRecDepth 10000 in
theorem wd_594 : ex_W (.code ⟨"StreamTower$Buffer", "canBeMarked", "()Z"⟩ prog_2_method_7_code 1 (some FieldType.boolean)) := ⟨List.mem_append_right _ (List.mem_of_getElem? (i := 594) rfl), rfl⟩
set_option maxRecDepth 10000 in
theorem wd_595 : ex_W (.selects "StreamTower$Code" ⟨"StreamTower$Stream", "canBeMarked", "()Z"⟩ ⟨"StreamTower$Passing", "canBeMarked", "()Z"⟩) := ⟨List.mem_append_right _ (List.mem_of_getElem? (i := 595) rfl), rfl⟩
set_option maxRecDepth 10000 in
theorem wd_596 : ex_W (.instanceMethod ⟨"StreamTower$Passing", "canBeMarked", "()Z"⟩) := ⟨List.mem_append_right _ (List.mem_of_getElem? (i := 596) rfl), rfl⟩
set_option maxRecDepth 10000 in
theorem wd_597 : ex_W (.code ⟨"StreamTower$Passing", "canBeMarked", "()Z"⟩ prog_6_method_5_code 1 (some FieldType.boolean)) := ⟨List.mem_append_right _ (List.mem_of_getElem? (i := 597) rfl), rfl⟩
set_option maxRecDepth 10000 in
theorem wd_598 : ex_W (.methodLink "StreamTower$Passing" 17 ⟨"StreamTower$Stream", "canBeMarked", "()Z"⟩) := ⟨List.mem_append_right _ (List.mem_of_getElem? (i := 598) rfl), rfl⟩
set_option maxRecDepth 10000 in
theorem wd_599 : ex_W (.selects "StreamTower$Limit" ⟨"StreamTower$Stream", "canBeMarked", "()Z"⟩ ⟨"StreamTower$Passing", "canBeMarked", "()Z"⟩) := ⟨List.mem_append_right _ (List.mem_of_getElem? (i := 599) rfl), rfl⟩
set_option maxRecDepth 10000 in
theorem wd_600 : ex_W (.selects "StreamTower$Lines" ⟨"StreamTower$Stream", "canBeMarked", "()Z"⟩ ⟨"StreamTower$Passing", "canBeMarked", "()Z"⟩) := ⟨List.mem_append_right _ (List.mem_of_getElem? (i := 600) rfl), rfl⟩
set_option maxRecDepth 10000 in
theorem wd_601 : ex_W (.selects "StreamTower$Pushback" ⟨"StreamTower$Stream", "canBeMarked", "()Z"⟩ ⟨"StreamTower$Stream", "canBeMarked", "()Z"⟩) := ⟨List.mem_append_right _ (List.mem_of_getElem? (i := 601) rfl), rfl⟩
set_option maxRecDepth 10000 in
theorem wd_602 : ex_W (.selects "StreamTower$Source" ⟨"StreamTower$Stream", "canBeMarked", "()Z"⟩ ⟨"StreamTower$Stream", "canBeMarked", "()Z"⟩) := ⟨List.mem_append_right _ (List.mem_of_getElem? (i := 602) rfl), rfl⟩
set_option maxRecDepth 10000 in
theorem wd_603 : ex_W (.code ⟨"StreamTower$Stream", "canBeMarked", "()Z"⟩ prog_10_method_5_code 1 (some FieldType.boolean)) := ⟨List.mem_append_right _ (List.mem_of_getElem? (i := 603) rfl), rfl⟩
set_option maxRecDepth 10000 in
theorem wd_604 : ex_W (.classLink "StreamTower" 125 "java/lang/UnsupportedOperationException") := ⟨List.mem_append_right _ (List.mem_of_getElem? (i := 604) rfl), rfl⟩
set_option maxRecDepth 10000 in
theorem wd_605 : ex_W (.instantiable "java/lang/UnsupportedOperationException" 6) := ⟨List.mem_append_right _ (List.mem_of_getElem? (i := 605) rfl), rfl⟩
set_option maxRecDepth 10000 in
theorem wd_606 : ex_W (.castable "java/lang/UnsupportedOperationException" "java/lang/UnsupportedOperationException") := ⟨List.mem_append_right _ (List.mem_of_getElem? (i := 606) rfl), rfl⟩
set_option maxRecDepth 10000 in
theorem wd_607 : ex_W (.selects "java/lang/UnsupportedOperationException" ⟨"java/lang/Throwable", "fillInStackTrace", "(I)Ljava/lang/Throwable;"⟩ ⟨"java/lang/Throwable", "fillInStackTrace", "(I)Ljava/lang/Throwable;"⟩) := ⟨List.mem_append_right _ (List.mem_of_getElem? (i := 607) rfl), rfl⟩
set_option maxRecDepth 10000 in
theorem wd_608 : ex_W (.lays "java/lang/UnsupportedOperationException" "java/lang/Throwable" "cause" "Ljava/lang/Throwable;") := ⟨List.mem_append_right _ (List.mem_of_getElem? (i := 608) rfl), rfl⟩
set_option maxRecDepth 10000 in
theorem wd_609 : ex_W (.lays "java/lang/UnsupportedOperationException" "java/lang/Throwable" "stackTrace" "[Ljava/lang/StackTraceElement;") := ⟨List.mem_append_right _ (List.mem_of_getElem? (i := 609) rfl), rfl⟩
set_option maxRecDepth 10000 in
theorem wd_610 : ex_W (.lays "java/lang/UnsupportedOperationException" "java/lang/Throwable" "suppressedExceptions" "Ljava/util/List;") := ⟨List.mem_append_right _ (List.mem_of_getElem? (i := 610) rfl), rfl⟩
set_option maxRecDepth 10000 in
theorem wd_611 : ex_W (.lays "java/lang/UnsupportedOperationException" "java/lang/Throwable" "detailMessage" "Ljava/lang/String;") := ⟨List.mem_append_right _ (List.mem_of_getElem? (i := 611) rfl), rfl⟩
set_option maxRecDepth 10000 in
theorem wd_612 : ex_W (.lays "java/lang/UnsupportedOperationException" "java/lang/Throwable" "backtrace" "Ljava/lang/Object;") := ⟨List.mem_append_right _ (List.mem_of_getElem? (i := 612) rfl), rfl⟩
set_option maxRecDepth 10000 in
theorem wd_613 : ex_W (.methodLink "StreamTower" 127 ⟨"java/lang/UnsupportedOperationException", "<init>", "()V"⟩) := ⟨List.mem_append_right _ (List.mem_of_getElem? (i := 613) rfl), rfl⟩
set_option maxRecDepth 10000 in
theorem wd_614 : ex_W (.instanceMethod ⟨"java/lang/UnsupportedOperationException", "<init>", "()V"⟩) := ⟨List.mem_append_right _ (List.mem_of_getElem? (i := 614) rfl), rfl⟩
set_option maxRecDepth 10000 in
theorem wd_615 : ex_W (.code ⟨"java/lang/UnsupportedOperationException", "<init>", "()V"⟩ prog_20_method_1_code 1 none) := ⟨List.mem_append_right _ (List.mem_of_getElem? (i := 615) rfl), rfl⟩
set_option maxRecDepth 10000 in
theorem wd_616 : ex_W (.methodLink "java/lang/UnsupportedOperationException" 1 ⟨"java/lang/RuntimeException", "<init>", "()V"⟩) := ⟨List.mem_append_right _ (List.mem_of_getElem? (i := 616) rfl), rfl⟩
set_option maxRecDepth 10000 in
theorem wd_617 : ex_W (.lays "java/lang/UnsupportedOperationException" "java/lang/Throwable" "depth" "I") := ⟨List.mem_append_right _ (List.mem_of_getElem? (i := 617) rfl), rfl⟩
set_option maxRecDepth 10000 in
theorem wd_618 : ex_W (.superclass "java/lang/UnsupportedOperationException" "java/lang/RuntimeException") := ⟨List.mem_append_right _ (List.mem_of_getElem? (i := 618) rfl), rfl⟩
set_option maxRecDepth 10000 in
theorem wd_619 : ex_W (.methodLink "StreamTower" 128 ⟨"StreamTower$Stream", "takeMark", "(I)V"⟩) := ⟨List.mem_append_right _ (List.mem_of_getElem? (i := 619) rfl), rfl⟩
set_option maxRecDepth 10000 in
theorem wd_620 : ex_W (.instanceMethod ⟨"StreamTower$Stream", "takeMark", "(I)V"⟩) := ⟨List.mem_append_right _ (List.mem_of_getElem? (i := 620) rfl), rfl⟩
set_option maxRecDepth 10000 in
theorem wd_621 : ex_W (.sameMethod "StreamTower$Stream" "StreamTower$Stream" "takeMark" "(I)V") := ⟨List.mem_append_right _ (List.mem_of_getElem? (i := 621) rfl), rfl⟩
set_option maxRecDepth 10000 in
theorem wd_622 : ex_W (.selects "StreamTower$Buffer" ⟨"StreamTower$Stream", "takeMark", "(I)V"⟩ ⟨"StreamTower$Buffer", "takeMark", "(I)V"⟩) := ⟨List.mem_append_right _ (List.mem_of_getElem? (i := 622) rfl), rfl⟩
set_option maxRecDepth 10000 in
theorem wd_623 : ex_W (.instanceMethod ⟨"StreamTower$Buffer", "takeMark", "(I)V"⟩) := ⟨List.mem_append_right _ (List.mem_of_getElem? (i := 623) rfl), rfl⟩
set_option maxRecDepth 10000 in
theorem wd_624 : ex_W (.code ⟨"StreamTower$Buffer", "takeMark", "(I)V"⟩ prog_2_method_9_code 2 none) := ⟨List.mem_append_right _ (List.mem_of_getElem? (i := 624) rfl), rfl⟩
set_option maxRecDepth 10000 in
theorem wd_625 : ex_W (.selects "StreamTower$Code" ⟨"StreamTower$Stream", "takeMark", "(I)V"⟩ ⟨"StreamTower$Passing", "takeMark", "(I)V"⟩) := ⟨List.mem_append_right _ (List.mem_of_getElem? (i := 625) rfl), rfl⟩
set_option maxRecDepth 10000 in
theorem wd_626 : ex_W (.instanceMethod ⟨"StreamTower$Passing", "takeMark", "(I)V"⟩) := ⟨List.mem_append_right _ (List.mem_of_getElem? (i := 626) rfl), rfl⟩
set_option maxRecDepth 10000 in
theorem wd_627 : ex_W (.code ⟨"StreamTower$Passing", "takeMark", "(I)V"⟩ prog_6_method_7_code 2 none) := ⟨List.mem_append_right _ (List.mem_of_getElem? (i := 627) rfl), rfl⟩
set_option maxRecDepth 10000 in
theorem wd_628 : ex_W (.methodLink "StreamTower$Passing" 24 ⟨"StreamTower$Stream", "takeMark", "(I)V"⟩) := ⟨List.mem_append_right _ (List.mem_of_getElem? (i := 628) rfl), rfl⟩
set_option maxRecDepth 10000 in
theorem wd_629 : ex_W (.methodLink "StreamTower$Passing" 28 ⟨"StreamTower$Passing", "remember", "()V"⟩) := ⟨List.mem_append_right _ (List.mem_of_getElem? (i := 629) rfl), rfl⟩
set_option maxRecDepth 10000 in
theorem wd_630 : ex_W (.declares ⟨"StreamTower$Passing", "remember", "()V"⟩) := ⟨List.mem_append_right _ (List.mem_of_getElem? (i := 630) rfl), rfl⟩
set_option maxRecDepth 10000 in
theorem wd_631 : ex_W (.sameMethod "StreamTower$Passing" "StreamTower$Passing" "remember" "()V") := ⟨List.mem_append_right _ (List.mem_of_getElem? (i := 631) rfl), rfl⟩
set_option maxRecDepth 10000 in
theorem wd_632 : ex_W (.selects "StreamTower$Code" ⟨"StreamTower$Passing", "remember", "()V"⟩ ⟨"StreamTower$Code", "remember", "()V"⟩) := ⟨List.mem_append_right _ (List.mem_of_getElem? (i := 632) rfl), rfl⟩
set_option maxRecDepth 10000 in
theorem wd_633 : ex_W (.instanceMethod ⟨"StreamTower$Code", "remember", "()V"⟩) := ⟨List.mem_append_right _ (List.mem_of_getElem? (i := 633) rfl), rfl⟩
set_option maxRecDepth 10000 in
theorem wd_634 : ex_W (.code ⟨"StreamTower$Code", "remember", "()V"⟩ prog_3_method_4_code 1 none) := ⟨List.mem_append_right _ (List.mem_of_getElem? (i := 634) rfl), rfl⟩
set_option maxRecDepth 10000 in
theorem wd_635 : ex_W (.selects "StreamTower$Limit" ⟨"StreamTower$Passing", "remember", "()V"⟩ ⟨"StreamTower$Limit", "remember", "()V"⟩) := ⟨List.mem_append_right _ (List.mem_of_getElem? (i := 635) rfl), rfl⟩
set_option maxRecDepth 10000 in
theorem wd_636 : ex_W (.instanceMethod ⟨"StreamTower$Limit", "remember", "()V"⟩) := ⟨List.mem_append_right _ (List.mem_of_getElem? (i := 636) rfl), rfl⟩
set_option maxRecDepth 10000 in
theorem wd_637 : ex_W (.code ⟨"StreamTower$Limit", "remember", "()V"⟩ prog_4_method_5_code 1 none) := ⟨List.mem_append_right _ (List.mem_of_getElem? (i := 637) rfl), rfl⟩
set_option maxRecDepth 10000 in
theorem wd_638 : ex_W (.selects "StreamTower$Lines" ⟨"StreamTower$Passing", "remember", "()V"⟩ ⟨"StreamTower$Lines", "remember", "()V"⟩) := ⟨List.mem_append_right _ (List.mem_of_getElem? (i := 638) rfl), rfl⟩
set_option maxRecDepth 10000 in
theorem wd_639 : ex_W (.instanceMethod ⟨"StreamTower$Lines", "remember", "()V"⟩) := ⟨List.mem_append_right _ (List.mem_of_getElem? (i := 639) rfl), rfl⟩
set_option maxRecDepth 10000 in
theorem wd_640 : ex_W (.code ⟨"StreamTower$Lines", "remember", "()V"⟩ prog_5_method_5_code 1 none) := ⟨List.mem_append_right _ (List.mem_of_getElem? (i := 640) rfl), rfl⟩
set_option maxRecDepth 10000 in
theorem wd_641 : ex_W (.selects "StreamTower$Limit" ⟨"StreamTower$Stream", "takeMark", "(I)V"⟩ ⟨"StreamTower$Passing", "takeMark", "(I)V"⟩) := ⟨List.mem_append_right _ (List.mem_of_getElem? (i := 641) rfl), rfl⟩
set_option maxRecDepth 10000 in
theorem wd_642 : ex_W (.selects "StreamTower$Lines" ⟨"StreamTower$Stream", "takeMark", "(I)V"⟩ ⟨"StreamTower$Passing", "takeMark", "(I)V"⟩) := ⟨List.mem_append_right _ (List.mem_of_getElem? (i := 642) rfl), rfl⟩
set_option maxRecDepth 10000 in
theorem wd_643 : ex_W (.selects "StreamTower$Pushback" ⟨"StreamTower$Stream", "takeMark", "(I)V"⟩ ⟨"StreamTower$Stream", "takeMark", "(I)V"⟩) := ⟨List.mem_append_right _ (List.mem_of_getElem? (i := 643) rfl), rfl⟩
set_option maxRecDepth 10000 in
theorem wd_644 : ex_W (.selects "StreamTower$Source" ⟨"StreamTower$Stream", "takeMark", "(I)V"⟩ ⟨"StreamTower$Stream", "takeMark", "(I)V"⟩) := ⟨List.mem_append_right _ (List.mem_of_getElem? (i := 644) rfl), rfl⟩
set_option maxRecDepth 10000 in
theorem wd_645 : ex_W (.code ⟨"StreamTower$Stream", "takeMark", "(I)V"⟩ prog_10_method_7_code 2 none) := ⟨List.mem_append_right _ (List.mem_of_getElem? (i := 645) rfl), rfl⟩
set_option maxRecDepth 10000 in
theorem wd_646 : ex_W (.methodLink "StreamTowerLaw" 110 ⟨"StreamTowerLaw", "reset", "(LStreamTower;)I"⟩) := ⟨List.mem_append_right _ (List.mem_of_getElem? (i := 646) rfl), rfl⟩
set_option maxRecDepth 10000 in
theorem wd_647 : ex_W (.static ⟨"StreamTowerLaw", "reset", "(LStreamTower;)I"⟩) := ⟨List.mem_append_right _ (List.mem_of_getElem? (i := 647) rfl), rfl⟩
set_option maxRecDepth 10000 in
theorem wd_648 : ex_W (.codeWith ⟨"StreamTowerLaw", "reset", "(LStreamTower;)I"⟩ method_13_code 2 (some FieldType.int) [(0, 4, 7, 15), (0, 4, 10, 50)]) := ⟨List.mem_append_right _ (List.mem_of_getElem? (i := 648) rfl), rfl⟩
set_option maxRecDepth 10000 in
theorem wd_649 : ex_W (.methodLink "StreamTowerLaw" 52 ⟨"StreamTower", "reset", "()V"⟩) := ⟨List.mem_append_right _ (List.mem_of_getElem? (i := 649) rfl), rfl⟩
set_option maxRecDepth 10000 in
theorem wd_650 : ex_W (.instanceMethod ⟨"StreamTower", "reset", "()V"⟩) := ⟨List.mem_append_right _ (List.mem_of_getElem? (i := 650) rfl), rfl⟩
set_option maxRecDepth 10000 in
theorem wd_651 : ex_W (.selects "StreamTower" ⟨"StreamTower", "reset", "()V"⟩ ⟨"StreamTower", "reset", "()V"⟩) := ⟨List.mem_append_right _ (List.mem_of_getElem? (i := 651) rfl), rfl⟩
set_option maxRecDepth 10000 in
theorem wd_652 : ex_W (.code ⟨"StreamTower", "reset", "()V"⟩ prog_1_method_14_code 1 none) := ⟨List.mem_append_right _ (List.mem_of_getElem? (i := 652) rfl), rfl⟩
set_option maxRecDepth 10000 in
theorem wd_653 : ex_W (.methodLink "StreamTower" 134 ⟨"StreamTower$Stream", "hasMark", "()Z"⟩) := ⟨List.mem_append_right _ (List.mem_of_getElem? (i := 653) rfl), rfl⟩
set_option maxRecDepth 10000 in
theorem wd_654 : ex_W (.instanceMethod ⟨"StreamTower$Stream", "hasMark", "()Z"⟩) := ⟨List.mem_append_right _ (List.mem_of_getElem? (i := 654) rfl), rfl⟩
set_option maxRecDepth 10000 in
theorem wd_655 : ex_W (.sameMethod "StreamTower$Stream" "StreamTower$Stream" "hasMark" "()Z") := ⟨List.mem_append_right _ (List.mem_of_getElem? (i := 655) rfl), rfl⟩
set_option maxRecDepth 10000 in
theorem wd_656 : ex_W (.selects "StreamTower$Buffer" ⟨"StreamTower$Stream", "hasMark", "()Z"⟩ ⟨"StreamTower$Buffer", "hasMark", "()Z"⟩) := ⟨List.mem_append_right _ (List.mem_of_getElem? (i := 656) rfl), rfl⟩
set_option maxRecDepth 10000 in
theorem wd_657 : ex_W (.instanceMethod ⟨"StreamTower$Buffer", "hasMark", "()Z"⟩) := ⟨List.mem_append_right _ (List.mem_of_getElem? (i := 657) rfl), rfl⟩
set_option maxRecDepth 10000 in
theorem wd_658 : ex_W (.code ⟨"StreamTower$Buffer", "hasMark", "()Z"⟩ prog_2_method_8_code 1 (some FieldType.boolean)) := ⟨List.mem_append_right _ (List.mem_of_getElem? (i := 658) rfl), rfl⟩
set_option maxRecDepth 10000 in
theorem wd_659 : ex_W (.selects "StreamTower$Code" ⟨"StreamTower$Stream", "hasMark", "()Z"⟩ ⟨"StreamTower$Passing", "hasMark", "()Z"⟩) := ⟨List.mem_append_right _ (List.mem_of_getElem? (i := 659) rfl), rfl⟩
set_option maxRecDepth 10000 in
theorem wd_660 : ex_W (.instanceMethod ⟨"StreamTower$Passing", "hasMark", "()Z"⟩) := ⟨List.mem_append_right _ (List.mem_of_getElem? (i := 660) rfl), rfl⟩
set_option maxRecDepth 10000 in
theorem wd_661 : ex_W (.code ⟨"StreamTower$Passing", "hasMark", "()Z"⟩ prog_6_method_6_code 1 (some FieldType.boolean)) := ⟨List.mem_append_right _ (List.mem_of_getElem? (i := 661) rfl), rfl⟩
set_option maxRecDepth 10000 in
theorem wd_662 : ex_W (.methodLink "StreamTower$Passing" 21 ⟨"StreamTower$Stream", "hasMark", "()Z"⟩) := ⟨List.mem_append_right _ (List.mem_of_getElem? (i := 662) rfl), rfl⟩
set_option maxRecDepth 10000 in
theorem wd_663 : ex_W (.selects "StreamTower$Limit" ⟨"StreamTower$Stream", "hasMark", "()Z"⟩ ⟨"StreamTower$Passing", "hasMark", "()Z"⟩) := ⟨List.mem_append_right _ (List.mem_of_getElem? (i := 663) rfl), rfl⟩
set_option maxRecDepth 10000 in
theorem wd_664 : ex_W (.selects "StreamTower$Lines" ⟨"StreamTower$Stream", "hasMark", "()Z"⟩ ⟨"StreamTower$Passing", "hasMark", "()Z"⟩) := ⟨List.mem_append_right _ (List.mem_of_getElem? (i := 664) rfl), rfl⟩
set_option maxRecDepth 10000 in
theorem wd_665 : ex_W (.selects "StreamTower$Pushback" ⟨"StreamTower$Stream", "hasMark", "()Z"⟩ ⟨"StreamTower$Stream", "hasMark", "()Z"⟩) := ⟨List.mem_append_right _ (List.mem_of_getElem? (i := 665) rfl), rfl⟩
set_option maxRecDepth 10000 in
theorem wd_666 : ex_W (.selects "StreamTower$Source" ⟨"StreamTower$Stream", "hasMark", "()Z"⟩ ⟨"StreamTower$Stream", "hasMark", "()Z"⟩) := ⟨List.mem_append_right _ (List.mem_of_getElem? (i := 666) rfl), rfl⟩
set_option maxRecDepth 10000 in
theorem wd_667 : ex_W (.code ⟨"StreamTower$Stream", "hasMark", "()Z"⟩ prog_10_method_6_code 1 (some FieldType.boolean)) := ⟨List.mem_append_right _ (List.mem_of_getElem? (i := 667) rfl), rfl⟩
set_option maxRecDepth 10000 in
theorem wd_668 : ex_W (.methodLink "StreamTower" 137 ⟨"StreamTower$Stream", "goBack", "()V"⟩) := ⟨List.mem_append_right _ (List.mem_of_getElem? (i := 668) rfl), rfl⟩
set_option maxRecDepth 10000 in
theorem wd_669 : ex_W (.instanceMethod ⟨"StreamTower$Stream", "goBack", "()V"⟩) := ⟨List.mem_append_right _ (List.mem_of_getElem? (i := 669) rfl), rfl⟩
set_option maxRecDepth 10000 in
theorem wd_670 : ex_W (.sameMethod "StreamTower$Stream" "StreamTower$Stream" "goBack" "()V") := ⟨List.mem_append_right _ (List.mem_of_getElem? (i := 670) rfl), rfl⟩
set_option maxRecDepth 10000 in
theorem wd_671 : ex_W (.selects "StreamTower$Buffer" ⟨"StreamTower$Stream", "goBack", "()V"⟩ ⟨"StreamTower$Buffer", "goBack", "()V"⟩) := ⟨List.mem_append_right _ (List.mem_of_getElem? (i := 671) rfl), rfl⟩
set_option maxRecDepth 10000 in
theorem wd_672 : ex_W (.instanceMethod ⟨"StreamTower$Buffer", "goBack", "()V"⟩) := ⟨List.mem_append_right _ (List.mem_of_getElem? (i := 672) rfl), rfl⟩
set_option maxRecDepth 10000 in
theorem wd_673 : ex_W (.code ⟨"StreamTower$Buffer", "goBack", "()V"⟩ prog_2_method_10_code 1 none) := ⟨List.mem_append_right _ (List.mem_of_getElem? (i := 673) rfl), rfl⟩
set_option maxRecDepth 10000 in
theorem wd_674 : ex_W (.selects "StreamTower$Code" ⟨"StreamTower$Stream", "goBack", "()V"⟩ ⟨"StreamTower$Passing", "goBack", "()V"⟩) := ⟨List.mem_append_right _ (List.mem_of_getElem? (i := 674) rfl), rfl⟩
set_option maxRecDepth 10000 in
theorem wd_675 : ex_W (.instanceMethod ⟨"StreamTower$Passing", "goBack", "()V"⟩) := ⟨List.mem_append_right _ (List.mem_of_getElem? (i := 675) rfl), rfl⟩
set_option maxRecDepth 10000 in
theorem wd_676 : ex_W (.code ⟨"StreamTower$Passing", "goBack", "()V"⟩ prog_6_method_8_code 1 none) := ⟨List.mem_append_right _ (List.mem_of_getElem? (i := 676) rfl), rfl⟩
set_option maxRecDepth 10000 in
theorem wd_677 : ex_W (.methodLink "StreamTower$Passing" 31 ⟨"StreamTower$Stream", "goBack", "()V"⟩) := ⟨List.mem_append_right _ (List.mem_of_getElem? (i := 677) rfl), rfl⟩
set_option maxRecDepth 10000 in
theorem wd_678 : ex_W (.methodLink "StreamTower$Passing" 34 ⟨"StreamTower$Passing", "recall", "()V"⟩) := ⟨List.mem_append_right _ (List.mem_of_getElem? (i := 678) rfl), rfl⟩
set_option maxRecDepth 10000 in
theorem wd_679 : ex_W (.declares ⟨"StreamTower$Passing", "recall", "()V"⟩) := ⟨List.mem_append_right _ (List.mem_of_getElem? (i := 679) rfl), rfl⟩
set_option maxRecDepth 10000 in
theorem wd_680 : ex_W (.sameMethod "StreamTower$Passing" "StreamTower$Passing" "recall" "()V") := ⟨List.mem_append_right _ (List.mem_of_getElem? (i := 680) rfl), rfl⟩
set_option maxRecDepth 10000 in
theorem wd_681 : ex_W (.selects "StreamTower$Code" ⟨"StreamTower$Passing", "recall", "()V"⟩ ⟨"StreamTower$Code", "recall", "()V"⟩) := ⟨List.mem_append_right _ (List.mem_of_getElem? (i := 681) rfl), rfl⟩
set_option maxRecDepth 10000 in
theorem wd_682 : ex_W (.instanceMethod ⟨"StreamTower$Code", "recall", "()V"⟩) := ⟨List.mem_append_right _ (List.mem_of_getElem? (i := 682) rfl), rfl⟩
set_option maxRecDepth 10000 in
theorem wd_683 : ex_W (.code ⟨"StreamTower$Code", "recall", "()V"⟩ prog_3_method_5_code 1 none) := ⟨List.mem_append_right _ (List.mem_of_getElem? (i := 683) rfl), rfl⟩
set_option maxRecDepth 10000 in
theorem wd_684 : ex_W (.selects "StreamTower$Limit" ⟨"StreamTower$Passing", "recall", "()V"⟩ ⟨"StreamTower$Limit", "recall", "()V"⟩) := ⟨List.mem_append_right _ (List.mem_of_getElem? (i := 684) rfl), rfl⟩
set_option maxRecDepth 10000 in
theorem wd_685 : ex_W (.instanceMethod ⟨"StreamTower$Limit", "recall", "()V"⟩) := ⟨List.mem_append_right _ (List.mem_of_getElem? (i := 685) rfl), rfl⟩
set_option maxRecDepth 10000 in
theorem wd_686 : ex_W (.code ⟨"StreamTower$Limit", "recall", "()V"⟩ prog_4_method_6_code 1 none) := ⟨List.mem_append_right _ (List.mem_of_getElem? (i := 686) rfl), rfl⟩
set_option maxRecDepth 10000 in
theorem wd_687 : ex_W (.selects "StreamTower$Lines" ⟨"StreamTower$Passing", "recall", "()V"⟩ ⟨"StreamTower$Lines", "recall", "()V"⟩) := ⟨List.mem_append_right _ (List.mem_of_getElem? (i := 687) rfl), rfl⟩
set_option maxRecDepth 10000 in
theorem wd_688 : ex_W (.instanceMethod ⟨"StreamTower$Lines", "recall", "()V"⟩) := ⟨List.mem_append_right _ (List.mem_of_getElem? (i := 688) rfl), rfl⟩
set_option maxRecDepth 10000 in
theorem wd_689 : ex_W (.code ⟨"StreamTower$Lines", "recall", "()V"⟩ prog_5_method_6_code 1 none) := ⟨List.mem_append_right _ (List.mem_of_getElem? (i := 689) rfl), rfl⟩
set_option maxRecDepth 10000 in
theorem wd_690 : ex_W (.selects "StreamTower$Limit" ⟨"StreamTower$Stream", "goBack", "()V"⟩ ⟨"StreamTower$Passing", "goBack", "()V"⟩) := ⟨List.mem_append_right _ (List.mem_of_getElem? (i := 690) rfl), rfl⟩
set_option maxRecDepth 10000 in
theorem wd_691 : ex_W (.selects "StreamTower$Lines" ⟨"StreamTower$Stream", "goBack", "()V"⟩ ⟨"StreamTower$Passing", "goBack", "()V"⟩) := ⟨List.mem_append_right _ (List.mem_of_getElem? (i := 691) rfl), rfl⟩
set_option maxRecDepth 10000 in
theorem wd_692 : ex_W (.selects "StreamTower$Pushback" ⟨"StreamTower$Stream", "goBack", "()V"⟩ ⟨"StreamTower$Stream", "goBack", "()V"⟩) := ⟨List.mem_append_right _ (List.mem_of_getElem? (i := 692) rfl), rfl⟩
set_option maxRecDepth 10000 in
theorem wd_693 : ex_W (.selects "StreamTower$Source" ⟨"StreamTower$Stream", "goBack", "()V"⟩ ⟨"StreamTower$Stream", "goBack", "()V"⟩) := ⟨List.mem_append_right _ (List.mem_of_getElem? (i := 693) rfl), rfl⟩
set_option maxRecDepth 10000 in
theorem wd_694 : ex_W (.code ⟨"StreamTower$Stream", "goBack", "()V"⟩ prog_10_method_8_code 1 none) := ⟨List.mem_append_right _ (List.mem_of_getElem? (i := 694) rfl), rfl⟩
set_option maxRecDepth 10000 in
theorem wd_695 : ex_W (.methodLink "StreamTowerLaw" 114 ⟨"StreamTowerLaw", "unread", "(LStreamTower;I)I"⟩) := ⟨List.mem_append_right _ (List.mem_of_getElem? (i := 695) rfl), rfl⟩
set_option maxRecDepth 10000 in
theorem wd_696 : ex_W (.static ⟨"StreamTowerLaw", "unread", "(LStreamTower;I)I"⟩) := ⟨List.mem_append_right _ (List.mem_of_getElem? (i := 696) rfl), rfl⟩
set_option maxRecDepth 10000 in
theorem wd_697 : ex_W (.codeWith ⟨"StreamTowerLaw", "unread", "(LStreamTower;I)I"⟩ method_14_code 3 (some FieldType.int) [(0, 5, 8, 15), (0, 5, 11, 13), (0, 5, 14, 50)]) := ⟨List.mem_append_right _ (List.mem_of_getElem? (i := 697) rfl), rfl⟩
set_option maxRecDepth 10000 in
theorem wd_698 : ex_W (.methodLink "StreamTowerLaw" 55 ⟨"StreamTower", "unread", "(I)V"⟩) := ⟨List.mem_append_right _ (List.mem_of_getElem? (i := 698) rfl), rfl⟩
set_option maxRecDepth 10000 in
theorem wd_699 : ex_W (.instanceMethod ⟨"StreamTower", "unread", "(I)V"⟩) := ⟨List.mem_append_right _ (List.mem_of_getElem? (i := 699) rfl), rfl⟩
set_option maxRecDepth 10000 in
theorem wd_700 : ex_W (.selects "StreamTower" ⟨"StreamTower", "unread", "(I)V"⟩ ⟨"StreamTower", "unread", "(I)V"⟩) := ⟨List.mem_append_right _ (List.mem_of_getElem? (i := 700) rfl), rfl⟩
set_option maxRecDepth 10000 in
theorem wd_701 : ex_W (.code ⟨"StreamTower", "unread", "(I)V"⟩ prog_1_method_15_code 3 none) := ⟨List.mem_append_right _ (List.mem_of_getElem? (i := 701) rfl), rfl⟩
set_option maxRecDepth 10000 in
theorem wd_702 : ex_W (.methodLink "StreamTower" 142 ⟨"StreamTower$Pushback", "putBack", "(I)Z"⟩) := ⟨List.mem_append_right _ (List.mem_of_getElem? (i := 702) rfl), rfl⟩
set_option maxRecDepth 10000 in
theorem wd_703 : ex_W (.instanceMethod ⟨"StreamTower$Pushback", "putBack", "(I)Z"⟩) := ⟨List.mem_append_right _ (List.mem_of_getElem? (i := 703) rfl), rfl⟩
set_option maxRecDepth 10000 in
theorem wd_704 : ex_W (.selects "StreamTower$Pushback" ⟨"StreamTower$Pushback", "putBack", "(I)Z"⟩ ⟨"StreamTower$Pushback", "putBack", "(I)Z"⟩) := ⟨List.mem_append_right _ (List.mem_of_getElem? (i := 704) rfl), rfl⟩
set_option maxRecDepth 10000 in
theorem wd_705 : ex_W (.code ⟨"StreamTower$Pushback", "putBack", "(I)Z"⟩ prog_7_method_2_code 2 (some FieldType.boolean)) := ⟨List.mem_append_right _ (List.mem_of_getElem? (i := 705) rfl), rfl⟩
set_option maxRecDepth 10000 in
theorem wd_706 : ex_W (.classLink "StreamTowerLaw" 59 "StreamTowerModel") := ⟨List.mem_append_right _ (List.mem_of_getElem? (i := 706) rfl), rfl⟩
set_option maxRecDepth 10000 in
theorem wd_707 : ex_W (.instantiable "StreamTowerModel" 28) := ⟨List.mem_append_right _ (List.mem_of_getElem? (i := 707) rfl), rfl⟩
set_option maxRecDepth 10000 in
theorem wd_708 : ex_W (.methodLink "StreamTowerLaw" 61 ⟨"StreamTowerModel", "<init>", "()V"⟩) := ⟨List.mem_append_right _ (List.mem_of_getElem? (i := 708) rfl), rfl⟩
set_option maxRecDepth 10000 in
theorem wd_709 : ex_W (.instanceMethod ⟨"StreamTowerModel", "<init>", "()V"⟩) := ⟨List.mem_append_right _ (List.mem_of_getElem? (i := 709) rfl), rfl⟩
set_option maxRecDepth 10000 in
theorem wd_710 : ex_W (.code ⟨"StreamTowerModel", "<init>", "()V"⟩ prog_12_method_1_code 1 none) := ⟨List.mem_append_right _ (List.mem_of_getElem? (i := 710) rfl), rfl⟩
set_option maxRecDepth 10000 in
theorem wd_711 : ex_W (.methodLink "StreamTowerModel" 1 ⟨"java/lang/Object", "<init>", "()V"⟩) := ⟨List.mem_append_right _ (List.mem_of_getElem? (i := 711) rfl), rfl⟩
set_option maxRecDepth 10000 in
theorem wd_712 : ex_W (.fieldLink "StreamTowerModel" 65 "StreamTowerModel" "code" "I") := ⟨List.mem_append_right _ (List.mem_of_getElem? (i := 712) rfl), rfl⟩
set_option maxRecDepth 10000 in
theorem wd_713 : ex_W (.fieldLink "StreamTowerModel" 7 "StreamTowerModel" "source" "[I") := ⟨List.mem_append_right _ (List.mem_of_getElem? (i := 713) rfl), rfl⟩
set_option maxRecDepth 10000 in
theorem wd_714 : ex_W (.fieldLink "StreamTowerModel" 13 "StreamTowerModel" "begins" "[Z") := ⟨List.mem_append_right _ (List.mem_of_getElem? (i := 714) rfl), rfl⟩
set_option maxRecDepth 10000 in
theorem wd_715 : ex_W (.fieldLink "StreamTowerModel" 17 "StreamTowerModel" "broken" "[Z") := ⟨List.mem_append_right _ (List.mem_of_getElem? (i := 715) rfl), rfl⟩
set_option maxRecDepth 10000 in
theorem wd_716 : ex_W (.fieldLink "StreamTowerModel" 69 "StreamTowerModel" "fed" "I") := ⟨List.mem_append_right _ (List.mem_of_getElem? (i := 716) rfl), rfl⟩
set_option maxRecDepth 10000 in
theorem wd_717 : ex_W (.fieldLink "StreamTowerModel" 72 "StreamTowerModel" "taken" "I") := ⟨List.mem_append_right _ (List.mem_of_getElem? (i := 717) rfl), rfl⟩
set_option maxRecDepth 10000 in
theorem wd_718 : ex_W (.fieldLink "StreamTowerModel" 79 "StreamTowerModel" "layers" "I") := ⟨List.mem_append_right _ (List.mem_of_getElem? (i := 718) rfl), rfl⟩
set_option maxRecDepth 10000 in
theorem wd_719 : ex_W (.fieldLink "StreamTowerModel" 20 "StreamTowerModel" "kind" "[I") := ⟨List.mem_append_right _ (List.mem_of_getElem? (i := 719) rfl), rfl⟩
set_option maxRecDepth 10000 in
theorem wd_720 : ex_W (.fieldLink "StreamTowerModel" 23 "StreamTowerModel" "sizes" "[I") := ⟨List.mem_append_right _ (List.mem_of_getElem? (i := 720) rfl), rfl⟩
set_option maxRecDepth 10000 in
theorem wd_721 : ex_W (.fieldLink "StreamTowerModel" 26 "StreamTowerModel" "state" "[I") := ⟨List.mem_append_right _ (List.mem_of_getElem? (i := 721) rfl), rfl⟩
set_option maxRecDepth 10000 in
theorem wd_722 : ex_W (.fieldLink "StreamTowerModel" 29 "StreamTowerModel" "remembered" "[I") := ⟨List.mem_append_right _ (List.mem_of_getElem? (i := 722) rfl), rfl⟩
set_option maxRecDepth 10000 in
theorem wd_723 : ex_W (.fieldLink "StreamTowerModel" 32 "StreamTowerModel" "cr" "[Z") := ⟨List.mem_append_right _ (List.mem_of_getElem? (i := 723) rfl), rfl⟩
set_option maxRecDepth 10000 in
theorem wd_724 : ex_W (.fieldLink "StreamTowerModel" 35 "StreamTowerModel" "crRemembered" "[Z") := ⟨List.mem_append_right _ (List.mem_of_getElem? (i := 724) rfl), rfl⟩
set_option maxRecDepth 10000 in
theorem wd_725 : ex_W (.fieldLink "StreamTowerModel" 38 "StreamTowerModel" "bytes" "[I") := ⟨List.mem_append_right _ (List.mem_of_getElem? (i := 725) rfl), rfl⟩
set_option maxRecDepth 10000 in
theorem wd_726 : ex_W (.fieldLink "StreamTowerModel" 41 "StreamTowerModel" "have" "[I") := ⟨List.mem_append_right _ (List.mem_of_getElem? (i := 726) rfl), rfl⟩
set_option maxRecDepth 10000 in
theorem wd_727 : ex_W (.fieldLink "StreamTowerModel" 44 "StreamTowerModel" "given" "[I") := ⟨List.mem_append_right _ (List.mem_of_getElem? (i := 727) rfl), rfl⟩
set_option maxRecDepth 10000 in
theorem wd_728 : ex_W (.fieldLink "StreamTowerModel" 47 "StreamTowerModel" "marked" "[Z") := ⟨List.mem_append_right _ (List.mem_of_getElem? (i := 728) rfl), rfl⟩
set_option maxRecDepth 10000 in
theorem wd_729 : ex_W (.fieldLink "StreamTowerModel" 50 "StreamTowerModel" "limit" "[I") := ⟨List.mem_append_right _ (List.mem_of_getElem? (i := 729) rfl), rfl⟩
set_option maxRecDepth 10000 in
theorem wd_730 : ex_W (.fieldLink "StreamTowerModel" 53 "StreamTowerModel" "asked" "[I") := ⟨List.mem_append_right _ (List.mem_of_getElem? (i := 730) rfl), rfl⟩
set_option maxRecDepth 10000 in
theorem wd_731 : ex_W (.fieldLink "StreamTowerModel" 56 "StreamTowerModel" "answer" "[I") := ⟨List.mem_append_right _ (List.mem_of_getElem? (i := 731) rfl), rfl⟩
set_option maxRecDepth 10000 in
theorem wd_732 : ex_W (.fieldLink "StreamTowerModel" 86 "StreamTowerModel" "count" "I") := ⟨List.mem_append_right _ (List.mem_of_getElem? (i := 732) rfl), rfl⟩
set_option maxRecDepth 10000 in
theorem wd_733 : ex_W (.fieldLink "StreamTowerModel" 75 "StreamTowerModel" "closed" "Z") := ⟨List.mem_append_right _ (List.mem_of_getElem? (i := 733) rfl), rfl⟩
set_option maxRecDepth 10000 in
theorem wd_734 : ex_W (.fieldLink "StreamTowerModel" 120 "StreamTowerModel" "leaves" "Z") := ⟨List.mem_append_right _ (List.mem_of_getElem? (i := 734) rfl), rfl⟩
set_option maxRecDepth 10000 in
theorem wd_735 : ex_W (.fieldLink "StreamTowerModel" 151 "StreamTowerModel" "leavesMarked" "Z") := ⟨List.mem_append_right _ (List.mem_of_getElem? (i := 735) rfl), rfl⟩
set_option maxRecDepth 10000 in
theorem wd_736 : ex_W (.fieldLink "StreamTowerModel" 59 "StreamTowerModel" "bag" "[I") := ⟨List.mem_append_right _ (List.mem_of_getElem? (i := 736) rfl), rfl⟩
set_option maxRecDepth 10000 in
theorem wd_737 : ex_W (.fieldLink "StreamTowerModel" 123 "StreamTowerModel" "bagged" "I") := ⟨List.mem_append_right _ (List.mem_of_getElem? (i := 737) rfl), rfl⟩
set_option maxRecDepth 10000 in
theorem wd_738 : ex_W (.fieldLink "StreamTowerModel" 62 "StreamTowerModel" "letters" "[I") := ⟨List.mem_append_right _ (List.mem_of_getElem? (i := 738) rfl), rfl⟩
set_option maxRecDepth 10000 in
theorem wd_739 : ex_W (.fieldLink "StreamTowerModel" 141 "StreamTowerModel" "lettered" "I") := ⟨List.mem_append_right _ (List.mem_of_getElem? (i := 739) rfl), rfl⟩
set_option maxRecDepth 10000 in
theorem wd_740 : ex_W (.lays "StreamTowerModel" "StreamTowerModel" "code" "I") := ⟨List.mem_append_right _ (List.mem_of_getElem? (i := 740) rfl), rfl⟩
set_option maxRecDepth 10000 in
theorem wd_741 : ex_W (.soleField "StreamTowerModel" "code") := ⟨List.mem_append_right _ (List.mem_of_getElem? (i := 741) rfl), rfl⟩
set_option maxRecDepth 10000 in
theorem wd_742 : ex_W (.laysFinal "StreamTowerModel" "StreamTowerModel" "source" "[I") := ⟨List.mem_append_right _ (List.mem_of_getElem? (i := 742) rfl), rfl⟩
set_option maxRecDepth 10000 in
theorem wd_743 : ex_W (.soleField "StreamTowerModel" "source") := ⟨List.mem_append_right _ (List.mem_of_getElem? (i := 743) rfl), rfl⟩
set_option maxRecDepth 10000 in
theorem wd_744 : ex_W (.laysFinal "StreamTowerModel" "StreamTowerModel" "begins" "[Z") := ⟨List.mem_append_right _ (List.mem_of_getElem? (i := 744) rfl), rfl⟩
set_option maxRecDepth 10000 in
theorem wd_745 : ex_W (.soleField "StreamTowerModel" "begins") := ⟨List.mem_append_right _ (List.mem_of_getElem? (i := 745) rfl), rfl⟩
set_option maxRecDepth 10000 in
theorem wd_746 : ex_W (.laysFinal "StreamTowerModel" "StreamTowerModel" "broken" "[Z") := ⟨List.mem_append_right _ (List.mem_of_getElem? (i := 746) rfl), rfl⟩
set_option maxRecDepth 10000 in
theorem wd_747 : ex_W (.soleField "StreamTowerModel" "broken") := ⟨List.mem_append_right _ (List.mem_of_getElem? (i := 747) rfl), rfl⟩
set_option maxRecDepth 10000 in
theorem wd_748 : ex_W (.lays "StreamTowerModel" "StreamTowerModel" "fed" "I") := ⟨List.mem_append_right _ (List.mem_of_getElem? (i := 748) rfl), rfl⟩
set_option maxRecDepth 10000 in
theorem wd_749 : ex_W (.soleField "StreamTowerModel" "fed") := ⟨List.mem_append_right _ (List.mem_of_getElem? (i := 749) rfl), rfl⟩
set_option maxRecDepth 10000 in
theorem wd_750 : ex_W (.lays "StreamTowerModel" "StreamTowerModel" "taken" "I") := ⟨List.mem_append_right _ (List.mem_of_getElem? (i := 750) rfl), rfl⟩
set_option maxRecDepth 10000 in
theorem wd_751 : ex_W (.soleField "StreamTowerModel" "taken") := ⟨List.mem_append_right _ (List.mem_of_getElem? (i := 751) rfl), rfl⟩
set_option maxRecDepth 10000 in
theorem wd_752 : ex_W (.lays "StreamTowerModel" "StreamTowerModel" "layers" "I") := ⟨List.mem_append_right _ (List.mem_of_getElem? (i := 752) rfl), rfl⟩
set_option maxRecDepth 10000 in
theorem wd_753 : ex_W (.soleField "StreamTowerModel" "layers") := ⟨List.mem_append_right _ (List.mem_of_getElem? (i := 753) rfl), rfl⟩
set_option maxRecDepth 10000 in
theorem wd_754 : ex_W (.laysFinal "StreamTowerModel" "StreamTowerModel" "kind" "[I") := ⟨List.mem_append_right _ (List.mem_of_getElem? (i := 754) rfl), rfl⟩
set_option maxRecDepth 10000 in
theorem wd_755 : ex_W (.soleField "StreamTowerModel" "kind") := ⟨List.mem_append_right _ (List.mem_of_getElem? (i := 755) rfl), rfl⟩
set_option maxRecDepth 10000 in
theorem wd_756 : ex_W (.laysFinal "StreamTowerModel" "StreamTowerModel" "sizes" "[I") := ⟨List.mem_append_right _ (List.mem_of_getElem? (i := 756) rfl), rfl⟩
set_option maxRecDepth 10000 in
theorem wd_757 : ex_W (.soleField "StreamTowerModel" "sizes") := ⟨List.mem_append_right _ (List.mem_of_getElem? (i := 757) rfl), rfl⟩
set_option maxRecDepth 10000 in
theorem wd_758 : ex_W (.laysFinal "StreamTowerModel" "StreamTowerModel" "state" "[I") := ⟨List.mem_append_right _ (List.mem_of_getElem? (i := 758) rfl), rfl⟩
set_option maxRecDepth 10000 in
theorem wd_759 : ex_W (.soleField "StreamTowerModel" "state") := ⟨List.mem_append_right _ (List.mem_of_getElem? (i := 759) rfl), rfl⟩
set_option maxRecDepth 10000 in
theorem wd_760 : ex_W (.laysFinal "StreamTowerModel" "StreamTowerModel" "remembered" "[I") := ⟨List.mem_append_right _ (List.mem_of_getElem? (i := 760) rfl), rfl⟩
set_option maxRecDepth 10000 in
theorem wd_761 : ex_W (.soleField "StreamTowerModel" "remembered") := ⟨List.mem_append_right _ (List.mem_of_getElem? (i := 761) rfl), rfl⟩
set_option maxRecDepth 10000 in
theorem wd_762 : ex_W (.laysFinal "StreamTowerModel" "StreamTowerModel" "cr" "[Z") := ⟨List.mem_append_right _ (List.mem_of_getElem? (i := 762) rfl), rfl⟩
set_option maxRecDepth 10000 in
theorem wd_763 : ex_W (.soleField "StreamTowerModel" "cr") := ⟨List.mem_append_right _ (List.mem_of_getElem? (i := 763) rfl), rfl⟩
set_option maxRecDepth 10000 in
theorem wd_764 : ex_W (.laysFinal "StreamTowerModel" "StreamTowerModel" "crRemembered" "[Z") := ⟨List.mem_append_right _ (List.mem_of_getElem? (i := 764) rfl), rfl⟩
set_option maxRecDepth 10000 in
theorem wd_765 : ex_W (.soleField "StreamTowerModel" "crRemembered") := ⟨List.mem_append_right _ (List.mem_of_getElem? (i := 765) rfl), rfl⟩
set_option maxRecDepth 10000 in
theorem wd_766 : ex_W (.laysFinal "StreamTowerModel" "StreamTowerModel" "bytes" "[I") := ⟨List.mem_append_right _ (List.mem_of_getElem? (i := 766) rfl), rfl⟩
set_option maxRecDepth 10000 in
theorem wd_767 : ex_W (.soleField "StreamTowerModel" "bytes") := ⟨List.mem_append_right _ (List.mem_of_getElem? (i := 767) rfl), rfl⟩
set_option maxRecDepth 10000 in
theorem wd_768 : ex_W (.laysFinal "StreamTowerModel" "StreamTowerModel" "have" "[I") := ⟨List.mem_append_right _ (List.mem_of_getElem? (i := 768) rfl), rfl⟩
set_option maxRecDepth 10000 in
theorem wd_769 : ex_W (.soleField "StreamTowerModel" "have") := ⟨List.mem_append_right _ (List.mem_of_getElem? (i := 769) rfl), rfl⟩
set_option maxRecDepth 10000 in
theorem wd_770 : ex_W (.laysFinal "StreamTowerModel" "StreamTowerModel" "given" "[I") := ⟨List.mem_append_right _ (List.mem_of_getElem? (i := 770) rfl), rfl⟩
set_option maxRecDepth 10000 in
theorem wd_771 : ex_W (.soleField "StreamTowerModel" "given") := ⟨List.mem_append_right _ (List.mem_of_getElem? (i := 771) rfl), rfl⟩
set_option maxRecDepth 10000 in
theorem wd_772 : ex_W (.laysFinal "StreamTowerModel" "StreamTowerModel" "marked" "[Z") := ⟨List.mem_append_right _ (List.mem_of_getElem? (i := 772) rfl), rfl⟩
set_option maxRecDepth 10000 in
theorem wd_773 : ex_W (.soleField "StreamTowerModel" "marked") := ⟨List.mem_append_right _ (List.mem_of_getElem? (i := 773) rfl), rfl⟩
set_option maxRecDepth 10000 in
theorem wd_774 : ex_W (.laysFinal "StreamTowerModel" "StreamTowerModel" "limit" "[I") := ⟨List.mem_append_right _ (List.mem_of_getElem? (i := 774) rfl), rfl⟩
set_option maxRecDepth 10000 in
theorem wd_775 : ex_W (.soleField "StreamTowerModel" "limit") := ⟨List.mem_append_right _ (List.mem_of_getElem? (i := 775) rfl), rfl⟩
set_option maxRecDepth 10000 in
theorem wd_776 : ex_W (.laysFinal "StreamTowerModel" "StreamTowerModel" "asked" "[I") := ⟨List.mem_append_right _ (List.mem_of_getElem? (i := 776) rfl), rfl⟩
set_option maxRecDepth 10000 in
theorem wd_777 : ex_W (.soleField "StreamTowerModel" "asked") := ⟨List.mem_append_right _ (List.mem_of_getElem? (i := 777) rfl), rfl⟩
set_option maxRecDepth 10000 in
theorem wd_778 : ex_W (.laysFinal "StreamTowerModel" "StreamTowerModel" "answer" "[I") := ⟨List.mem_append_right _ (List.mem_of_getElem? (i := 778) rfl), rfl⟩
set_option maxRecDepth 10000 in
theorem wd_779 : ex_W (.soleField "StreamTowerModel" "answer") := ⟨List.mem_append_right _ (List.mem_of_getElem? (i := 779) rfl), rfl⟩
set_option maxRecDepth 10000 in
theorem wd_780 : ex_W (.lays "StreamTowerModel" "StreamTowerModel" "count" "I") := ⟨List.mem_append_right _ (List.mem_of_getElem? (i := 780) rfl), rfl⟩
set_option maxRecDepth 10000 in
theorem wd_781 : ex_W (.soleField "StreamTowerModel" "count") := ⟨List.mem_append_right _ (List.mem_of_getElem? (i := 781) rfl), rfl⟩
set_option maxRecDepth 10000 in
theorem wd_782 : ex_W (.lays "StreamTowerModel" "StreamTowerModel" "closed" "Z") := ⟨List.mem_append_right _ (List.mem_of_getElem? (i := 782) rfl), rfl⟩
set_option maxRecDepth 10000 in
theorem wd_783 : ex_W (.soleField "StreamTowerModel" "closed") := ⟨List.mem_append_right _ (List.mem_of_getElem? (i := 783) rfl), rfl⟩
set_option maxRecDepth 10000 in
theorem wd_784 : ex_W (.lays "StreamTowerModel" "StreamTowerModel" "leaves" "Z") := ⟨List.mem_append_right _ (List.mem_of_getElem? (i := 784) rfl), rfl⟩
set_option maxRecDepth 10000 in
theorem wd_785 : ex_W (.soleField "StreamTowerModel" "leaves") := ⟨List.mem_append_right _ (List.mem_of_getElem? (i := 785) rfl), rfl⟩
set_option maxRecDepth 10000 in
theorem wd_786 : ex_W (.lays "StreamTowerModel" "StreamTowerModel" "leavesMarked" "Z") := ⟨List.mem_append_right _ (List.mem_of_getElem? (i := 786) rfl), rfl⟩
set_option maxRecDepth 10000 in
theorem wd_787 : ex_W (.soleField "StreamTowerModel" "leavesMarked") := ⟨List.mem_append_right _ (List.mem_of_getElem? (i := 787) rfl), rfl⟩
set_option maxRecDepth 10000 in
theorem wd_788 : ex_W (.laysFinal "StreamTowerModel" "StreamTowerModel" "bag" "[I") := ⟨List.mem_append_right _ (List.mem_of_getElem? (i := 788) rfl), rfl⟩
set_option maxRecDepth 10000 in
theorem wd_789 : ex_W (.soleField "StreamTowerModel" "bag") := ⟨List.mem_append_right _ (List.mem_of_getElem? (i := 789) rfl), rfl⟩
set_option maxRecDepth 10000 in
theorem wd_790 : ex_W (.lays "StreamTowerModel" "StreamTowerModel" "bagged" "I") := ⟨List.mem_append_right _ (List.mem_of_getElem? (i := 790) rfl), rfl⟩
set_option maxRecDepth 10000 in
theorem wd_791 : ex_W (.soleField "StreamTowerModel" "bagged") := ⟨List.mem_append_right _ (List.mem_of_getElem? (i := 791) rfl), rfl⟩
set_option maxRecDepth 10000 in
theorem wd_792 : ex_W (.laysFinal "StreamTowerModel" "StreamTowerModel" "letters" "[I") := ⟨List.mem_append_right _ (List.mem_of_getElem? (i := 792) rfl), rfl⟩
set_option maxRecDepth 10000 in
theorem wd_793 : ex_W (.soleField "StreamTowerModel" "letters") := ⟨List.mem_append_right _ (List.mem_of_getElem? (i := 793) rfl), rfl⟩
set_option maxRecDepth 10000 in
theorem wd_794 : ex_W (.lays "StreamTowerModel" "StreamTowerModel" "lettered" "I") := ⟨List.mem_append_right _ (List.mem_of_getElem? (i := 794) rfl), rfl⟩
set_option maxRecDepth 10000 in
theorem wd_795 : ex_W (.soleField "StreamTowerModel" "lettered") := ⟨List.mem_append_right _ (List.mem_of_getElem? (i := 795) rfl), rfl⟩
set_option maxRecDepth 10000 in
theorem wd_796 : ex_W (.superclass "StreamTowerModel" "java/lang/Object") := ⟨List.mem_append_right _ (List.mem_of_getElem? (i := 796) rfl), rfl⟩
set_option maxRecDepth 10000 in
theorem wd_797 : ex_W (.methodLink "StreamTowerLaw" 68 ⟨"StreamTowerModel", "thrown", "()I"⟩) := ⟨List.mem_append_right _ (List.mem_of_getElem? (i := 797) rfl), rfl⟩
set_option maxRecDepth 10000 in
theorem wd_798 : ex_W (.instanceMethod ⟨"StreamTowerModel", "thrown", "()I"⟩) := ⟨List.mem_append_right _ (List.mem_of_getElem? (i := 798) rfl), rfl⟩
set_option maxRecDepth 10000 in
theorem wd_799 : ex_W (.selects "StreamTowerModel" ⟨"StreamTowerModel", "thrown", "()I"⟩ ⟨"StreamTowerModel", "thrown", "()I"⟩) := ⟨List.mem_append_right _ (List.mem_of_getElem? (i := 799) rfl), rfl⟩
set_option maxRecDepth 10000 in
theorem wd_800 : ex_W (.code ⟨"StreamTowerModel", "thrown", "()I"⟩ prog_12_method_2_code 1 (some FieldType.int)) := ⟨List.mem_append_right _ (List.mem_of_getElem? (i := 800) rfl), rfl⟩
set_option maxRecDepth 10000 in
theorem wd_801 : ex_W (.methodLink "StreamTowerLaw" 67 ⟨"StreamTowerModel", "feed", "(II)I"⟩) := ⟨List.mem_append_right _ (List.mem_of_getElem? (i := 801) rfl), rfl⟩
set_option maxRecDepth 10000 in
theorem wd_802 : ex_W (.instanceMethod ⟨"StreamTowerModel", "feed", "(II)I"⟩) := ⟨List.mem_append_right _ (List.mem_of_getElem? (i := 802) rfl), rfl⟩
set_option maxRecDepth 10000 in
theorem wd_803 : ex_W (.selects "StreamTowerModel" ⟨"StreamTowerModel", "feed", "(II)I"⟩ ⟨"StreamTowerModel", "feed", "(II)I"⟩) := ⟨List.mem_append_right _ (List.mem_of_getElem? (i := 803) rfl), rfl⟩
set_option maxRecDepth 10000 in
theorem wd_804 : ex_W (.code ⟨"StreamTowerModel", "feed", "(II)I"⟩ prog_12_method_3_code 4 (some FieldType.int)) := ⟨List.mem_append_right _ (List.mem_of_getElem? (i := 804) rfl), rfl⟩
set_option maxRecDepth 10000 in
theorem wd_805 : ex_W (.methodLink "StreamTowerLaw" 74 ⟨"StreamTowerModel", "portion", "()V"⟩) := ⟨List.mem_append_right _ (List.mem_of_getElem? (i := 805) rfl), rfl⟩
set_option maxRecDepth 10000 in
theorem wd_806 : ex_W (.instanceMethod ⟨"StreamTowerModel", "portion", "()V"⟩) := ⟨List.mem_append_right _ (List.mem_of_getElem? (i := 806) rfl), rfl⟩
set_option maxRecDepth 10000 in
theorem wd_807 : ex_W (.selects "StreamTowerModel" ⟨"StreamTowerModel", "portion", "()V"⟩ ⟨"StreamTowerModel", "portion", "()V"⟩) := ⟨List.mem_append_right _ (List.mem_of_getElem? (i := 807) rfl), rfl⟩
set_option maxRecDepth 10000 in
theorem wd_808 : ex_W (.code ⟨"StreamTowerModel", "portion", "()V"⟩ prog_12_method_4_code 1 none) := ⟨List.mem_append_right _ (List.mem_of_getElem? (i := 808) rfl), rfl⟩
set_option maxRecDepth 10000 in
theorem wd_809 : ex_W (.methodLink "StreamTowerLaw" 79 ⟨"StreamTowerModel", "breakAt", "(I)Z"⟩) := ⟨List.mem_append_right _ (List.mem_of_getElem? (i := 809) rfl), rfl⟩
set_option maxRecDepth 10000 in
theorem wd_810 : ex_W (.instanceMethod ⟨"StreamTowerModel", "breakAt", "(I)Z"⟩) := ⟨List.mem_append_right _ (List.mem_of_getElem? (i := 810) rfl), rfl⟩
set_option maxRecDepth 10000 in
theorem wd_811 : ex_W (.selects "StreamTowerModel" ⟨"StreamTowerModel", "breakAt", "(I)Z"⟩ ⟨"StreamTowerModel", "breakAt", "(I)Z"⟩) := ⟨List.mem_append_right _ (List.mem_of_getElem? (i := 811) rfl), rfl⟩
set_option maxRecDepth 10000 in
theorem wd_812 : ex_W (.code ⟨"StreamTowerModel", "breakAt", "(I)Z"⟩ prog_12_method_5_code 3 (some FieldType.boolean)) := ⟨List.mem_append_right _ (List.mem_of_getElem? (i := 812) rfl), rfl⟩
set_option maxRecDepth 10000 in
theorem wd_813 : ex_W (.methodLink "StreamTowerLaw" 82 ⟨"StreamTowerModel", "push", "(II)I"⟩) := ⟨List.mem_append_right _ (List.mem_of_getElem? (i := 813) rfl), rfl⟩
set_option maxRecDepth 10000 in
theorem wd_814 : ex_W (.instanceMethod ⟨"StreamTowerModel", "push", "(II)I"⟩) := ⟨List.mem_append_right _ (List.mem_of_getElem? (i := 814) rfl), rfl⟩
set_option maxRecDepth 10000 in
theorem wd_815 : ex_W (.selects "StreamTowerModel" ⟨"StreamTowerModel", "push", "(II)I"⟩ ⟨"StreamTowerModel", "push", "(II)I"⟩) := ⟨List.mem_append_right _ (List.mem_of_getElem? (i := 815) rfl), rfl⟩
set_option maxRecDepth 10000 in
theorem wd_816 : ex_W (.code ⟨"StreamTowerModel", "push", "(II)I"⟩ prog_12_method_7_code 7 (some FieldType.int)) := ⟨List.mem_append_right _ (List.mem_of_getElem? (i := 816) rfl), rfl⟩
set_option maxRecDepth 10000 in
theorem wd_817 : ex_W (.methodLink "StreamTowerLaw" 86 ⟨"StreamTowerModel", "read", "()I"⟩) := ⟨List.mem_append_right _ (List.mem_of_getElem? (i := 817) rfl), rfl⟩
set_option maxRecDepth 10000 in
theorem wd_818 : ex_W (.instanceMethod ⟨"StreamTowerModel", "read", "()I"⟩) := ⟨List.mem_append_right _ (List.mem_of_getElem? (i := 818) rfl), rfl⟩
set_option maxRecDepth 10000 in
theorem wd_819 : ex_W (.selects "StreamTowerModel" ⟨"StreamTowerModel", "read", "()I"⟩ ⟨"StreamTowerModel", "read", "()I"⟩) := ⟨List.mem_append_right _ (List.mem_of_getElem? (i := 819) rfl), rfl⟩
set_option maxRecDepth 10000 in
theorem wd_820 : ex_W (.code ⟨"StreamTowerModel", "read", "()I"⟩ prog_12_method_19_code 1 (some FieldType.int)) := ⟨List.mem_append_right _ (List.mem_of_getElem? (i := 820) rfl), rfl⟩
set_option maxRecDepth 10000 in
theorem wd_821 : ex_W (.methodLink "StreamTowerModel" 126 ⟨"StreamTowerModel", "reads", "(I)Z"⟩) := ⟨List.mem_append_right _ (List.mem_of_getElem? (i := 821) rfl), rfl⟩
set_option maxRecDepth 10000 in
theorem wd_823 : ex_W (.instanceMethod ⟨"StreamTowerModel", "reads", "(I)Z"⟩) := ⟨List.mem_append_right _ (List.mem_of_getElem? (i := 823) rfl), rfl⟩
set_option maxRecDepth 10000 in
theorem wd_824 : ex_W (.code ⟨"StreamTowerModel", "reads", "(I)Z"⟩ prog_12_method_17_code 3 (some FieldType.boolean)) := ⟨List.mem_append_right _ (List.mem_of_getElem? (i := 824) rfl), rfl⟩
set_option maxRecDepth 10000 in
theorem wd_825 : ex_W (.methodLink "StreamTowerModel" 117 ⟨"StreamTowerModel", "request", "(I)Z"⟩) := ⟨List.mem_append_right _ (List.mem_of_getElem? (i := 825) rfl), rfl⟩
set_option maxRecDepth 10000 in
theorem wd_827 : ex_W (.instanceMethod ⟨"StreamTowerModel", "request", "(I)Z"⟩) := ⟨List.mem_append_right _ (List.mem_of_getElem? (i := 827) rfl), rfl⟩
set_option maxRecDepth 10000 in
theorem wd_828 : ex_W (.code ⟨"StreamTowerModel", "request", "(I)Z"⟩ prog_12_method_16_code 7 (some FieldType.boolean)) := ⟨List.mem_append_right _ (List.mem_of_getElem? (i := 828) rfl), rfl⟩
set_option maxRecDepth 10000 in
theorem wd_829 : ex_W (.methodLink "StreamTowerModel" 104 ⟨"StreamTowerModel", "answers", "(I)Z"⟩) := ⟨List.mem_append_right _ (List.mem_of_getElem? (i := 829) rfl), rfl⟩
set_option maxRecDepth 10000 in
theorem wd_831 : ex_W (.instanceMethod ⟨"StreamTowerModel", "answers", "(I)Z"⟩) := ⟨List.mem_append_right _ (List.mem_of_getElem? (i := 831) rfl), rfl⟩
set_option maxRecDepth 10000 in
theorem wd_832 : ex_W (.code ⟨"StreamTowerModel", "answers", "(I)Z"⟩ prog_12_method_11_code 3 (some FieldType.boolean)) := ⟨List.mem_append_right _ (List.mem_of_getElem? (i := 832) rfl), rfl⟩
set_option maxRecDepth 10000 in
theorem wd_833 : ex_W (.methodLink "StreamTowerModel" 82 ⟨"StreamTowerModel", "toGive", "(I)I"⟩) := ⟨List.mem_append_right _ (List.mem_of_getElem? (i := 833) rfl), rfl⟩
set_option maxRecDepth 10000 in
theorem wd_835 : ex_W (.instanceMethod ⟨"StreamTowerModel", "toGive", "(I)I"⟩) := ⟨List.mem_append_right _ (List.mem_of_getElem? (i := 835) rfl), rfl⟩
set_option maxRecDepth 10000 in
theorem wd_836 : ex_W (.code ⟨"StreamTowerModel", "toGive", "(I)I"⟩ prog_12_method_8_code 2 (some FieldType.int)) := ⟨List.mem_append_right _ (List.mem_of_getElem? (i := 836) rfl), rfl⟩
set_option maxRecDepth 10000 in
theorem wd_837 : ex_W (.methodLink "StreamTowerModel" 93 ⟨"StreamTowerModel", "give", "(II)V"⟩) := ⟨List.mem_append_right _ (List.mem_of_getElem? (i := 837) rfl), rfl⟩
set_option maxRecDepth 10000 in
theorem wd_839 : ex_W (.instanceMethod ⟨"StreamTowerModel", "give", "(II)V"⟩) := ⟨List.mem_append_right _ (List.mem_of_getElem? (i := 839) rfl), rfl⟩
set_option maxRecDepth 10000 in
theorem wd_840 : ex_W (.code ⟨"StreamTowerModel", "give", "(II)V"⟩ prog_12_method_10_code 4 none) := ⟨List.mem_append_right _ (List.mem_of_getElem? (i := 840) rfl), rfl⟩
set_option maxRecDepth 10000 in
theorem wd_841 : ex_W (.methodLink "StreamTowerModel" 89 ⟨"StreamTowerModel", "forget", "(II)V"⟩) := ⟨List.mem_append_right _ (List.mem_of_getElem? (i := 841) rfl), rfl⟩
set_option maxRecDepth 10000 in
theorem wd_843 : ex_W (.instanceMethod ⟨"StreamTowerModel", "forget", "(II)V"⟩) := ⟨List.mem_append_right _ (List.mem_of_getElem? (i := 843) rfl), rfl⟩
set_option maxRecDepth 10000 in
theorem wd_844 : ex_W (.code ⟨"StreamTowerModel", "forget", "(II)V"⟩ prog_12_method_9_code 4 none) := ⟨List.mem_append_right _ (List.mem_of_getElem? (i := 844) rfl), rfl⟩
set_option maxRecDepth 10000 in
theorem wd_845 : ex_W (.methodLink "StreamTowerModel" 107 ⟨"StreamTowerModel", "below", "(I)I"⟩) := ⟨List.mem_append_right _ (List.mem_of_getElem? (i := 845) rfl), rfl⟩
set_option maxRecDepth 10000 in
theorem wd_847 : ex_W (.instanceMethod ⟨"StreamTowerModel", "below", "(I)I"⟩) := ⟨List.mem_append_right _ (List.mem_of_getElem? (i := 847) rfl), rfl⟩
set_option maxRecDepth 10000 in
theorem wd_848 : ex_W (.code ⟨"StreamTowerModel", "below", "(I)I"⟩ prog_12_method_13_code 3 (some FieldType.int)) := ⟨List.mem_append_right _ (List.mem_of_getElem? (i := 848) rfl), rfl⟩
set_option maxRecDepth 10000 in
theorem wd_849 : ex_W (.methodLink "StreamTowerModel" 96 ⟨"StreamTowerModel", "through", "(I)Z"⟩) := ⟨List.mem_append_right _ (List.mem_of_getElem? (i := 849) rfl), rfl⟩
set_option maxRecDepth 10000 in
theorem wd_851 : ex_W (.instanceMethod ⟨"StreamTowerModel", "through", "(I)Z"⟩) := ⟨List.mem_append_right _ (List.mem_of_getElem? (i := 851) rfl), rfl⟩
set_option maxRecDepth 10000 in
theorem wd_852 : ex_W (.code ⟨"StreamTowerModel", "through", "(I)Z"⟩ prog_12_method_12_code 2 (some FieldType.boolean)) := ⟨List.mem_append_right _ (List.mem_of_getElem? (i := 852) rfl), rfl⟩
set_option maxRecDepth 10000 in
theorem wd_853 : ex_W (.methodLink "StreamTowerModel" 110 ⟨"StreamTowerModel", "portionLeft", "()I"⟩) := ⟨List.mem_append_right _ (List.mem_of_getElem? (i := 853) rfl), rfl⟩
set_option maxRecDepth 10000 in
theorem wd_855 : ex_W (.instanceMethod ⟨"StreamTowerModel", "portionLeft", "()I"⟩) := ⟨List.mem_append_right _ (List.mem_of_getElem? (i := 855) rfl), rfl⟩
set_option maxRecDepth 10000 in
theorem wd_856 : ex_W (.code ⟨"StreamTowerModel", "portionLeft", "()I"⟩ prog_12_method_6_code 2 (some FieldType.int)) := ⟨List.mem_append_right _ (List.mem_of_getElem? (i := 856) rfl), rfl⟩
set_option maxRecDepth 10000 in
theorem wd_857 : ex_W (.methodLink "StreamTowerModel" 114 ⟨"StreamTowerModel", "pass", "(I)V"⟩) := ⟨List.mem_append_right _ (List.mem_of_getElem? (i := 857) rfl), rfl⟩
set_option maxRecDepth 10000 in
theorem wd_859 : ex_W (.instanceMethod ⟨"StreamTowerModel", "pass", "(I)V"⟩) := ⟨List.mem_append_right _ (List.mem_of_getElem? (i := 859) rfl), rfl⟩
set_option maxRecDepth 10000 in
theorem wd_860 : ex_W (.code ⟨"StreamTowerModel", "pass", "(I)V"⟩ prog_12_method_15_code 3 none) := ⟨List.mem_append_right _ (List.mem_of_getElem? (i := 860) rfl), rfl⟩
set_option maxRecDepth 10000 in
theorem wd_861 : ex_W (.methodLink "StreamTowerModel" 100 ⟨"StreamTowerModel", "countLines", "(I)V"⟩) := ⟨List.mem_append_right _ (List.mem_of_getElem? (i := 861) rfl), rfl⟩
set_option maxRecDepth 10000 in
theorem wd_863 : ex_W (.instanceMethod ⟨"StreamTowerModel", "countLines", "(I)V"⟩) := ⟨List.mem_append_right _ (List.mem_of_getElem? (i := 863) rfl), rfl⟩
set_option maxRecDepth 10000 in
theorem wd_864 : ex_W (.code ⟨"StreamTowerModel", "countLines", "(I)V"⟩ prog_12_method_14_code 4 none) := ⟨List.mem_append_right _ (List.mem_of_getElem? (i := 864) rfl), rfl⟩
set_option maxRecDepth 10000 in
theorem wd_865 : ex_W (.methodLink "StreamTowerModel" 129 ⟨"StreamTowerModel", "putBag", "()V"⟩) := ⟨List.mem_append_right _ (List.mem_of_getElem? (i := 865) rfl), rfl⟩
set_option maxRecDepth 10000 in
theorem wd_867 : ex_W (.instanceMethod ⟨"StreamTowerModel", "putBag", "()V"⟩) := ⟨List.mem_append_right _ (List.mem_of_getElem? (i := 867) rfl), rfl⟩
set_option maxRecDepth 10000 in
theorem wd_868 : ex_W (.code ⟨"StreamTowerModel", "putBag", "()V"⟩ prog_12_method_18_code 2 none) := ⟨List.mem_append_right _ (List.mem_of_getElem? (i := 868) rfl), rfl⟩
set_option maxRecDepth 10000 in
theorem wd_869 : ex_W (.methodLink "StreamTowerLaw" 90 ⟨"StreamTowerModel", "some", "(I)I"⟩) := ⟨List.mem_append_right _ (List.mem_of_getElem? (i := 869) rfl), rfl⟩
set_option maxRecDepth 10000 in
theorem wd_870 : ex_W (.instanceMethod ⟨"StreamTowerModel", "some", "(I)I"⟩) := ⟨List.mem_append_right _ (List.mem_of_getElem? (i := 870) rfl), rfl⟩
set_option maxRecDepth 10000 in
theorem wd_871 : ex_W (.selects "StreamTowerModel" ⟨"StreamTowerModel", "some", "(I)I"⟩ ⟨"StreamTowerModel", "some", "(I)I"⟩) := ⟨List.mem_append_right _ (List.mem_of_getElem? (i := 871) rfl), rfl⟩
set_option maxRecDepth 10000 in
theorem wd_872 : ex_W (.code ⟨"StreamTowerModel", "some", "(I)I"⟩ prog_12_method_20_code 2 (some FieldType.int)) := ⟨List.mem_append_right _ (List.mem_of_getElem? (i := 872) rfl), rfl⟩
set_option maxRecDepth 10000 in
theorem wd_873 : ex_W (.methodLink "StreamTowerLaw" 94 ⟨"StreamTowerModel", "full", "(I)V"⟩) := ⟨List.mem_append_right _ (List.mem_of_getElem? (i := 873) rfl), rfl⟩
set_option maxRecDepth 10000 in
theorem wd_874 : ex_W (.instanceMethod ⟨"StreamTowerModel", "full", "(I)V"⟩) := ⟨List.mem_append_right _ (List.mem_of_getElem? (i := 874) rfl), rfl⟩
set_option maxRecDepth 10000 in
theorem wd_875 : ex_W (.selects "StreamTowerModel" ⟨"StreamTowerModel", "full", "(I)V"⟩ ⟨"StreamTowerModel", "full", "(I)V"⟩) := ⟨List.mem_append_right _ (List.mem_of_getElem? (i := 875) rfl), rfl⟩
set_option maxRecDepth 10000 in
theorem wd_876 : ex_W (.code ⟨"StreamTowerModel", "full", "(I)V"⟩ prog_12_method_22_code 3 none) := ⟨List.mem_append_right _ (List.mem_of_getElem? (i := 876) rfl), rfl⟩
set_option maxRecDepth 10000 in
theorem wd_877 : ex_W (.methodLink "StreamTowerModel" 132 ⟨"StreamTowerModel", "fill", "(I)I"⟩) := ⟨List.mem_append_right _ (List.mem_of_getElem? (i := 877) rfl), rfl⟩
set_option maxRecDepth 10000 in
theorem wd_879 : ex_W (.instanceMethod ⟨"StreamTowerModel", "fill", "(I)I"⟩) := ⟨List.mem_append_right _ (List.mem_of_getElem? (i := 879) rfl), rfl⟩
set_option maxRecDepth 10000 in
theorem wd_880 : ex_W (.code ⟨"StreamTowerModel", "fill", "(I)I"⟩ prog_12_method_21_code 3 (some FieldType.int)) := ⟨List.mem_append_right _ (List.mem_of_getElem? (i := 880) rfl), rfl⟩
set_option maxRecDepth 10000 in
theorem wd_881 : ex_W (.methodLink "StreamTowerLaw" 97 ⟨"StreamTowerModel", "skip", "(I)I"⟩) := ⟨List.mem_append_right _ (List.mem_of_getElem? (i := 881) rfl), rfl⟩
set_option maxRecDepth 10000 in
theorem wd_882 : ex_W (.instanceMethod ⟨"StreamTowerModel", "skip", "(I)I"⟩) := ⟨List.mem_append_right _ (List.mem_of_getElem? (i := 882) rfl), rfl⟩
set_option maxRecDepth 10000 in
theorem wd_883 : ex_W (.selects "StreamTowerModel" ⟨"StreamTowerModel", "skip", "(I)I"⟩ ⟨"StreamTowerModel", "skip", "(I)I"⟩) := ⟨List.mem_append_right _ (List.mem_of_getElem? (i := 883) rfl), rfl⟩
set_option maxRecDepth 10000 in
theorem wd_884 : ex_W (.code ⟨"StreamTowerModel", "skip", "(I)I"⟩ prog_12_method_23_code 4 (some FieldType.int)) := ⟨List.mem_append_right _ (List.mem_of_getElem? (i := 884) rfl), rfl⟩
set_option maxRecDepth 10000 in
theorem wd_885 : ex_W (.methodLink "StreamTowerLaw" 100 ⟨"StreamTowerModel", "number", "(I)J"⟩) := ⟨List.mem_append_right _ (List.mem_of_getElem? (i := 885) rfl), rfl⟩
set_option maxRecDepth 10000 in
theorem wd_886 : ex_W (.instanceMethod ⟨"StreamTowerModel", "number", "(I)J"⟩) := ⟨List.mem_append_right _ (List.mem_of_getElem? (i := 886) rfl), rfl⟩
set_option maxRecDepth 10000 in
theorem wd_887 : ex_W (.selects "StreamTowerModel" ⟨"StreamTowerModel", "number", "(I)J"⟩ ⟨"StreamTowerModel", "number", "(I)J"⟩) := ⟨List.mem_append_right _ (List.mem_of_getElem? (i := 887) rfl), rfl⟩
set_option maxRecDepth 10000 in
theorem wd_888 : ex_W (.code ⟨"StreamTowerModel", "number", "(I)J"⟩ prog_12_method_24_code 6 (some FieldType.long)) := ⟨List.mem_append_right _ (List.mem_of_getElem? (i := 888) rfl), rfl⟩
set_option maxRecDepth 10000 in
theorem wd_889 : ex_W (.methodLink "StreamTowerLaw" 103 ⟨"StreamTowerModel", "text", "()I"⟩) := ⟨List.mem_append_right _ (List.mem_of_getElem? (i := 889) rfl), rfl⟩
set_option maxRecDepth 10000 in
theorem wd_890 : ex_W (.instanceMethod ⟨"StreamTowerModel", "text", "()I"⟩) := ⟨List.mem_append_right _ (List.mem_of_getElem? (i := 890) rfl), rfl⟩
set_option maxRecDepth 10000 in
theorem wd_891 : ex_W (.selects "StreamTowerModel" ⟨"StreamTowerModel", "text", "()I"⟩ ⟨"StreamTowerModel", "text", "()I"⟩) := ⟨List.mem_append_right _ (List.mem_of_getElem? (i := 891) rfl), rfl⟩
set_option maxRecDepth 10000 in
theorem wd_892 : ex_W (.code ⟨"StreamTowerModel", "text", "()I"⟩ prog_12_method_28_code 5 (some FieldType.int)) := ⟨List.mem_append_right _ (List.mem_of_getElem? (i := 892) rfl), rfl⟩
set_option maxRecDepth 10000 in
theorem wd_893 : ex_W (.methodLink "StreamTowerModel" 138 ⟨"StreamTowerModel", "letterSize", "(I)I"⟩) := ⟨List.mem_append_right _ (List.mem_of_getElem? (i := 893) rfl), rfl⟩
set_option maxRecDepth 10000 in
theorem wd_895 : ex_W (.instanceMethod ⟨"StreamTowerModel", "letterSize", "(I)I"⟩) := ⟨List.mem_append_right _ (List.mem_of_getElem? (i := 895) rfl), rfl⟩
set_option maxRecDepth 10000 in
theorem wd_896 : ex_W (.code ⟨"StreamTowerModel", "letterSize", "(I)I"⟩ prog_12_method_26_code 3 (some FieldType.int)) := ⟨List.mem_append_right _ (List.mem_of_getElem? (i := 896) rfl), rfl⟩
set_option maxRecDepth 10000 in
theorem wd_897 : ex_W (.methodLink "StreamTowerModel" 135 ⟨"StreamTowerModel", "further", "(I)Z"⟩) := ⟨List.mem_append_right _ (List.mem_of_getElem? (i := 897) rfl), rfl⟩
set_option maxRecDepth 10000 in
theorem wd_899 : ex_W (.instanceMethod ⟨"StreamTowerModel", "further", "(I)Z"⟩) := ⟨List.mem_append_right _ (List.mem_of_getElem? (i := 899) rfl), rfl⟩
set_option maxRecDepth 10000 in
theorem wd_900 : ex_W (.code ⟨"StreamTowerModel", "further", "(I)Z"⟩ prog_12_method_25_code 2 (some FieldType.boolean)) := ⟨List.mem_append_right _ (List.mem_of_getElem? (i := 900) rfl), rfl⟩
set_option maxRecDepth 10000 in
theorem wd_901 : ex_W (.methodLink "StreamTowerModel" 144 ⟨"StreamTowerModel", "letterAt", "(II)I"⟩) := ⟨List.mem_append_right _ (List.mem_of_getElem? (i := 901) rfl), rfl⟩
set_option maxRecDepth 10000 in
theorem wd_903 : ex_W (.instanceMethod ⟨"StreamTowerModel", "letterAt", "(II)I"⟩) := ⟨List.mem_append_right _ (List.mem_of_getElem? (i := 903) rfl), rfl⟩
set_option maxRecDepth 10000 in
theorem wd_904 : ex_W (.code ⟨"StreamTowerModel", "letterAt", "(II)I"⟩ prog_12_method_27_code 4 (some FieldType.int)) := ⟨List.mem_append_right _ (List.mem_of_getElem? (i := 904) rfl), rfl⟩
set_option maxRecDepth 10000 in
theorem wd_905 : ex_W (.methodLink "StreamTowerLaw" 106 ⟨"StreamTowerModel", "line", "()I"⟩) := ⟨List.mem_append_right _ (List.mem_of_getElem? (i := 905) rfl), rfl⟩
set_option maxRecDepth 10000 in
theorem wd_906 : ex_W (.instanceMethod ⟨"StreamTowerModel", "line", "()I"⟩) := ⟨List.mem_append_right _ (List.mem_of_getElem? (i := 906) rfl), rfl⟩
set_option maxRecDepth 10000 in
theorem wd_907 : ex_W (.selects "StreamTowerModel" ⟨"StreamTowerModel", "line", "()I"⟩ ⟨"StreamTowerModel", "line", "()I"⟩) := ⟨List.mem_append_right _ (List.mem_of_getElem? (i := 907) rfl), rfl⟩
set_option maxRecDepth 10000 in
theorem wd_908 : ex_W (.code ⟨"StreamTowerModel", "line", "()I"⟩ prog_12_method_29_code 4 (some FieldType.int)) := ⟨List.mem_append_right _ (List.mem_of_getElem? (i := 908) rfl), rfl⟩
set_option maxRecDepth 10000 in
theorem wd_909 : ex_W (.methodLink "StreamTowerLaw" 109 ⟨"StreamTowerModel", "mark", "(I)V"⟩) := ⟨List.mem_append_right _ (List.mem_of_getElem? (i := 909) rfl), rfl⟩
set_option maxRecDepth 10000 in
theorem wd_910 : ex_W (.instanceMethod ⟨"StreamTowerModel", "mark", "(I)V"⟩) := ⟨List.mem_append_right _ (List.mem_of_getElem? (i := 910) rfl), rfl⟩
set_option maxRecDepth 10000 in
theorem wd_911 : ex_W (.selects "StreamTowerModel" ⟨"StreamTowerModel", "mark", "(I)V"⟩ ⟨"StreamTowerModel", "mark", "(I)V"⟩) := ⟨List.mem_append_right _ (List.mem_of_getElem? (i := 911) rfl), rfl⟩
set_option maxRecDepth 10000 in
theorem wd_912 : ex_W (.code ⟨"StreamTowerModel", "mark", "(I)V"⟩ prog_12_method_31_code 4 none) := ⟨List.mem_append_right _ (List.mem_of_getElem? (i := 912) rfl), rfl⟩
set_option maxRecDepth 10000 in
theorem wd_913 : ex_W (.methodLink "StreamTowerModel" 148 ⟨"StreamTowerModel", "bufferBelow", "()I"⟩) := ⟨List.mem_append_right _ (List.mem_of_getElem? (i := 913) rfl), rfl⟩
set_option maxRecDepth 10000 in
theorem wd_915 : ex_W (.instanceMethod ⟨"StreamTowerModel", "bufferBelow", "()I"⟩) := ⟨List.mem_append_right _ (List.mem_of_getElem? (i := 915) rfl), rfl⟩
set_option maxRecDepth 10000 in
theorem wd_916 : ex_W (.code ⟨"StreamTowerModel", "bufferBelow", "()I"⟩ prog_12_method_30_code 2 (some FieldType.int)) := ⟨List.mem_append_right _ (List.mem_of_getElem? (i := 916) rfl), rfl⟩
set_option maxRecDepth 10000 in
theorem wd_917 : ex_W (.methodLink "StreamTowerLaw" 113 ⟨"StreamTowerModel", "reset", "()V"⟩) := ⟨List.mem_append_right _ (List.mem_of_getElem? (i := 917) rfl), rfl⟩
set_option maxRecDepth 10000 in
theorem wd_918 : ex_W (.instanceMethod ⟨"StreamTowerModel", "reset", "()V"⟩) := ⟨List.mem_append_right _ (List.mem_of_getElem? (i := 918) rfl), rfl⟩
set_option maxRecDepth 10000 in
theorem wd_919 : ex_W (.selects "StreamTowerModel" ⟨"StreamTowerModel", "reset", "()V"⟩ ⟨"StreamTowerModel", "reset", "()V"⟩) := ⟨List.mem_append_right _ (List.mem_of_getElem? (i := 919) rfl), rfl⟩
set_option maxRecDepth 10000 in
theorem wd_920 : ex_W (.code ⟨"StreamTowerModel", "reset", "()V"⟩ prog_12_method_32_code 3 none) := ⟨List.mem_append_right _ (List.mem_of_getElem? (i := 920) rfl), rfl⟩
set_option maxRecDepth 10000 in
theorem wd_921 : ex_W (.methodLink "StreamTowerLaw" 116 ⟨"StreamTowerModel", "unread", "(I)V"⟩) := ⟨List.mem_append_right _ (List.mem_of_getElem? (i := 921) rfl), rfl⟩
set_option maxRecDepth 10000 in
theorem wd_922 : ex_W (.instanceMethod ⟨"StreamTowerModel", "unread", "(I)V"⟩) := ⟨List.mem_append_right _ (List.mem_of_getElem? (i := 922) rfl), rfl⟩
set_option maxRecDepth 10000 in
theorem wd_923 : ex_W (.selects "StreamTowerModel" ⟨"StreamTowerModel", "unread", "(I)V"⟩ ⟨"StreamTowerModel", "unread", "(I)V"⟩) := ⟨List.mem_append_right _ (List.mem_of_getElem? (i := 923) rfl), rfl⟩
set_option maxRecDepth 10000 in
theorem wd_924 : ex_W (.code ⟨"StreamTowerModel", "unread", "(I)V"⟩ prog_12_method_33_code 4 none) := ⟨List.mem_append_right _ (List.mem_of_getElem? (i := 924) rfl), rfl⟩
set_option maxRecDepth 10000 in
theorem wd_925 : ex_W (.methodLink "StreamTowerLaw" 120 ⟨"StreamTowerModel", "available", "()I"⟩) := ⟨List.mem_append_right _ (List.mem_of_getElem? (i := 925) rfl), rfl⟩
set_option maxRecDepth 10000 in
theorem wd_926 : ex_W (.instanceMethod ⟨"StreamTowerModel", "available", "()I"⟩) := ⟨List.mem_append_right _ (List.mem_of_getElem? (i := 926) rfl), rfl⟩
set_option maxRecDepth 10000 in
theorem wd_927 : ex_W (.selects "StreamTowerModel" ⟨"StreamTowerModel", "available", "()I"⟩ ⟨"StreamTowerModel", "available", "()I"⟩) := ⟨List.mem_append_right _ (List.mem_of_getElem? (i := 927) rfl), rfl⟩
set_option maxRecDepth 10000 in
theorem wd_928 : ex_W (.code ⟨"StreamTowerModel", "available", "()I"⟩ prog_12_method_34_code 3 (some FieldType.int)) := ⟨List.mem_append_right _ (List.mem_of_getElem? (i := 928) rfl), rfl⟩
set_option maxRecDepth 10000 in
theorem wd_929 : ex_W (.methodLink "StreamTowerLaw" 124 ⟨"StreamTowerModel", "close", "()V"⟩) := ⟨List.mem_append_right _ (List.mem_of_getElem? (i := 929) rfl), rfl⟩
set_option maxRecDepth 10000 in
theorem wd_930 : ex_W (.instanceMethod ⟨"StreamTowerModel", "close", "()V"⟩) := ⟨List.mem_append_right _ (List.mem_of_getElem? (i := 930) rfl), rfl⟩
set_option maxRecDepth 10000 in
theorem wd_931 : ex_W (.selects "StreamTowerModel" ⟨"StreamTowerModel", "close", "()V"⟩ ⟨"StreamTowerModel", "close", "()V"⟩) := ⟨List.mem_append_right _ (List.mem_of_getElem? (i := 931) rfl), rfl⟩
set_option maxRecDepth 10000 in
theorem wd_932 : ex_W (.code ⟨"StreamTowerModel", "close", "()V"⟩ prog_12_method_35_code 1 none) := ⟨List.mem_append_right _ (List.mem_of_getElem? (i := 932) rfl), rfl⟩
set_option maxRecDepth 10000 in
theorem wd_933 : ex_W (.methodLink "StreamTowerLaw" 128 ⟨"StreamTowerModel", "about", "(I)I"⟩) := ⟨List.mem_append_right _ (List.mem_of_getElem? (i := 933) rfl), rfl⟩
set_option maxRecDepth 10000 in
theorem wd_934 : ex_W (.instanceMethod ⟨"StreamTowerModel", "about", "(I)I"⟩) := ⟨List.mem_append_right _ (List.mem_of_getElem? (i := 934) rfl), rfl⟩
set_option maxRecDepth 10000 in
theorem wd_935 : ex_W (.selects "StreamTowerModel" ⟨"StreamTowerModel", "about", "(I)I"⟩ ⟨"StreamTowerModel", "about", "(I)I"⟩) := ⟨List.mem_append_right _ (List.mem_of_getElem? (i := 935) rfl), rfl⟩
set_option maxRecDepth 10000 in
theorem wd_936 : ex_W (.code ⟨"StreamTowerModel", "about", "(I)I"⟩ prog_12_method_36_code 2 (some FieldType.int)) := ⟨List.mem_append_right _ (List.mem_of_getElem? (i := 936) rfl), rfl⟩
set_option maxRecDepth 10000 in
theorem wd_937 : ex_W (.methodLink "StreamTowerLaw" 133 ⟨"StreamTowerModel", "size", "(Z)I"⟩) := ⟨List.mem_append_right _ (List.mem_of_getElem? (i := 937) rfl), rfl⟩
set_option maxRecDepth 10000 in
theorem wd_938 : ex_W (.instanceMethod ⟨"StreamTowerModel", "size", "(Z)I"⟩) := ⟨List.mem_append_right _ (List.mem_of_getElem? (i := 938) rfl), rfl⟩
set_option maxRecDepth 10000 in
theorem wd_939 : ex_W (.selects "StreamTowerModel" ⟨"StreamTowerModel", "size", "(Z)I"⟩ ⟨"StreamTowerModel", "size", "(Z)I"⟩) := ⟨List.mem_append_right _ (List.mem_of_getElem? (i := 939) rfl), rfl⟩
set_option maxRecDepth 10000 in
theorem wd_940 : ex_W (.code ⟨"StreamTowerModel", "size", "(Z)I"⟩ prog_12_method_37_code 2 (some FieldType.int)) := ⟨List.mem_append_right _ (List.mem_of_getElem? (i := 940) rfl), rfl⟩
set_option maxRecDepth 10000 in
theorem wd_941 : ex_W (.methodLink "StreamTowerLaw" 138 ⟨"StreamTowerModel", "at", "(IZ)I"⟩) := ⟨List.mem_append_right _ (List.mem_of_getElem? (i := 941) rfl), rfl⟩
set_option maxRecDepth 10000 in
theorem wd_942 : ex_W (.instanceMethod ⟨"StreamTowerModel", "at", "(IZ)I"⟩) := ⟨List.mem_append_right _ (List.mem_of_getElem? (i := 942) rfl), rfl⟩
set_option maxRecDepth 10000 in
theorem wd_943 : ex_W (.selects "StreamTowerModel" ⟨"StreamTowerModel", "at", "(IZ)I"⟩ ⟨"StreamTowerModel", "at", "(IZ)I"⟩) := ⟨List.mem_append_right _ (List.mem_of_getElem? (i := 943) rfl), rfl⟩
set_option maxRecDepth 10000 in
theorem wd_944 : ex_W (.code ⟨"StreamTowerModel", "at", "(IZ)I"⟩ prog_12_method_38_code 3 (some FieldType.int)) := ⟨List.mem_append_right _ (List.mem_of_getElem? (i := 944) rfl), rfl⟩
set_option maxRecDepth 10000 in
theorem wd_945 : ex_W (.arrayClass FieldType.long) := ⟨List.mem_append_right _ (List.mem_of_getElem? (i := 945) rfl), rfl⟩
set_option maxRecDepth 10000 in
theorem wd_946 : ex_W (.sameMethod "java/lang/Throwable" "java/lang/Throwable" "fillInStackTrace" "(I)Ljava/lang/Throwable;") := ⟨List.mem_append_right _ (List.mem_of_getElem? (i := 946) rfl), rfl⟩
set_option maxRecDepth 10000 in
theorem wd_947 : ex_W (.selects "StreamTower$Source" ⟨"StreamTower$Source", "ready", "()I"⟩ ⟨"StreamTower$Source", "ready", "()I"⟩) := ⟨List.mem_append_right _ (List.mem_of_getElem? (i := 947) rfl), rfl⟩
set_option maxRecDepth 10000 in
theorem wd_948 : ex_W (.castable "StreamTower$Pushback" "StreamTower$Pushback") := ⟨List.mem_append_right _ (List.mem_of_getElem? (i := 948) rfl), rfl⟩
set_option maxRecDepth 10000 in
theorem wd_949 : ex_W (.castable "StreamTower$Buffer" "StreamTower$Stream") := ⟨List.mem_append_right _ (List.mem_of_getElem? (i := 949) rfl), rfl⟩
set_option maxRecDepth 10000 in
theorem wd_950 : ex_W (.castable "StreamTower$Code" "StreamTower$Stream") := ⟨List.mem_append_right _ (List.mem_of_getElem? (i := 950) rfl), rfl⟩
set_option maxRecDepth 10000 in
theorem wd_951 : ex_W (.castable "StreamTower$Limit" "StreamTower$Stream") := ⟨List.mem_append_right _ (List.mem_of_getElem? (i := 951) rfl), rfl⟩
set_option maxRecDepth 10000 in
theorem wd_952 : ex_W (.castable "StreamTower$Lines" "StreamTower$Stream") := ⟨List.mem_append_right _ (List.mem_of_getElem? (i := 952) rfl), rfl⟩
set_option maxRecDepth 10000 in
theorem wd_953 : ex_W (.castable "StreamTower$Pushback" "StreamTower$Stream") := ⟨List.mem_append_right _ (List.mem_of_getElem? (i := 953) rfl), rfl⟩
set_option maxRecDepth 10000 in
theorem wd_954 : ex_W (.castable "StreamTower$Source" "StreamTower$Stream") := ⟨List.mem_append_right _ (List.mem_of_getElem? (i := 954) rfl), rfl⟩
def nc_L : List (String × String) := [("StreamTower", "java/lang/IllegalArgumentException"), ("StreamTower$Source", "java/lang/IllegalArgumentException"), ("StreamTower$Row", "java/lang/IllegalArgumentException"), ("StreamTowerModel", "java/lang/IllegalArgumentException"), ("java/lang/IllegalStateException", "java/lang/IllegalArgumentException"), ("StreamTower$Buffer", "java/lang/IllegalArgumentException"), ("StreamTower$Pushback", "java/lang/IllegalArgumentException"), ("StreamTower$Limit", "java/lang/IllegalArgumentException"), ("StreamTower$Code", "java/lang/IllegalArgumentException"), ("StreamTower$Lines", "java/lang/IllegalArgumentException"), ("java/util/NoSuchElementException", "java/lang/IllegalArgumentException"), ("java/lang/UnsupportedOperationException", "java/lang/IllegalArgumentException"), ("StreamTower", "java/lang/IllegalStateException"), ("StreamTower$Source", "java/lang/IllegalStateException"), ("StreamTower$Row", "java/lang/IllegalStateException"), ("StreamTowerModel", "java/lang/IllegalStateException"), ("java/lang/IllegalArgumentException", "java/lang/IllegalStateException"), ("StreamTower$Buffer", "java/lang/IllegalStateException"), ("StreamTower$Pushback", "java/lang/IllegalStateException"), ("StreamTower$Limit", "java/lang/IllegalStateException"), ("StreamTower$Code", "java/lang/IllegalStateException"), ("StreamTower$Lines", "java/lang/IllegalStateException"), ("java/util/NoSuchElementException", "java/lang/IllegalStateException"), ("java/lang/UnsupportedOperationException", "java/lang/IllegalStateException"), ("StreamTower", "java/util/NoSuchElementException"), ("StreamTower$Source", "java/util/NoSuchElementException"), ("StreamTower$Row", "java/util/NoSuchElementException"), ("StreamTowerModel", "java/util/NoSuchElementException"), ("java/lang/IllegalArgumentException", "java/util/NoSuchElementException"), ("java/lang/IllegalStateException", "java/util/NoSuchElementException"), ("StreamTower$Buffer", "java/util/NoSuchElementException"), ("StreamTower$Pushback", "java/util/NoSuchElementException"), ("StreamTower$Limit", "java/util/NoSuchElementException"), ("StreamTower$Code", "java/util/NoSuchElementException"), ("StreamTower$Lines", "java/util/NoSuchElementException"), ("java/lang/UnsupportedOperationException", "java/util/NoSuchElementException"), ("StreamTower", "java/lang/UnsupportedOperationException"), ("StreamTower$Source", "java/lang/UnsupportedOperationException"), ("StreamTower$Row", "java/lang/UnsupportedOperationException"), ("StreamTowerModel", "java/lang/UnsupportedOperationException"), ("java/lang/IllegalArgumentException", "java/lang/UnsupportedOperationException"), ("java/lang/IllegalStateException", "java/lang/UnsupportedOperationException"), ("StreamTower$Buffer", "java/lang/UnsupportedOperationException"), ("StreamTower$Pushback", "java/lang/UnsupportedOperationException"), ("StreamTower$Limit", "java/lang/UnsupportedOperationException"), ("StreamTower$Code", "java/lang/UnsupportedOperationException"), ("StreamTower$Lines", "java/lang/UnsupportedOperationException"), ("java/util/NoSuchElementException", "java/lang/UnsupportedOperationException"), ("StreamTower", "StreamTower$Pushback"), ("StreamTower$Source", "StreamTower$Pushback"), ("StreamTower$Row", "StreamTower$Pushback"), ("StreamTowerModel", "StreamTower$Pushback"), ("java/lang/IllegalArgumentException", "StreamTower$Pushback"), ("java/lang/IllegalStateException", "StreamTower$Pushback"), ("StreamTower$Buffer", "StreamTower$Pushback"), ("StreamTower$Limit", "StreamTower$Pushback"), ("StreamTower$Code", "StreamTower$Pushback"), ("StreamTower$Lines", "StreamTower$Pushback"), ("java/util/NoSuchElementException", "StreamTower$Pushback"), ("java/lang/UnsupportedOperationException", "StreamTower$Pushback")]
theorem sp_0 : ex_W (.selects "StreamTower" ⟨"StreamTower", "rowOf", "(Z)LStreamTower$Row;"⟩ ⟨"StreamTower", "rowOf", "(Z)LStreamTower$Row;"⟩) := ⟨List.mem_append_left _ (List.mem_of_getElem? (i := 0) rfl), rfl⟩
theorem sp_1 : ex_W (.selects "java/lang/Throwable" ⟨"java/lang/Throwable", "fillInStackTrace", "(I)Ljava/lang/Throwable;"⟩ ⟨"java/lang/Throwable", "fillInStackTrace", "(I)Ljava/lang/Throwable;"⟩) := ⟨List.mem_append_left _ (List.mem_of_getElem? (i := 1) rfl), rfl⟩
theorem sp_2 : ex_W (.selects "StreamTower" ⟨"StreamTower", "startReading", "()V"⟩ ⟨"StreamTower", "startReading", "()V"⟩) := ⟨List.mem_append_left _ (List.mem_of_getElem? (i := 2) rfl), rfl⟩
theorem sp_3 : ex_W (.selects "StreamTower" ⟨"StreamTower", "refuseWhenClosed", "()V"⟩ ⟨"StreamTower", "refuseWhenClosed", "()V"⟩) := ⟨List.mem_append_left _ (List.mem_of_getElem? (i := 3) rfl), rfl⟩
theorem sp_4 : ex_W (.selects "StreamTower" ⟨"StreamTower", "request", "(I)I"⟩ ⟨"StreamTower", "request", "(I)I"⟩) := ⟨List.mem_append_left _ (List.mem_of_getElem? (i := 4) rfl), rfl⟩
theorem sp_5 : ex_W (.selects "StreamTower$Lines" ⟨"StreamTower$Lines", "countLineEnd", "(I)V"⟩ ⟨"StreamTower$Lines", "countLineEnd", "(I)V"⟩) := ⟨List.mem_append_left _ (List.mem_of_getElem? (i := 5) rfl), rfl⟩
theorem sp_6 : ex_W (.selects "StreamTower$Buffer" ⟨"StreamTower$Buffer", "fill", "()I"⟩ ⟨"StreamTower$Buffer", "fill", "()I"⟩) := ⟨List.mem_append_left _ (List.mem_of_getElem? (i := 6) rfl), rfl⟩
theorem sp_7 : ex_W (.selects "StreamTower$Buffer" ⟨"StreamTower$Buffer", "forgetWhatNoMarkKeeps", "()V"⟩ ⟨"StreamTower$Buffer", "forgetWhatNoMarkKeeps", "()V"⟩) := ⟨List.mem_append_left _ (List.mem_of_getElem? (i := 7) rfl), rfl⟩
theorem sp_8 : ex_W (.selects "StreamTower" ⟨"StreamTower", "readAll", "(I)V"⟩ ⟨"StreamTower", "readAll", "(I)V"⟩) := ⟨List.mem_append_left _ (List.mem_of_getElem? (i := 8) rfl), rfl⟩
theorem sp_9 : ex_W (.selects "StreamTower" ⟨"StreamTower", "numberInBag", "(I)J"⟩ ⟨"StreamTower", "numberInBag", "(I)J"⟩) := ⟨List.mem_append_left _ (List.mem_of_getElem? (i := 9) rfl), rfl⟩
theorem sp_10 : ex_W (.selects "StreamTower" ⟨"StreamTower", "takeLetters", "()V"⟩ ⟨"StreamTower", "takeLetters", "()V"⟩) := ⟨List.mem_append_left _ (List.mem_of_getElem? (i := 10) rfl), rfl⟩
theorem sp_11 : ex_W (.selects "StreamTowerModel" ⟨"StreamTowerModel", "reads", "(I)Z"⟩ ⟨"StreamTowerModel", "reads", "(I)Z"⟩) := ⟨List.mem_append_left _ (List.mem_of_getElem? (i := 11) rfl), rfl⟩
theorem sp_12 : ex_W (.selects "StreamTowerModel" ⟨"StreamTowerModel", "request", "(I)Z"⟩ ⟨"StreamTowerModel", "request", "(I)Z"⟩) := ⟨List.mem_append_left _ (List.mem_of_getElem? (i := 12) rfl), rfl⟩
theorem sp_13 : ex_W (.selects "StreamTowerModel" ⟨"StreamTowerModel", "answers", "(I)Z"⟩ ⟨"StreamTowerModel", "answers", "(I)Z"⟩) := ⟨List.mem_append_left _ (List.mem_of_getElem? (i := 13) rfl), rfl⟩
theorem sp_14 : ex_W (.selects "StreamTowerModel" ⟨"StreamTowerModel", "toGive", "(I)I"⟩ ⟨"StreamTowerModel", "toGive", "(I)I"⟩) := ⟨List.mem_append_left _ (List.mem_of_getElem? (i := 14) rfl), rfl⟩
theorem sp_15 : ex_W (.selects "StreamTowerModel" ⟨"StreamTowerModel", "give", "(II)V"⟩ ⟨"StreamTowerModel", "give", "(II)V"⟩) := ⟨List.mem_append_left _ (List.mem_of_getElem? (i := 15) rfl), rfl⟩
theorem sp_16 : ex_W (.selects "StreamTowerModel" ⟨"StreamTowerModel", "forget", "(II)V"⟩ ⟨"StreamTowerModel", "forget", "(II)V"⟩) := ⟨List.mem_append_left _ (List.mem_of_getElem? (i := 16) rfl), rfl⟩
theorem sp_17 : ex_W (.selects "StreamTowerModel" ⟨"StreamTowerModel", "below", "(I)I"⟩ ⟨"StreamTowerModel", "below", "(I)I"⟩) := ⟨List.mem_append_left _ (List.mem_of_getElem? (i := 17) rfl), rfl⟩
theorem sp_18 : ex_W (.selects "StreamTowerModel" ⟨"StreamTowerModel", "through", "(I)Z"⟩ ⟨"StreamTowerModel", "through", "(I)Z"⟩) := ⟨List.mem_append_left _ (List.mem_of_getElem? (i := 18) rfl), rfl⟩
theorem sp_19 : ex_W (.selects "StreamTowerModel" ⟨"StreamTowerModel", "portionLeft", "()I"⟩ ⟨"StreamTowerModel", "portionLeft", "()I"⟩) := ⟨List.mem_append_left _ (List.mem_of_getElem? (i := 19) rfl), rfl⟩
theorem sp_20 : ex_W (.selects "StreamTowerModel" ⟨"StreamTowerModel", "pass", "(I)V"⟩ ⟨"StreamTowerModel", "pass", "(I)V"⟩) := ⟨List.mem_append_left _ (List.mem_of_getElem? (i := 20) rfl), rfl⟩
theorem sp_21 : ex_W (.selects "StreamTowerModel" ⟨"StreamTowerModel", "countLines", "(I)V"⟩ ⟨"StreamTowerModel", "countLines", "(I)V"⟩) := ⟨List.mem_append_left _ (List.mem_of_getElem? (i := 21) rfl), rfl⟩
theorem sp_22 : ex_W (.selects "StreamTowerModel" ⟨"StreamTowerModel", "putBag", "()V"⟩ ⟨"StreamTowerModel", "putBag", "()V"⟩) := ⟨List.mem_append_left _ (List.mem_of_getElem? (i := 22) rfl), rfl⟩
theorem sp_23 : ex_W (.selects "StreamTowerModel" ⟨"StreamTowerModel", "fill", "(I)I"⟩ ⟨"StreamTowerModel", "fill", "(I)I"⟩) := ⟨List.mem_append_left _ (List.mem_of_getElem? (i := 23) rfl), rfl⟩
theorem sp_24 : ex_W (.selects "StreamTowerModel" ⟨"StreamTowerModel", "letterSize", "(I)I"⟩ ⟨"StreamTowerModel", "letterSize", "(I)I"⟩) := ⟨List.mem_append_left _ (List.mem_of_getElem? (i := 24) rfl), rfl⟩
theorem sp_25 : ex_W (.selects "StreamTowerModel" ⟨"StreamTowerModel", "further", "(I)Z"⟩ ⟨"StreamTowerModel", "further", "(I)Z"⟩) := ⟨List.mem_append_left _ (List.mem_of_getElem? (i := 25) rfl), rfl⟩
theorem sp_26 : ex_W (.selects "StreamTowerModel" ⟨"StreamTowerModel", "letterAt", "(II)I"⟩ ⟨"StreamTowerModel", "letterAt", "(II)I"⟩) := ⟨List.mem_append_left _ (List.mem_of_getElem? (i := 26) rfl), rfl⟩
theorem sp_27 : ex_W (.selects "StreamTowerModel" ⟨"StreamTowerModel", "bufferBelow", "()I"⟩ ⟨"StreamTowerModel", "bufferBelow", "()I"⟩) := ⟨List.mem_append_left _ (List.mem_of_getElem? (i := 27) rfl), rfl⟩
theorem in_0 : ∀ w ∈ u_ws "StreamTower" T_0 10, ex_W w := by
  intro w hw
  have hw : w ∈ ([.laysFinal "StreamTower" "StreamTower" "source" "LStreamTower$Source;", .laysFinal "StreamTower" "StreamTower" "layers" "[LStreamTower$Stream;", .laysFinal "StreamTower" "StreamTower" "answered" "[I", .laysFinal "StreamTower" "StreamTower" "bag" "LStreamTower$Row;", .laysFinal "StreamTower" "StreamTower" "letters" "LStreamTower$Row;", .lays "StreamTower" "StreamTower" "top" "LStreamTower$Stream;", .lays "StreamTower" "StreamTower" "layerCount" "I", .lays "StreamTower" "StreamTower" "closed" "Z", .lays "StreamTower" "StreamTower" "leavesOutLineFeed" "Z", .lays "StreamTower" "StreamTower" "leftOutLineFeedAtMark" "Z"] : List Cond) := hw
  rcases List.mem_cons.mp hw with rfl | hw
  · exact wd_83
  rcases List.mem_cons.mp hw with rfl | hw
  · exact wd_85
  rcases List.mem_cons.mp hw with rfl | hw
  · exact wd_87
  rcases List.mem_cons.mp hw with rfl | hw
  · exact wd_89
  rcases List.mem_cons.mp hw with rfl | hw
  · exact wd_91
  rcases List.mem_cons.mp hw with rfl | hw
  · exact wd_93
  rcases List.mem_cons.mp hw with rfl | hw
  · exact wd_95
  rcases List.mem_cons.mp hw with rfl | hw
  · exact wd_97
  rcases List.mem_cons.mp hw with rfl | hw
  · exact wd_99
  rcases List.mem_cons.mp hw with rfl | hw
  · exact wd_101
  cases hw
theorem in_1 : ∀ w ∈ u_ws "StreamTower$Row" T_1 2, ex_W w := by
  intro w hw
  have hw : w ∈ ([.laysFinal "StreamTower$Row" "StreamTower$Row" "items" "[I", .lays "StreamTower$Row" "StreamTower$Row" "count" "I"] : List Cond) := hw
  rcases List.mem_cons.mp hw with rfl | hw
  · exact wd_68
  rcases List.mem_cons.mp hw with rfl | hw
  · exact wd_70
  cases hw
theorem in_2 : ∀ w ∈ u_ws "StreamTower$Source" T_2 5, ex_W w := by
  intro w hw
  have hw : w ∈ ([.laysFinal "StreamTower$Source" "StreamTower$Source" "bytes" "[I", .laysFinal "StreamTower$Source" "StreamTower$Source" "startsPortion" "[Z", .laysFinal "StreamTower$Source" "StreamTower$Source" "broken" "[Z", .lays "StreamTower$Source" "StreamTower$Source" "count" "I", .lays "StreamTower$Source" "StreamTower$Source" "taken" "I"] : List Cond) := hw
  rcases List.mem_cons.mp hw with rfl | hw
  · exact wd_44
  rcases List.mem_cons.mp hw with rfl | hw
  · exact wd_46
  rcases List.mem_cons.mp hw with rfl | hw
  · exact wd_48
  rcases List.mem_cons.mp hw with rfl | hw
  · exact wd_50
  rcases List.mem_cons.mp hw with rfl | hw
  · exact wd_52
  cases hw
theorem in_3 : ∀ w ∈ u_ws "StreamTower$Buffer" T_3 8, ex_W w := by
  intro w hw
  have hw : w ∈ ([.laysFinal "StreamTower$Buffer" "StreamTower$Buffer" "below" "LStreamTower$Stream;", .laysFinal "StreamTower$Buffer" "StreamTower$Buffer" "room" "I", .laysFinal "StreamTower$Buffer" "StreamTower$Buffer" "kept" "[I", .lays "StreamTower$Buffer" "StreamTower$Buffer" "first" "I", .lays "StreamTower$Buffer" "StreamTower$Buffer" "next" "I", .lays "StreamTower$Buffer" "StreamTower$Buffer" "end" "I", .lays "StreamTower$Buffer" "StreamTower$Buffer" "marked" "Z", .lays "StreamTower$Buffer" "StreamTower$Buffer" "markLimit" "I"] : List Cond) := hw
  rcases List.mem_cons.mp hw with rfl | hw
  · exact wd_325
  rcases List.mem_cons.mp hw with rfl | hw
  · exact wd_327
  rcases List.mem_cons.mp hw with rfl | hw
  · exact wd_329
  rcases List.mem_cons.mp hw with rfl | hw
  · exact wd_331
  rcases List.mem_cons.mp hw with rfl | hw
  · exact wd_333
  rcases List.mem_cons.mp hw with rfl | hw
  · exact wd_335
  rcases List.mem_cons.mp hw with rfl | hw
  · exact wd_337
  rcases List.mem_cons.mp hw with rfl | hw
  · exact wd_339
  cases hw
theorem in_4 : ∀ w ∈ u_ws "StreamTower$Pushback" T_4 3, ex_W w := by
  intro w hw
  have hw : w ∈ ([.laysFinal "StreamTower$Pushback" "StreamTower$Pushback" "below" "LStreamTower$Stream;", .laysFinal "StreamTower$Pushback" "StreamTower$Pushback" "bytes" "[I", .lays "StreamTower$Pushback" "StreamTower$Pushback" "count" "I"] : List Cond) := hw
  rcases List.mem_cons.mp hw with rfl | hw
  · exact wd_351
  rcases List.mem_cons.mp hw with rfl | hw
  · exact wd_353
  rcases List.mem_cons.mp hw with rfl | hw
  · exact wd_355
  cases hw
theorem in_5 : ∀ w ∈ u_ws "StreamTower$Limit" T_5 3, ex_W w := by
  intro w hw
  have hw : w ∈ ([.laysFinal "StreamTower$Limit" "StreamTower$Passing" "below" "LStreamTower$Stream;", .lays "StreamTower$Limit" "StreamTower$Limit" "left" "I", .lays "StreamTower$Limit" "StreamTower$Limit" "leftAtMark" "I"] : List Cond) := hw
  rcases List.mem_cons.mp hw with rfl | hw
  · exact wd_380
  rcases List.mem_cons.mp hw with rfl | hw
  · exact wd_376
  rcases List.mem_cons.mp hw with rfl | hw
  · exact wd_378
  cases hw
theorem in_6 : ∀ w ∈ u_ws "StreamTower$Code" T_6 4, ex_W w := by
  intro w hw
  have hw : w ∈ ([.laysFinal "StreamTower$Code" "StreamTower$Passing" "below" "LStreamTower$Stream;", .laysFinal "StreamTower$Code" "StreamTower$Code" "key" "I", .lays "StreamTower$Code" "StreamTower$Code" "coded" "I", .lays "StreamTower$Code" "StreamTower$Code" "codedAtMark" "I"] : List Cond) := hw
  rcases List.mem_cons.mp hw with rfl | hw
  · exact wd_398
  rcases List.mem_cons.mp hw with rfl | hw
  · exact wd_392
  rcases List.mem_cons.mp hw with rfl | hw
  · exact wd_394
  rcases List.mem_cons.mp hw with rfl | hw
  · exact wd_396
  cases hw
theorem in_7 : ∀ w ∈ u_ws "StreamTower$Lines" T_7 5, ex_W w := by
  intro w hw
  have hw : w ∈ ([.laysFinal "StreamTower$Lines" "StreamTower$Passing" "below" "LStreamTower$Stream;", .lays "StreamTower$Lines" "StreamTower$Lines" "lineEnds" "I", .lays "StreamTower$Lines" "StreamTower$Lines" "lineEndsAtMark" "I", .lays "StreamTower$Lines" "StreamTower$Lines" "lastWasReturn" "Z", .lays "StreamTower$Lines" "StreamTower$Lines" "lastWasReturnAtMark" "Z"] : List Cond) := hw
  rcases List.mem_cons.mp hw with rfl | hw
  · exact wd_418
  rcases List.mem_cons.mp hw with rfl | hw
  · exact wd_410
  rcases List.mem_cons.mp hw with rfl | hw
  · exact wd_412
  rcases List.mem_cons.mp hw with rfl | hw
  · exact wd_414
  rcases List.mem_cons.mp hw with rfl | hw
  · exact wd_416
  cases hw
theorem in_8 : ∀ w ∈ u_ws "StreamTowerModel" T_8 28, ex_W w := by
  intro w hw
  have hw : w ∈ ([.lays "StreamTowerModel" "StreamTowerModel" "code" "I", .laysFinal "StreamTowerModel" "StreamTowerModel" "source" "[I", .laysFinal "StreamTowerModel" "StreamTowerModel" "begins" "[Z", .laysFinal "StreamTowerModel" "StreamTowerModel" "broken" "[Z", .lays "StreamTowerModel" "StreamTowerModel" "fed" "I", .lays "StreamTowerModel" "StreamTowerModel" "taken" "I", .lays "StreamTowerModel" "StreamTowerModel" "layers" "I", .laysFinal "StreamTowerModel" "StreamTowerModel" "kind" "[I", .laysFinal "StreamTowerModel" "StreamTowerModel" "sizes" "[I", .laysFinal "StreamTowerModel" "StreamTowerModel" "state" "[I", .laysFinal "StreamTowerModel" "StreamTowerModel" "remembered" "[I", .laysFinal "StreamTowerModel" "StreamTowerModel" "cr" "[Z", .laysFinal "StreamTowerModel" "StreamTowerModel" "crRemembered" "[Z", .laysFinal "StreamTowerModel" "StreamTowerModel" "bytes" "[I", .laysFinal "StreamTowerModel" "StreamTowerModel" "have" "[I", .laysFinal "StreamTowerModel" "StreamTowerModel" "given" "[I", .laysFinal "StreamTowerModel" "StreamTowerModel" "marked" "[Z", .laysFinal "StreamTowerModel" "StreamTowerModel" "limit" "[I", .laysFinal "StreamTowerModel" "StreamTowerModel" "asked" "[I", .laysFinal "StreamTowerModel" "StreamTowerModel" "answer" "[I", .lays "StreamTowerModel" "StreamTowerModel" "count" "I", .lays "StreamTowerModel" "StreamTowerModel" "closed" "Z", .lays "StreamTowerModel" "StreamTowerModel" "leaves" "Z", .lays "StreamTowerModel" "StreamTowerModel" "leavesMarked" "Z", .laysFinal "StreamTowerModel" "StreamTowerModel" "bag" "[I", .lays "StreamTowerModel" "StreamTowerModel" "bagged" "I", .laysFinal "StreamTowerModel" "StreamTowerModel" "letters" "[I", .lays "StreamTowerModel" "StreamTowerModel" "lettered" "I"] : List Cond) := hw
  rcases List.mem_cons.mp hw with rfl | hw
  · exact wd_740
  rcases List.mem_cons.mp hw with rfl | hw
  · exact wd_742
  rcases List.mem_cons.mp hw with rfl | hw
  · exact wd_744
  rcases List.mem_cons.mp hw with rfl | hw
  · exact wd_746
  rcases List.mem_cons.mp hw with rfl | hw
  · exact wd_748
  rcases List.mem_cons.mp hw with rfl | hw
  · exact wd_750
  rcases List.mem_cons.mp hw with rfl | hw
  · exact wd_752
  rcases List.mem_cons.mp hw with rfl | hw
  · exact wd_754
  rcases List.mem_cons.mp hw with rfl | hw
  · exact wd_756
  rcases List.mem_cons.mp hw with rfl | hw
  · exact wd_758
  rcases List.mem_cons.mp hw with rfl | hw
  · exact wd_760
  rcases List.mem_cons.mp hw with rfl | hw
  · exact wd_762
  rcases List.mem_cons.mp hw with rfl | hw
  · exact wd_764
  rcases List.mem_cons.mp hw with rfl | hw
  · exact wd_766
  rcases List.mem_cons.mp hw with rfl | hw
  · exact wd_768
  rcases List.mem_cons.mp hw with rfl | hw
  · exact wd_770
  rcases List.mem_cons.mp hw with rfl | hw
  · exact wd_772
  rcases List.mem_cons.mp hw with rfl | hw
  · exact wd_774
  rcases List.mem_cons.mp hw with rfl | hw
  · exact wd_776
  rcases List.mem_cons.mp hw with rfl | hw
  · exact wd_778
  rcases List.mem_cons.mp hw with rfl | hw
  · exact wd_780
  rcases List.mem_cons.mp hw with rfl | hw
  · exact wd_782
  rcases List.mem_cons.mp hw with rfl | hw
  · exact wd_784
  rcases List.mem_cons.mp hw with rfl | hw
  · exact wd_786
  rcases List.mem_cons.mp hw with rfl | hw
  · exact wd_788
  rcases List.mem_cons.mp hw with rfl | hw
  · exact wd_790
  rcases List.mem_cons.mp hw with rfl | hw
  · exact wd_792
  rcases List.mem_cons.mp hw with rfl | hw
  · exact wd_794
  cases hw
theorem in_9 : ∀ w ∈ u_ws "java/lang/IllegalArgumentException" T_9 0, ex_W w := by
  intro w hw
  have hw : w ∈ ([] : List Cond) := hw
  cases hw
theorem in_10 : ∀ w ∈ u_ws "java/lang/IllegalStateException" T_10 0, ex_W w := by
  intro w hw
  have hw : w ∈ ([] : List Cond) := hw
  cases hw
theorem in_11 : ∀ w ∈ u_ws "java/util/NoSuchElementException" T_11 0, ex_W w := by
  intro w hw
  have hw : w ∈ ([] : List Cond) := hw
  cases hw
theorem in_12 : ∀ w ∈ u_ws "java/lang/UnsupportedOperationException" T_12 0, ex_W w := by
  intro w hw
  have hw : w ∈ ([] : List Cond) := hw
  cases hw
theorem cl_in : ∀ (t : Nat) (C : String) (T : u_T) (N : Nat), cl_L[t]? = some (C, T, N) → ∀ w ∈ u_ws C T N, ex_W w := by
  intro t C T N h
  match t, h with
  | 0, h => obtain ⟨⟩ := Option.some.inj h; exact in_0
  | 1, h => obtain ⟨⟩ := Option.some.inj h; exact in_1
  | 2, h => obtain ⟨⟩ := Option.some.inj h; exact in_2
  | 3, h => obtain ⟨⟩ := Option.some.inj h; exact in_3
  | 4, h => obtain ⟨⟩ := Option.some.inj h; exact in_4
  | 5, h => obtain ⟨⟩ := Option.some.inj h; exact in_5
  | 6, h => obtain ⟨⟩ := Option.some.inj h; exact in_6
  | 7, h => obtain ⟨⟩ := Option.some.inj h; exact in_7
  | 8, h => obtain ⟨⟩ := Option.some.inj h; exact in_8
  | 9, h => obtain ⟨⟩ := Option.some.inj h; exact in_9
  | 10, h => obtain ⟨⟩ := Option.some.inj h; exact in_10
  | 11, h => obtain ⟨⟩ := Option.some.inj h; exact in_11
  | 12, h => obtain ⟨⟩ := Option.some.inj h; exact in_12
  | n + 13, h => simp [cl_L] at h
def ty_0 : Nat → FieldType := fun k => match k with
  | 0 => .object "StreamTower$Source"
  | 1 => .array (.object "StreamTower$Stream")
  | 2 => .array .int
  | 3 => .object "StreamTower$Row"
  | 4 => .object "StreamTower$Row"
  | 5 => .object "StreamTower$Stream"
  | 6 => .int
  | 7 => .boolean
  | 8 => .boolean
  | _ => .boolean
theorem tyk_0 : ∀ k, k < 10 → parseFieldDescriptor (T_0 k).2.2.1 = some (ty_0 k) := by decide +kernel
theorem nmk_0 : ∀ a, a < 10 → ∀ b, b < 10 → a ≠ b → (T_0 a).2.1 ≠ (T_0 b).2.1 := by decide +kernel
def ty_1 : Nat → FieldType := fun k => match k with
  | 0 => .array .int
  | _ => .int
theorem tyk_1 : ∀ k, k < 2 → parseFieldDescriptor (T_1 k).2.2.1 = some (ty_1 k) := by decide +kernel
theorem nmk_1 : ∀ a, a < 2 → ∀ b, b < 2 → a ≠ b → (T_1 a).2.1 ≠ (T_1 b).2.1 := by decide +kernel
def ty_2 : Nat → FieldType := fun k => match k with
  | 0 => .array .int
  | 1 => .array .boolean
  | 2 => .array .boolean
  | 3 => .int
  | _ => .int
theorem tyk_2 : ∀ k, k < 5 → parseFieldDescriptor (T_2 k).2.2.1 = some (ty_2 k) := by decide +kernel
theorem nmk_2 : ∀ a, a < 5 → ∀ b, b < 5 → a ≠ b → (T_2 a).2.1 ≠ (T_2 b).2.1 := by decide +kernel
def ty_3 : Nat → FieldType := fun k => match k with
  | 0 => .object "StreamTower$Stream"
  | 1 => .int
  | 2 => .array .int
  | 3 => .int
  | 4 => .int
  | 5 => .int
  | 6 => .boolean
  | _ => .int
theorem tyk_3 : ∀ k, k < 8 → parseFieldDescriptor (T_3 k).2.2.1 = some (ty_3 k) := by decide +kernel
theorem nmk_3 : ∀ a, a < 8 → ∀ b, b < 8 → a ≠ b → (T_3 a).2.1 ≠ (T_3 b).2.1 := by decide +kernel
def ty_4 : Nat → FieldType := fun k => match k with
  | 0 => .object "StreamTower$Stream"
  | 1 => .array .int
  | _ => .int
theorem tyk_4 : ∀ k, k < 3 → parseFieldDescriptor (T_4 k).2.2.1 = some (ty_4 k) := by decide +kernel
theorem nmk_4 : ∀ a, a < 3 → ∀ b, b < 3 → a ≠ b → (T_4 a).2.1 ≠ (T_4 b).2.1 := by decide +kernel
def ty_5 : Nat → FieldType := fun k => match k with
  | 0 => .object "StreamTower$Stream"
  | 1 => .int
  | _ => .int
theorem tyk_5 : ∀ k, k < 3 → parseFieldDescriptor (T_5 k).2.2.1 = some (ty_5 k) := by decide +kernel
theorem nmk_5 : ∀ a, a < 3 → ∀ b, b < 3 → a ≠ b → (T_5 a).2.1 ≠ (T_5 b).2.1 := by decide +kernel
def ty_6 : Nat → FieldType := fun k => match k with
  | 0 => .object "StreamTower$Stream"
  | 1 => .int
  | 2 => .int
  | _ => .int
theorem tyk_6 : ∀ k, k < 4 → parseFieldDescriptor (T_6 k).2.2.1 = some (ty_6 k) := by decide +kernel
theorem nmk_6 : ∀ a, a < 4 → ∀ b, b < 4 → a ≠ b → (T_6 a).2.1 ≠ (T_6 b).2.1 := by decide +kernel
def ty_7 : Nat → FieldType := fun k => match k with
  | 0 => .object "StreamTower$Stream"
  | 1 => .int
  | 2 => .int
  | 3 => .boolean
  | _ => .boolean
theorem tyk_7 : ∀ k, k < 5 → parseFieldDescriptor (T_7 k).2.2.1 = some (ty_7 k) := by decide +kernel
theorem nmk_7 : ∀ a, a < 5 → ∀ b, b < 5 → a ≠ b → (T_7 a).2.1 ≠ (T_7 b).2.1 := by decide +kernel
def ty_8 : Nat → FieldType := fun k => match k with
  | 0 => .int
  | 1 => .array .int
  | 2 => .array .boolean
  | 3 => .array .boolean
  | 4 => .int
  | 5 => .int
  | 6 => .int
  | 7 => .array .int
  | 8 => .array .int
  | 9 => .array .int
  | 10 => .array .int
  | 11 => .array .boolean
  | 12 => .array .boolean
  | 13 => .array .int
  | 14 => .array .int
  | 15 => .array .int
  | 16 => .array .boolean
  | 17 => .array .int
  | 18 => .array .int
  | 19 => .array .int
  | 20 => .int
  | 21 => .boolean
  | 22 => .boolean
  | 23 => .boolean
  | 24 => .array .int
  | 25 => .int
  | 26 => .array .int
  | _ => .int
theorem tyk_8 : ∀ k, k < 28 → parseFieldDescriptor (T_8 k).2.2.1 = some (ty_8 k) := by decide +kernel
theorem nmk_8 : ∀ a, a < 28 → ∀ b, b < 28 → a ≠ b → (T_8 a).2.1 ≠ (T_8 b).2.1 := by decide +kernel
def ty_9 : Nat → FieldType := fun k => match k with
  | _ => .int
theorem tyk_9 : ∀ k, k < 0 → parseFieldDescriptor (T_9 k).2.2.1 = some (ty_9 k) := by decide +kernel
theorem nmk_9 : ∀ a, a < 0 → ∀ b, b < 0 → a ≠ b → (T_9 a).2.1 ≠ (T_9 b).2.1 := by decide +kernel
def ty_10 : Nat → FieldType := fun k => match k with
  | _ => .int
theorem tyk_10 : ∀ k, k < 0 → parseFieldDescriptor (T_10 k).2.2.1 = some (ty_10 k) := by decide +kernel
theorem nmk_10 : ∀ a, a < 0 → ∀ b, b < 0 → a ≠ b → (T_10 a).2.1 ≠ (T_10 b).2.1 := by decide +kernel
def ty_11 : Nat → FieldType := fun k => match k with
  | _ => .int
theorem tyk_11 : ∀ k, k < 0 → parseFieldDescriptor (T_11 k).2.2.1 = some (ty_11 k) := by decide +kernel
theorem nmk_11 : ∀ a, a < 0 → ∀ b, b < 0 → a ≠ b → (T_11 a).2.1 ≠ (T_11 b).2.1 := by decide +kernel
def ty_12 : Nat → FieldType := fun k => match k with
  | _ => .int
theorem tyk_12 : ∀ k, k < 0 → parseFieldDescriptor (T_12 k).2.2.1 = some (ty_12 k) := by decide +kernel
theorem nmk_12 : ∀ a, a < 0 → ∀ b, b < 0 → a ≠ b → (T_12 a).2.1 ≠ (T_12 b).2.1 := by decide +kernel
theorem cl_ty : ∀ (t : Nat) (C : String) (T : u_T) (N : Nat), cl_L[t]? = some (C, T, N) → ∃ ty : Nat → FieldType, ∀ k, k < N → parseFieldDescriptor (T k).2.2.1 = some (ty k) := by
  intro t C T N h
  match t, h with
  | 0, h => obtain ⟨⟩ := Option.some.inj h; exact ⟨_, tyk_0⟩
  | 1, h => obtain ⟨⟩ := Option.some.inj h; exact ⟨_, tyk_1⟩
  | 2, h => obtain ⟨⟩ := Option.some.inj h; exact ⟨_, tyk_2⟩
  | 3, h => obtain ⟨⟩ := Option.some.inj h; exact ⟨_, tyk_3⟩
  | 4, h => obtain ⟨⟩ := Option.some.inj h; exact ⟨_, tyk_4⟩
  | 5, h => obtain ⟨⟩ := Option.some.inj h; exact ⟨_, tyk_5⟩
  | 6, h => obtain ⟨⟩ := Option.some.inj h; exact ⟨_, tyk_6⟩
  | 7, h => obtain ⟨⟩ := Option.some.inj h; exact ⟨_, tyk_7⟩
  | 8, h => obtain ⟨⟩ := Option.some.inj h; exact ⟨_, tyk_8⟩
  | 9, h => obtain ⟨⟩ := Option.some.inj h; exact ⟨_, tyk_9⟩
  | 10, h => obtain ⟨⟩ := Option.some.inj h; exact ⟨_, tyk_10⟩
  | 11, h => obtain ⟨⟩ := Option.some.inj h; exact ⟨_, tyk_11⟩
  | 12, h => obtain ⟨⟩ := Option.some.inj h; exact ⟨_, tyk_12⟩
  | n + 13, h => simp [cl_L] at h
theorem cl_nm : ∀ (t : Nat) (C : String) (T : u_T) (N : Nat), cl_L[t]? = some (C, T, N) → ∀ a, a < N → ∀ b, b < N → a ≠ b → (T a).2.1 ≠ (T b).2.1 := by
  intro t C T N h
  match t, h with
  | 0, h => obtain ⟨⟩ := Option.some.inj h; exact nmk_0
  | 1, h => obtain ⟨⟩ := Option.some.inj h; exact nmk_1
  | 2, h => obtain ⟨⟩ := Option.some.inj h; exact nmk_2
  | 3, h => obtain ⟨⟩ := Option.some.inj h; exact nmk_3
  | 4, h => obtain ⟨⟩ := Option.some.inj h; exact nmk_4
  | 5, h => obtain ⟨⟩ := Option.some.inj h; exact nmk_5
  | 6, h => obtain ⟨⟩ := Option.some.inj h; exact nmk_6
  | 7, h => obtain ⟨⟩ := Option.some.inj h; exact nmk_7
  | 8, h => obtain ⟨⟩ := Option.some.inj h; exact nmk_8
  | 9, h => obtain ⟨⟩ := Option.some.inj h; exact nmk_9
  | 10, h => obtain ⟨⟩ := Option.some.inj h; exact nmk_10
  | 11, h => obtain ⟨⟩ := Option.some.inj h; exact nmk_11
  | 12, h => obtain ⟨⟩ := Option.some.inj h; exact nmk_12
  | n + 13, h => simp [cl_L] at h
