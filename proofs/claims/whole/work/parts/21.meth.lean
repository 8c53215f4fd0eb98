/-! THE METHODS: name, code, locals, answer, frames and words of locals that they need, handlers (written by a program) -/
abbrev M_Hp_init : Md := (⟨RX6, "<init>", "()V"⟩, prog_1_method_1_code, 1, none, 3, 60, [])
abbrev M_Nw_init : Md := (⟨RX1, "<init>", "()V"⟩, prog_3_method_1_code, 1, none, 1, 20, [])
abbrev M_Rd_init : Md := (⟨RX2, "<init>", "()V"⟩, prog_4_method_1_code, 1, none, 2, 40, [])
abbrev M_Hp_begin : Md := (⟨RX6, "begin", "()I"⟩, prog_1_method_2_code, 2, some (.int), 1, 21, [])
abbrev M_Nw_reset : Md := (⟨RX1, "reset", "()V"⟩, prog_3_method_2_code, 2, none, 0, 0, [])
abbrev M_Hp_save : Md := (⟨RX6, "save", "()I"⟩, prog_1_method_7_code, 1, some (.int), 6, 129, [])
abbrev M_Nw_copyFrom : Md := (⟨RX1, "copyFrom", "(LHolePuncher$Network;)V"⟩, prog_3_method_3_code, 5, none, 5, 105, [])
abbrev M_Nw_nodeAt : Md := (⟨RX1, "nodeAt", "(I)LHolePuncher$Node;"⟩, prog_3_method_5_code, 3, some (.object "HolePuncher$Node"), 0, 0, [])
abbrev M_Nw_nextNode : Md := (⟨RX1, "nextNode", "()LHolePuncher$Node;"⟩, prog_3_method_11_code, 1, some (.object "HolePuncher$Node"), 2, 40, [])
abbrev M_No_init : Md := (⟨RX3, "<init>", "()V"⟩, prog_5_method_1_code, 1, none, 1, 20, [])
abbrev M_No_copyFrom : Md := (⟨RX3, "copyFrom", "(LHolePuncher$Node;)V"⟩, prog_5_method_5_code, 2, none, 4, 84, [])
abbrev M_No_becomeHost : Md := (⟨RX3, "becomeHost", "(I)V"⟩, prog_5_method_3_code, 2, none, 0, 0, [])
abbrev M_No_becomeTranslator : Md := (⟨RX3, "becomeTranslator", "(I)LHolePuncher$Translator;"⟩, prog_5_method_4_code, 2, some (.object "HolePuncher$Translator"), 2, 40, [])
abbrev M_Tl_init : Md := (⟨RX5, "<init>", "()V"⟩, prog_7_method_1_code, 1, none, 1, 20, [])
abbrev M_Tl_copyFrom : Md := (⟨RX5, "copyFrom", "(LHolePuncher$Translator;)V"⟩, prog_7_method_3_code, 5, none, 3, 60, [])
abbrev M_Tl_mappingAt : Md := (⟨RX5, "mappingAt", "(I)LHolePuncher$Mapping;"⟩, prog_7_method_4_code, 3, some (.object "HolePuncher$Mapping"), 0, 0, [])
abbrev M_Tl_nextMapping : Md := (⟨RX5, "nextMapping", "()LHolePuncher$Mapping;"⟩, prog_7_method_8_code, 1, some (.object "HolePuncher$Mapping"), 2, 40, [])
abbrev M_Mp_init : Md := (⟨RX0, "<init>", "()V"⟩, prog_2_method_1_code, 1, none, 1, 20, [])
abbrev M_Mp_copyFrom : Md := (⟨RX0, "copyFrom", "(LHolePuncher$Mapping;)V"⟩, prog_2_method_3_code, 3, none, 1, 23, [])
abbrev M_Mp_reset : Md := (⟨RX0, "reset", "(III)V"⟩, prog_2_method_2_code, 4, none, 0, 0, [])
abbrev M_Hp_clearBuffer : Md := (⟨RX6, "clearBuffer", "()I"⟩, prog_1_method_10_code, 2, some (.int), 0, 0, [])
abbrev M_Hp_firstError : Md := (⟨RX6, "firstError", "()I"⟩, prog_1_method_11_code, 1, some (.int), 7, 151, [])
abbrev M_Rd_readAll : Md := (⟨RX2, "readAll", "([II)I"⟩, prog_4_method_2_code, 4, some (.int), 6, 128, [])
abbrev M_Rd_takes : Md := (⟨RX2, "takes", "(I)Z"⟩, prog_4_method_4_code, 2, some (.boolean), 5, 107, [])
abbrev M_Rd_takesInNet : Md := (⟨RX2, "takesInNet", "(I)Z"⟩, prog_4_method_5_code, 2, some (.boolean), 4, 82, [])
abbrev M_Nw_newHost : Md := (⟨RX1, "newHost", "(I)I"⟩, prog_3_method_9_code, 3, some (.int), 3, 60, [])
abbrev M_Nw_isFull : Md := (⟨RX1, "isFull", "()Z"⟩, prog_3_method_4_code, 1, some (.boolean), 0, 0, [])
abbrev M_Rd_leavesNet : Md := (⟨RX2, "leavesNet", "()Z"⟩, prog_4_method_6_code, 1, some (.boolean), 2, 44, [])
abbrev M_Nw_netOf : Md := (⟨RX1, "netOf", "(I)I"⟩, prog_3_method_8_code, 3, some (.int), 1, 22, [])
abbrev M_Rd_takesDigit : Md := (⟨RX2, "takesDigit", "(I)Z"⟩, prog_4_method_7_code, 2, some (.boolean), 0, 0, [])
abbrev M_Rd_takesOpening : Md := (⟨RX2, "takesOpening", "(I)Z"⟩, prog_4_method_8_code, 2, some (.boolean), 4, 86, [])
abbrev M_Nw_newTranslator : Md := (⟨RX1, "newTranslator", "(IIII)I"⟩, prog_3_method_10_code, 6, some (.int), 3, 61, [])
abbrev M_Tl_reset : Md := (⟨RX5, "reset", "(IIII)V"⟩, prog_7_method_2_code, 5, none, 0, 0, [])
abbrev M_Hp_delivery : Md := (⟨RX6, "delivery", "()D"⟩, prog_1_method_28_code, 1, some (.double), 0, 0, [])
abbrev M_Hp_digest : Md := (⟨RX6, "digest", "()J"⟩, prog_1_method_29_code, 4, some (.long), 6, 140, [])
abbrev M_Hp_total : Md := (⟨RX6, "total", "(I)I"⟩, prog_1_method_33_code, 2, some (.int), 5, 112, [])
abbrev M_Nw_total : Md := (⟨RX1, "total", "(I)I"⟩, prog_3_method_18_code, 2, some (.int), 4, 91, [])
abbrev M_Nw_hostsBehind : Md := (⟨RX1, "hostsBehind", "(I)I"⟩, prog_3_method_22_code, 4, some (.int), 3, 68, [])
abbrev M_Nw_hostAt : Md := (⟨RX1, "hostAt", "(I)LHolePuncher$Node;"⟩, prog_3_method_6_code, 3, some (.object "HolePuncher$Node"), 1, 22, [])
abbrev M_Nw_isBehind : Md := (⟨RX1, "isBehind", "(II)Z"⟩, prog_3_method_23_code, 5, some (.boolean), 2, 44, [])
abbrev M_Nw_mappingTotal : Md := (⟨RX1, "mappingTotal", "()I"⟩, prog_3_method_19_code, 4, some (.int), 2, 44, [])
abbrev M_Nw_translatorAt : Md := (⟨RX1, "translatorAt", "(I)LHolePuncher$Translator;"⟩, prog_3_method_7_code, 3, some (.object "HolePuncher$Translator"), 1, 22, [])
abbrev M_Hp_mixNode : Md := (⟨RX6, "mixNode", "(JI)J"⟩, prog_1_method_30_code, 7, some (.long), 5, 114, [])
abbrev M_Nw_nodeProperty : Md := (⟨RX1, "nodeProperty", "(II)I"⟩, prog_3_method_20_code, 4, some (.int), 4, 91, [])
abbrev M_Nw_depthOf : Md := (⟨RX1, "depthOf", "(I)I"⟩, prog_3_method_21_code, 4, some (.int), 2, 44, [])
abbrev M_No_hasDelivery : Md := (⟨RX3, "hasDelivery", "()Z"⟩, prog_5_method_2_code, 1, some (.boolean), 0, 0, [])
abbrev M_Hp_nodeOf : Md := (⟨RX6, "nodeOf", "(I)I"⟩, prog_1_method_40_code, 1, some (.int), 0, 0, [])
abbrev M_Hp_portOf : Md := (⟨RX6, "portOf", "(I)I"⟩, prog_1_method_41_code, 1, some (.int), 0, 0, [])
abbrev M_Hp_mixTranslator : Md := (⟨RX6, "mixTranslator", "(JLHolePuncher$Translator;)J"⟩, prog_1_method_31_code, 8, some (.long), 3, 68, [])
abbrev M_Tl_property : Md := (⟨RX5, "property", "(I)I"⟩, prog_7_method_17_code, 2, some (.int), 1, 21, [])
abbrev M_Tl_setting : Md := (⟨RX5, "setting", "(I)I"⟩, prog_7_method_15_code, 2, some (.int), 0, 0, [])
abbrev M_Tl_ticksLeft : Md := (⟨RX5, "ticksLeft", "(LHolePuncher$Mapping;I)I"⟩, prog_7_method_13_code, 3, some (.int), 0, 0, [])
abbrev M_Hp_mixMapping : Md := (⟨RX6, "mixMapping", "(JLHolePuncher$Mapping;I)J"⟩, prog_1_method_32_code, 7, some (.long), 2, 42, [])
abbrev M_Mp_property : Md := (⟨RX0, "property", "(II)I"⟩, prog_2_method_8_code, 3, some (.int), 1, 20, [])
abbrev M_Lw_addHost : Md := (⟨RL, "addHost", "(LHolePuncher;I[J)I"⟩, method_3_code, 4, some (.int), 8, 132, [(0, 9, 12, 13), (0, 9, 15, 15)])
abbrev M_Hp_addHost : Md := (⟨RX6, "addHost", "(I)I"⟩, prog_1_method_3_code, 2, some (.int), 7, 111, [])
abbrev M_Hp_checkNet : Md := (⟨RX6, "checkNet", "(I)V"⟩, prog_1_method_34_code, 2, none, 6, 90, [])
abbrev M_Lw_addTranslator : Md := (⟨RL, "addTranslator", "(LHolePuncher;IIII[J)I"⟩, method_4_code, 7, some (.int), 8, 135, [(0, 14, 17, 13), (0, 14, 21, 21), (0, 14, 25, 15)])
abbrev M_Hp_addTranslator : Md := (⟨RX6, "addTranslator", "(IIII)I"⟩, prog_1_method_4_code, 5, some (.int), 7, 111, [])
abbrev M_Hp_isWithin : Md := (⟨RX6, "isWithin", "(III)Z"⟩, prog_1_method_37_code, 3, some (.boolean), 0, 0, [])
abbrev M_Lw_setNumber : Md := (⟨RL, "setNumber", "(LHolePuncher;III[J)I"⟩, method_5_code, 6, some (.int), 7, 115, [(0, 12, 15, 13), (0, 12, 19, 21)])
abbrev M_Hp_setNumber : Md := (⟨RX6, "setNumber", "(III)I"⟩, prog_1_method_5_code, 6, some (.int), 6, 90, [])
abbrev M_Hp_isSetting : Md := (⟨RX6, "isSetting", "(II)Z"⟩, prog_1_method_36_code, 2, some (.boolean), 1, 22, [])
abbrev M_Tl_change : Md := (⟨RX5, "change", "(II)V"⟩, prog_7_method_16_code, 3, none, 0, 0, [])
abbrev M_Tl_dropDead : Md := (⟨RX5, "dropDead", "(I)I"⟩, prog_7_method_14_code, 6, some (.int), 1, 22, [])
abbrev M_Lw_pass : Md := (⟨RL, "pass", "(LHolePuncher;I[J)I"⟩, method_6_code, 4, some (.int), 7, 111, [(0, 9, 12, 21), (0, 9, 15, 15)])
abbrev M_Hp_pass : Md := (⟨RX6, "pass", "(I)I"⟩, prog_1_method_6_code, 2, some (.int), 6, 90, [])
abbrev M_Nw_advance : Md := (⟨RX1, "advance", "(I)I"⟩, prog_3_method_12_code, 5, some (.int), 2, 47, [])
abbrev M_Lw_restore : Md := (⟨RL, "restore", "(LHolePuncher;[J)I"⟩, method_7_code, 3, some (.int), 7, 149, [(0, 8, 11, 15)])
abbrev M_Hp_restore : Md := (⟨RX6, "restore", "()I"⟩, prog_1_method_8_code, 1, some (.int), 6, 129, [])
abbrev M_Lw_append : Md := (⟨RL, "append", "(LHolePuncher;I[J)I"⟩, method_8_code, 4, some (.int), 7, 111, [(0, 9, 12, 21), (0, 9, 15, 15)])
abbrev M_Hp_append : Md := (⟨RX6, "append", "(I)I"⟩, prog_1_method_9_code, 2, some (.int), 6, 90, [])
abbrev M_Lw_load : Md := (⟨RL, "load", "(LHolePuncher;[J)I"⟩, method_9_code, 3, some (.int), 8, 172, [(0, 8, 11, 21)])
abbrev M_Hp_load : Md := (⟨RX6, "load", "()I"⟩, prog_1_method_12_code, 2, some (.int), 7, 151, [])
abbrev M_Rd_isComplete : Md := (⟨RX2, "isComplete", "()Z"⟩, prog_4_method_3_code, 1, some (.boolean), 0, 0, [])
abbrev M_Lw_send : Md := (⟨RL, "send", "(LHolePuncher;IIII[J)I"⟩, method_10_code, 7, some (.int), 8, 163, [(0, 14, 17, 13), (0, 14, 21, 21)])
abbrev M_Hp_send : Md := (⟨RX6, "send", "(IIII)I"⟩, prog_1_method_13_code, 5, some (.int), 7, 139, [])
abbrev M_Hp_checkPacket : Md := (⟨RX6, "checkPacket", "(IIII)V"⟩, prog_1_method_35_code, 5, none, 6, 90, [])
abbrev M_Hp_isPort : Md := (⟨RX6, "isPort", "(I)Z"⟩, prog_1_method_38_code, 1, some (.boolean), 0, 0, [])
abbrev M_Hp_endpoint : Md := (⟨RX6, "endpoint", "(II)I"⟩, prog_1_method_39_code, 2, some (.int), 0, 0, [])
abbrev M_Nw_carry : Md := (⟨RX1, "carry", "(II)I"⟩, prog_3_method_13_code, 6, some (.int), 5, 114, [])
abbrev M_Nw_goOut : Md := (⟨RX1, "goOut", "(II)I"⟩, prog_3_method_14_code, 11, some (.int), 4, 84, [])
abbrev M_Tl_mappingOut : Md := (⟨RX5, "mappingOut", "(II)LHolePuncher$Mapping;"⟩, prog_7_method_5_code, 6, some (.object "HolePuncher$Mapping"), 2, 42, [])
abbrev M_Tl_keyFor : Md := (⟨RX5, "keyFor", "(I)I"⟩, prog_7_method_9_code, 2, some (.int), 1, 21, [])
abbrev M_Tl_newMapping : Md := (⟨RX5, "newMapping", "(II)LHolePuncher$Mapping;"⟩, prog_7_method_7_code, 5, some (.object "HolePuncher$Mapping"), 3, 60, [])
abbrev M_Tl_keptPort : Md := (⟨RX5, "keptPort", "(I)I"⟩, prog_7_method_10_code, 3, some (.int), 1, 23, [])
abbrev M_Tl_mappingIn : Md := (⟨RX5, "mappingIn", "(I)LHolePuncher$Mapping;"⟩, prog_7_method_6_code, 4, some (.object "HolePuncher$Mapping"), 0, 0, [])
abbrev M_Tl_countedPort : Md := (⟨RX5, "countedPort", "()I"⟩, prog_7_method_11_code, 3, some (.int), 1, 23, [])
abbrev M_Tl_randomPort : Md := (⟨RX5, "randomPort", "()I"⟩, prog_7_method_12_code, 3, some (.int), 1, 23, [])
abbrev M_Mp_addContact : Md := (⟨RX0, "addContact", "(I)V"⟩, prog_2_method_4_code, 4, none, 1, 22, [])
abbrev M_Mp_contactPlace : Md := (⟨RX0, "contactPlace", "(I)I"⟩, prog_2_method_5_code, 3, some (.int), 0, 0, [])
abbrev M_Ma_max : Md := (⟨"java/lang/Math", "max", "(II)I"⟩, prog_14_method_65_code, 2, some (.int), 0, 0, [])
abbrev M_Nw_comeIn : Md := (⟨RX1, "comeIn", "(II)I"⟩, prog_3_method_15_code, 8, some (.int), 3, 64, [])
abbrev M_Mp_admits : Md := (⟨RX0, "admits", "(II)Z"⟩, prog_2_method_6_code, 3, some (.boolean), 2, 42, [])
abbrev M_Mp_hasContactAt : Md := (⟨RX0, "hasContactAt", "(I)Z"⟩, prog_2_method_7_code, 3, some (.boolean), 1, 20, [])
abbrev M_Lw_reply : Md := (⟨RL, "reply", "(LHolePuncher;I[J)I"⟩, method_11_code, 4, some (.int), 7, 161, [(0, 9, 12, 13), (0, 9, 15, 15)])
abbrev M_Hp_reply : Md := (⟨RX6, "reply", "(I)I"⟩, prog_1_method_14_code, 3, some (.int), 6, 139, [])
abbrev M_Lw_keepAlive : Md := (⟨RL, "keepAlive", "(LHolePuncher;IIIIII[J)I"⟩, method_12_code, 9, some (.int), 8, 167, [(0, 18, 21, 13), (0, 18, 25, 21), (0, 18, 29, 15)])
abbrev M_Hp_keepAlive : Md := (⟨RX6, "keepAlive", "(IIIIII)I"⟩, prog_1_method_15_code, 9, some (.int), 7, 139, [])
abbrev M_Lw_punch : Md := (⟨RL, "punch", "(LHolePuncher;IIIZ[J)I"⟩, method_13_code, 7, some (.int), 8, 191, [(0, 14, 17, 13), (0, 14, 21, 21), (0, 14, 25, 15)])
abbrev M_Hp_punch : Md := (⟨RX6, "punch", "(IIIZ)I"⟩, prog_1_method_16_code, 8, some (.int), 7, 164, [])
abbrev M_Hp_checkPunch : Md := (⟨RX6, "checkPunch", "(III)V"⟩, prog_1_method_17_code, 4, none, 6, 90, [])
abbrev M_Pe_init : Md := (⟨RX4, "<init>", "(I)V"⟩, prog_6_method_1_code, 2, none, 1, 21, [])
abbrev M_Hp_showItself : Md := (⟨RX6, "showItself", "(LHolePuncher$Peer;II)Z"⟩, prog_1_method_18_code, 6, some (.boolean), 6, 139, [])
abbrev M_Hp_predicted : Md := (⟨RX6, "predicted", "(II)I"⟩, prog_1_method_19_code, 3, some (.int), 1, 21, [])
abbrev M_Hp_knock : Md := (⟨RX6, "knock", "(LHolePuncher$Peer;LHolePuncher$Peer;)V"⟩, prog_1_method_20_code, 5, none, 6, 139, [])
abbrev M_Lw_ifSent : Md := (⟨RL, "ifSent", "(LHolePuncher;IIII[J)I"⟩, method_14_code, 7, some (.int), 8, 163, [(0, 14, 17, 13), (0, 14, 21, 21)])
abbrev M_Hp_ifSent : Md := (⟨RX6, "ifSent", "(IIII)I"⟩, prog_1_method_21_code, 5, some (.int), 7, 139, [])
abbrev M_Lw_count : Md := (⟨RL, "count", "(LHolePuncher;I[J)I"⟩, method_15_code, 4, some (.int), 7, 154, [(0, 9, 12, 21)])
abbrev M_Hp_count : Md := (⟨RX6, "count", "(I)I"⟩, prog_1_method_22_code, 2, some (.int), 6, 133, [])
abbrev M_Lw_node : Md := (⟨RL, "node", "(LHolePuncher;II[J)I"⟩, method_16_code, 5, some (.int), 7, 136, [(0, 10, 13, 13), (0, 10, 17, 21)])
abbrev M_Hp_node : Md := (⟨RX6, "node", "(II)I"⟩, prog_1_method_23_code, 3, some (.int), 6, 114, [])
abbrev M_Lw_translator : Md := (⟨RL, "translator", "(LHolePuncher;II[J)I"⟩, method_17_code, 5, some (.int), 7, 113, [(0, 10, 13, 13), (0, 10, 17, 21)])
abbrev M_Hp_translator : Md := (⟨RX6, "translator", "(II)I"⟩, prog_1_method_24_code, 4, some (.int), 6, 90, [])
abbrev M_Lw_mapping : Md := (⟨RL, "mapping", "(LHolePuncher;III[J)I"⟩, method_18_code, 6, some (.int), 7, 115, [(0, 12, 15, 13), (0, 12, 19, 21)])
abbrev M_Hp_mapping : Md := (⟨RX6, "mapping", "(III)I"⟩, prog_1_method_25_code, 6, some (.int), 6, 90, [])
abbrev M_Lw_timeLeft : Md := (⟨RL, "timeLeft", "(LHolePuncher;IIII[J)I"⟩, method_19_code, 7, some (.int), 8, 138, [(0, 14, 17, 13), (0, 14, 21, 21)])
abbrev M_Hp_timeLeft : Md := (⟨RX6, "timeLeft", "(IIII)I"⟩, prog_1_method_26_code, 5, some (.int), 7, 114, [])
abbrev M_Nw_leastTicksLeft : Md := (⟨RX1, "leastTicksLeft", "(II)I"⟩, prog_3_method_16_code, 11, some (.int), 3, 67, [])
abbrev M_Ma_min : Md := (⟨"java/lang/Math", "min", "(II)I"⟩, prog_14_method_69_code, 2, some (.int), 0, 0, [])
abbrev M_Lw_common : Md := (⟨RL, "common", "(LHolePuncher;II[J)I"⟩, method_20_code, 5, some (.int), 7, 112, [(0, 10, 13, 13)])
abbrev M_Hp_common : Md := (⟨RX6, "common", "(II)I"⟩, prog_1_method_27_code, 3, some (.int), 6, 90, [])
abbrev M_Nw_commonNet : Md := (⟨RX1, "commonNet", "(II)I"⟩, prog_3_method_17_code, 6, some (.int), 2, 44, [])
abbrev M_Mo_init : Md := (⟨RX7, "<init>", "()V"⟩, prog_9_method_1_code, 1, none, 1, 20, [])
abbrev M_Mo_thrown : Md := (⟨RX7, "thrown", "()I"⟩, prog_9_method_2_code, 1, some (.int), 0, 0, [])
abbrev M_Mo_begin : Md := (⟨RX7, "begin", "()I"⟩, prog_9_method_12_code, 2, some (.int), 1, 21, [])
abbrev M_Mo_fresh : Md := (⟨RX7, "fresh", "()V"⟩, prog_9_method_11_code, 2, none, 0, 0, [])
abbrev M_Mo_addHost : Md := (⟨RX7, "addHost", "(I)I"⟩, prog_9_method_16_code, 2, some (.int), 4, 85, [])
abbrev M_Mo_isNet : Md := (⟨RX7, "isNet", "(I)Z"⟩, prog_9_method_13_code, 2, some (.boolean), 3, 64, [])
abbrev M_Mo_isTranslator : Md := (⟨RX7, "isTranslator", "(I)Z"⟩, prog_9_method_8_code, 2, some (.boolean), 2, 43, [])
abbrev M_Mo_isNode : Md := (⟨RX7, "isNode", "(I)Z"⟩, prog_9_method_7_code, 2, some (.boolean), 1, 22, [])
abbrev M_Mo_within : Md := (⟨RX7, "within", "(III)Z"⟩, prog_9_method_3_code, 3, some (.boolean), 0, 0, [])
abbrev M_Mo_at : Md := (⟨RX7, "at", "(II)I"⟩, prog_9_method_4_code, 2, some (.int), 0, 0, [])
abbrev M_Mo_add : Md := (⟨RX7, "add", "(I)I"⟩, prog_9_method_14_code, 3, some (.int), 1, 21, [])
abbrev M_Mo_addTranslator : Md := (⟨RX7, "addTranslator", "(IIII)I"⟩, prog_9_method_17_code, 6, some (.int), 4, 85, [])
abbrev M_Mo_addTranslatorTo : Md := (⟨RX7, "addTranslatorTo", "(IIII)I"⟩, prog_9_method_15_code, 6, some (.int), 2, 43, [])
abbrev M_Mo_setNumber : Md := (⟨RX7, "setNumber", "(III)I"⟩, prog_9_method_18_code, 6, some (.int), 3, 69, [])
abbrev M_Mo_dropDead : Md := (⟨RX7, "dropDead", "()I"⟩, prog_9_method_21_code, 4, some (.int), 2, 46, [])
abbrev M_Mo_lives : Md := (⟨RX7, "lives", "(II)I"⟩, prog_9_method_20_code, 3, some (.int), 1, 22, [])
abbrev M_Mo_map : Md := (⟨RX7, "map", "(III)I"⟩, prog_9_method_5_code, 3, some (.int), 0, 0, [])
abbrev M_Mo_drop : Md := (⟨RX7, "drop", "(II)V"⟩, prog_9_method_19_code, 5, none, 1, 22, [])
abbrev M_Mo_contact : Md := (⟨RX7, "contact", "(III)I"⟩, prog_9_method_6_code, 3, some (.int), 0, 0, [])
abbrev M_Mo_pass : Md := (⟨RX7, "pass", "(I)I"⟩, prog_9_method_23_code, 2, some (.int), 4, 90, [])
abbrev M_Mo_passes : Md := (⟨RX7, "passes", "(I)I"⟩, prog_9_method_22_code, 2, some (.int), 3, 69, [])
abbrev M_Mo_save : Md := (⟨RX7, "save", "()I"⟩, prog_9_method_24_code, 2, some (.int), 0, 0, [])
abbrev M_Mo_restore : Md := (⟨RX7, "restore", "()I"⟩, prog_9_method_25_code, 2, some (.int), 0, 0, [])
abbrev M_Mo_append : Md := (⟨RX7, "append", "(I)I"⟩, prog_9_method_26_code, 2, some (.int), 1, 22, [])
abbrev M_Mo_clearBuffer : Md := (⟨RX7, "clearBuffer", "()I"⟩, prog_9_method_27_code, 2, some (.int), 0, 0, [])
abbrev M_Mo_firstError : Md := (⟨RX7, "firstError", "()I"⟩, prog_9_method_30_code, 1, some (.int), 3, 65, [])
abbrev M_Mo_read : Md := (⟨RX7, "read", "()I"⟩, prog_9_method_29_code, 2, some (.int), 2, 44, [])
abbrev M_Mo_takes : Md := (⟨RX7, "takes", "(I)Z"⟩, prog_9_method_28_code, 3, some (.boolean), 1, 22, [])
abbrev M_Mo_load : Md := (⟨RX7, "load", "()I"⟩, prog_9_method_32_code, 1, some (.int), 4, 90, [])
abbrev M_Mo_build : Md := (⟨RX7, "build", "()V"⟩, prog_9_method_31_code, 3, none, 3, 68, [])
abbrev M_Mo_send : Md := (⟨RX7, "send", "(IIII)I"⟩, prog_9_method_47_code, 5, some (.int), 7, 172, [])
abbrev M_Mo_wrongPacket : Md := (⟨RX7, "wrongPacket", "(IIII)I"⟩, prog_9_method_46_code, 5, some (.int), 3, 64, [])
abbrev M_Mo_isHost : Md := (⟨RX7, "isHost", "(I)Z"⟩, prog_9_method_9_code, 2, some (.boolean), 2, 43, [])
abbrev M_Mo_isPort : Md := (⟨RX7, "isPort", "(I)Z"⟩, prog_9_method_10_code, 1, some (.boolean), 1, 22, [])
abbrev M_Mo_sends : Md := (⟨RX7, "sends", "(IIII)I"⟩, prog_9_method_45_code, 6, some (.int), 6, 147, [])
abbrev M_Mo_travel : Md := (⟨RX7, "travel", "(IIII)I"⟩, prog_9_method_44_code, 7, some (.int), 5, 121, [])
abbrev M_Mo_goesOut : Md := (⟨RX7, "goesOut", "(III)Z"⟩, prog_9_method_40_code, 5, some (.boolean), 4, 97, [])
abbrev M_Mo_mappingFor : Md := (⟨RX7, "mappingFor", "(IIIII)I"⟩, prog_9_method_34_code, 10, some (.int), 1, 22, [])
abbrev M_Mo_make : Md := (⟨RX7, "make", "(IIIII)I"⟩, prog_9_method_39_code, 9, some (.int), 3, 69, [])
abbrev M_Mo_freshPort : Md := (⟨RX7, "freshPort", "(II)I"⟩, prog_9_method_37_code, 4, some (.int), 2, 46, [])
abbrev M_Mo_hasOuter : Md := (⟨RX7, "hasOuter", "(II)Z"⟩, prog_9_method_33_code, 5, some (.boolean), 1, 22, [])
abbrev M_Mo_goOn : Md := (⟨RX7, "goOn", "(I)V"⟩, prog_9_method_35_code, 3, none, 1, 21, [])
abbrev M_Mo_drawn : Md := (⟨RX7, "drawn", "(I)I"⟩, prog_9_method_36_code, 2, some (.int), 1, 21, [])
abbrev M_Mo_meet : Md := (⟨RX7, "meet", "(IIII)V"⟩, prog_9_method_38_code, 12, none, 1, 22, [])
abbrev M_Mo_comesIn : Md := (⟨RX7, "comesIn", "(II)I"⟩, prog_9_method_43_code, 6, some (.int), 3, 64, [])
abbrev M_Mo_passesFilter : Md := (⟨RX7, "passesFilter", "(II)Z"⟩, prog_9_method_41_code, 7, some (.boolean), 1, 22, [])
abbrev M_Mo_deliver : Md := (⟨RX7, "deliver", "(II)I"⟩, prog_9_method_42_code, 3, some (.int), 1, 21, [])
abbrev M_Mo_reply : Md := (⟨RX7, "reply", "(I)I"⟩, prog_9_method_48_code, 2, some (.int), 7, 172, [])
abbrev M_Mo_keepAlive : Md := (⟨RX7, "keepAlive", "(IIIIII)I"⟩, prog_9_method_49_code, 10, some (.int), 7, 172, [])
abbrev M_Mo_punch : Md := (⟨RX7, "punch", "(IIIZ)I"⟩, prog_9_method_53_code, 6, some (.int), 9, 225, [])
abbrev M_Mo_punches : Md := (⟨RX7, "punches", "(IIIZ)I"⟩, prog_9_method_52_code, 7, some (.int), 8, 199, [])
abbrev M_Mo_shows : Md := (⟨RX7, "shows", "(IIIIZ)Z"⟩, prog_9_method_50_code, 8, some (.boolean), 7, 172, [])
abbrev M_Mo_tries : Md := (⟨RX7, "tries", "(III)V"⟩, prog_9_method_51_code, 4, none, 7, 172, [])
abbrev M_Mo_ifSent : Md := (⟨RX7, "ifSent", "(IIII)I"⟩, prog_9_method_54_code, 7, some (.int), 6, 147, [])
abbrev M_Mo_count : Md := (⟨RX7, "count", "(I)I"⟩, prog_9_method_58_code, 2, some (.int), 5, 107, [])
abbrev M_Mo_counted : Md := (⟨RX7, "counted", "(I)I"⟩, prog_9_method_57_code, 2, some (.int), 4, 86, [])
abbrev M_Mo_hosts : Md := (⟨RX7, "hosts", "()I"⟩, prog_9_method_55_code, 3, some (.int), 3, 64, [])
abbrev M_Mo_mappings : Md := (⟨RX7, "mappings", "()I"⟩, prog_9_method_56_code, 3, some (.int), 1, 21, [])
abbrev M_Mo_node : Md := (⟨RX7, "node", "(II)I"⟩, prog_9_method_63_code, 3, some (.int), 5, 109, [])
abbrev M_Mo_nodeNow : Md := (⟨RX7, "nodeNow", "(II)I"⟩, prog_9_method_62_code, 3, some (.int), 4, 87, [])
abbrev M_Mo_depth : Md := (⟨RX7, "depth", "(I)I"⟩, prog_9_method_59_code, 4, some (.int), 1, 21, [])
abbrev M_Mo_hostsBehind : Md := (⟨RX7, "hostsBehind", "(I)I"⟩, prog_9_method_61_code, 4, some (.int), 3, 64, [])
abbrev M_Mo_isBehind : Md := (⟨RX7, "isBehind", "(II)Z"⟩, prog_9_method_60_code, 4, some (.boolean), 1, 21, [])
abbrev M_Mo_translator : Md := (⟨RX7, "translator", "(II)I"⟩, prog_9_method_65_code, 3, some (.int), 3, 64, [])
abbrev M_Mo_translatorNow : Md := (⟨RX7, "translatorNow", "(II)I"⟩, prog_9_method_64_code, 3, some (.int), 1, 21, [])
abbrev M_Mo_mapping : Md := (⟨RX7, "mapping", "(III)I"⟩, prog_9_method_67_code, 5, some (.int), 3, 67, [])
abbrev M_Mo_mappingNow : Md := (⟨RX7, "mappingNow", "(III)I"⟩, prog_9_method_66_code, 4, some (.int), 2, 44, [])
abbrev M_Mo_timeLeft : Md := (⟨RX7, "timeLeft", "(IIII)I"⟩, prog_9_method_69_code, 5, some (.int), 4, 88, [])
abbrev M_Mo_leastLeft : Md := (⟨RX7, "leastLeft", "(IIII)I"⟩, prog_9_method_68_code, 10, some (.int), 2, 51, [])
abbrev M_Mo_common : Md := (⟨RX7, "common", "(II)I"⟩, prog_9_method_71_code, 3, some (.int), 3, 67, [])
abbrev M_Mo_commonOf : Md := (⟨RX7, "commonOf", "(II)I"⟩, prog_9_method_70_code, 4, some (.int), 2, 44, [])
abbrev M_Mo_delivery : Md := (⟨RX7, "delivery", "()D"⟩, prog_9_method_72_code, 1, some (.double), 0, 0, [])
abbrev M_Mo_digest : Md := (⟨RX7, "digest", "()J"⟩, prog_9_method_75_code, 3, some (.long), 5, 109, [])
abbrev M_Mo_mix : Md := (⟨RX7, "mix", "(J)V"⟩, prog_9_method_73_code, 3, none, 0, 0, [])
abbrev M_Mo_mixTranslator : Md := (⟨RX7, "mixTranslator", "(I)V"⟩, prog_9_method_74_code, 3, none, 3, 67, [])
set_option maxRecDepth 100000 in
theorem ok_Hp_init : MOK M_Hp_init 0 := ⟨gm 92 rfl rfl, gm 73 (by decide +kernel) rfl, by decide +kernel, by decide +kernel, by decide +kernel⟩
set_option maxRecDepth 100000 in
theorem ok_Nw_init : MOK M_Nw_init 0 := ⟨gm 100 rfl rfl, gm 74 (by decide +kernel) rfl, by decide +kernel, by decide +kernel, by decide +kernel⟩
set_option maxRecDepth 100000 in
theorem ok_Rd_init : MOK M_Rd_init 0 := ⟨gm 133 rfl rfl, gm 75 (by decide +kernel) rfl, by decide +kernel, by decide +kernel, by decide +kernel⟩
set_option maxRecDepth 100000 in
theorem ok_Hp_begin : MOK M_Hp_begin 0 := ⟨gm 179 rfl rfl, gm 73 (by decide +kernel) rfl, by decide +kernel, by decide +kernel, by decide +kernel⟩
set_option maxRecDepth 100000 in
theorem ok_Nw_reset : MOK M_Nw_reset 0 := ⟨gm 183 rfl rfl, gm 74 (by decide +kernel) rfl, by decide +kernel, by decide +kernel, by decide +kernel⟩
set_option maxRecDepth 100000 in
theorem ok_Hp_save : MOK M_Hp_save 0 := ⟨gm 187 rfl rfl, gm 73 (by decide +kernel) rfl, by decide +kernel, by decide +kernel, by decide +kernel⟩
set_option maxRecDepth 100000 in
theorem ok_Nw_copyFrom : MOK M_Nw_copyFrom 1 := ⟨gm 191 rfl rfl, gm 74 (by decide +kernel) rfl, by decide +kernel, by decide +kernel, by decide +kernel⟩
set_option maxRecDepth 100000 in
theorem ok_Nw_nodeAt : MOK M_Nw_nodeAt 1 := ⟨gm 195 rfl rfl, gm 74 (by decide +kernel) rfl, by decide +kernel, by decide +kernel, by decide +kernel⟩
set_option maxRecDepth 100000 in
theorem ok_Nw_nextNode : MOK M_Nw_nextNode 0 := ⟨gm 199 rfl rfl, gm 74 (by decide +kernel) rfl, by decide +kernel, by decide +kernel, by decide +kernel⟩
set_option maxRecDepth 100000 in
theorem ok_No_init : MOK M_No_init 0 := ⟨gm 203 rfl rfl, gm 82 (by decide +kernel) rfl, by decide +kernel, by decide +kernel, by decide +kernel⟩
set_option maxRecDepth 100000 in
theorem ok_No_copyFrom : MOK M_No_copyFrom 1 := ⟨gm 231 rfl rfl, gm 82 (by decide +kernel) rfl, by decide +kernel, by decide +kernel, by decide +kernel⟩
set_option maxRecDepth 100000 in
theorem ok_No_becomeHost : MOK M_No_becomeHost 1 := ⟨gm 235 rfl rfl, gm 82 (by decide +kernel) rfl, by decide +kernel, by decide +kernel, by decide +kernel⟩
set_option maxRecDepth 100000 in
theorem ok_No_becomeTranslator : MOK M_No_becomeTranslator 1 := ⟨gm 239 rfl rfl, gm 82 (by decide +kernel) rfl, by decide +kernel, by decide +kernel, by decide +kernel⟩
set_option maxRecDepth 100000 in
theorem ok_Tl_init : MOK M_Tl_init 0 := ⟨gm 244 rfl rfl, gm 84 (by decide +kernel) rfl, by decide +kernel, by decide +kernel, by decide +kernel⟩
set_option maxRecDepth 100000 in
theorem ok_Tl_copyFrom : MOK M_Tl_copyFrom 1 := ⟨gm 290 rfl rfl, gm 84 (by decide +kernel) rfl, by decide +kernel, by decide +kernel, by decide +kernel⟩
set_option maxRecDepth 100000 in
theorem ok_Tl_mappingAt : MOK M_Tl_mappingAt 1 := ⟨gm 294 rfl rfl, gm 84 (by decide +kernel) rfl, by decide +kernel, by decide +kernel, by decide +kernel⟩
set_option maxRecDepth 100000 in
theorem ok_Tl_nextMapping : MOK M_Tl_nextMapping 0 := ⟨gm 298 rfl rfl, gm 84 (by decide +kernel) rfl, by decide +kernel, by decide +kernel, by decide +kernel⟩
set_option maxRecDepth 100000 in
theorem ok_Mp_init : MOK M_Mp_init 0 := ⟨gm 302 rfl rfl, gm 85 (by decide +kernel) rfl, by decide +kernel, by decide +kernel, by decide +kernel⟩
set_option maxRecDepth 100000 in
theorem ok_Mp_copyFrom : MOK M_Mp_copyFrom 1 := ⟨gm 333 rfl rfl, gm 85 (by decide +kernel) rfl, by decide +kernel, by decide +kernel, by decide +kernel⟩
set_option maxRecDepth 100000 in
theorem ok_Mp_reset : MOK M_Mp_reset 3 := ⟨gm 337 rfl rfl, gm 85 (by decide +kernel) rfl, by decide +kernel, by decide +kernel, by decide +kernel⟩
set_option maxRecDepth 100000 in
theorem ok_Hp_clearBuffer : MOK M_Hp_clearBuffer 0 := ⟨gm 341 rfl rfl, gm 73 (by decide +kernel) rfl, by decide +kernel, by decide +kernel, by decide +kernel⟩
set_option maxRecDepth 100000 in
theorem ok_Hp_firstError : MOK M_Hp_firstError 0 := ⟨gm 345 rfl rfl, gm 73 (by decide +kernel) rfl, by decide +kernel, by decide +kernel, by decide +kernel⟩
set_option maxRecDepth 100000 in
theorem ok_Rd_readAll : MOK M_Rd_readAll 2 := ⟨gm 349 rfl rfl, gm 75 (by decide +kernel) rfl, by decide +kernel, by decide +kernel, by decide +kernel⟩
set_option maxRecDepth 100000 in
theorem ok_Rd_takes : MOK M_Rd_takes 1 := ⟨gm 354 rfl rfl, gm 75 (by decide +kernel) rfl, by decide +kernel, by decide +kernel, by decide +kernel⟩
set_option maxRecDepth 100000 in
theorem ok_Rd_takesInNet : MOK M_Rd_takesInNet 1 := ⟨gm 358 rfl rfl, gm 75 (by decide +kernel) rfl, by decide +kernel, by decide +kernel, by decide +kernel⟩
set_option maxRecDepth 100000 in
theorem ok_Nw_newHost : MOK M_Nw_newHost 1 := ⟨gm 362 rfl rfl, gm 74 (by decide +kernel) rfl, by decide +kernel, by decide +kernel, by decide +kernel⟩
set_option maxRecDepth 100000 in
theorem ok_Nw_isFull : MOK M_Nw_isFull 0 := ⟨gm 367 rfl rfl, gm 74 (by decide +kernel) rfl, by decide +kernel, by decide +kernel, by decide +kernel⟩
set_option maxRecDepth 100000 in
theorem ok_Rd_leavesNet : MOK M_Rd_leavesNet 0 := ⟨gm 371 rfl rfl, gm 75 (by decide +kernel) rfl, by decide +kernel, by decide +kernel, by decide +kernel⟩
set_option maxRecDepth 100000 in
theorem ok_Nw_netOf : MOK M_Nw_netOf 1 := ⟨gm 375 rfl rfl, gm 74 (by decide +kernel) rfl, by decide +kernel, by decide +kernel, by decide +kernel⟩
set_option maxRecDepth 100000 in
theorem ok_Rd_takesDigit : MOK M_Rd_takesDigit 1 := ⟨gm 379 rfl rfl, gm 75 (by decide +kernel) rfl, by decide +kernel, by decide +kernel, by decide +kernel⟩
set_option maxRecDepth 100000 in
theorem ok_Rd_takesOpening : MOK M_Rd_takesOpening 1 := ⟨gm 383 rfl rfl, gm 75 (by decide +kernel) rfl, by decide +kernel, by decide +kernel, by decide +kernel⟩
set_option maxRecDepth 100000 in
theorem ok_Nw_newTranslator : MOK M_Nw_newTranslator 4 := ⟨gm 387 rfl rfl, gm 74 (by decide +kernel) rfl, by decide +kernel, by decide +kernel, by decide +kernel⟩
set_option maxRecDepth 100000 in
theorem ok_Tl_reset : MOK M_Tl_reset 4 := ⟨gm 392 rfl rfl, gm 84 (by decide +kernel) rfl, by decide +kernel, by decide +kernel, by decide +kernel⟩
set_option maxRecDepth 100000 in
theorem ok_Hp_delivery : MOK M_Hp_delivery 0 := ⟨gm 396 rfl rfl, gm 73 (by decide +kernel) rfl, by decide +kernel, by decide +kernel, by decide +kernel⟩
set_option maxRecDepth 100000 in
theorem ok_Hp_digest : MOK M_Hp_digest 0 := ⟨gm 400 rfl rfl, gm 73 (by decide +kernel) rfl, by decide +kernel, by decide +kernel, by decide +kernel⟩
set_option maxRecDepth 100000 in
theorem ok_Hp_total : MOK M_Hp_total 1 := ⟨gm 406 rfl rfl, gm 73 (by decide +kernel) rfl, by decide +kernel, by decide +kernel, by decide +kernel⟩
set_option maxRecDepth 100000 in
theorem ok_Nw_total : MOK M_Nw_total 1 := ⟨gm 410 rfl rfl, gm 74 (by decide +kernel) rfl, by decide +kernel, by decide +kernel, by decide +kernel⟩
set_option maxRecDepth 100000 in
theorem ok_Nw_hostsBehind : MOK M_Nw_hostsBehind 1 := ⟨gm 414 rfl rfl, gm 74 (by decide +kernel) rfl, by decide +kernel, by decide +kernel, by decide +kernel⟩
set_option maxRecDepth 100000 in
theorem ok_Nw_hostAt : MOK M_Nw_hostAt 1 := ⟨gm 418 rfl rfl, gm 74 (by decide +kernel) rfl, by decide +kernel, by decide +kernel, by decide +kernel⟩
set_option maxRecDepth 100000 in
theorem ok_Nw_isBehind : MOK M_Nw_isBehind 2 := ⟨gm 422 rfl rfl, gm 74 (by decide +kernel) rfl, by decide +kernel, by decide +kernel, by decide +kernel⟩
set_option maxRecDepth 100000 in
theorem ok_Nw_mappingTotal : MOK M_Nw_mappingTotal 0 := ⟨gm 427 rfl rfl, gm 74 (by decide +kernel) rfl, by decide +kernel, by decide +kernel, by decide +kernel⟩
set_option maxRecDepth 100000 in
theorem ok_Nw_translatorAt : MOK M_Nw_translatorAt 1 := ⟨gm 431 rfl rfl, gm 74 (by decide +kernel) rfl, by decide +kernel, by decide +kernel, by decide +kernel⟩
set_option maxRecDepth 100000 in
theorem ok_Hp_mixNode : MOK M_Hp_mixNode 2 := ⟨gm 435 rfl rfl, gm 73 (by decide +kernel) rfl, by decide +kernel, by decide +kernel, by decide +kernel⟩
set_option maxRecDepth 100000 in
theorem ok_Nw_nodeProperty : MOK M_Nw_nodeProperty 2 := ⟨gm 439 rfl rfl, gm 74 (by decide +kernel) rfl, by decide +kernel, by decide +kernel, by decide +kernel⟩
set_option maxRecDepth 100000 in
theorem ok_Nw_depthOf : MOK M_Nw_depthOf 1 := ⟨gm 443 rfl rfl, gm 74 (by decide +kernel) rfl, by decide +kernel, by decide +kernel, by decide +kernel⟩
set_option maxRecDepth 100000 in
theorem ok_No_hasDelivery : MOK M_No_hasDelivery 0 := ⟨gm 447 rfl rfl, gm 82 (by decide +kernel) rfl, by decide +kernel, by decide +kernel, by decide +kernel⟩
set_option maxRecDepth 100000 in
theorem ok_Hp_nodeOf : MOK M_Hp_nodeOf 1 := ⟨gm 450 rfl rfl, gm 73 (by decide +kernel) rfl, by decide +kernel, by decide +kernel, by decide +kernel⟩
set_option maxRecDepth 100000 in
theorem ok_Hp_portOf : MOK M_Hp_portOf 1 := ⟨gm 453 rfl rfl, gm 73 (by decide +kernel) rfl, by decide +kernel, by decide +kernel, by decide +kernel⟩
set_option maxRecDepth 100000 in
theorem ok_Hp_mixTranslator : MOK M_Hp_mixTranslator 2 := ⟨gm 458 rfl rfl, gm 73 (by decide +kernel) rfl, by decide +kernel, by decide +kernel, by decide +kernel⟩
set_option maxRecDepth 100000 in
theorem ok_Tl_property : MOK M_Tl_property 1 := ⟨gm 462 rfl rfl, gm 84 (by decide +kernel) rfl, by decide +kernel, by decide +kernel, by decide +kernel⟩
set_option maxRecDepth 100000 in
theorem ok_Tl_setting : MOK M_Tl_setting 1 := ⟨gm 466 rfl rfl, gm 84 (by decide +kernel) rfl, by decide +kernel, by decide +kernel, by decide +kernel⟩
set_option maxRecDepth 100000 in
theorem ok_Tl_ticksLeft : MOK M_Tl_ticksLeft 2 := ⟨gm 471 rfl rfl, gm 84 (by decide +kernel) rfl, by decide +kernel, by decide +kernel, by decide +kernel⟩
set_option maxRecDepth 100000 in
theorem ok_Hp_mixMapping : MOK M_Hp_mixMapping 3 := ⟨gm 474 rfl rfl, gm 73 (by decide +kernel) rfl, by decide +kernel, by decide +kernel, by decide +kernel⟩
set_option maxRecDepth 100000 in
theorem ok_Mp_property : MOK M_Mp_property 2 := ⟨gm 478 rfl rfl, gm 85 (by decide +kernel) rfl, by decide +kernel, by decide +kernel, by decide +kernel⟩
set_option maxRecDepth 100000 in
theorem ok_Lw_addHost : MOK M_Lw_addHost 3 := ⟨gm 483 rfl rfl, gm 72 (by decide +kernel) rfl, by decide +kernel, by decide +kernel, by decide +kernel⟩
set_option maxRecDepth 100000 in
theorem ok_Hp_addHost : MOK M_Hp_addHost 1 := ⟨gm 489 rfl rfl, gm 73 (by decide +kernel) rfl, by decide +kernel, by decide +kernel, by decide +kernel⟩
set_option maxRecDepth 100000 in
theorem ok_Hp_checkNet : MOK M_Hp_checkNet 1 := ⟨gm 493 rfl rfl, gm 73 (by decide +kernel) rfl, by decide +kernel, by decide +kernel, by decide +kernel⟩
set_option maxRecDepth 100000 in
theorem ok_Lw_addTranslator : MOK M_Lw_addTranslator 6 := ⟨gm 582 rfl rfl, gm 72 (by decide +kernel) rfl, by decide +kernel, by decide +kernel, by decide +kernel⟩
set_option maxRecDepth 100000 in
theorem ok_Hp_addTranslator : MOK M_Hp_addTranslator 4 := ⟨gm 587 rfl rfl, gm 73 (by decide +kernel) rfl, by decide +kernel, by decide +kernel, by decide +kernel⟩
set_option maxRecDepth 100000 in
theorem ok_Hp_isWithin : MOK M_Hp_isWithin 3 := ⟨gm 590 rfl rfl, gm 73 (by decide +kernel) rfl, by decide +kernel, by decide +kernel, by decide +kernel⟩
set_option maxRecDepth 100000 in
theorem ok_Lw_setNumber : MOK M_Lw_setNumber 5 := ⟨gm 610 rfl rfl, gm 72 (by decide +kernel) rfl, by decide +kernel, by decide +kernel, by decide +kernel⟩
set_option maxRecDepth 100000 in
theorem ok_Hp_setNumber : MOK M_Hp_setNumber 3 := ⟨gm 614 rfl rfl, gm 73 (by decide +kernel) rfl, by decide +kernel, by decide +kernel, by decide +kernel⟩
set_option maxRecDepth 100000 in
theorem ok_Hp_isSetting : MOK M_Hp_isSetting 2 := ⟨gm 618 rfl rfl, gm 73 (by decide +kernel) rfl, by decide +kernel, by decide +kernel, by decide +kernel⟩
set_option maxRecDepth 100000 in
theorem ok_Tl_change : MOK M_Tl_change 2 := ⟨gm 624 rfl rfl, gm 84 (by decide +kernel) rfl, by decide +kernel, by decide +kernel, by decide +kernel⟩
set_option maxRecDepth 100000 in
theorem ok_Tl_dropDead : MOK M_Tl_dropDead 1 := ⟨gm 628 rfl rfl, gm 84 (by decide +kernel) rfl, by decide +kernel, by decide +kernel, by decide +kernel⟩
set_option maxRecDepth 100000 in
theorem ok_Lw_pass : MOK M_Lw_pass 3 := ⟨gm 632 rfl rfl, gm 72 (by decide +kernel) rfl, by decide +kernel, by decide +kernel, by decide +kernel⟩
set_option maxRecDepth 100000 in
theorem ok_Hp_pass : MOK M_Hp_pass 1 := ⟨gm 636 rfl rfl, gm 73 (by decide +kernel) rfl, by decide +kernel, by decide +kernel, by decide +kernel⟩
set_option maxRecDepth 100000 in
theorem ok_Nw_advance : MOK M_Nw_advance 1 := ⟨gm 643 rfl rfl, gm 74 (by decide +kernel) rfl, by decide +kernel, by decide +kernel, by decide +kernel⟩
set_option maxRecDepth 100000 in
theorem ok_Lw_restore : MOK M_Lw_restore 2 := ⟨gm 647 rfl rfl, gm 72 (by decide +kernel) rfl, by decide +kernel, by decide +kernel, by decide +kernel⟩
set_option maxRecDepth 100000 in
theorem ok_Hp_restore : MOK M_Hp_restore 0 := ⟨gm 651 rfl rfl, gm 73 (by decide +kernel) rfl, by decide +kernel, by decide +kernel, by decide +kernel⟩
set_option maxRecDepth 100000 in
theorem ok_Lw_append : MOK M_Lw_append 3 := ⟨gm 655 rfl rfl, gm 72 (by decide +kernel) rfl, by decide +kernel, by decide +kernel, by decide +kernel⟩
set_option maxRecDepth 100000 in
theorem ok_Hp_append : MOK M_Hp_append 1 := ⟨gm 659 rfl rfl, gm 73 (by decide +kernel) rfl, by decide +kernel, by decide +kernel, by decide +kernel⟩
set_option maxRecDepth 100000 in
theorem ok_Lw_load : MOK M_Lw_load 2 := ⟨gm 664 rfl rfl, gm 72 (by decide +kernel) rfl, by decide +kernel, by decide +kernel, by decide +kernel⟩
set_option maxRecDepth 100000 in
theorem ok_Hp_load : MOK M_Hp_load 0 := ⟨gm 668 rfl rfl, gm 73 (by decide +kernel) rfl, by decide +kernel, by decide +kernel, by decide +kernel⟩
set_option maxRecDepth 100000 in
theorem ok_Rd_isComplete : MOK M_Rd_isComplete 0 := ⟨gm 672 rfl rfl, gm 75 (by decide +kernel) rfl, by decide +kernel, by decide +kernel, by decide +kernel⟩
set_option maxRecDepth 100000 in
theorem ok_Lw_send : MOK M_Lw_send 6 := ⟨gm 676 rfl rfl, gm 72 (by decide +kernel) rfl, by decide +kernel, by decide +kernel, by decide +kernel⟩
set_option maxRecDepth 100000 in
theorem ok_Hp_send : MOK M_Hp_send 4 := ⟨gm 680 rfl rfl, gm 73 (by decide +kernel) rfl, by decide +kernel, by decide +kernel, by decide +kernel⟩
set_option maxRecDepth 100000 in
theorem ok_Hp_checkPacket : MOK M_Hp_checkPacket 4 := ⟨gm 684 rfl rfl, gm 73 (by decide +kernel) rfl, by decide +kernel, by decide +kernel, by decide +kernel⟩
set_option maxRecDepth 100000 in
theorem ok_Hp_isPort : MOK M_Hp_isPort 1 := ⟨gm 690 rfl rfl, gm 73 (by decide +kernel) rfl, by decide +kernel, by decide +kernel, by decide +kernel⟩
set_option maxRecDepth 100000 in
theorem ok_Hp_endpoint : MOK M_Hp_endpoint 2 := ⟨gm 694 rfl rfl, gm 73 (by decide +kernel) rfl, by decide +kernel, by decide +kernel, by decide +kernel⟩
set_option maxRecDepth 100000 in
theorem ok_Nw_carry : MOK M_Nw_carry 2 := ⟨gm 698 rfl rfl, gm 74 (by decide +kernel) rfl, by decide +kernel, by decide +kernel, by decide +kernel⟩
set_option maxRecDepth 100000 in
theorem ok_Nw_goOut : MOK M_Nw_goOut 2 := ⟨gm 702 rfl rfl, gm 74 (by decide +kernel) rfl, by decide +kernel, by decide +kernel, by decide +kernel⟩
set_option maxRecDepth 100000 in
theorem ok_Tl_mappingOut : MOK M_Tl_mappingOut 2 := ⟨gm 706 rfl rfl, gm 84 (by decide +kernel) rfl, by decide +kernel, by decide +kernel, by decide +kernel⟩
set_option maxRecDepth 100000 in
theorem ok_Tl_keyFor : MOK M_Tl_keyFor 1 := ⟨gm 710 rfl rfl, gm 84 (by decide +kernel) rfl, by decide +kernel, by decide +kernel, by decide +kernel⟩
set_option maxRecDepth 100000 in
theorem ok_Tl_newMapping : MOK M_Tl_newMapping 2 := ⟨gm 716 rfl rfl, gm 84 (by decide +kernel) rfl, by decide +kernel, by decide +kernel, by decide +kernel⟩
set_option maxRecDepth 100000 in
theorem ok_Tl_keptPort : MOK M_Tl_keptPort 1 := ⟨gm 721 rfl rfl, gm 84 (by decide +kernel) rfl, by decide +kernel, by decide +kernel, by decide +kernel⟩
set_option maxRecDepth 100000 in
theorem ok_Tl_mappingIn : MOK M_Tl_mappingIn 1 := ⟨gm 725 rfl rfl, gm 84 (by decide +kernel) rfl, by decide +kernel, by decide +kernel, by decide +kernel⟩
set_option maxRecDepth 100000 in
theorem ok_Tl_countedPort : MOK M_Tl_countedPort 0 := ⟨gm 729 rfl rfl, gm 84 (by decide +kernel) rfl, by decide +kernel, by decide +kernel, by decide +kernel⟩
set_option maxRecDepth 100000 in
theorem ok_Tl_randomPort : MOK M_Tl_randomPort 0 := ⟨gm 733 rfl rfl, gm 84 (by decide +kernel) rfl, by decide +kernel, by decide +kernel, by decide +kernel⟩
set_option maxRecDepth 100000 in
theorem ok_Mp_addContact : MOK M_Mp_addContact 1 := ⟨gm 744 rfl rfl, gm 85 (by decide +kernel) rfl, by decide +kernel, by decide +kernel, by decide +kernel⟩
set_option maxRecDepth 100000 in
theorem ok_Mp_contactPlace : MOK M_Mp_contactPlace 1 := ⟨gm 748 rfl rfl, gm 85 (by decide +kernel) rfl, by decide +kernel, by decide +kernel, by decide +kernel⟩
set_option maxRecDepth 100000 in
theorem ok_Ma_max : MOK M_Ma_max 2 := ⟨gm 751 rfl rfl, gm 86 (by decide +kernel) rfl, by decide +kernel, by decide +kernel, by decide +kernel⟩
set_option maxRecDepth 100000 in
theorem ok_Nw_comeIn : MOK M_Nw_comeIn 2 := ⟨gm 756 rfl rfl, gm 74 (by decide +kernel) rfl, by decide +kernel, by decide +kernel, by decide +kernel⟩
set_option maxRecDepth 100000 in
theorem ok_Mp_admits : MOK M_Mp_admits 2 := ⟨gm 761 rfl rfl, gm 85 (by decide +kernel) rfl, by decide +kernel, by decide +kernel, by decide +kernel⟩
set_option maxRecDepth 100000 in
theorem ok_Mp_hasContactAt : MOK M_Mp_hasContactAt 1 := ⟨gm 765 rfl rfl, gm 85 (by decide +kernel) rfl, by decide +kernel, by decide +kernel, by decide +kernel⟩
set_option maxRecDepth 100000 in
theorem ok_Lw_reply : MOK M_Lw_reply 3 := ⟨gm 768 rfl rfl, gm 72 (by decide +kernel) rfl, by decide +kernel, by decide +kernel, by decide +kernel⟩
set_option maxRecDepth 100000 in
theorem ok_Hp_reply : MOK M_Hp_reply 1 := ⟨gm 772 rfl rfl, gm 73 (by decide +kernel) rfl, by decide +kernel, by decide +kernel, by decide +kernel⟩
set_option maxRecDepth 100000 in
theorem ok_Lw_keepAlive : MOK M_Lw_keepAlive 8 := ⟨gm 778 rfl rfl, gm 72 (by decide +kernel) rfl, by decide +kernel, by decide +kernel, by decide +kernel⟩
set_option maxRecDepth 100000 in
theorem ok_Hp_keepAlive : MOK M_Hp_keepAlive 6 := ⟨gm 782 rfl rfl, gm 73 (by decide +kernel) rfl, by decide +kernel, by decide +kernel, by decide +kernel⟩
set_option maxRecDepth 100000 in
theorem ok_Lw_punch : MOK M_Lw_punch 6 := ⟨gm 786 rfl rfl, gm 72 (by decide +kernel) rfl, by decide +kernel, by decide +kernel, by decide +kernel⟩
set_option maxRecDepth 100000 in
theorem ok_Hp_punch : MOK M_Hp_punch 4 := ⟨gm 790 rfl rfl, gm 73 (by decide +kernel) rfl, by decide +kernel, by decide +kernel, by decide +kernel⟩
set_option maxRecDepth 100000 in
theorem ok_Hp_checkPunch : MOK M_Hp_checkPunch 3 := ⟨gm 794 rfl rfl, gm 73 (by decide +kernel) rfl, by decide +kernel, by decide +kernel, by decide +kernel⟩
set_option maxRecDepth 100000 in
theorem ok_Pe_init : MOK M_Pe_init 1 := ⟨gm 803 rfl rfl, gm 87 (by decide +kernel) rfl, by decide +kernel, by decide +kernel, by decide +kernel⟩
set_option maxRecDepth 100000 in
theorem ok_Hp_showItself : MOK M_Hp_showItself 3 := ⟨gm 830 rfl rfl, gm 73 (by decide +kernel) rfl, by decide +kernel, by decide +kernel, by decide +kernel⟩
set_option maxRecDepth 100000 in
theorem ok_Hp_predicted : MOK M_Hp_predicted 2 := ⟨gm 833 rfl rfl, gm 73 (by decide +kernel) rfl, by decide +kernel, by decide +kernel, by decide +kernel⟩
set_option maxRecDepth 100000 in
theorem ok_Hp_knock : MOK M_Hp_knock 2 := ⟨gm 839 rfl rfl, gm 73 (by decide +kernel) rfl, by decide +kernel, by decide +kernel, by decide +kernel⟩
set_option maxRecDepth 100000 in
theorem ok_Lw_ifSent : MOK M_Lw_ifSent 6 := ⟨gm 842 rfl rfl, gm 72 (by decide +kernel) rfl, by decide +kernel, by decide +kernel, by decide +kernel⟩
set_option maxRecDepth 100000 in
theorem ok_Hp_ifSent : MOK M_Hp_ifSent 4 := ⟨gm 846 rfl rfl, gm 73 (by decide +kernel) rfl, by decide +kernel, by decide +kernel, by decide +kernel⟩
set_option maxRecDepth 100000 in
theorem ok_Lw_count : MOK M_Lw_count 3 := ⟨gm 849 rfl rfl, gm 72 (by decide +kernel) rfl, by decide +kernel, by decide +kernel, by decide +kernel⟩
set_option maxRecDepth 100000 in
theorem ok_Hp_count : MOK M_Hp_count 1 := ⟨gm 853 rfl rfl, gm 73 (by decide +kernel) rfl, by decide +kernel, by decide +kernel, by decide +kernel⟩
set_option maxRecDepth 100000 in
theorem ok_Lw_node : MOK M_Lw_node 4 := ⟨gm 857 rfl rfl, gm 72 (by decide +kernel) rfl, by decide +kernel, by decide +kernel, by decide +kernel⟩
set_option maxRecDepth 100000 in
theorem ok_Hp_node : MOK M_Hp_node 2 := ⟨gm 861 rfl rfl, gm 73 (by decide +kernel) rfl, by decide +kernel, by decide +kernel, by decide +kernel⟩
set_option maxRecDepth 100000 in
theorem ok_Lw_translator : MOK M_Lw_translator 4 := ⟨gm 866 rfl rfl, gm 72 (by decide +kernel) rfl, by decide +kernel, by decide +kernel, by decide +kernel⟩
set_option maxRecDepth 100000 in
theorem ok_Hp_translator : MOK M_Hp_translator 2 := ⟨gm 870 rfl rfl, gm 73 (by decide +kernel) rfl, by decide +kernel, by decide +kernel, by decide +kernel⟩
set_option maxRecDepth 100000 in
theorem ok_Lw_mapping : MOK M_Lw_mapping 5 := ⟨gm 874 rfl rfl, gm 72 (by decide +kernel) rfl, by decide +kernel, by decide +kernel, by decide +kernel⟩
set_option maxRecDepth 100000 in
theorem ok_Hp_mapping : MOK M_Hp_mapping 3 := ⟨gm 878 rfl rfl, gm 73 (by decide +kernel) rfl, by decide +kernel, by decide +kernel, by decide +kernel⟩
set_option maxRecDepth 100000 in
theorem ok_Lw_timeLeft : MOK M_Lw_timeLeft 6 := ⟨gm 882 rfl rfl, gm 72 (by decide +kernel) rfl, by decide +kernel, by decide +kernel, by decide +kernel⟩
set_option maxRecDepth 100000 in
theorem ok_Hp_timeLeft : MOK M_Hp_timeLeft 4 := ⟨gm 886 rfl rfl, gm 73 (by decide +kernel) rfl, by decide +kernel, by decide +kernel, by decide +kernel⟩
set_option maxRecDepth 100000 in
theorem ok_Nw_leastTicksLeft : MOK M_Nw_leastTicksLeft 2 := ⟨gm 890 rfl rfl, gm 74 (by decide +kernel) rfl, by decide +kernel, by decide +kernel, by decide +kernel⟩
set_option maxRecDepth 100000 in
theorem ok_Ma_min : MOK M_Ma_min 2 := ⟨gm 894 rfl rfl, gm 86 (by decide +kernel) rfl, by decide +kernel, by decide +kernel, by decide +kernel⟩
set_option maxRecDepth 100000 in
theorem ok_Lw_common : MOK M_Lw_common 4 := ⟨gm 897 rfl rfl, gm 72 (by decide +kernel) rfl, by decide +kernel, by decide +kernel, by decide +kernel⟩
set_option maxRecDepth 100000 in
theorem ok_Hp_common : MOK M_Hp_common 2 := ⟨gm 901 rfl rfl, gm 73 (by decide +kernel) rfl, by decide +kernel, by decide +kernel, by decide +kernel⟩
set_option maxRecDepth 100000 in
theorem ok_Nw_commonNet : MOK M_Nw_commonNet 2 := ⟨gm 905 rfl rfl, gm 74 (by decide +kernel) rfl, by decide +kernel, by decide +kernel, by decide +kernel⟩
set_option maxRecDepth 100000 in
theorem ok_Mo_init : MOK M_Mo_init 0 := ⟨gm 910 rfl rfl, gm 76 (by decide +kernel) rfl, by decide +kernel, by decide +kernel, by decide +kernel⟩
set_option maxRecDepth 100000 in
theorem ok_Mo_thrown : MOK M_Mo_thrown 0 := ⟨gm 965 rfl rfl, gm 76 (by decide +kernel) rfl, by decide +kernel, by decide +kernel, by decide +kernel⟩
set_option maxRecDepth 100000 in
theorem ok_Mo_begin : MOK M_Mo_begin 0 := ⟨gm 969 rfl rfl, gm 76 (by decide +kernel) rfl, by decide +kernel, by decide +kernel, by decide +kernel⟩
set_option maxRecDepth 100000 in
theorem ok_Mo_fresh : MOK M_Mo_fresh 0 := ⟨gm 973 rfl rfl, gm 76 (by decide +kernel) rfl, by decide +kernel, by decide +kernel, by decide +kernel⟩
set_option maxRecDepth 100000 in
theorem ok_Mo_addHost : MOK M_Mo_addHost 1 := ⟨gm 977 rfl rfl, gm 76 (by decide +kernel) rfl, by decide +kernel, by decide +kernel, by decide +kernel⟩
set_option maxRecDepth 100000 in
theorem ok_Mo_isNet : MOK M_Mo_isNet 1 := ⟨gm 981 rfl rfl, gm 76 (by decide +kernel) rfl, by decide +kernel, by decide +kernel, by decide +kernel⟩
set_option maxRecDepth 100000 in
theorem ok_Mo_isTranslator : MOK M_Mo_isTranslator 1 := ⟨gm 985 rfl rfl, gm 76 (by decide +kernel) rfl, by decide +kernel, by decide +kernel, by decide +kernel⟩
set_option maxRecDepth 100000 in
theorem ok_Mo_isNode : MOK M_Mo_isNode 1 := ⟨gm 989 rfl rfl, gm 76 (by decide +kernel) rfl, by decide +kernel, by decide +kernel, by decide +kernel⟩
set_option maxRecDepth 100000 in
theorem ok_Mo_within : MOK M_Mo_within 3 := ⟨gm 992 rfl rfl, gm 76 (by decide +kernel) rfl, by decide +kernel, by decide +kernel, by decide +kernel⟩
set_option maxRecDepth 100000 in
theorem ok_Mo_at : MOK M_Mo_at 2 := ⟨gm 995 rfl rfl, gm 76 (by decide +kernel) rfl, by decide +kernel, by decide +kernel, by decide +kernel⟩
set_option maxRecDepth 100000 in
theorem ok_Mo_add : MOK M_Mo_add 1 := ⟨gm 999 rfl rfl, gm 76 (by decide +kernel) rfl, by decide +kernel, by decide +kernel, by decide +kernel⟩
set_option maxRecDepth 100000 in
theorem ok_Mo_addTranslator : MOK M_Mo_addTranslator 4 := ⟨gm 1003 rfl rfl, gm 76 (by decide +kernel) rfl, by decide +kernel, by decide +kernel, by decide +kernel⟩
set_option maxRecDepth 100000 in
theorem ok_Mo_addTranslatorTo : MOK M_Mo_addTranslatorTo 4 := ⟨gm 1007 rfl rfl, gm 76 (by decide +kernel) rfl, by decide +kernel, by decide +kernel, by decide +kernel⟩
set_option maxRecDepth 100000 in
theorem ok_Mo_setNumber : MOK M_Mo_setNumber 3 := ⟨gm 1011 rfl rfl, gm 76 (by decide +kernel) rfl, by decide +kernel, by decide +kernel, by decide +kernel⟩
set_option maxRecDepth 100000 in
theorem ok_Mo_dropDead : MOK M_Mo_dropDead 0 := ⟨gm 1015 rfl rfl, gm 76 (by decide +kernel) rfl, by decide +kernel, by decide +kernel, by decide +kernel⟩
set_option maxRecDepth 100000 in
theorem ok_Mo_lives : MOK M_Mo_lives 2 := ⟨gm 1019 rfl rfl, gm 76 (by decide +kernel) rfl, by decide +kernel, by decide +kernel, by decide +kernel⟩
set_option maxRecDepth 100000 in
theorem ok_Mo_map : MOK M_Mo_map 3 := ⟨gm 1022 rfl rfl, gm 76 (by decide +kernel) rfl, by decide +kernel, by decide +kernel, by decide +kernel⟩
set_option maxRecDepth 100000 in
theorem ok_Mo_drop : MOK M_Mo_drop 2 := ⟨gm 1026 rfl rfl, gm 76 (by decide +kernel) rfl, by decide +kernel, by decide +kernel, by decide +kernel⟩
set_option maxRecDepth 100000 in
theorem ok_Mo_contact : MOK M_Mo_contact 3 := ⟨gm 1029 rfl rfl, gm 76 (by decide +kernel) rfl, by decide +kernel, by decide +kernel, by decide +kernel⟩
set_option maxRecDepth 100000 in
theorem ok_Mo_pass : MOK M_Mo_pass 1 := ⟨gm 1033 rfl rfl, gm 76 (by decide +kernel) rfl, by decide +kernel, by decide +kernel, by decide +kernel⟩
set_option maxRecDepth 100000 in
theorem ok_Mo_passes : MOK M_Mo_passes 1 := ⟨gm 1038 rfl rfl, gm 76 (by decide +kernel) rfl, by decide +kernel, by decide +kernel, by decide +kernel⟩
set_option maxRecDepth 100000 in
theorem ok_Mo_save : MOK M_Mo_save 0 := ⟨gm 1042 rfl rfl, gm 76 (by decide +kernel) rfl, by decide +kernel, by decide +kernel, by decide +kernel⟩
set_option maxRecDepth 100000 in
theorem ok_Mo_restore : MOK M_Mo_restore 0 := ⟨gm 1046 rfl rfl, gm 76 (by decide +kernel) rfl, by decide +kernel, by decide +kernel, by decide +kernel⟩
set_option maxRecDepth 100000 in
theorem ok_Mo_append : MOK M_Mo_append 1 := ⟨gm 1050 rfl rfl, gm 76 (by decide +kernel) rfl, by decide +kernel, by decide +kernel, by decide +kernel⟩
set_option maxRecDepth 100000 in
theorem ok_Mo_clearBuffer : MOK M_Mo_clearBuffer 0 := ⟨gm 1054 rfl rfl, gm 76 (by decide +kernel) rfl, by decide +kernel, by decide +kernel, by decide +kernel⟩
set_option maxRecDepth 100000 in
theorem ok_Mo_firstError : MOK M_Mo_firstError 0 := ⟨gm 1058 rfl rfl, gm 76 (by decide +kernel) rfl, by decide +kernel, by decide +kernel, by decide +kernel⟩
set_option maxRecDepth 100000 in
theorem ok_Mo_read : MOK M_Mo_read 0 := ⟨gm 1062 rfl rfl, gm 76 (by decide +kernel) rfl, by decide +kernel, by decide +kernel, by decide +kernel⟩
set_option maxRecDepth 100000 in
theorem ok_Mo_takes : MOK M_Mo_takes 1 := ⟨gm 1066 rfl rfl, gm 76 (by decide +kernel) rfl, by decide +kernel, by decide +kernel, by decide +kernel⟩
set_option maxRecDepth 100000 in
theorem ok_Mo_load : MOK M_Mo_load 0 := ⟨gm 1070 rfl rfl, gm 76 (by decide +kernel) rfl, by decide +kernel, by decide +kernel, by decide +kernel⟩
set_option maxRecDepth 100000 in
theorem ok_Mo_build : MOK M_Mo_build 0 := ⟨gm 1074 rfl rfl, gm 76 (by decide +kernel) rfl, by decide +kernel, by decide +kernel, by decide +kernel⟩
set_option maxRecDepth 100000 in
theorem ok_Mo_send : MOK M_Mo_send 4 := ⟨gm 1078 rfl rfl, gm 76 (by decide +kernel) rfl, by decide +kernel, by decide +kernel, by decide +kernel⟩
set_option maxRecDepth 100000 in
theorem ok_Mo_wrongPacket : MOK M_Mo_wrongPacket 4 := ⟨gm 1082 rfl rfl, gm 76 (by decide +kernel) rfl, by decide +kernel, by decide +kernel, by decide +kernel⟩
set_option maxRecDepth 100000 in
theorem ok_Mo_isHost : MOK M_Mo_isHost 1 := ⟨gm 1086 rfl rfl, gm 76 (by decide +kernel) rfl, by decide +kernel, by decide +kernel, by decide +kernel⟩
set_option maxRecDepth 100000 in
theorem ok_Mo_isPort : MOK M_Mo_isPort 1 := ⟨gm 1089 rfl rfl, gm 76 (by decide +kernel) rfl, by decide +kernel, by decide +kernel, by decide +kernel⟩
set_option maxRecDepth 100000 in
theorem ok_Mo_sends : MOK M_Mo_sends 4 := ⟨gm 1093 rfl rfl, gm 76 (by decide +kernel) rfl, by decide +kernel, by decide +kernel, by decide +kernel⟩
set_option maxRecDepth 100000 in
theorem ok_Mo_travel : MOK M_Mo_travel 4 := ⟨gm 1097 rfl rfl, gm 76 (by decide +kernel) rfl, by decide +kernel, by decide +kernel, by decide +kernel⟩
set_option maxRecDepth 100000 in
theorem ok_Mo_goesOut : MOK M_Mo_goesOut 3 := ⟨gm 1101 rfl rfl, gm 76 (by decide +kernel) rfl, by decide +kernel, by decide +kernel, by decide +kernel⟩
set_option maxRecDepth 100000 in
theorem ok_Mo_mappingFor : MOK M_Mo_mappingFor 5 := ⟨gm 1105 rfl rfl, gm 76 (by decide +kernel) rfl, by decide +kernel, by decide +kernel, by decide +kernel⟩
set_option maxRecDepth 100000 in
theorem ok_Mo_make : MOK M_Mo_make 5 := ⟨gm 1109 rfl rfl, gm 76 (by decide +kernel) rfl, by decide +kernel, by decide +kernel, by decide +kernel⟩
set_option maxRecDepth 100000 in
theorem ok_Mo_freshPort : MOK M_Mo_freshPort 2 := ⟨gm 1113 rfl rfl, gm 76 (by decide +kernel) rfl, by decide +kernel, by decide +kernel, by decide +kernel⟩
set_option maxRecDepth 100000 in
theorem ok_Mo_hasOuter : MOK M_Mo_hasOuter 2 := ⟨gm 1117 rfl rfl, gm 76 (by decide +kernel) rfl, by decide +kernel, by decide +kernel, by decide +kernel⟩
set_option maxRecDepth 100000 in
theorem ok_Mo_goOn : MOK M_Mo_goOn 1 := ⟨gm 1121 rfl rfl, gm 76 (by decide +kernel) rfl, by decide +kernel, by decide +kernel, by decide +kernel⟩
set_option maxRecDepth 100000 in
theorem ok_Mo_drawn : MOK M_Mo_drawn 1 := ⟨gm 1125 rfl rfl, gm 76 (by decide +kernel) rfl, by decide +kernel, by decide +kernel, by decide +kernel⟩
set_option maxRecDepth 100000 in
theorem ok_Mo_meet : MOK M_Mo_meet 4 := ⟨gm 1133 rfl rfl, gm 76 (by decide +kernel) rfl, by decide +kernel, by decide +kernel, by decide +kernel⟩
set_option maxRecDepth 100000 in
theorem ok_Mo_comesIn : MOK M_Mo_comesIn 2 := ⟨gm 1137 rfl rfl, gm 76 (by decide +kernel) rfl, by decide +kernel, by decide +kernel, by decide +kernel⟩
set_option maxRecDepth 100000 in
theorem ok_Mo_passesFilter : MOK M_Mo_passesFilter 2 := ⟨gm 1141 rfl rfl, gm 76 (by decide +kernel) rfl, by decide +kernel, by decide +kernel, by decide +kernel⟩
set_option maxRecDepth 100000 in
theorem ok_Mo_deliver : MOK M_Mo_deliver 2 := ⟨gm 1145 rfl rfl, gm 76 (by decide +kernel) rfl, by decide +kernel, by decide +kernel, by decide +kernel⟩
set_option maxRecDepth 100000 in
theorem ok_Mo_reply : MOK M_Mo_reply 1 := ⟨gm 1149 rfl rfl, gm 76 (by decide +kernel) rfl, by decide +kernel, by decide +kernel, by decide +kernel⟩
set_option maxRecDepth 100000 in
theorem ok_Mo_keepAlive : MOK M_Mo_keepAlive 6 := ⟨gm 1153 rfl rfl, gm 76 (by decide +kernel) rfl, by decide +kernel, by decide +kernel, by decide +kernel⟩
set_option maxRecDepth 100000 in
theorem ok_Mo_punch : MOK M_Mo_punch 4 := ⟨gm 1157 rfl rfl, gm 76 (by decide +kernel) rfl, by decide +kernel, by decide +kernel, by decide +kernel⟩
set_option maxRecDepth 100000 in
theorem ok_Mo_punches : MOK M_Mo_punches 4 := ⟨gm 1162 rfl rfl, gm 76 (by decide +kernel) rfl, by decide +kernel, by decide +kernel, by decide +kernel⟩
set_option maxRecDepth 100000 in
theorem ok_Mo_shows : MOK M_Mo_shows 5 := ⟨gm 1166 rfl rfl, gm 76 (by decide +kernel) rfl, by decide +kernel, by decide +kernel, by decide +kernel⟩
set_option maxRecDepth 100000 in
theorem ok_Mo_tries : MOK M_Mo_tries 3 := ⟨gm 1170 rfl rfl, gm 76 (by decide +kernel) rfl, by decide +kernel, by decide +kernel, by decide +kernel⟩
set_option maxRecDepth 100000 in
theorem ok_Mo_ifSent : MOK M_Mo_ifSent 4 := ⟨gm 1174 rfl rfl, gm 76 (by decide +kernel) rfl, by decide +kernel, by decide +kernel, by decide +kernel⟩
set_option maxRecDepth 100000 in
theorem ok_Mo_count : MOK M_Mo_count 1 := ⟨gm 1178 rfl rfl, gm 76 (by decide +kernel) rfl, by decide +kernel, by decide +kernel, by decide +kernel⟩
set_option maxRecDepth 100000 in
theorem ok_Mo_counted : MOK M_Mo_counted 1 := ⟨gm 1182 rfl rfl, gm 76 (by decide +kernel) rfl, by decide +kernel, by decide +kernel, by decide +kernel⟩
set_option maxRecDepth 100000 in
theorem ok_Mo_hosts : MOK M_Mo_hosts 0 := ⟨gm 1186 rfl rfl, gm 76 (by decide +kernel) rfl, by decide +kernel, by decide +kernel, by decide +kernel⟩
set_option maxRecDepth 100000 in
theorem ok_Mo_mappings : MOK M_Mo_mappings 0 := ⟨gm 1190 rfl rfl, gm 76 (by decide +kernel) rfl, by decide +kernel, by decide +kernel, by decide +kernel⟩
set_option maxRecDepth 100000 in
theorem ok_Mo_node : MOK M_Mo_node 2 := ⟨gm 1194 rfl rfl, gm 76 (by decide +kernel) rfl, by decide +kernel, by decide +kernel, by decide +kernel⟩
set_option maxRecDepth 100000 in
theorem ok_Mo_nodeNow : MOK M_Mo_nodeNow 2 := ⟨gm 1198 rfl rfl, gm 76 (by decide +kernel) rfl, by decide +kernel, by decide +kernel, by decide +kernel⟩
set_option maxRecDepth 100000 in
theorem ok_Mo_depth : MOK M_Mo_depth 1 := ⟨gm 1202 rfl rfl, gm 76 (by decide +kernel) rfl, by decide +kernel, by decide +kernel, by decide +kernel⟩
set_option maxRecDepth 100000 in
theorem ok_Mo_hostsBehind : MOK M_Mo_hostsBehind 1 := ⟨gm 1206 rfl rfl, gm 76 (by decide +kernel) rfl, by decide +kernel, by decide +kernel, by decide +kernel⟩
set_option maxRecDepth 100000 in
theorem ok_Mo_isBehind : MOK M_Mo_isBehind 2 := ⟨gm 1210 rfl rfl, gm 76 (by decide +kernel) rfl, by decide +kernel, by decide +kernel, by decide +kernel⟩
set_option maxRecDepth 100000 in
theorem ok_Mo_translator : MOK M_Mo_translator 2 := ⟨gm 1214 rfl rfl, gm 76 (by decide +kernel) rfl, by decide +kernel, by decide +kernel, by decide +kernel⟩
set_option maxRecDepth 100000 in
theorem ok_Mo_translatorNow : MOK M_Mo_translatorNow 2 := ⟨gm 1218 rfl rfl, gm 76 (by decide +kernel) rfl, by decide +kernel, by decide +kernel, by decide +kernel⟩
set_option maxRecDepth 100000 in
theorem ok_Mo_mapping : MOK M_Mo_mapping 3 := ⟨gm 1222 rfl rfl, gm 76 (by decide +kernel) rfl, by decide +kernel, by decide +kernel, by decide +kernel⟩
set_option maxRecDepth 100000 in
theorem ok_Mo_mappingNow : MOK M_Mo_mappingNow 3 := ⟨gm 1226 rfl rfl, gm 76 (by decide +kernel) rfl, by decide +kernel, by decide +kernel, by decide +kernel⟩
set_option maxRecDepth 100000 in
theorem ok_Mo_timeLeft : MOK M_Mo_timeLeft 4 := ⟨gm 1230 rfl rfl, gm 76 (by decide +kernel) rfl, by decide +kernel, by decide +kernel, by decide +kernel⟩
set_option maxRecDepth 100000 in
theorem ok_Mo_leastLeft : MOK M_Mo_leastLeft 4 := ⟨gm 1234 rfl rfl, gm 76 (by decide +kernel) rfl, by decide +kernel, by decide +kernel, by decide +kernel⟩
set_option maxRecDepth 100000 in
theorem ok_Mo_common : MOK M_Mo_common 2 := ⟨gm 1238 rfl rfl, gm 76 (by decide +kernel) rfl, by decide +kernel, by decide +kernel, by decide +kernel⟩
set_option maxRecDepth 100000 in
theorem ok_Mo_commonOf : MOK M_Mo_commonOf 2 := ⟨gm 1242 rfl rfl, gm 76 (by decide +kernel) rfl, by decide +kernel, by decide +kernel, by decide +kernel⟩
set_option maxRecDepth 100000 in
theorem ok_Mo_delivery : MOK M_Mo_delivery 0 := ⟨gm 1246 rfl rfl, gm 76 (by decide +kernel) rfl, by decide +kernel, by decide +kernel, by decide +kernel⟩
set_option maxRecDepth 100000 in
theorem ok_Mo_digest : MOK M_Mo_digest 0 := ⟨gm 1250 rfl rfl, gm 76 (by decide +kernel) rfl, by decide +kernel, by decide +kernel, by decide +kernel⟩
set_option maxRecDepth 100000 in
theorem ok_Mo_mix : MOK M_Mo_mix 1 := ⟨gm 1255 rfl rfl, gm 76 (by decide +kernel) rfl, by decide +kernel, by decide +kernel, by decide +kernel⟩
set_option maxRecDepth 100000 in
theorem ok_Mo_mixTranslator : MOK M_Mo_mixTranslator 1 := ⟨gm 1260 rfl rfl, gm 76 (by decide +kernel) rfl, by decide +kernel, by decide +kernel, by decide +kernel⟩
theorem ow_obj : Cond.code Lib.objectInit ⟨#[0xb1]⟩ 1 none ∈ gtbl := gm 95 (by decide +kernel) rfl
theorem thA_ISE : ∀ w ∈ vx_atS RX6 59 "java/lang/IllegalStateException" ["java/lang/RuntimeException", "java/lang/Exception"], w ∈ gtbl ∨ (w ∈ tables_1 ∧ nwk w = true ∧ w.onTables = true) := by decide +kernel
theorem thG_ISE : ∀ w ∈ Cond.classLink RX6 55 "java/lang/IllegalStateException" :: Cond.initialized "java/lang/IllegalStateException" :: vx_atS RX6 59 "java/lang/IllegalStateException" ["java/lang/RuntimeException", "java/lang/Exception"], vx_ot w = true := by decide +kernel
theorem thA_IAE : ∀ w ∈ vx_atS RX6 74 "java/lang/IllegalArgumentException" ["java/lang/RuntimeException", "java/lang/Exception"], w ∈ gtbl ∨ (w ∈ tables_1 ∧ nwk w = true ∧ w.onTables = true) := by decide +kernel
theorem thG_IAE : ∀ w ∈ Cond.classLink RX6 70 "java/lang/IllegalArgumentException" :: Cond.initialized "java/lang/IllegalArgumentException" :: vx_atS RX6 74 "java/lang/IllegalArgumentException" ["java/lang/RuntimeException", "java/lang/Exception"], vx_ot w = true := by decide +kernel
theorem thA_IOE : ∀ w ∈ vx_atS RX6 87 "java/lang/IndexOutOfBoundsException" ["java/lang/RuntimeException", "java/lang/Exception"], w ∈ gtbl ∨ (w ∈ tables_1 ∧ nwk w = true ∧ w.onTables = true) := by decide +kernel
theorem thG_IOE : ∀ w ∈ Cond.classLink RX6 83 "java/lang/IndexOutOfBoundsException" :: Cond.initialized "java/lang/IndexOutOfBoundsException" :: vx_atS RX6 87 "java/lang/IndexOutOfBoundsException" ["java/lang/RuntimeException", "java/lang/Exception"], vx_ot w = true := by decide +kernel
