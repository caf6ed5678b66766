abbrev c_Law_sheet : ByteArray := method_3_code
def y_Law_sheet : MethodName := ⟨"NetJoinsLaw", "sheet", "(LNetJoins;II[J)I"⟩
theorem ok_Law_sheet : wOK y_Law_sheet c_Law_sheet 5 (some .int) [(0, 10, 13, 13), (0, 10, 17, 15)] 4 := ⟨kw_417, kw_416, kw_0, by decide +kernel⟩
theorem d_Law_sheet_0 : decode c_Law_sheet 0 = .ok (.aload_n 3, 1) := by decide +kernel
theorem d_Law_sheet_1 : decode c_Law_sheet 1 = .ok (.iconst 0, 1) := by decide +kernel
theorem d_Law_sheet_2 : decode c_Law_sheet 2 = .ok (.aload_n 0, 1) := by decide +kernel
theorem d_Law_sheet_3 : decode c_Law_sheet 3 = .ok (.iload_n 1, 1) := by decide +kernel
theorem d_Law_sheet_4 : decode c_Law_sheet 4 = .ok (.iload_n 2, 1) := by decide +kernel
theorem d_Law_sheet_5 : decode c_Law_sheet 5 = .ok (.invokevirtual 7, 3) := by decide +kernel
theorem d_Law_sheet_8 : decode c_Law_sheet 8 = .ok (.i2l, 1) := by decide +kernel
theorem d_Law_sheet_9 : decode c_Law_sheet 9 = .ok (.lastore, 1) := by decide +kernel
theorem d_Law_sheet_10 : decode c_Law_sheet 10 = .ok (.goto 11, 3) := by decide +kernel
theorem d_Law_sheet_13 : decode c_Law_sheet 13 = .ok (.astore 4, 2) := by decide +kernel
theorem d_Law_sheet_15 : decode c_Law_sheet 15 = .ok (.iconst 1, 1) := by decide +kernel
theorem d_Law_sheet_16 : decode c_Law_sheet 16 = .ok (.ireturn, 1) := by decide +kernel
theorem d_Law_sheet_17 : decode c_Law_sheet 17 = .ok (.astore 4, 2) := by decide +kernel
theorem d_Law_sheet_19 : decode c_Law_sheet 19 = .ok (.iconst 2, 1) := by decide +kernel
theorem d_Law_sheet_20 : decode c_Law_sheet 20 = .ok (.ireturn, 1) := by decide +kernel
theorem d_Law_sheet_21 : decode c_Law_sheet 21 = .ok (.iconst 0, 1) := by decide +kernel
theorem d_Law_sheet_22 : decode c_Law_sheet 22 = .ok (.ireturn, 1) := by decide +kernel
abbrev c_Law_wire : ByteArray := method_4_code
def y_Law_wire : MethodName := ⟨"NetJoinsLaw", "wire", "(LNetJoins;IJJJJ[J)I"⟩
theorem ok_Law_wire : wOK y_Law_wire c_Law_wire 12 (some .int) [(0, 17, 20, 13), (0, 17, 24, 15), (0, 17, 28, 21)] 7 := ⟨kw_616, kw_615, kw_0, by decide +kernel⟩
theorem d_Law_wire_0 : decode c_Law_wire 0 = .ok (.aload 10, 2) := by decide +kernel
theorem d_Law_wire_2 : decode c_Law_wire 2 = .ok (.iconst 0, 1) := by decide +kernel
theorem d_Law_wire_3 : decode c_Law_wire 3 = .ok (.aload_n 0, 1) := by decide +kernel
theorem d_Law_wire_4 : decode c_Law_wire 4 = .ok (.iload_n 1, 1) := by decide +kernel
theorem d_Law_wire_5 : decode c_Law_wire 5 = .ok (.lload_n 2, 1) := by decide +kernel
theorem d_Law_wire_6 : decode c_Law_wire 6 = .ok (.lload 4, 2) := by decide +kernel
theorem d_Law_wire_8 : decode c_Law_wire 8 = .ok (.lload 6, 2) := by decide +kernel
theorem d_Law_wire_10 : decode c_Law_wire 10 = .ok (.lload 8, 2) := by decide +kernel
theorem d_Law_wire_12 : decode c_Law_wire 12 = .ok (.invokevirtual 17, 3) := by decide +kernel
theorem d_Law_wire_15 : decode c_Law_wire 15 = .ok (.i2l, 1) := by decide +kernel
theorem d_Law_wire_16 : decode c_Law_wire 16 = .ok (.lastore, 1) := by decide +kernel
theorem d_Law_wire_17 : decode c_Law_wire 17 = .ok (.goto 15, 3) := by decide +kernel
theorem d_Law_wire_20 : decode c_Law_wire 20 = .ok (.astore 11, 2) := by decide +kernel
theorem d_Law_wire_22 : decode c_Law_wire 22 = .ok (.iconst 1, 1) := by decide +kernel
theorem d_Law_wire_23 : decode c_Law_wire 23 = .ok (.ireturn, 1) := by decide +kernel
theorem d_Law_wire_24 : decode c_Law_wire 24 = .ok (.astore 11, 2) := by decide +kernel
theorem d_Law_wire_26 : decode c_Law_wire 26 = .ok (.iconst 2, 1) := by decide +kernel
theorem d_Law_wire_27 : decode c_Law_wire 27 = .ok (.ireturn, 1) := by decide +kernel
theorem d_Law_wire_28 : decode c_Law_wire 28 = .ok (.astore 11, 2) := by decide +kernel
theorem d_Law_wire_30 : decode c_Law_wire 30 = .ok (.iconst 3, 1) := by decide +kernel
theorem d_Law_wire_31 : decode c_Law_wire 31 = .ok (.ireturn, 1) := by decide +kernel
theorem d_Law_wire_32 : decode c_Law_wire 32 = .ok (.iconst 0, 1) := by decide +kernel
theorem d_Law_wire_33 : decode c_Law_wire 33 = .ok (.ireturn, 1) := by decide +kernel
abbrev c_Law_junction : ByteArray := method_5_code
def y_Law_junction : MethodName := ⟨"NetJoinsLaw", "junction", "(LNetJoins;IJJ[J)I"⟩
theorem ok_Law_junction : wOK y_Law_junction c_Law_junction 8 (some .int) [(0, 20, 23, 13), (0, 20, 27, 15), (0, 20, 31, 21)] 5 := ⟨kw_688, kw_687, kw_0, by decide +kernel⟩
theorem d_Law_junction_0 : decode c_Law_junction 0 = .ok (.aload 6, 2) := by decide +kernel
theorem d_Law_junction_2 : decode c_Law_junction 2 = .ok (.iconst 0, 1) := by decide +kernel
theorem d_Law_junction_3 : decode c_Law_junction 3 = .ok (.aload_n 0, 1) := by decide +kernel
theorem d_Law_junction_4 : decode c_Law_junction 4 = .ok (.iload_n 1, 1) := by decide +kernel
theorem d_Law_junction_5 : decode c_Law_junction 5 = .ok (.lload_n 2, 1) := by decide +kernel
theorem d_Law_junction_6 : decode c_Law_junction 6 = .ok (.lload 4, 2) := by decide +kernel
theorem d_Law_junction_8 : decode c_Law_junction 8 = .ok (.invokevirtual 23, 3) := by decide +kernel
theorem d_Law_junction_11 : decode c_Law_junction 11 = .ok (.ifCond .eq 7, 3) := by decide +kernel
theorem d_Law_junction_14 : decode c_Law_junction 14 = .ok (.lconst 1, 1) := by decide +kernel
theorem d_Law_junction_15 : decode c_Law_junction 15 = .ok (.goto 4, 3) := by decide +kernel
theorem d_Law_junction_18 : decode c_Law_junction 18 = .ok (.lconst 0, 1) := by decide +kernel
theorem d_Law_junction_19 : decode c_Law_junction 19 = .ok (.lastore, 1) := by decide +kernel
theorem d_Law_junction_20 : decode c_Law_junction 20 = .ok (.goto 15, 3) := by decide +kernel
theorem d_Law_junction_23 : decode c_Law_junction 23 = .ok (.astore 7, 2) := by decide +kernel
theorem d_Law_junction_25 : decode c_Law_junction 25 = .ok (.iconst 1, 1) := by decide +kernel
theorem d_Law_junction_26 : decode c_Law_junction 26 = .ok (.ireturn, 1) := by decide +kernel
theorem d_Law_junction_27 : decode c_Law_junction 27 = .ok (.astore 7, 2) := by decide +kernel
theorem d_Law_junction_29 : decode c_Law_junction 29 = .ok (.iconst 2, 1) := by decide +kernel
theorem d_Law_junction_30 : decode c_Law_junction 30 = .ok (.ireturn, 1) := by decide +kernel
theorem d_Law_junction_31 : decode c_Law_junction 31 = .ok (.astore 7, 2) := by decide +kernel
theorem d_Law_junction_33 : decode c_Law_junction 33 = .ok (.iconst 3, 1) := by decide +kernel
theorem d_Law_junction_34 : decode c_Law_junction 34 = .ok (.ireturn, 1) := by decide +kernel
theorem d_Law_junction_35 : decode c_Law_junction 35 = .ok (.iconst 0, 1) := by decide +kernel
theorem d_Law_junction_36 : decode c_Law_junction 36 = .ok (.ireturn, 1) := by decide +kernel
abbrev c_Law_label : ByteArray := method_6_code
def y_Law_label : MethodName := ⟨"NetJoinsLaw", "label", "(LNetJoins;IJJI[J)I"⟩
theorem ok_Law_label : wOK y_Law_label c_Law_label 9 (some .int) [(0, 15, 18, 13), (0, 15, 22, 15), (0, 15, 26, 21)] 6 := ⟨kw_727, kw_726, kw_0, by decide +kernel⟩
theorem d_Law_label_0 : decode c_Law_label 0 = .ok (.aload 7, 2) := by decide +kernel
theorem d_Law_label_2 : decode c_Law_label 2 = .ok (.iconst 0, 1) := by decide +kernel
theorem d_Law_label_3 : decode c_Law_label 3 = .ok (.aload_n 0, 1) := by decide +kernel
theorem d_Law_label_4 : decode c_Law_label 4 = .ok (.iload_n 1, 1) := by decide +kernel
theorem d_Law_label_5 : decode c_Law_label 5 = .ok (.lload_n 2, 1) := by decide +kernel
theorem d_Law_label_6 : decode c_Law_label 6 = .ok (.lload 4, 2) := by decide +kernel
theorem d_Law_label_8 : decode c_Law_label 8 = .ok (.iload 6, 2) := by decide +kernel
theorem d_Law_label_10 : decode c_Law_label 10 = .ok (.invokevirtual 27, 3) := by decide +kernel
theorem d_Law_label_13 : decode c_Law_label 13 = .ok (.i2l, 1) := by decide +kernel
theorem d_Law_label_14 : decode c_Law_label 14 = .ok (.lastore, 1) := by decide +kernel
theorem d_Law_label_15 : decode c_Law_label 15 = .ok (.goto 15, 3) := by decide +kernel
theorem d_Law_label_18 : decode c_Law_label 18 = .ok (.astore 8, 2) := by decide +kernel
theorem d_Law_label_20 : decode c_Law_label 20 = .ok (.iconst 1, 1) := by decide +kernel
theorem d_Law_label_21 : decode c_Law_label 21 = .ok (.ireturn, 1) := by decide +kernel
theorem d_Law_label_22 : decode c_Law_label 22 = .ok (.astore 8, 2) := by decide +kernel
theorem d_Law_label_24 : decode c_Law_label 24 = .ok (.iconst 2, 1) := by decide +kernel
theorem d_Law_label_25 : decode c_Law_label 25 = .ok (.ireturn, 1) := by decide +kernel
theorem d_Law_label_26 : decode c_Law_label 26 = .ok (.astore 8, 2) := by decide +kernel
theorem d_Law_label_28 : decode c_Law_label 28 = .ok (.iconst 3, 1) := by decide +kernel
theorem d_Law_label_29 : decode c_Law_label 29 = .ok (.ireturn, 1) := by decide +kernel
theorem d_Law_label_30 : decode c_Law_label 30 = .ok (.iconst 0, 1) := by decide +kernel
theorem d_Law_label_31 : decode c_Law_label 31 = .ok (.ireturn, 1) := by decide +kernel
abbrev c_Law_pin : ByteArray := method_7_code
def y_Law_pin : MethodName := ⟨"NetJoinsLaw", "pin", "(LNetJoins;IJJI[J)I"⟩
theorem ok_Law_pin : wOK y_Law_pin c_Law_pin 9 (some .int) [(0, 15, 18, 13), (0, 15, 22, 15), (0, 15, 26, 21)] 6 := ⟨kw_988, kw_987, kw_0, by decide +kernel⟩
theorem d_Law_pin_0 : decode c_Law_pin 0 = .ok (.aload 7, 2) := by decide +kernel
theorem d_Law_pin_2 : decode c_Law_pin 2 = .ok (.iconst 0, 1) := by decide +kernel
theorem d_Law_pin_3 : decode c_Law_pin 3 = .ok (.aload_n 0, 1) := by decide +kernel
theorem d_Law_pin_4 : decode c_Law_pin 4 = .ok (.iload_n 1, 1) := by decide +kernel
theorem d_Law_pin_5 : decode c_Law_pin 5 = .ok (.lload_n 2, 1) := by decide +kernel
theorem d_Law_pin_6 : decode c_Law_pin 6 = .ok (.lload 4, 2) := by decide +kernel
theorem d_Law_pin_8 : decode c_Law_pin 8 = .ok (.iload 6, 2) := by decide +kernel
theorem d_Law_pin_10 : decode c_Law_pin 10 = .ok (.invokevirtual 31, 3) := by decide +kernel
theorem d_Law_pin_13 : decode c_Law_pin 13 = .ok (.i2l, 1) := by decide +kernel
theorem d_Law_pin_14 : decode c_Law_pin 14 = .ok (.lastore, 1) := by decide +kernel
theorem d_Law_pin_15 : decode c_Law_pin 15 = .ok (.goto 15, 3) := by decide +kernel
theorem d_Law_pin_18 : decode c_Law_pin 18 = .ok (.astore 8, 2) := by decide +kernel
theorem d_Law_pin_20 : decode c_Law_pin 20 = .ok (.iconst 1, 1) := by decide +kernel
theorem d_Law_pin_21 : decode c_Law_pin 21 = .ok (.ireturn, 1) := by decide +kernel
theorem d_Law_pin_22 : decode c_Law_pin 22 = .ok (.astore 8, 2) := by decide +kernel
theorem d_Law_pin_24 : decode c_Law_pin 24 = .ok (.iconst 2, 1) := by decide +kernel
theorem d_Law_pin_25 : decode c_Law_pin 25 = .ok (.ireturn, 1) := by decide +kernel
theorem d_Law_pin_26 : decode c_Law_pin 26 = .ok (.astore 8, 2) := by decide +kernel
theorem d_Law_pin_28 : decode c_Law_pin 28 = .ok (.iconst 3, 1) := by decide +kernel
theorem d_Law_pin_29 : decode c_Law_pin 29 = .ok (.ireturn, 1) := by decide +kernel
theorem d_Law_pin_30 : decode c_Law_pin 30 = .ok (.iconst 0, 1) := by decide +kernel
theorem d_Law_pin_31 : decode c_Law_pin 31 = .ok (.ireturn, 1) := by decide +kernel
abbrev c_Law_port : ByteArray := method_8_code
def y_Law_port : MethodName := ⟨"NetJoinsLaw", "port", "(LNetJoins;III[J)I"⟩
theorem ok_Law_port : wOK y_Law_port c_Law_port 6 (some .int) [(0, 19, 22, 13), (0, 19, 26, 15), (0, 19, 30, 21)] 5 := ⟨kw_999, kw_998, kw_0, by decide +kernel⟩
theorem d_Law_port_0 : decode c_Law_port 0 = .ok (.aload 4, 2) := by decide +kernel
theorem d_Law_port_2 : decode c_Law_port 2 = .ok (.iconst 0, 1) := by decide +kernel
theorem d_Law_port_3 : decode c_Law_port 3 = .ok (.aload_n 0, 1) := by decide +kernel
theorem d_Law_port_4 : decode c_Law_port 4 = .ok (.iload_n 1, 1) := by decide +kernel
theorem d_Law_port_5 : decode c_Law_port 5 = .ok (.iload_n 2, 1) := by decide +kernel
theorem d_Law_port_6 : decode c_Law_port 6 = .ok (.iload_n 3, 1) := by decide +kernel
theorem d_Law_port_7 : decode c_Law_port 7 = .ok (.invokevirtual 34, 3) := by decide +kernel
theorem d_Law_port_10 : decode c_Law_port 10 = .ok (.ifCond .eq 7, 3) := by decide +kernel
theorem d_Law_port_13 : decode c_Law_port 13 = .ok (.lconst 1, 1) := by decide +kernel
theorem d_Law_port_14 : decode c_Law_port 14 = .ok (.goto 4, 3) := by decide +kernel
theorem d_Law_port_17 : decode c_Law_port 17 = .ok (.lconst 0, 1) := by decide +kernel
theorem d_Law_port_18 : decode c_Law_port 18 = .ok (.lastore, 1) := by decide +kernel
theorem d_Law_port_19 : decode c_Law_port 19 = .ok (.goto 15, 3) := by decide +kernel
theorem d_Law_port_22 : decode c_Law_port 22 = .ok (.astore 5, 2) := by decide +kernel
theorem d_Law_port_24 : decode c_Law_port 24 = .ok (.iconst 1, 1) := by decide +kernel
theorem d_Law_port_25 : decode c_Law_port 25 = .ok (.ireturn, 1) := by decide +kernel
theorem d_Law_port_26 : decode c_Law_port 26 = .ok (.astore 5, 2) := by decide +kernel
theorem d_Law_port_28 : decode c_Law_port 28 = .ok (.iconst 2, 1) := by decide +kernel
theorem d_Law_port_29 : decode c_Law_port 29 = .ok (.ireturn, 1) := by decide +kernel
theorem d_Law_port_30 : decode c_Law_port 30 = .ok (.astore 5, 2) := by decide +kernel
theorem d_Law_port_32 : decode c_Law_port 32 = .ok (.iconst 3, 1) := by decide +kernel
theorem d_Law_port_33 : decode c_Law_port 33 = .ok (.ireturn, 1) := by decide +kernel
theorem d_Law_port_34 : decode c_Law_port 34 = .ok (.iconst 0, 1) := by decide +kernel
theorem d_Law_port_35 : decode c_Law_port 35 = .ok (.ireturn, 1) := by decide +kernel
abbrev c_Law_bus : ByteArray := method_9_code
def y_Law_bus : MethodName := ⟨"NetJoinsLaw", "bus", "(LNetJoins;IIII[J)I"⟩
theorem ok_Law_bus : wOK y_Law_bus c_Law_bus 7 (some .int) [(0, 21, 24, 13), (0, 21, 28, 15), (0, 21, 32, 21)] 6 := ⟨kw_1046, kw_1045, kw_0, by decide +kernel⟩
theorem d_Law_bus_0 : decode c_Law_bus 0 = .ok (.aload 5, 2) := by decide +kernel
theorem d_Law_bus_2 : decode c_Law_bus 2 = .ok (.iconst 0, 1) := by decide +kernel
theorem d_Law_bus_3 : decode c_Law_bus 3 = .ok (.aload_n 0, 1) := by decide +kernel
theorem d_Law_bus_4 : decode c_Law_bus 4 = .ok (.iload_n 1, 1) := by decide +kernel
theorem d_Law_bus_5 : decode c_Law_bus 5 = .ok (.iload_n 2, 1) := by decide +kernel
theorem d_Law_bus_6 : decode c_Law_bus 6 = .ok (.iload_n 3, 1) := by decide +kernel
theorem d_Law_bus_7 : decode c_Law_bus 7 = .ok (.iload 4, 2) := by decide +kernel
theorem d_Law_bus_9 : decode c_Law_bus 9 = .ok (.invokevirtual 38, 3) := by decide +kernel
theorem d_Law_bus_12 : decode c_Law_bus 12 = .ok (.ifCond .eq 7, 3) := by decide +kernel
theorem d_Law_bus_15 : decode c_Law_bus 15 = .ok (.lconst 1, 1) := by decide +kernel
theorem d_Law_bus_16 : decode c_Law_bus 16 = .ok (.goto 4, 3) := by decide +kernel
theorem d_Law_bus_19 : decode c_Law_bus 19 = .ok (.lconst 0, 1) := by decide +kernel
theorem d_Law_bus_20 : decode c_Law_bus 20 = .ok (.lastore, 1) := by decide +kernel
theorem d_Law_bus_21 : decode c_Law_bus 21 = .ok (.goto 15, 3) := by decide +kernel
theorem d_Law_bus_24 : decode c_Law_bus 24 = .ok (.astore 6, 2) := by decide +kernel
theorem d_Law_bus_26 : decode c_Law_bus 26 = .ok (.iconst 1, 1) := by decide +kernel
theorem d_Law_bus_27 : decode c_Law_bus 27 = .ok (.ireturn, 1) := by decide +kernel
theorem d_Law_bus_28 : decode c_Law_bus 28 = .ok (.astore 6, 2) := by decide +kernel
theorem d_Law_bus_30 : decode c_Law_bus 30 = .ok (.iconst 2, 1) := by decide +kernel
theorem d_Law_bus_31 : decode c_Law_bus 31 = .ok (.ireturn, 1) := by decide +kernel
theorem d_Law_bus_32 : decode c_Law_bus 32 = .ok (.astore 6, 2) := by decide +kernel
theorem d_Law_bus_34 : decode c_Law_bus 34 = .ok (.iconst 3, 1) := by decide +kernel
theorem d_Law_bus_35 : decode c_Law_bus 35 = .ok (.ireturn, 1) := by decide +kernel
theorem d_Law_bus_36 : decode c_Law_bus 36 = .ok (.iconst 0, 1) := by decide +kernel
theorem d_Law_bus_37 : decode c_Law_bus 37 = .ok (.ireturn, 1) := by decide +kernel
abbrev c_Law_netOf : ByteArray := method_10_code
def y_Law_netOf : MethodName := ⟨"NetJoinsLaw", "netOf", "(LNetJoins;II[J)I"⟩
theorem ok_Law_netOf : wOK y_Law_netOf c_Law_netOf 5 (some .int) [(0, 10, 13, 13)] 4 := ⟨kw_1079, kw_1078, kw_0, by decide +kernel⟩
theorem d_Law_netOf_0 : decode c_Law_netOf 0 = .ok (.aload_n 3, 1) := by decide +kernel
theorem d_Law_netOf_1 : decode c_Law_netOf 1 = .ok (.iconst 0, 1) := by decide +kernel
theorem d_Law_netOf_2 : decode c_Law_netOf 2 = .ok (.aload_n 0, 1) := by decide +kernel
theorem d_Law_netOf_3 : decode c_Law_netOf 3 = .ok (.iload_n 1, 1) := by decide +kernel
theorem d_Law_netOf_4 : decode c_Law_netOf 4 = .ok (.iload_n 2, 1) := by decide +kernel
theorem d_Law_netOf_5 : decode c_Law_netOf 5 = .ok (.invokevirtual 42, 3) := by decide +kernel
theorem d_Law_netOf_8 : decode c_Law_netOf 8 = .ok (.i2l, 1) := by decide +kernel
theorem d_Law_netOf_9 : decode c_Law_netOf 9 = .ok (.lastore, 1) := by decide +kernel
theorem d_Law_netOf_10 : decode c_Law_netOf 10 = .ok (.goto 7, 3) := by decide +kernel
theorem d_Law_netOf_13 : decode c_Law_netOf 13 = .ok (.astore 4, 2) := by decide +kernel
theorem d_Law_netOf_15 : decode c_Law_netOf 15 = .ok (.iconst 1, 1) := by decide +kernel
theorem d_Law_netOf_16 : decode c_Law_netOf 16 = .ok (.ireturn, 1) := by decide +kernel
theorem d_Law_netOf_17 : decode c_Law_netOf 17 = .ok (.iconst 0, 1) := by decide +kernel
theorem d_Law_netOf_18 : decode c_Law_netOf 18 = .ok (.ireturn, 1) := by decide +kernel
abbrev c_Law_rank : ByteArray := method_11_code
def y_Law_rank : MethodName := ⟨"NetJoinsLaw", "rank", "(LNetJoins;II[J)I"⟩
theorem ok_Law_rank : wOK y_Law_rank c_Law_rank 5 (some .int) [(0, 17, 20, 21)] 4 := ⟨kw_1092, kw_1091, kw_0, by decide +kernel⟩
theorem d_Law_rank_0 : decode c_Law_rank 0 = .ok (.aload_n 3, 1) := by decide +kernel
theorem d_Law_rank_1 : decode c_Law_rank 1 = .ok (.iconst 0, 1) := by decide +kernel
theorem d_Law_rank_2 : decode c_Law_rank 2 = .ok (.aload_n 0, 1) := by decide +kernel
theorem d_Law_rank_3 : decode c_Law_rank 3 = .ok (.iload_n 1, 1) := by decide +kernel
theorem d_Law_rank_4 : decode c_Law_rank 4 = .ok (.iload_n 2, 1) := by decide +kernel
theorem d_Law_rank_5 : decode c_Law_rank 5 = .ok (.invokevirtual 45, 3) := by decide +kernel
theorem d_Law_rank_8 : decode c_Law_rank 8 = .ok (.ifCond .eq 7, 3) := by decide +kernel
theorem d_Law_rank_11 : decode c_Law_rank 11 = .ok (.lconst 1, 1) := by decide +kernel
theorem d_Law_rank_12 : decode c_Law_rank 12 = .ok (.goto 4, 3) := by decide +kernel
theorem d_Law_rank_15 : decode c_Law_rank 15 = .ok (.lconst 0, 1) := by decide +kernel
theorem d_Law_rank_16 : decode c_Law_rank 16 = .ok (.lastore, 1) := by decide +kernel
theorem d_Law_rank_17 : decode c_Law_rank 17 = .ok (.goto 7, 3) := by decide +kernel
theorem d_Law_rank_20 : decode c_Law_rank 20 = .ok (.astore 4, 2) := by decide +kernel
theorem d_Law_rank_22 : decode c_Law_rank 22 = .ok (.iconst 1, 1) := by decide +kernel
theorem d_Law_rank_23 : decode c_Law_rank 23 = .ok (.ireturn, 1) := by decide +kernel
theorem d_Law_rank_24 : decode c_Law_rank 24 = .ok (.iconst 0, 1) := by decide +kernel
theorem d_Law_rank_25 : decode c_Law_rank 25 = .ok (.ireturn, 1) := by decide +kernel
abbrev c_Law_name : ByteArray := method_12_code
def y_Law_name : MethodName := ⟨"NetJoinsLaw", "name", "(LNetJoins;I[J)I"⟩
theorem ok_Law_name : wOK y_Law_name c_Law_name 4 (some .int) [(0, 9, 12, 13)] 3 := ⟨kw_1100, kw_1099, kw_0, by decide +kernel⟩
theorem d_Law_name_0 : decode c_Law_name 0 = .ok (.aload_n 2, 1) := by decide +kernel
theorem d_Law_name_1 : decode c_Law_name 1 = .ok (.iconst 0, 1) := by decide +kernel
theorem d_Law_name_2 : decode c_Law_name 2 = .ok (.aload_n 0, 1) := by decide +kernel
theorem d_Law_name_3 : decode c_Law_name 3 = .ok (.iload_n 1, 1) := by decide +kernel
theorem d_Law_name_4 : decode c_Law_name 4 = .ok (.invokevirtual 49, 3) := by decide +kernel
theorem d_Law_name_7 : decode c_Law_name 7 = .ok (.i2l, 1) := by decide +kernel
theorem d_Law_name_8 : decode c_Law_name 8 = .ok (.lastore, 1) := by decide +kernel
theorem d_Law_name_9 : decode c_Law_name 9 = .ok (.goto 6, 3) := by decide +kernel
theorem d_Law_name_12 : decode c_Law_name 12 = .ok (.astore_n 3, 1) := by decide +kernel
theorem d_Law_name_13 : decode c_Law_name 13 = .ok (.iconst 1, 1) := by decide +kernel
theorem d_Law_name_14 : decode c_Law_name 14 = .ok (.ireturn, 1) := by decide +kernel
theorem d_Law_name_15 : decode c_Law_name 15 = .ok (.iconst 0, 1) := by decide +kernel
theorem d_Law_name_16 : decode c_Law_name 16 = .ok (.ireturn, 1) := by decide +kernel
abbrev c_Law_drop : ByteArray := method_13_code
def y_Law_drop : MethodName := ⟨"NetJoinsLaw", "drop", "(LNetJoins;I[J)I"⟩
theorem ok_Law_drop : wOK y_Law_drop c_Law_drop 4 (some .int) [(0, 9, 12, 13)] 3 := ⟨kw_1112, kw_1111, kw_0, by decide +kernel⟩
theorem d_Law_drop_0 : decode c_Law_drop 0 = .ok (.aload_n 2, 1) := by decide +kernel
theorem d_Law_drop_1 : decode c_Law_drop 1 = .ok (.iconst 0, 1) := by decide +kernel
theorem d_Law_drop_2 : decode c_Law_drop 2 = .ok (.aload_n 0, 1) := by decide +kernel
theorem d_Law_drop_3 : decode c_Law_drop 3 = .ok (.iload_n 1, 1) := by decide +kernel
theorem d_Law_drop_4 : decode c_Law_drop 4 = .ok (.invokevirtual 53, 3) := by decide +kernel
theorem d_Law_drop_7 : decode c_Law_drop 7 = .ok (.i2l, 1) := by decide +kernel
theorem d_Law_drop_8 : decode c_Law_drop 8 = .ok (.lastore, 1) := by decide +kernel
theorem d_Law_drop_9 : decode c_Law_drop 9 = .ok (.goto 6, 3) := by decide +kernel
theorem d_Law_drop_12 : decode c_Law_drop 12 = .ok (.astore_n 3, 1) := by decide +kernel
theorem d_Law_drop_13 : decode c_Law_drop 13 = .ok (.iconst 1, 1) := by decide +kernel
theorem d_Law_drop_14 : decode c_Law_drop 14 = .ok (.ireturn, 1) := by decide +kernel
theorem d_Law_drop_15 : decode c_Law_drop 15 = .ok (.iconst 0, 1) := by decide +kernel
theorem d_Law_drop_16 : decode c_Law_drop 16 = .ok (.ireturn, 1) := by decide +kernel
abbrev c_Law_open : ByteArray := method_14_code
def y_Law_open : MethodName := ⟨"NetJoinsLaw", "open", "(LNetJoins;I[J)I"⟩
theorem ok_Law_open : wOK y_Law_open c_Law_open 4 (some .int) [(0, 16, 19, 13)] 3 := ⟨kw_1124, kw_1123, kw_0, by decide +kernel⟩
theorem d_Law_open_0 : decode c_Law_open 0 = .ok (.aload_n 2, 1) := by decide +kernel
theorem d_Law_open_1 : decode c_Law_open 1 = .ok (.iconst 0, 1) := by decide +kernel
theorem d_Law_open_2 : decode c_Law_open 2 = .ok (.aload_n 0, 1) := by decide +kernel
theorem d_Law_open_3 : decode c_Law_open 3 = .ok (.iload_n 1, 1) := by decide +kernel
theorem d_Law_open_4 : decode c_Law_open 4 = .ok (.invokevirtual 56, 3) := by decide +kernel
theorem d_Law_open_7 : decode c_Law_open 7 = .ok (.ifCond .eq 7, 3) := by decide +kernel
theorem d_Law_open_10 : decode c_Law_open 10 = .ok (.lconst 1, 1) := by decide +kernel
theorem d_Law_open_11 : decode c_Law_open 11 = .ok (.goto 4, 3) := by decide +kernel
theorem d_Law_open_14 : decode c_Law_open 14 = .ok (.lconst 0, 1) := by decide +kernel
theorem d_Law_open_15 : decode c_Law_open 15 = .ok (.lastore, 1) := by decide +kernel
theorem d_Law_open_16 : decode c_Law_open 16 = .ok (.goto 6, 3) := by decide +kernel
theorem d_Law_open_19 : decode c_Law_open 19 = .ok (.astore_n 3, 1) := by decide +kernel
theorem d_Law_open_20 : decode c_Law_open 20 = .ok (.iconst 1, 1) := by decide +kernel
theorem d_Law_open_21 : decode c_Law_open 21 = .ok (.ireturn, 1) := by decide +kernel
theorem d_Law_open_22 : decode c_Law_open 22 = .ok (.iconst 0, 1) := by decide +kernel
theorem d_Law_open_23 : decode c_Law_open 23 = .ok (.ireturn, 1) := by decide +kernel
