/-! the reference: its object and its arrays, by slots -/
def mfl (h : Nat → Nat) (f : Nat → Int32) : List Value := [.ref (h 0), .int (f 1), .int (f 2), .ref (h 3), .int (f 4), .int (f 5), .int (f 6), .int (f 7), .int (f 8), .int (f 9), .int (f 10), .int (f 11), .int (f 12), .ref (h 13), .ref (h 14), .ref (h 15), .ref (h 16), .ref (h 17), .ref (h 18), .ref (h 19), .int (f 20), .int (f 21), .int (f 22), .int (f 23), .ref (h 24), .ref (h 25), .ref (h 26), .ref (h 27), .ref (h 28), .ref (h 29), .ref (h 30), .ref (h 31), .ref (h 32), .int (f 33), .int (f 34), .int (f 35), .int (f 36), .int (f 37), .int (f 38), .int (f 39), .int (f 40), .int (f 41), .int (f 42), .int (f 43), .int (f 44), .int (f 45), .ref (h 46), .ref (h 47), .ref (h 48), .int (f 49), .int (f 50), .int (f 51), .int (f 52), .int (f 53), .ref (h 54), .ref (h 55), .ref (h 56), .ref (h 57), .ref (h 58), .ref (h 59), .ref (h 60), .ref (h 61), .ref (h 62), .ref (h 63), .ref (h 64), .ref (h 65), .int (f 66), .int (f 67), .int (f 68), .int (f 69), .ref (h 70), .ref (h 71), .int (f 72), .int (f 73)]
def mW (o : Nat) (h : Nat → Nat) (cI cZ : ClassId) (f : Nat → Int32) (g : Nat → Nat → Int32) : va_W := [(o, .inr (11, mfl h f)), (h 0, .inl (cI, 500, .inl (g 0))), (h 3, .inl (cI, 112, .inl (g 3))), (h 13, .inl (cI, 60, .inl (g 13))), (h 14, .inl (cI, 60, .inl (g 14))), (h 15, .inl (cI, 720, .inl (g 15))), (h 16, .inl (cI, 720, .inl (g 16))), (h 17, .inl (cZ, 720, .inl (g 17))), (h 18, .inl (cI, 720, .inl (g 18))), (h 19, .inl (cI, 720, .inl (g 19))), (h 24, .inl (cI, 40, .inl (g 24))), (h 25, .inl (cI, 48, .inl (g 25))), (h 26, .inl (cI, 48, .inl (g 26))), (h 27, .inl (cI, 128, .inl (g 27))), (h 28, .inl (cI, 128, .inl (g 28))), (h 29, .inl (cI, 128, .inl (g 29))), (h 30, .inl (cI, 128, .inl (g 30))), (h 31, .inl (cI, 80, .inl (g 31))), (h 32, .inl (cI, 80, .inl (g 32))), (h 46, .inl (cI, 36, .inl (g 46))), (h 47, .inl (cI, 36, .inl (g 47))), (h 48, .inl (cI, 36, .inl (g 48))), (h 54, .inl (cI, 36, .inl (g 54))), (h 55, .inl (cI, 36, .inl (g 55))), (h 56, .inl (cZ, 4, .inl (g 56))), (h 57, .inl (cI, 840, .inl (g 57))), (h 58, .inl (cZ, 16, .inl (g 58))), (h 59, .inl (cI, 16, .inl (g 59))), (h 60, .inl (cI, 16, .inl (g 60))), (h 61, .inl (cI, 16, .inl (g 61))), (h 62, .inl (cI, 16, .inl (g 62))), (h 63, .inl (cI, 16, .inl (g 63))), (h 64, .inl (cI, 100, .inl (g 64))), (h 65, .inl (cZ, 64, .inl (g 65))), (h 70, .inl (cI, 36, .inl (g 70))), (h 71, .inl (cI, 500, .inl (g 71)))]
abbrev mWu (o : Nat) (h : Nat → Nat) (cI cZ : ClassId) (u : (Nat → Int32) × (Nat → Nat → Int32)) : va_W := mW o h cI cZ u.1 u.2
abbrev mT (cI cZ : ClassId) : List (ClassId × FieldType) := [(cI, .int), (cZ, .boolean)]
theorem mg_0 {h : Nat → Nat} {f : Nat → Int32} : (mfl h f)[0]? = some (.ref (h 0)) := rfl
theorem mg_1 {h : Nat → Nat} {f : Nat → Int32} : (mfl h f)[1]? = some (.int (f 1)) := rfl
theorem ms_1 {h : Nat → Nat} {f : Nat → Int32} {v : Int32} : (mfl h f).set 1 (.int v) = mfl h (upd f 1 v) := rfl
theorem mg_2 {h : Nat → Nat} {f : Nat → Int32} : (mfl h f)[2]? = some (.int (f 2)) := rfl
theorem ms_2 {h : Nat → Nat} {f : Nat → Int32} {v : Int32} : (mfl h f).set 2 (.int v) = mfl h (upd f 2 v) := rfl
theorem mg_3 {h : Nat → Nat} {f : Nat → Int32} : (mfl h f)[3]? = some (.ref (h 3)) := rfl
theorem mg_4 {h : Nat → Nat} {f : Nat → Int32} : (mfl h f)[4]? = some (.int (f 4)) := rfl
theorem ms_4 {h : Nat → Nat} {f : Nat → Int32} {v : Int32} : (mfl h f).set 4 (.int v) = mfl h (upd f 4 v) := rfl
theorem mg_5 {h : Nat → Nat} {f : Nat → Int32} : (mfl h f)[5]? = some (.int (f 5)) := rfl
theorem ms_5 {h : Nat → Nat} {f : Nat → Int32} {v : Int32} : (mfl h f).set 5 (.int v) = mfl h (upd f 5 v) := rfl
theorem mg_6 {h : Nat → Nat} {f : Nat → Int32} : (mfl h f)[6]? = some (.int (f 6)) := rfl
theorem ms_6 {h : Nat → Nat} {f : Nat → Int32} {v : Int32} : (mfl h f).set 6 (.int v) = mfl h (upd f 6 v) := rfl
theorem mg_7 {h : Nat → Nat} {f : Nat → Int32} : (mfl h f)[7]? = some (.int (f 7)) := rfl
theorem ms_7 {h : Nat → Nat} {f : Nat → Int32} {v : Int32} : (mfl h f).set 7 (.int v) = mfl h (upd f 7 v) := rfl
theorem mg_8 {h : Nat → Nat} {f : Nat → Int32} : (mfl h f)[8]? = some (.int (f 8)) := rfl
theorem ms_8 {h : Nat → Nat} {f : Nat → Int32} {v : Int32} : (mfl h f).set 8 (.int v) = mfl h (upd f 8 v) := rfl
theorem mg_9 {h : Nat → Nat} {f : Nat → Int32} : (mfl h f)[9]? = some (.int (f 9)) := rfl
theorem ms_9 {h : Nat → Nat} {f : Nat → Int32} {v : Int32} : (mfl h f).set 9 (.int v) = mfl h (upd f 9 v) := rfl
theorem mg_10 {h : Nat → Nat} {f : Nat → Int32} : (mfl h f)[10]? = some (.int (f 10)) := rfl
theorem ms_10 {h : Nat → Nat} {f : Nat → Int32} {v : Int32} : (mfl h f).set 10 (.int v) = mfl h (upd f 10 v) := rfl
theorem mg_11 {h : Nat → Nat} {f : Nat → Int32} : (mfl h f)[11]? = some (.int (f 11)) := rfl
theorem ms_11 {h : Nat → Nat} {f : Nat → Int32} {v : Int32} : (mfl h f).set 11 (.int v) = mfl h (upd f 11 v) := rfl
theorem mg_12 {h : Nat → Nat} {f : Nat → Int32} : (mfl h f)[12]? = some (.int (f 12)) := rfl
theorem ms_12 {h : Nat → Nat} {f : Nat → Int32} {v : Int32} : (mfl h f).set 12 (.int v) = mfl h (upd f 12 v) := rfl
theorem mg_13 {h : Nat → Nat} {f : Nat → Int32} : (mfl h f)[13]? = some (.ref (h 13)) := rfl
theorem mg_14 {h : Nat → Nat} {f : Nat → Int32} : (mfl h f)[14]? = some (.ref (h 14)) := rfl
theorem mg_15 {h : Nat → Nat} {f : Nat → Int32} : (mfl h f)[15]? = some (.ref (h 15)) := rfl
theorem mg_16 {h : Nat → Nat} {f : Nat → Int32} : (mfl h f)[16]? = some (.ref (h 16)) := rfl
theorem mg_17 {h : Nat → Nat} {f : Nat → Int32} : (mfl h f)[17]? = some (.ref (h 17)) := rfl
theorem mg_18 {h : Nat → Nat} {f : Nat → Int32} : (mfl h f)[18]? = some (.ref (h 18)) := rfl
theorem mg_19 {h : Nat → Nat} {f : Nat → Int32} : (mfl h f)[19]? = some (.ref (h 19)) := rfl
theorem mg_20 {h : Nat → Nat} {f : Nat → Int32} : (mfl h f)[20]? = some (.int (f 20)) := rfl
theorem ms_20 {h : Nat → Nat} {f : Nat → Int32} {v : Int32} : (mfl h f).set 20 (.int v) = mfl h (upd f 20 v) := rfl
theorem mg_21 {h : Nat → Nat} {f : Nat → Int32} : (mfl h f)[21]? = some (.int (f 21)) := rfl
theorem ms_21 {h : Nat → Nat} {f : Nat → Int32} {v : Int32} : (mfl h f).set 21 (.int v) = mfl h (upd f 21 v) := rfl
theorem mg_22 {h : Nat → Nat} {f : Nat → Int32} : (mfl h f)[22]? = some (.int (f 22)) := rfl
theorem ms_22 {h : Nat → Nat} {f : Nat → Int32} {v : Int32} : (mfl h f).set 22 (.int v) = mfl h (upd f 22 v) := rfl
theorem mg_23 {h : Nat → Nat} {f : Nat → Int32} : (mfl h f)[23]? = some (.int (f 23)) := rfl
theorem ms_23 {h : Nat → Nat} {f : Nat → Int32} {v : Int32} : (mfl h f).set 23 (.int v) = mfl h (upd f 23 v) := rfl
theorem mg_24 {h : Nat → Nat} {f : Nat → Int32} : (mfl h f)[24]? = some (.ref (h 24)) := rfl
theorem mg_25 {h : Nat → Nat} {f : Nat → Int32} : (mfl h f)[25]? = some (.ref (h 25)) := rfl
theorem mg_26 {h : Nat → Nat} {f : Nat → Int32} : (mfl h f)[26]? = some (.ref (h 26)) := rfl
theorem mg_27 {h : Nat → Nat} {f : Nat → Int32} : (mfl h f)[27]? = some (.ref (h 27)) := rfl
theorem mg_28 {h : Nat → Nat} {f : Nat → Int32} : (mfl h f)[28]? = some (.ref (h 28)) := rfl
theorem mg_29 {h : Nat → Nat} {f : Nat → Int32} : (mfl h f)[29]? = some (.ref (h 29)) := rfl
theorem mg_30 {h : Nat → Nat} {f : Nat → Int32} : (mfl h f)[30]? = some (.ref (h 30)) := rfl
theorem mg_31 {h : Nat → Nat} {f : Nat → Int32} : (mfl h f)[31]? = some (.ref (h 31)) := rfl
theorem mg_32 {h : Nat → Nat} {f : Nat → Int32} : (mfl h f)[32]? = some (.ref (h 32)) := rfl
theorem mg_33 {h : Nat → Nat} {f : Nat → Int32} : (mfl h f)[33]? = some (.int (f 33)) := rfl
theorem ms_33 {h : Nat → Nat} {f : Nat → Int32} {v : Int32} : (mfl h f).set 33 (.int v) = mfl h (upd f 33 v) := rfl
theorem mg_34 {h : Nat → Nat} {f : Nat → Int32} : (mfl h f)[34]? = some (.int (f 34)) := rfl
theorem ms_34 {h : Nat → Nat} {f : Nat → Int32} {v : Int32} : (mfl h f).set 34 (.int v) = mfl h (upd f 34 v) := rfl
theorem mg_35 {h : Nat → Nat} {f : Nat → Int32} : (mfl h f)[35]? = some (.int (f 35)) := rfl
theorem ms_35 {h : Nat → Nat} {f : Nat → Int32} {v : Int32} : (mfl h f).set 35 (.int v) = mfl h (upd f 35 v) := rfl
theorem mg_36 {h : Nat → Nat} {f : Nat → Int32} : (mfl h f)[36]? = some (.int (f 36)) := rfl
theorem ms_36 {h : Nat → Nat} {f : Nat → Int32} {v : Int32} : (mfl h f).set 36 (.int v) = mfl h (upd f 36 v) := rfl
theorem mg_37 {h : Nat → Nat} {f : Nat → Int32} : (mfl h f)[37]? = some (.int (f 37)) := rfl
theorem ms_37 {h : Nat → Nat} {f : Nat → Int32} {v : Int32} : (mfl h f).set 37 (.int v) = mfl h (upd f 37 v) := rfl
theorem mg_38 {h : Nat → Nat} {f : Nat → Int32} : (mfl h f)[38]? = some (.int (f 38)) := rfl
theorem ms_38 {h : Nat → Nat} {f : Nat → Int32} {v : Int32} : (mfl h f).set 38 (.int v) = mfl h (upd f 38 v) := rfl
theorem mg_39 {h : Nat → Nat} {f : Nat → Int32} : (mfl h f)[39]? = some (.int (f 39)) := rfl
theorem ms_39 {h : Nat → Nat} {f : Nat → Int32} {v : Int32} : (mfl h f).set 39 (.int v) = mfl h (upd f 39 v) := rfl
theorem mg_40 {h : Nat → Nat} {f : Nat → Int32} : (mfl h f)[40]? = some (.int (f 40)) := rfl
theorem ms_40 {h : Nat → Nat} {f : Nat → Int32} {v : Int32} : (mfl h f).set 40 (.int v) = mfl h (upd f 40 v) := rfl
theorem mg_41 {h : Nat → Nat} {f : Nat → Int32} : (mfl h f)[41]? = some (.int (f 41)) := rfl
theorem ms_41 {h : Nat → Nat} {f : Nat → Int32} {v : Int32} : (mfl h f).set 41 (.int v) = mfl h (upd f 41 v) := rfl
theorem mg_42 {h : Nat → Nat} {f : Nat → Int32} : (mfl h f)[42]? = some (.int (f 42)) := rfl
theorem ms_42 {h : Nat → Nat} {f : Nat → Int32} {v : Int32} : (mfl h f).set 42 (.int v) = mfl h (upd f 42 v) := rfl
theorem mg_43 {h : Nat → Nat} {f : Nat → Int32} : (mfl h f)[43]? = some (.int (f 43)) := rfl
theorem ms_43 {h : Nat → Nat} {f : Nat → Int32} {v : Int32} : (mfl h f).set 43 (.int v) = mfl h (upd f 43 v) := rfl
theorem mg_44 {h : Nat → Nat} {f : Nat → Int32} : (mfl h f)[44]? = some (.int (f 44)) := rfl
theorem ms_44 {h : Nat → Nat} {f : Nat → Int32} {v : Int32} : (mfl h f).set 44 (.int v) = mfl h (upd f 44 v) := rfl
theorem mg_45 {h : Nat → Nat} {f : Nat → Int32} : (mfl h f)[45]? = some (.int (f 45)) := rfl
theorem ms_45 {h : Nat → Nat} {f : Nat → Int32} {v : Int32} : (mfl h f).set 45 (.int v) = mfl h (upd f 45 v) := rfl
theorem mg_46 {h : Nat → Nat} {f : Nat → Int32} : (mfl h f)[46]? = some (.ref (h 46)) := rfl
theorem mg_47 {h : Nat → Nat} {f : Nat → Int32} : (mfl h f)[47]? = some (.ref (h 47)) := rfl
theorem mg_48 {h : Nat → Nat} {f : Nat → Int32} : (mfl h f)[48]? = some (.ref (h 48)) := rfl
theorem mg_49 {h : Nat → Nat} {f : Nat → Int32} : (mfl h f)[49]? = some (.int (f 49)) := rfl
theorem ms_49 {h : Nat → Nat} {f : Nat → Int32} {v : Int32} : (mfl h f).set 49 (.int v) = mfl h (upd f 49 v) := rfl
theorem mg_50 {h : Nat → Nat} {f : Nat → Int32} : (mfl h f)[50]? = some (.int (f 50)) := rfl
theorem ms_50 {h : Nat → Nat} {f : Nat → Int32} {v : Int32} : (mfl h f).set 50 (.int v) = mfl h (upd f 50 v) := rfl
theorem mg_51 {h : Nat → Nat} {f : Nat → Int32} : (mfl h f)[51]? = some (.int (f 51)) := rfl
theorem ms_51 {h : Nat → Nat} {f : Nat → Int32} {v : Int32} : (mfl h f).set 51 (.int v) = mfl h (upd f 51 v) := rfl
theorem mg_52 {h : Nat → Nat} {f : Nat → Int32} : (mfl h f)[52]? = some (.int (f 52)) := rfl
theorem ms_52 {h : Nat → Nat} {f : Nat → Int32} {v : Int32} : (mfl h f).set 52 (.int v) = mfl h (upd f 52 v) := rfl
theorem mg_53 {h : Nat → Nat} {f : Nat → Int32} : (mfl h f)[53]? = some (.int (f 53)) := rfl
theorem ms_53 {h : Nat → Nat} {f : Nat → Int32} {v : Int32} : (mfl h f).set 53 (.int v) = mfl h (upd f 53 v) := rfl
theorem mg_54 {h : Nat → Nat} {f : Nat → Int32} : (mfl h f)[54]? = some (.ref (h 54)) := rfl
theorem mg_55 {h : Nat → Nat} {f : Nat → Int32} : (mfl h f)[55]? = some (.ref (h 55)) := rfl
theorem mg_56 {h : Nat → Nat} {f : Nat → Int32} : (mfl h f)[56]? = some (.ref (h 56)) := rfl
theorem mg_57 {h : Nat → Nat} {f : Nat → Int32} : (mfl h f)[57]? = some (.ref (h 57)) := rfl
theorem mg_58 {h : Nat → Nat} {f : Nat → Int32} : (mfl h f)[58]? = some (.ref (h 58)) := rfl
theorem mg_59 {h : Nat → Nat} {f : Nat → Int32} : (mfl h f)[59]? = some (.ref (h 59)) := rfl
theorem mg_60 {h : Nat → Nat} {f : Nat → Int32} : (mfl h f)[60]? = some (.ref (h 60)) := rfl
theorem mg_61 {h : Nat → Nat} {f : Nat → Int32} : (mfl h f)[61]? = some (.ref (h 61)) := rfl
theorem mg_62 {h : Nat → Nat} {f : Nat → Int32} : (mfl h f)[62]? = some (.ref (h 62)) := rfl
theorem mg_63 {h : Nat → Nat} {f : Nat → Int32} : (mfl h f)[63]? = some (.ref (h 63)) := rfl
theorem mg_64 {h : Nat → Nat} {f : Nat → Int32} : (mfl h f)[64]? = some (.ref (h 64)) := rfl
theorem mg_65 {h : Nat → Nat} {f : Nat → Int32} : (mfl h f)[65]? = some (.ref (h 65)) := rfl
theorem mg_66 {h : Nat → Nat} {f : Nat → Int32} : (mfl h f)[66]? = some (.int (f 66)) := rfl
theorem ms_66 {h : Nat → Nat} {f : Nat → Int32} {v : Int32} : (mfl h f).set 66 (.int v) = mfl h (upd f 66 v) := rfl
theorem mg_67 {h : Nat → Nat} {f : Nat → Int32} : (mfl h f)[67]? = some (.int (f 67)) := rfl
theorem ms_67 {h : Nat → Nat} {f : Nat → Int32} {v : Int32} : (mfl h f).set 67 (.int v) = mfl h (upd f 67 v) := rfl
theorem mg_68 {h : Nat → Nat} {f : Nat → Int32} : (mfl h f)[68]? = some (.int (f 68)) := rfl
theorem ms_68 {h : Nat → Nat} {f : Nat → Int32} {v : Int32} : (mfl h f).set 68 (.int v) = mfl h (upd f 68 v) := rfl
theorem mg_69 {h : Nat → Nat} {f : Nat → Int32} : (mfl h f)[69]? = some (.int (f 69)) := rfl
theorem ms_69 {h : Nat → Nat} {f : Nat → Int32} {v : Int32} : (mfl h f).set 69 (.int v) = mfl h (upd f 69 v) := rfl
theorem mg_70 {h : Nat → Nat} {f : Nat → Int32} : (mfl h f)[70]? = some (.ref (h 70)) := rfl
theorem mg_71 {h : Nat → Nat} {f : Nat → Int32} : (mfl h f)[71]? = some (.ref (h 71)) := rfl
theorem mg_72 {h : Nat → Nat} {f : Nat → Int32} : (mfl h f)[72]? = some (.int (f 72)) := rfl
theorem ms_72 {h : Nat → Nat} {f : Nat → Int32} {v : Int32} : (mfl h f).set 72 (.int v) = mfl h (upd f 72 v) := rfl
theorem mg_73 {h : Nat → Nat} {f : Nat → Int32} : (mfl h f)[73]? = some (.int (f 73)) := rfl
theorem ms_73 {h : Nat → Nat} {f : Nat → Int32} {v : Int32} : (mfl h f).set 73 (.int v) = mfl h (upd f 73 v) := rfl
theorem mp_0 {o : Nat} {h : Nat → Nat} {cI cZ : ClassId} {f : Nat → Int32} {g : Nat → Nat → Int32} : (mW o h cI cZ f g)[1]? = some (h 0, .inl (cI, 500, .inl (g 0))) := rfl
theorem mq_0 {o : Nat} {h : Nat → Nat} {cI cZ : ClassId} {f : Nat → Int32} {g : Nat → Nat → Int32} {y : Nat → Int32} : (mW o h cI cZ f g).set 1 (h 0, .inl (cI, 500, .inl y)) = mW o h cI cZ f (va_up g 0 y) := rfl
theorem mp_3 {o : Nat} {h : Nat → Nat} {cI cZ : ClassId} {f : Nat → Int32} {g : Nat → Nat → Int32} : (mW o h cI cZ f g)[2]? = some (h 3, .inl (cI, 112, .inl (g 3))) := rfl
theorem mq_3 {o : Nat} {h : Nat → Nat} {cI cZ : ClassId} {f : Nat → Int32} {g : Nat → Nat → Int32} {y : Nat → Int32} : (mW o h cI cZ f g).set 2 (h 3, .inl (cI, 112, .inl y)) = mW o h cI cZ f (va_up g 3 y) := rfl
theorem mp_13 {o : Nat} {h : Nat → Nat} {cI cZ : ClassId} {f : Nat → Int32} {g : Nat → Nat → Int32} : (mW o h cI cZ f g)[3]? = some (h 13, .inl (cI, 60, .inl (g 13))) := rfl
theorem mq_13 {o : Nat} {h : Nat → Nat} {cI cZ : ClassId} {f : Nat → Int32} {g : Nat → Nat → Int32} {y : Nat → Int32} : (mW o h cI cZ f g).set 3 (h 13, .inl (cI, 60, .inl y)) = mW o h cI cZ f (va_up g 13 y) := rfl
theorem mp_14 {o : Nat} {h : Nat → Nat} {cI cZ : ClassId} {f : Nat → Int32} {g : Nat → Nat → Int32} : (mW o h cI cZ f g)[4]? = some (h 14, .inl (cI, 60, .inl (g 14))) := rfl
theorem mq_14 {o : Nat} {h : Nat → Nat} {cI cZ : ClassId} {f : Nat → Int32} {g : Nat → Nat → Int32} {y : Nat → Int32} : (mW o h cI cZ f g).set 4 (h 14, .inl (cI, 60, .inl y)) = mW o h cI cZ f (va_up g 14 y) := rfl
theorem mp_15 {o : Nat} {h : Nat → Nat} {cI cZ : ClassId} {f : Nat → Int32} {g : Nat → Nat → Int32} : (mW o h cI cZ f g)[5]? = some (h 15, .inl (cI, 720, .inl (g 15))) := rfl
theorem mq_15 {o : Nat} {h : Nat → Nat} {cI cZ : ClassId} {f : Nat → Int32} {g : Nat → Nat → Int32} {y : Nat → Int32} : (mW o h cI cZ f g).set 5 (h 15, .inl (cI, 720, .inl y)) = mW o h cI cZ f (va_up g 15 y) := rfl
theorem mp_16 {o : Nat} {h : Nat → Nat} {cI cZ : ClassId} {f : Nat → Int32} {g : Nat → Nat → Int32} : (mW o h cI cZ f g)[6]? = some (h 16, .inl (cI, 720, .inl (g 16))) := rfl
theorem mq_16 {o : Nat} {h : Nat → Nat} {cI cZ : ClassId} {f : Nat → Int32} {g : Nat → Nat → Int32} {y : Nat → Int32} : (mW o h cI cZ f g).set 6 (h 16, .inl (cI, 720, .inl y)) = mW o h cI cZ f (va_up g 16 y) := rfl
theorem mp_17 {o : Nat} {h : Nat → Nat} {cI cZ : ClassId} {f : Nat → Int32} {g : Nat → Nat → Int32} : (mW o h cI cZ f g)[7]? = some (h 17, .inl (cZ, 720, .inl (g 17))) := rfl
theorem mq_17 {o : Nat} {h : Nat → Nat} {cI cZ : ClassId} {f : Nat → Int32} {g : Nat → Nat → Int32} {y : Nat → Int32} : (mW o h cI cZ f g).set 7 (h 17, .inl (cZ, 720, .inl y)) = mW o h cI cZ f (va_up g 17 y) := rfl
theorem mp_18 {o : Nat} {h : Nat → Nat} {cI cZ : ClassId} {f : Nat → Int32} {g : Nat → Nat → Int32} : (mW o h cI cZ f g)[8]? = some (h 18, .inl (cI, 720, .inl (g 18))) := rfl
theorem mq_18 {o : Nat} {h : Nat → Nat} {cI cZ : ClassId} {f : Nat → Int32} {g : Nat → Nat → Int32} {y : Nat → Int32} : (mW o h cI cZ f g).set 8 (h 18, .inl (cI, 720, .inl y)) = mW o h cI cZ f (va_up g 18 y) := rfl
theorem mp_19 {o : Nat} {h : Nat → Nat} {cI cZ : ClassId} {f : Nat → Int32} {g : Nat → Nat → Int32} : (mW o h cI cZ f g)[9]? = some (h 19, .inl (cI, 720, .inl (g 19))) := rfl
theorem mq_19 {o : Nat} {h : Nat → Nat} {cI cZ : ClassId} {f : Nat → Int32} {g : Nat → Nat → Int32} {y : Nat → Int32} : (mW o h cI cZ f g).set 9 (h 19, .inl (cI, 720, .inl y)) = mW o h cI cZ f (va_up g 19 y) := rfl
theorem mp_24 {o : Nat} {h : Nat → Nat} {cI cZ : ClassId} {f : Nat → Int32} {g : Nat → Nat → Int32} : (mW o h cI cZ f g)[10]? = some (h 24, .inl (cI, 40, .inl (g 24))) := rfl
theorem mq_24 {o : Nat} {h : Nat → Nat} {cI cZ : ClassId} {f : Nat → Int32} {g : Nat → Nat → Int32} {y : Nat → Int32} : (mW o h cI cZ f g).set 10 (h 24, .inl (cI, 40, .inl y)) = mW o h cI cZ f (va_up g 24 y) := rfl
theorem mp_25 {o : Nat} {h : Nat → Nat} {cI cZ : ClassId} {f : Nat → Int32} {g : Nat → Nat → Int32} : (mW o h cI cZ f g)[11]? = some (h 25, .inl (cI, 48, .inl (g 25))) := rfl
theorem mq_25 {o : Nat} {h : Nat → Nat} {cI cZ : ClassId} {f : Nat → Int32} {g : Nat → Nat → Int32} {y : Nat → Int32} : (mW o h cI cZ f g).set 11 (h 25, .inl (cI, 48, .inl y)) = mW o h cI cZ f (va_up g 25 y) := rfl
theorem mp_26 {o : Nat} {h : Nat → Nat} {cI cZ : ClassId} {f : Nat → Int32} {g : Nat → Nat → Int32} : (mW o h cI cZ f g)[12]? = some (h 26, .inl (cI, 48, .inl (g 26))) := rfl
theorem mq_26 {o : Nat} {h : Nat → Nat} {cI cZ : ClassId} {f : Nat → Int32} {g : Nat → Nat → Int32} {y : Nat → Int32} : (mW o h cI cZ f g).set 12 (h 26, .inl (cI, 48, .inl y)) = mW o h cI cZ f (va_up g 26 y) := rfl
theorem mp_27 {o : Nat} {h : Nat → Nat} {cI cZ : ClassId} {f : Nat → Int32} {g : Nat → Nat → Int32} : (mW o h cI cZ f g)[13]? = some (h 27, .inl (cI, 128, .inl (g 27))) := rfl
theorem mq_27 {o : Nat} {h : Nat → Nat} {cI cZ : ClassId} {f : Nat → Int32} {g : Nat → Nat → Int32} {y : Nat → Int32} : (mW o h cI cZ f g).set 13 (h 27, .inl (cI, 128, .inl y)) = mW o h cI cZ f (va_up g 27 y) := rfl
theorem mp_28 {o : Nat} {h : Nat → Nat} {cI cZ : ClassId} {f : Nat → Int32} {g : Nat → Nat → Int32} : (mW o h cI cZ f g)[14]? = some (h 28, .inl (cI, 128, .inl (g 28))) := rfl
theorem mq_28 {o : Nat} {h : Nat → Nat} {cI cZ : ClassId} {f : Nat → Int32} {g : Nat → Nat → Int32} {y : Nat → Int32} : (mW o h cI cZ f g).set 14 (h 28, .inl (cI, 128, .inl y)) = mW o h cI cZ f (va_up g 28 y) := rfl
theorem mp_29 {o : Nat} {h : Nat → Nat} {cI cZ : ClassId} {f : Nat → Int32} {g : Nat → Nat → Int32} : (mW o h cI cZ f g)[15]? = some (h 29, .inl (cI, 128, .inl (g 29))) := rfl
theorem mq_29 {o : Nat} {h : Nat → Nat} {cI cZ : ClassId} {f : Nat → Int32} {g : Nat → Nat → Int32} {y : Nat → Int32} : (mW o h cI cZ f g).set 15 (h 29, .inl (cI, 128, .inl y)) = mW o h cI cZ f (va_up g 29 y) := rfl
theorem mp_30 {o : Nat} {h : Nat → Nat} {cI cZ : ClassId} {f : Nat → Int32} {g : Nat → Nat → Int32} : (mW o h cI cZ f g)[16]? = some (h 30, .inl (cI, 128, .inl (g 30))) := rfl
theorem mq_30 {o : Nat} {h : Nat → Nat} {cI cZ : ClassId} {f : Nat → Int32} {g : Nat → Nat → Int32} {y : Nat → Int32} : (mW o h cI cZ f g).set 16 (h 30, .inl (cI, 128, .inl y)) = mW o h cI cZ f (va_up g 30 y) := rfl
theorem mp_31 {o : Nat} {h : Nat → Nat} {cI cZ : ClassId} {f : Nat → Int32} {g : Nat → Nat → Int32} : (mW o h cI cZ f g)[17]? = some (h 31, .inl (cI, 80, .inl (g 31))) := rfl
theorem mq_31 {o : Nat} {h : Nat → Nat} {cI cZ : ClassId} {f : Nat → Int32} {g : Nat → Nat → Int32} {y : Nat → Int32} : (mW o h cI cZ f g).set 17 (h 31, .inl (cI, 80, .inl y)) = mW o h cI cZ f (va_up g 31 y) := rfl
theorem mp_32 {o : Nat} {h : Nat → Nat} {cI cZ : ClassId} {f : Nat → Int32} {g : Nat → Nat → Int32} : (mW o h cI cZ f g)[18]? = some (h 32, .inl (cI, 80, .inl (g 32))) := rfl
theorem mq_32 {o : Nat} {h : Nat → Nat} {cI cZ : ClassId} {f : Nat → Int32} {g : Nat → Nat → Int32} {y : Nat → Int32} : (mW o h cI cZ f g).set 18 (h 32, .inl (cI, 80, .inl y)) = mW o h cI cZ f (va_up g 32 y) := rfl
theorem mp_46 {o : Nat} {h : Nat → Nat} {cI cZ : ClassId} {f : Nat → Int32} {g : Nat → Nat → Int32} : (mW o h cI cZ f g)[19]? = some (h 46, .inl (cI, 36, .inl (g 46))) := rfl
theorem mq_46 {o : Nat} {h : Nat → Nat} {cI cZ : ClassId} {f : Nat → Int32} {g : Nat → Nat → Int32} {y : Nat → Int32} : (mW o h cI cZ f g).set 19 (h 46, .inl (cI, 36, .inl y)) = mW o h cI cZ f (va_up g 46 y) := rfl
theorem mp_47 {o : Nat} {h : Nat → Nat} {cI cZ : ClassId} {f : Nat → Int32} {g : Nat → Nat → Int32} : (mW o h cI cZ f g)[20]? = some (h 47, .inl (cI, 36, .inl (g 47))) := rfl
theorem mq_47 {o : Nat} {h : Nat → Nat} {cI cZ : ClassId} {f : Nat → Int32} {g : Nat → Nat → Int32} {y : Nat → Int32} : (mW o h cI cZ f g).set 20 (h 47, .inl (cI, 36, .inl y)) = mW o h cI cZ f (va_up g 47 y) := rfl
theorem mp_48 {o : Nat} {h : Nat → Nat} {cI cZ : ClassId} {f : Nat → Int32} {g : Nat → Nat → Int32} : (mW o h cI cZ f g)[21]? = some (h 48, .inl (cI, 36, .inl (g 48))) := rfl
theorem mq_48 {o : Nat} {h : Nat → Nat} {cI cZ : ClassId} {f : Nat → Int32} {g : Nat → Nat → Int32} {y : Nat → Int32} : (mW o h cI cZ f g).set 21 (h 48, .inl (cI, 36, .inl y)) = mW o h cI cZ f (va_up g 48 y) := rfl
theorem mp_54 {o : Nat} {h : Nat → Nat} {cI cZ : ClassId} {f : Nat → Int32} {g : Nat → Nat → Int32} : (mW o h cI cZ f g)[22]? = some (h 54, .inl (cI, 36, .inl (g 54))) := rfl
theorem mq_54 {o : Nat} {h : Nat → Nat} {cI cZ : ClassId} {f : Nat → Int32} {g : Nat → Nat → Int32} {y : Nat → Int32} : (mW o h cI cZ f g).set 22 (h 54, .inl (cI, 36, .inl y)) = mW o h cI cZ f (va_up g 54 y) := rfl
theorem mp_55 {o : Nat} {h : Nat → Nat} {cI cZ : ClassId} {f : Nat → Int32} {g : Nat → Nat → Int32} : (mW o h cI cZ f g)[23]? = some (h 55, .inl (cI, 36, .inl (g 55))) := rfl
theorem mq_55 {o : Nat} {h : Nat → Nat} {cI cZ : ClassId} {f : Nat → Int32} {g : Nat → Nat → Int32} {y : Nat → Int32} : (mW o h cI cZ f g).set 23 (h 55, .inl (cI, 36, .inl y)) = mW o h cI cZ f (va_up g 55 y) := rfl
theorem mp_56 {o : Nat} {h : Nat → Nat} {cI cZ : ClassId} {f : Nat → Int32} {g : Nat → Nat → Int32} : (mW o h cI cZ f g)[24]? = some (h 56, .inl (cZ, 4, .inl (g 56))) := rfl
theorem mq_56 {o : Nat} {h : Nat → Nat} {cI cZ : ClassId} {f : Nat → Int32} {g : Nat → Nat → Int32} {y : Nat → Int32} : (mW o h cI cZ f g).set 24 (h 56, .inl (cZ, 4, .inl y)) = mW o h cI cZ f (va_up g 56 y) := rfl
theorem mp_57 {o : Nat} {h : Nat → Nat} {cI cZ : ClassId} {f : Nat → Int32} {g : Nat → Nat → Int32} : (mW o h cI cZ f g)[25]? = some (h 57, .inl (cI, 840, .inl (g 57))) := rfl
theorem mq_57 {o : Nat} {h : Nat → Nat} {cI cZ : ClassId} {f : Nat → Int32} {g : Nat → Nat → Int32} {y : Nat → Int32} : (mW o h cI cZ f g).set 25 (h 57, .inl (cI, 840, .inl y)) = mW o h cI cZ f (va_up g 57 y) := rfl
theorem mp_58 {o : Nat} {h : Nat → Nat} {cI cZ : ClassId} {f : Nat → Int32} {g : Nat → Nat → Int32} : (mW o h cI cZ f g)[26]? = some (h 58, .inl (cZ, 16, .inl (g 58))) := rfl
theorem mq_58 {o : Nat} {h : Nat → Nat} {cI cZ : ClassId} {f : Nat → Int32} {g : Nat → Nat → Int32} {y : Nat → Int32} : (mW o h cI cZ f g).set 26 (h 58, .inl (cZ, 16, .inl y)) = mW o h cI cZ f (va_up g 58 y) := rfl
theorem mp_59 {o : Nat} {h : Nat → Nat} {cI cZ : ClassId} {f : Nat → Int32} {g : Nat → Nat → Int32} : (mW o h cI cZ f g)[27]? = some (h 59, .inl (cI, 16, .inl (g 59))) := rfl
theorem mq_59 {o : Nat} {h : Nat → Nat} {cI cZ : ClassId} {f : Nat → Int32} {g : Nat → Nat → Int32} {y : Nat → Int32} : (mW o h cI cZ f g).set 27 (h 59, .inl (cI, 16, .inl y)) = mW o h cI cZ f (va_up g 59 y) := rfl
theorem mp_60 {o : Nat} {h : Nat → Nat} {cI cZ : ClassId} {f : Nat → Int32} {g : Nat → Nat → Int32} : (mW o h cI cZ f g)[28]? = some (h 60, .inl (cI, 16, .inl (g 60))) := rfl
theorem mq_60 {o : Nat} {h : Nat → Nat} {cI cZ : ClassId} {f : Nat → Int32} {g : Nat → Nat → Int32} {y : Nat → Int32} : (mW o h cI cZ f g).set 28 (h 60, .inl (cI, 16, .inl y)) = mW o h cI cZ f (va_up g 60 y) := rfl
theorem mp_61 {o : Nat} {h : Nat → Nat} {cI cZ : ClassId} {f : Nat → Int32} {g : Nat → Nat → Int32} : (mW o h cI cZ f g)[29]? = some (h 61, .inl (cI, 16, .inl (g 61))) := rfl
theorem mq_61 {o : Nat} {h : Nat → Nat} {cI cZ : ClassId} {f : Nat → Int32} {g : Nat → Nat → Int32} {y : Nat → Int32} : (mW o h cI cZ f g).set 29 (h 61, .inl (cI, 16, .inl y)) = mW o h cI cZ f (va_up g 61 y) := rfl
theorem mp_62 {o : Nat} {h : Nat → Nat} {cI cZ : ClassId} {f : Nat → Int32} {g : Nat → Nat → Int32} : (mW o h cI cZ f g)[30]? = some (h 62, .inl (cI, 16, .inl (g 62))) := rfl
theorem mq_62 {o : Nat} {h : Nat → Nat} {cI cZ : ClassId} {f : Nat → Int32} {g : Nat → Nat → Int32} {y : Nat → Int32} : (mW o h cI cZ f g).set 30 (h 62, .inl (cI, 16, .inl y)) = mW o h cI cZ f (va_up g 62 y) := rfl
theorem mp_63 {o : Nat} {h : Nat → Nat} {cI cZ : ClassId} {f : Nat → Int32} {g : Nat → Nat → Int32} : (mW o h cI cZ f g)[31]? = some (h 63, .inl (cI, 16, .inl (g 63))) := rfl
theorem mq_63 {o : Nat} {h : Nat → Nat} {cI cZ : ClassId} {f : Nat → Int32} {g : Nat → Nat → Int32} {y : Nat → Int32} : (mW o h cI cZ f g).set 31 (h 63, .inl (cI, 16, .inl y)) = mW o h cI cZ f (va_up g 63 y) := rfl
theorem mp_64 {o : Nat} {h : Nat → Nat} {cI cZ : ClassId} {f : Nat → Int32} {g : Nat → Nat → Int32} : (mW o h cI cZ f g)[32]? = some (h 64, .inl (cI, 100, .inl (g 64))) := rfl
theorem mq_64 {o : Nat} {h : Nat → Nat} {cI cZ : ClassId} {f : Nat → Int32} {g : Nat → Nat → Int32} {y : Nat → Int32} : (mW o h cI cZ f g).set 32 (h 64, .inl (cI, 100, .inl y)) = mW o h cI cZ f (va_up g 64 y) := rfl
theorem mp_65 {o : Nat} {h : Nat → Nat} {cI cZ : ClassId} {f : Nat → Int32} {g : Nat → Nat → Int32} : (mW o h cI cZ f g)[33]? = some (h 65, .inl (cZ, 64, .inl (g 65))) := rfl
theorem mq_65 {o : Nat} {h : Nat → Nat} {cI cZ : ClassId} {f : Nat → Int32} {g : Nat → Nat → Int32} {y : Nat → Int32} : (mW o h cI cZ f g).set 33 (h 65, .inl (cZ, 64, .inl y)) = mW o h cI cZ f (va_up g 65 y) := rfl
theorem mp_70 {o : Nat} {h : Nat → Nat} {cI cZ : ClassId} {f : Nat → Int32} {g : Nat → Nat → Int32} : (mW o h cI cZ f g)[34]? = some (h 70, .inl (cI, 36, .inl (g 70))) := rfl
theorem mq_70 {o : Nat} {h : Nat → Nat} {cI cZ : ClassId} {f : Nat → Int32} {g : Nat → Nat → Int32} {y : Nat → Int32} : (mW o h cI cZ f g).set 34 (h 70, .inl (cI, 36, .inl y)) = mW o h cI cZ f (va_up g 70 y) := rfl
theorem mp_71 {o : Nat} {h : Nat → Nat} {cI cZ : ClassId} {f : Nat → Int32} {g : Nat → Nat → Int32} : (mW o h cI cZ f g)[35]? = some (h 71, .inl (cI, 500, .inl (g 71))) := rfl
theorem mq_71 {o : Nat} {h : Nat → Nat} {cI cZ : ClassId} {f : Nat → Int32} {g : Nat → Nat → Int32} {y : Nat → Int32} : (mW o h cI cZ f g).set 35 (h 71, .inl (cI, 500, .inl y)) = mW o h cI cZ f (va_up g 71 y) := rfl
theorem mz_0 {o : Nat} {h : Nat → Nat} {cI cZ : ClassId} {f f2 : Nat → Int32} {g : Nat → Nat → Int32} {fs : List Value} (e : fs = mfl h f2) : (mW o h cI cZ f g).set 0 (o, .inr (11, fs)) = mW o h cI cZ f2 g := by subst e; rfl
section MR
variable {p : Program} {l : Launch} {e : Env} {R : Room} {s : State} {m : MethodId} {args : Array Value} {below : List Frame} {meth : Method} {c : Code} {H : Heap} {locs : List Loc} {cells slots : Nat} {Q : State → Prop}
variable {cc : ByteArray} {pc : Nat} {ls : Array Slot} {rest : List Value} {D : va_G} {A : Nat → Prop} {nL : Nat} {Ts : List Cond} {own : String} {o : Nat} {h : Nat → Nat} {cI cZ : ClassId} {f : Nat → Int32} {g : Nat → Nat → Int32} {index pos n : Nat}
theorem m_gi (C : CallFix p m c cc nL s args Ts own) (hw : Wd D A s (mT cI cZ) (mW o h cI cZ f g) H locs) (hin : ∀ w ∈ wsX110, w ∈ Ts) (k : Nat) (hk : k < 74) (hlink : Cond.fieldLink own index (TX11 k).1 (TX11 k).2.1 (TX11 k).2.2.1 ∈ Ts) {x : Int32} (hv : (mfl h f)[k]? = some (.int (f k))) (hx : f k = x) (hdg : decode cc pc = .ok (.getfield index, 3))
    (kk : W p l e R s m args below meth c H locs cells slots Q (F0 m (pc + 3) ls (.int x :: rest))) : W p l e R s m args below meth c H locs cells slots Q (F0 m pc ls (.ref o :: rest)) :=
  wd_get (Cn := RX11) (T := TX11) (N := 74) (ci := 11) (fs := mfl h f) C hw hin 0 rfl rfl k hk hlink (hv.trans (by rw [hx])) hdg kk
theorem m_ga (C : CallFix p m c cc nL s args Ts own) (hw : Wd D A s (mT cI cZ) (mW o h cI cZ f g) H locs) (hin : ∀ w ∈ wsX110, w ∈ Ts) (k : Nat) (hk : k < 74) (hlink : Cond.fieldLink own index (TX11 k).1 (TX11 k).2.1 (TX11 k).2.2.1 ∈ Ts) (hv : (mfl h f)[k]? = some (.ref (h k))) (hdg : decode cc pc = .ok (.getfield index, 3))
    (kk : W p l e R s m args below meth c H locs cells slots Q (F0 m (pc + 3) ls (.ref (h k) :: rest))) : W p l e R s m args below meth c H locs cells slots Q (F0 m pc ls (.ref o :: rest)) :=
  wd_get (Cn := RX11) (T := TX11) (N := 74) (ci := 11) (fs := mfl h f) C hw hin 0 rfl rfl k hk hlink hv hdg kk
theorem m_pi (C : CallFix p m c cc nL s args Ts own) (hw : Wd D A s (mT cI cZ) (mW o h cI cZ f g) H locs) (hin : ∀ w ∈ wsX110, w ∈ Ts) (k : Nat) (hk : k < 74) (hlink : Cond.fieldLink own index (TX11 k).1 (TX11 k).2.1 (TX11 k).2.2.1 ∈ Ts) (hfin : (TX11 k).2.2.2 = false) {ty : FieldType} (hd : parseFieldDescriptor (TX11 k).2.2.1 = some ty) {v : Int32} (hn : narrow ty (.int v) = .int v) (hfit : fits ty (.int v) = true) (hl : k < (mfl h f).length) (hset : (mfl h f).set k (.int v) = mfl h (upd f k v)) (hdg : decode cc pc = .ok (.putfield index, 3))
    (kk : ∀ (H1 : Heap) (locs1 : List Loc), Wd D A s (mT cI cZ) (mW o h cI cZ (upd f k v) g) H1 locs1 → W p l e R s m args below meth c H1 locs1 cells slots Q (F0 m (pc + 3) ls rest)) : W p l e R s m args below meth c H locs cells slots Q (F0 m pc ls (.int v :: .ref o :: rest)) :=
  wd_put (Cn := RX11) (T := TX11) (N := 74) (ci := 11) (fs := mfl h f) C hw hin tyX11 tyX11_ok nmX11 0 rfl rfl k hk hlink hfin hd hn hfit hl (mz_0 hset) hdg kk
theorem m_ial (C : CallFix p m c cc nL s args Ts own) (hw : Wd D A s (mT cI cZ) (mW o h cI cZ f g) H locs) {k : Nat} (ha : (mW o h cI cZ f g)[pos]? = some (h k, .inl (cI, n, .inl (g k)))) {i x : Int32} (hin : vp_in i n) (hx : g k (ix i) = x) (hdg : decode cc pc = .ok (.iaload, 1))
    (kk : W p l e R s m args below meth c H locs cells slots Q (F0 m (pc + 1) ls (.int x :: rest))) : W p l e R s m args below meth c H locs cells slots Q (F0 m pc ls (.int i :: .ref (h k) :: rest)) := by
  subst hx
  exact wd_ial C hw pos 0 ha rfl hin hdg kk
theorem m_zal (C : CallFix p m c cc nL s args Ts own) (hw : Wd D A s (mT cI cZ) (mW o h cI cZ f g) H locs) {k : Nat} (ha : (mW o h cI cZ f g)[pos]? = some (h k, .inl (cZ, n, .inl (g k)))) {i x : Int32} (hin : vp_in i n) (hx : g k (ix i) = x) (hdg : decode cc pc = .ok (.baload, 1))
    (kk : W p l e R s m args below meth c H locs cells slots Q (F0 m (pc + 1) ls (.int x :: rest))) : W p l e R s m args below meth c H locs cells slots Q (F0 m pc ls (.int i :: .ref (h k) :: rest)) := by
  subst hx
  exact wd_zal C hw pos 1 ha rfl hin hdg kk
theorem m_ias (C : CallFix p m c cc nL s args Ts own) (hw : Wd D A s (mT cI cZ) (mW o h cI cZ f g) H locs) {k : Nat} (ha : (mW o h cI cZ f g)[pos]? = some (h k, .inl (cI, n, .inl (g k)))) {i x : Int32} (hset : (mW o h cI cZ f g).set pos (h k, .inl (cI, n, .inl (upd (g k) (ix i) x))) = mW o h cI cZ f (va_up g k (upd (g k) (ix i) x))) (hin : vp_in i n) (hdg : decode cc pc = .ok (.iastore, 1))
    (kk : ∀ (H1 : Heap) (locs1 : List Loc), Wd D A s (mT cI cZ) (mW o h cI cZ f (pt g k (ix i) x)) H1 locs1 → W p l e R s m args below meth c H1 locs1 cells slots Q (F0 m (pc + 1) ls rest)) : W p l e R s m args below meth c H locs cells slots Q (F0 m pc ls (.int x :: .int i :: .ref (h k) :: rest)) :=
  wd_ias C hw pos 0 ha rfl hin hset hdg kk
theorem m_zas (C : CallFix p m c cc nL s args Ts own) (hw : Wd D A s (mT cI cZ) (mW o h cI cZ f g) H locs) {k : Nat} (ha : (mW o h cI cZ f g)[pos]? = some (h k, .inl (cZ, n, .inl (g k)))) {i x : Int32} (hset : (mW o h cI cZ f g).set pos (h k, .inl (cZ, n, .inl (upd (g k) (ix i) (vp_nar .boolean x)))) = mW o h cI cZ f (va_up g k (upd (g k) (ix i) (vp_nar .boolean x)))) (hin : vp_in i n) (hdg : decode cc pc = .ok (.bastore, 1))
    (kk : ∀ (H1 : Heap) (locs1 : List Loc), Wd D A s (mT cI cZ) (mW o h cI cZ f (pt g k (ix i) (vp_nar .boolean x))) H1 locs1 → W p l e R s m args below meth c H1 locs1 cells slots Q (F0 m (pc + 1) ls rest)) : W p l e R s m args below meth c H locs cells slots Q (F0 m pc ls (.int x :: .int i :: .ref (h k) :: rest)) :=
  wd_zas C hw pos 1 ha rfl hin hset hdg kk
theorem m_len (C : CallFix p m c cc nL s args Ts own) (hw : Wd D A s (mT cI cZ) (mW o h cI cZ f g) H locs) {k : Nat} {cA : ClassId} (ha : (mW o h cI cZ f g)[pos]? = some (h k, .inl (cA, n, .inl (g k)))) {t0 : Nat} {ty : FieldType} (ht : (mT cI cZ)[t0]? = some (cA, ty)) {v : Int32} (hv : Int32.ofNat n = v) (hdg : decode cc pc = .ok (.arraylength, 1))
    (kk : W p l e R s m args below meth c H locs cells slots Q (F0 m (pc + 1) ls (.int v :: rest))) : W p l e R s m args below meth c H locs cells slots Q (F0 m pc ls (.ref (h k) :: rest)) :=
  va_alen C.1 C.2.1 hw.1 hw.2.1 pos t0 ha ht hv hdg kk
variable {y : MethodName} {wsY : List Cond} {rm : Room} {As : List Value} {maxL : Nat} {bytes : ByteArray} {ret : Option FieldType}
theorem m_Vi {K : Int32 → ((Nat → Int32) × (Nat → Nat → Int32)) → Prop} (C : CallFix p m c cc nL s args Ts own) (hw : Wd D A s (mT cI cZ) (mW o h cI cZ f g) H locs) (hM : Ci l y wsY rm (.ref o :: As) D (mT cI cZ) (mWu o h cI cZ) (f, g) K) (cw : CallW R s args own RX11 index y bytes maxL ret wsY rm 0 0 n) (hlen : As.length = n) (hsize : ls.size = nL) (hroom : (rest.map fun v => v.category).sum ≤ 8) (hdg : decode cc pc = .ok (.invokevirtual index, 3)) (hf : cells ≤ R.cells ∧ slots ≤ R.slots)
    (kk : ∀ (r : Int32) (u : (Nat → Int32) × (Nat → Nat → Int32)) (H1 : Heap) (locs1 : List Loc), K r u → Wd D A s (mT cI cZ) (mW o h cI cZ u.1 u.2) H1 locs1 → W p l e R s m args below meth c H1 locs1 cells slots Q (F0 m (pc + 3) ls (.int r :: rest))) {st : List Value} (hst : st = As.reverse ++ .ref o :: rest) : W p l e R s m args below meth c H locs cells slots Q (F0 m pc ls st) :=
  wd_Vi C hw (List.range 36) [] [0, 1] hM rfl (wr := []) rfl (by decide) rfl (fun i h => by cases h) rfl cw (ci := 11) (q0 := 0) rfl rfl hlen hsize hroom hdg hf kk hst
theorem m_Vv {K : ((Nat → Int32) × (Nat → Nat → Int32)) → Prop} (C : CallFix p m c cc nL s args Ts own) (hw : Wd D A s (mT cI cZ) (mW o h cI cZ f g) H locs) (hM : Cv l y wsY rm (.ref o :: As) D (mT cI cZ) (mWu o h cI cZ) (f, g) K) (cw : CallW R s args own RX11 index y bytes maxL ret wsY rm 0 0 n) (hlen : As.length = n) (hsize : ls.size = nL) (hroom : (rest.map fun v => v.category).sum ≤ 8) (hdg : decode cc pc = .ok (.invokevirtual index, 3)) (hf : cells ≤ R.cells ∧ slots ≤ R.slots)
    (kk : ∀ (u : (Nat → Int32) × (Nat → Nat → Int32)) (H1 : Heap) (locs1 : List Loc), K u → Wd D A s (mT cI cZ) (mW o h cI cZ u.1 u.2) H1 locs1 → W p l e R s m args below meth c H1 locs1 cells slots Q (F0 m (pc + 3) ls rest)) {st : List Value} (hst : st = As.reverse ++ .ref o :: rest) : W p l e R s m args below meth c H locs cells slots Q (F0 m pc ls st) :=
  wd_Vv C hw (List.range 36) [] [0, 1] hM rfl (wr := []) rfl (by decide) rfl (fun i h => by cases h) rfl cw (ci := 11) (q0 := 0) rfl rfl hlen hsize hroom hdg hf kk hst
end MR
